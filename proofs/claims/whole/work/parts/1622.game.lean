/-! the professor and the child -/
def sd (s : SV) (P : PM) : Prop := ∀ i, i < 7 → P.1 110 (117 + i) = nI (sD s i)
noncomputable def canF (v : NV) (s : SV) (w z sl g : Nat) : Bool := decide (why v w z g (sD s g) sl = 0 ∧ pss v w z g (sD s g) ≠ 0)
theorem why_asleep {v : NV} {w z t d sl : Nat} (h : sl.testBit t = true) : why v w z t d sl ≠ 0 := by
  unfold why
  split
  · omega
  · first | omega | (rw [if_pos h]; omega)
theorem canF_asleep {v : NV} {s : SV} {w z sl g : Nat} (h : sl.testBit g = true) : canF v s w z sl g = false := by
  unfold canF
  exact decide_eq_false (fun q => why_asleep h q.1)
def r14 : Nat → Bool := fun o => o == 114 || o == 115
theorem game_T {v : NV} {s : SV} (hv : NVok v) {g k : Nat} (hg : g < vN v) (hk : k ≤ 3)
    (hC : ∀ n, 3 * k + 1 ≤ n → ∀ (w z sl : Nat) (P : PM), MNet P 110 0 v → sd s P → w < vN v → w ≠ g → 1 ≤ z → z ≤ 40 → sl < 2 ^ vN v → ∃ P', gr_Mo_forcesFrom n 2 (nI w) (nI z) (nI sl) (nI g) (nI k) 0 P = some (nI 0, P') ∧ sm r14 P P')
    {n : Nat} (hn : 3 * k + 2 ≤ n) {w z sl t : Nat} {P : PM} (h1 : MNet P 110 0 v) (h2 : sd s P) (hw : w < vN v) (hz1 : 1 ≤ z) (hz : z ≤ 40) (hs : sl < 2 ^ vN v) (ht : t < vN v) :
    ∃ P', gr_Mo_forcesFrom n 1 (nI w) (nI z) (nI sl) (nI t) (nI g) (nI (k + 1)) P = some (if t = g ∧ canF v s w z sl g = true then nI 1 else nI 0, P') ∧ sm r14 P P' := by
  have hN := hv.1
  have h7 := pw_le hN
  obtain ⟨n, rfl⟩ : ∃ q, n = q + 1 := ⟨n - 1, by omega⟩
  show ∃ P', f_Mo_forcesTo (gr_Mo_forcesFrom n) (nI w) (nI z) (nI sl) (nI t) (nI g) (nI (k + 1)) P = _ ∧ _
  unfold f_Mo_forcesTo
  obtain ⟨P1, a1, a2⟩ := whyBy_M (z := z) (sl := sl) h1 hv (show w < 7 by omega) (show t < 7 by omega) (h2 t (by omega)) (by omega)
  have hwl := @why_lt v w z t (sD s t) sl
  rw [a1, bd2_some]
  by_cases c : why v w z t (sD s t) sl = 0
  · have n1 : MNet P1 110 0 v := MNet_sm h1 a2 rfl
    have d1 : sd s P1 := fun i hi => by rw [a2.1 110 rfl]; exact h2 i hi
    obtain ⟨P2, b1, b2⟩ := passedTo_M (z := z) n1 hv (show w < 7 by omega) (show t < 7 by omega) hz (d1 t (by omega))
    have n2 : MNet P2 110 0 v := MNet_sm n1 b2 rfl
    have d2 : sd s P2 := fun i hi => by rw [b2.1 110 rfl]; exact d1 i hi
    have hp := pss_le (v := v) (s := w) (t := t) (d := sD s t) hz
    rw [if_pos (by rw [c]; rfl), b1, bd2_some]
    by_cases c2 : pss v w z t (sD s t) = 0
    · rw [if_pos (by rw [c2]; rfl), if_neg]
      · exact ⟨P2, rfl, sm_trans a2 b2⟩
      · rintro ⟨rfl, q⟩
        exact (of_decide_eq_true q).2 c2
    · rw [if_neg (by simp (disch := omega) only [z_add, z_mul, z_sub, z_subm, z_addm, z_lt_t, z_lt_f, z_le_t, z_le_f, z_eq_t, z_eq_f, z_eqm, z_meq, z_mm, z_ltm, z_mlt, z_lem, z_mle, z_cl, z_ck, u1_1, u1_2, u2_1, u2_2, ↓reduceIte, Option.bind_some, Option.bind_none, bd2_some, lb_eq, and_true, and_false, true_and, false_and, not_true_eq_false, not_false_eq_true, eq_self_iff_true, if_true, if_false, Nat.reduceEqDiff, Nat.reduceAdd, Nat.reduceMul, Nat.reduceSub, Bool.false_eq_true, zl0, zl1, zl2, zl3, zl4, zl5, zl6, zl7, zl8, zl9, zl10, zl11, zl12, zl13, zl14, zl15, zl16, zl17, zl18, zl19, zl20, zl22, zl23, zl24, zl25, zl30, zl31, zl32, zl33, zl34, zl35, zl36, zl37, zl38, zl39, zl40, zl41, zl42, zl43, zl45, zl48, zl49, zl57, zl58, zl59, zl60, zl61, zl62, zl63, zl64, zl91, zl93, zl97, zl98, zl99, zl100, zl113, zl114, zl115, zl116, zl117, zl122, zl124, zl125, zl127, zl128, zl136, zl200, zl201, zl202, zl203, zl204, zl205, zl206, zl207, zl208, zl209, zl210, zl211, zl212, zl213, zl214, zl215, zl216, zl217, zl218, zl219, zl220, zl235, zl236, zl255, zl280, zl287, zl900, zl999, zl1000, zl1001, zl1136, zl1960, zl3000, zl3001, zl3002, zl3003, zl3004, zl3005, zl3006, zl3007, zl3008, zl3009, zl268435456, zl1000000000])]
      by_cases c3 : t = g
      · subst c3
        rw [if_pos rfl, if_pos ⟨rfl, decide_eq_true ⟨c, c2⟩⟩]
        exact ⟨P2, rfl, sm_trans a2 b2⟩
      · rw [if_neg (by simp (disch := omega) only [z_add, z_mul, z_sub, z_subm, z_addm, z_lt_t, z_lt_f, z_le_t, z_le_f, z_eq_t, z_eq_f, z_eqm, z_meq, z_mm, z_ltm, z_mlt, z_lem, z_mle, z_cl, z_ck, u1_1, u1_2, u2_1, u2_2, ↓reduceIte, Option.bind_some, Option.bind_none, bd2_some, lb_eq, and_true, and_false, true_and, false_and, not_true_eq_false, not_false_eq_true, eq_self_iff_true, if_true, if_false, Nat.reduceEqDiff, Nat.reduceAdd, Nat.reduceMul, Nat.reduceSub, Bool.false_eq_true, zl0, zl1, zl2, zl3, zl4, zl5, zl6, zl7, zl8, zl9, zl10, zl11, zl12, zl13, zl14, zl15, zl16, zl17, zl18, zl19, zl20, zl22, zl23, zl24, zl25, zl30, zl31, zl32, zl33, zl34, zl35, zl36, zl37, zl38, zl39, zl40, zl41, zl42, zl43, zl45, zl48, zl49, zl57, zl58, zl59, zl60, zl61, zl62, zl63, zl64, zl91, zl93, zl97, zl98, zl99, zl100, zl113, zl114, zl115, zl116, zl117, zl122, zl124, zl125, zl127, zl128, zl136, zl200, zl201, zl202, zl203, zl204, zl205, zl206, zl207, zl208, zl209, zl210, zl211, zl212, zl213, zl214, zl215, zl216, zl217, zl218, zl219, zl220, zl235, zl236, zl255, zl280, zl287, zl900, zl999, zl1000, zl1001, zl1136, zl1960, zl3000, zl3001, zl3002, zl3003, zl3004, zl3005, zl3006, zl3007, zl3008, zl3009, zl268435456, zl1000000000]), if_neg (fun q => c3 q.1)]
        obtain ⟨P3, e1, e2⟩ := passedTo_M (z := z) n2 hv (show w < 7 by omega) (show t < 7 by omega) hz (d2 t (by omega))
        have n3 : MNet P3 110 0 v := MNet_sm n2 e2 rfl
        have d3 : sd s P3 := fun i hi => by rw [e2.1 110 rfl]; exact d2 i hi
        rw [e1, bd2_some, show (1 : Int32) = nI 1 from rfl, z_sub (by omega), Nat.add_sub_cancel]
        obtain ⟨P4, f1, f2⟩ := hC n (by omega) t _ sl P3 n3 d3 ht c3 (by omega) hp hs
        rw [f1, bd2_some, if_pos (by decide)]
        exact ⟨P4, rfl, sm_trans (sm_trans (sm_trans a2 b2) e2) f2⟩
  · rw [if_neg (by simp (disch := omega) only [z_add, z_mul, z_sub, z_subm, z_addm, z_lt_t, z_lt_f, z_le_t, z_le_f, z_eq_t, z_eq_f, z_eqm, z_meq, z_mm, z_ltm, z_mlt, z_lem, z_mle, z_cl, z_ck, u1_1, u1_2, u2_1, u2_2, ↓reduceIte, Option.bind_some, Option.bind_none, bd2_some, lb_eq, and_true, and_false, true_and, false_and, not_true_eq_false, not_false_eq_true, eq_self_iff_true, if_true, if_false, Nat.reduceEqDiff, Nat.reduceAdd, Nat.reduceMul, Nat.reduceSub, Bool.false_eq_true, zl0, zl1, zl2, zl3, zl4, zl5, zl6, zl7, zl8, zl9, zl10, zl11, zl12, zl13, zl14, zl15, zl16, zl17, zl18, zl19, zl20, zl22, zl23, zl24, zl25, zl30, zl31, zl32, zl33, zl34, zl35, zl36, zl37, zl38, zl39, zl40, zl41, zl42, zl43, zl45, zl48, zl49, zl57, zl58, zl59, zl60, zl61, zl62, zl63, zl64, zl91, zl93, zl97, zl98, zl99, zl100, zl113, zl114, zl115, zl116, zl117, zl122, zl124, zl125, zl127, zl128, zl136, zl200, zl201, zl202, zl203, zl204, zl205, zl206, zl207, zl208, zl209, zl210, zl211, zl212, zl213, zl214, zl215, zl216, zl217, zl218, zl219, zl220, zl235, zl236, zl255, zl280, zl287, zl900, zl999, zl1000, zl1001, zl1136, zl1960, zl3000, zl3001, zl3002, zl3003, zl3004, zl3005, zl3006, zl3007, zl3008, zl3009, zl268435456, zl1000000000]), if_neg]
    · exact ⟨P1, rfl, a2⟩
    · rintro ⟨rfl, q⟩
      exact c (of_decide_eq_true q).1
theorem game_F {v : NV} {s : SV} (hv : NVok v) {g k : Nat} (hg : g < vN v) (hk : k ≤ 3)
    (hC : ∀ n, 3 * k + 1 ≤ n → ∀ (w z sl : Nat) (P : PM), MNet P 110 0 v → sd s P → w < vN v → w ≠ g → 1 ≤ z → z ≤ 40 → sl < 2 ^ vN v → ∃ P', gr_Mo_forcesFrom n 2 (nI w) (nI z) (nI sl) (nI g) (nI k) 0 P = some (nI 0, P') ∧ sm r14 P P')
    {n : Nat} (hn : 3 * k + 3 ≤ n) {w z sl : Nat} {P : PM} (h1 : MNet P 110 0 v) (h2 : sd s P) (hw : w < vN v) (hwg : w ≠ g) (hz1 : 1 ≤ z) (hz : z ≤ 40) (hs : sl < 2 ^ vN v) :
    ∃ P', gr_Mo_forcesFrom n 0 (nI w) (nI z) (nI sl) (nI g) (nI (k + 1)) 0 P = some (if canF v s w z sl g = true then nI 1 else nI 0, P') ∧ sm r14 P P' := by
  have hN := hv.1
  obtain ⟨n, rfl⟩ : ∃ q, n = q + 1 := ⟨n - 1, by omega⟩
  show ∃ P', f_Mo_forcesFrom (gr_Mo_forcesFrom n) (nI w) (nI z) (nI sl) (nI g) (nI (k + 1)) P = _ ∧ _
  unfold f_Mo_forcesFrom
  obtain ⟨P1, a1, a2⟩ := hC n (by omega) w z sl P h1 h2 hw hwg hz1 hz hs
  rw [if_neg (by simp (disch := omega) only [z_add, z_mul, z_sub, z_subm, z_addm, z_lt_t, z_lt_f, z_le_t, z_le_f, z_eq_t, z_eq_f, z_eqm, z_meq, z_mm, z_ltm, z_mlt, z_lem, z_mle, z_cl, z_ck, u1_1, u1_2, u2_1, u2_2, ↓reduceIte, Option.bind_some, Option.bind_none, bd2_some, lb_eq, and_true, and_false, true_and, false_and, not_true_eq_false, not_false_eq_true, eq_self_iff_true, if_true, if_false, Nat.reduceEqDiff, Nat.reduceAdd, Nat.reduceMul, Nat.reduceSub, Bool.false_eq_true, zl0, zl1, zl2, zl3, zl4, zl5, zl6, zl7, zl8, zl9, zl10, zl11, zl12, zl13, zl14, zl15, zl16, zl17, zl18, zl19, zl20, zl22, zl23, zl24, zl25, zl30, zl31, zl32, zl33, zl34, zl35, zl36, zl37, zl38, zl39, zl40, zl41, zl42, zl43, zl45, zl48, zl49, zl57, zl58, zl59, zl60, zl61, zl62, zl63, zl64, zl91, zl93, zl97, zl98, zl99, zl100, zl113, zl114, zl115, zl116, zl117, zl122, zl124, zl125, zl127, zl128, zl136, zl200, zl201, zl202, zl203, zl204, zl205, zl206, zl207, zl208, zl209, zl210, zl211, zl212, zl213, zl214, zl215, zl216, zl217, zl218, zl219, zl220, zl235, zl236, zl255, zl280, zl287, zl900, zl999, zl1000, zl1001, zl1136, zl1960, zl3000, zl3001, zl3002, zl3003, zl3004, zl3005, zl3006, zl3007, zl3008, zl3009, zl268435456, zl1000000000]), if_neg (by simp (disch := omega) only [z_add, z_mul, z_sub, z_subm, z_addm, z_lt_t, z_lt_f, z_le_t, z_le_f, z_eq_t, z_eq_f, z_eqm, z_meq, z_mm, z_ltm, z_mlt, z_lem, z_mle, z_cl, z_ck, u1_1, u1_2, u2_1, u2_2, ↓reduceIte, Option.bind_some, Option.bind_none, bd2_some, lb_eq, and_true, and_false, true_and, false_and, not_true_eq_false, not_false_eq_true, eq_self_iff_true, if_true, if_false, Nat.reduceEqDiff, Nat.reduceAdd, Nat.reduceMul, Nat.reduceSub, Bool.false_eq_true, zl0, zl1, zl2, zl3, zl4, zl5, zl6, zl7, zl8, zl9, zl10, zl11, zl12, zl13, zl14, zl15, zl16, zl17, zl18, zl19, zl20, zl22, zl23, zl24, zl25, zl30, zl31, zl32, zl33, zl34, zl35, zl36, zl37, zl38, zl39, zl40, zl41, zl42, zl43, zl45, zl48, zl49, zl57, zl58, zl59, zl60, zl61, zl62, zl63, zl64, zl91, zl93, zl97, zl98, zl99, zl100, zl113, zl114, zl115, zl116, zl117, zl122, zl124, zl125, zl127, zl128, zl136, zl200, zl201, zl202, zl203, zl204, zl205, zl206, zl207, zl208, zl209, zl210, zl211, zl212, zl213, zl214, zl215, zl216, zl217, zl218, zl219, zl220, zl235, zl236, zl255, zl280, zl287, zl900, zl999, zl1000, zl1001, zl1136, zl1960, zl3000, zl3001, zl3002, zl3003, zl3004, zl3005, zl3006, zl3007, zl3008, zl3009, zl268435456, zl1000000000]), show (1 : Int32) = nI 1 from rfl, z_sub (by omega), Nat.add_sub_cancel, a1, bd2_some, if_pos (by decide)]
  have loop : ∀ (m q t : Nat) (P : PM), t + m = vN v → m < q → (g < t → canF v s w z sl g = false) → MNet P 110 0 v → sd s P → ∃ P', l_Mo_forcesFrom_36 (gr_Mo_forcesFrom n) q (nI w) (nI z) (nI sl) (nI g) (nI (k + 1)) (nI t) P = some (if canF v s w z sl g = true then nI 1 else nI 0, P') ∧ sm r14 P P' := by
    intro m
    induction m with
    | zero =>
      intro q t P ht hq hgt n1 d1
      obtain ⟨q, rfl⟩ : ∃ r, q = r + 1 := ⟨q - 1, by omega⟩
      rw [l_Mo_forcesFrom_36, show P.1 110 (1 : Int32).toNatClampNeg = nI (vN v) from n1.1, if_pos (nI_le (by omega) (by omega)), if_neg (by rw [hgt (by omega)]; decide)]
      exact ⟨P, rfl, sm_refl⟩
    | succ m ih =>
      intro q t P ht hq hgt n1 d1
      obtain ⟨q, rfl⟩ : ∃ r, q = r + 1 := ⟨q - 1, by omega⟩
      obtain ⟨P2, b1, b2⟩ := game_T hv hg hk hC (n := n) (by omega) n1 d1 hw hz1 hz hs (show t < vN v by omega)
      rw [l_Mo_forcesFrom_36, show P.1 110 (1 : Int32).toNatClampNeg = nI (vN v) from n1.1, if_neg (nI_ge (by omega) (by omega)), b1, bd2_some]
      by_cases c : t = g ∧ canF v s w z sl g = true
      · rw [if_pos c, if_neg (by decide), if_pos c.2]
        exact ⟨P2, rfl, b2⟩
      · rw [if_neg c, if_pos (by decide), show (1 : Int32) = nI 1 from rfl, nI_add]
        obtain ⟨P3, e1, e2⟩ := ih q (t + 1) P2 (by omega) (by omega) (fun hgt2 => by
          by_cases e : t = g
          · cases e3 : canF v s w z sl g with
            | false => rfl
            | true => exact absurd ⟨e, e3⟩ c
          · exact hgt (by omega)) (MNet_sm n1 b2 rfl) (fun i hi => by rw [b2.1 110 rfl]; exact d1 i hi)
        exact ⟨P3, e1, sm_trans b2 e2⟩
  obtain ⟨P2, b1, b2⟩ := loop (vN v) FU 0 P1 (by omega) (by have := FU_big; omega) (fun h => by omega) (MNet_sm h1 a2 rfl) (fun i hi => by rw [a2.1 110 rfl]; exact h2 i hi)
  exact ⟨P2, b1, sm_trans a2 b2⟩
theorem game_C0 {g w : Nat} {a b : Int32} {n : Nat} {P : PM} (hn : 1 ≤ n) (hw : w < 7) (hg : g < 7) (hwg : w ≠ g) : gr_Mo_forcesFrom n 2 (nI w) a b (nI g) (nI 0) 0 P = some (nI 0, P) := by
  obtain ⟨n, rfl⟩ : ∃ q, n = q + 1 := ⟨n - 1, by omega⟩
  show f_Mo_childCant (gr_Mo_forcesFrom n) (nI w) a b (nI g) (nI 0) P = _
  unfold f_Mo_childCant
  rw [if_pos (by decide), if_neg (by simp (disch := omega) only [z_add, z_mul, z_sub, z_subm, z_addm, z_lt_t, z_lt_f, z_le_t, z_le_f, z_eq_t, z_eq_f, z_eqm, z_meq, z_mm, z_ltm, z_mlt, z_lem, z_mle, z_cl, z_ck, u1_1, u1_2, u2_1, u2_2, ↓reduceIte, Option.bind_some, Option.bind_none, bd2_some, lb_eq, and_true, and_false, true_and, false_and, not_true_eq_false, not_false_eq_true, eq_self_iff_true, if_true, if_false, Nat.reduceEqDiff, Nat.reduceAdd, Nat.reduceMul, Nat.reduceSub, Bool.false_eq_true, zl0, zl1, zl2, zl3, zl4, zl5, zl6, zl7, zl8, zl9, zl10, zl11, zl12, zl13, zl14, zl15, zl16, zl17, zl18, zl19, zl20, zl22, zl23, zl24, zl25, zl30, zl31, zl32, zl33, zl34, zl35, zl36, zl37, zl38, zl39, zl40, zl41, zl42, zl43, zl45, zl48, zl49, zl57, zl58, zl59, zl60, zl61, zl62, zl63, zl64, zl91, zl93, zl97, zl98, zl99, zl100, zl113, zl114, zl115, zl116, zl117, zl122, zl124, zl125, zl127, zl128, zl136, zl200, zl201, zl202, zl203, zl204, zl205, zl206, zl207, zl208, zl209, zl210, zl211, zl212, zl213, zl214, zl215, zl216, zl217, zl218, zl219, zl220, zl235, zl236, zl255, zl280, zl287, zl900, zl999, zl1000, zl1001, zl1136, zl1960, zl3000, zl3001, zl3002, zl3003, zl3004, zl3005, zl3006, zl3007, zl3008, zl3009, zl268435456, zl1000000000])]
  rfl
theorem game_C {v : NV} {s : SV} (hv : NVok v) {g : Nat} (hg : g < vN v) : ∀ k, k ≤ 3 → ∀ n, 3 * k + 1 ≤ n → ∀ (w z sl : Nat) (P : PM), MNet P 110 0 v → sd s P → w < vN v → w ≠ g → 1 ≤ z → z ≤ 40 → sl < 2 ^ vN v → ∃ P', gr_Mo_forcesFrom n 2 (nI w) (nI z) (nI sl) (nI g) (nI k) 0 P = some (nI 0, P') ∧ sm r14 P P' := by
  have hN := hv.1
  have h7 := pw_le hN
  intro k
  induction k with
  | zero =>
    intro _ n hn w z sl P h1 h2 hw hwg hz1 hz hs
    exact ⟨P, game_C0 (by omega) (by omega) (by omega) hwg, sm_refl⟩
  | succ k ih =>
    intro hk n hn w z sl P h1 h2 hw hwg hz1 hz hs
    obtain ⟨n, rfl⟩ : ∃ q, n = q + 1 := ⟨n - 1, by omega⟩
    show ∃ P', f_Mo_childCant (gr_Mo_forcesFrom n) (nI w) (nI z) (nI sl) (nI g) (nI (k + 1)) P = _ ∧ _
    unfold f_Mo_childCant
    rw [if_neg (by simp (disch := omega) only [z_add, z_mul, z_sub, z_subm, z_addm, z_lt_t, z_lt_f, z_le_t, z_le_f, z_eq_t, z_eq_f, z_eqm, z_meq, z_mm, z_ltm, z_mlt, z_lem, z_mle, z_cl, z_ck, u1_1, u1_2, u2_1, u2_2, ↓reduceIte, Option.bind_some, Option.bind_none, bd2_some, lb_eq, and_true, and_false, true_and, false_and, not_true_eq_false, not_false_eq_true, eq_self_iff_true, if_true, if_false, Nat.reduceEqDiff, Nat.reduceAdd, Nat.reduceMul, Nat.reduceSub, Bool.false_eq_true, zl0, zl1, zl2, zl3, zl4, zl5, zl6, zl7, zl8, zl9, zl10, zl11, zl12, zl13, zl14, zl15, zl16, zl17, zl18, zl19, zl20, zl22, zl23, zl24, zl25, zl30, zl31, zl32, zl33, zl34, zl35, zl36, zl37, zl38, zl39, zl40, zl41, zl42, zl43, zl45, zl48, zl49, zl57, zl58, zl59, zl60, zl61, zl62, zl63, zl64, zl91, zl93, zl97, zl98, zl99, zl100, zl113, zl114, zl115, zl116, zl117, zl122, zl124, zl125, zl127, zl128, zl136, zl200, zl201, zl202, zl203, zl204, zl205, zl206, zl207, zl208, zl209, zl210, zl211, zl212, zl213, zl214, zl215, zl216, zl217, zl218, zl219, zl220, zl235, zl236, zl255, zl280, zl287, zl900, zl999, zl1000, zl1001, zl1136, zl1960, zl3000, zl3001, zl3002, zl3003, zl3004, zl3005, zl3006, zl3007, zl3008, zl3009, zl268435456, zl1000000000])]
    have loop : ∀ (m q t : Nat) (P : PM), t + m = vN v → m < q → (g < t → sl.testBit g = true) → MNet P 110 0 v → sd s P → ∃ P', l_Mo_childCant_20 (gr_Mo_forcesFrom n) q (nI w) (nI z) (nI sl) (nI g) (nI (k + 1)) (nI t) P = some (nI 0, P') ∧ sm r14 P P' := by
      intro m
      induction m with
      | zero =>
        intro q t P ht hq hgt n1 d1
        obtain ⟨q, rfl⟩ : ∃ r, q = r + 1 := ⟨q - 1, by omega⟩
        obtain ⟨P2, b1, b2⟩ := game_F hv hg (by omega) (ih (by omega)) (n := n) (by omega) n1 d1 hw hwg hz1 hz hs
        rw [canF_asleep (hgt (by omega)), if_neg (by decide)] at b1
        rw [l_Mo_childCant_20, show P.1 110 (1 : Int32).toNatClampNeg = nI (vN v) from n1.1, if_pos (nI_le (by omega) (by omega)), b1, bd2_some, ck_t (by decide)]
        exact ⟨P2, rfl, b2⟩
      | succ m ihm =>
        intro q t P ht hq hgt n1 d1
        obtain ⟨q, rfl⟩ : ∃ r, q = r + 1 := ⟨q - 1, by omega⟩
        rw [l_Mo_childCant_20, show P.1 110 (1 : Int32).toNatClampNeg = nI (vN v) from n1.1, if_neg (nI_ge (by omega) (by omega)), isIn_n (by omega) (by omega)]
        unfold j_Mo_childCant_68
        by_cases c1 : t = w
        · rw [if_pos (by rw [c1]), show (1 : Int32) = nI 1 from rfl, nI_add]
          exact ihm q (t + 1) P (by omega) (by omega) (fun h => hgt (by omega)) n1 d1
        rw [if_neg (by simp (disch := omega) only [z_add, z_mul, z_sub, z_subm, z_addm, z_lt_t, z_lt_f, z_le_t, z_le_f, z_eq_t, z_eq_f, z_eqm, z_meq, z_mm, z_ltm, z_mlt, z_lem, z_mle, z_cl, z_ck, u1_1, u1_2, u2_1, u2_2, ↓reduceIte, Option.bind_some, Option.bind_none, bd2_some, lb_eq, and_true, and_false, true_and, false_and, not_true_eq_false, not_false_eq_true, eq_self_iff_true, if_true, if_false, Nat.reduceEqDiff, Nat.reduceAdd, Nat.reduceMul, Nat.reduceSub, Bool.false_eq_true, zl0, zl1, zl2, zl3, zl4, zl5, zl6, zl7, zl8, zl9, zl10, zl11, zl12, zl13, zl14, zl15, zl16, zl17, zl18, zl19, zl20, zl22, zl23, zl24, zl25, zl30, zl31, zl32, zl33, zl34, zl35, zl36, zl37, zl38, zl39, zl40, zl41, zl42, zl43, zl45, zl48, zl49, zl57, zl58, zl59, zl60, zl61, zl62, zl63, zl64, zl91, zl93, zl97, zl98, zl99, zl100, zl113, zl114, zl115, zl116, zl117, zl122, zl124, zl125, zl127, zl128, zl136, zl200, zl201, zl202, zl203, zl204, zl205, zl206, zl207, zl208, zl209, zl210, zl211, zl212, zl213, zl214, zl215, zl216, zl217, zl218, zl219, zl220, zl235, zl236, zl255, zl280, zl287, zl900, zl999, zl1000, zl1001, zl1136, zl1960, zl3000, zl3001, zl3002, zl3003, zl3004, zl3005, zl3006, zl3007, zl3008, zl3009, zl268435456, zl1000000000])]
        by_cases c2 : sl.testBit t = true
        · rw [if_pos c2, if_neg (by decide), show (1 : Int32) = nI 1 from rfl, nI_add]
          exact ihm q (t + 1) P (by omega) (by omega) (fun h => by
            by_cases e : t = g
            · rw [← e]; exact c2
            · exact hgt (by omega)) n1 d1
        rw [if_neg c2, if_pos (by decide), sh_1 t (by omega), nx_or]
        have hs2 : sl ||| 2 ^ t < 2 ^ vN v := Nat.or_lt_two_pow hs (Nat.pow_lt_pow_right (by decide) (by omega))
        obtain ⟨P2, b1, b2⟩ := game_F hv hg (by omega) (ih (by omega)) (n := n) (by omega) n1 d1 hw hwg hz1 hz hs2
        rw [b1, bd2_some]
        by_cases c3 : canF v s w z (sl ||| 2 ^ t) g = true
        · rw [if_pos c3, if_neg (by decide), show (1 : Int32) = nI 1 from rfl, nI_add]
          obtain ⟨P3, e1, e2⟩ := ihm q (t + 1) P2 (by omega) (by omega) (fun h => by
            by_cases e : t = g
            · subst e
              rw [canF_asleep (by rw [Nat.testBit_or, Nat.testBit_two_pow_self, Bool.or_true])] at c3
              cases c3
            · exact hgt (by omega)) (MNet_sm n1 b2 rfl) (fun i hi => by rw [b2.1 110 rfl]; exact d1 i hi)
          exact ⟨P3, e1, sm_trans b2 e2⟩
        · rw [if_neg c3, if_pos (by decide)]
          exact ⟨P2, rfl, b2⟩
    obtain ⟨P2, b1, b2⟩ := loop (vN v) FU 0 P (by omega) (by have := FU_big; omega) (fun h => by omega) h1 h2
    exact ⟨P2, b1, b2⟩
/-- within how many turns; 4: not within 3 -/
noncomputable def fI (v : NV) (s : SV) (w g : Nat) : Int32 := if w = g then nI 0 else if canF v s w (sZ s) (sA s) g = true then nI 1 else -nI 1
theorem forcedIn_M {v : NV} {s : SV} {P : PM} {w g : Nat} (hv : NVok v) (h1 : MNet P 110 0 v) (h3 : MSt P 110 113 s) (hs : SVok v s) (hw : sW s = some w) (hg : g < vN v) :
    ∃ P', f_Mo_forcedIn (nI g) P = some (fI v s w g, P') ∧ sm r14 P P' := by
  have hN := hv.1
  have hFR := FR_eq
  obtain ⟨hwN, hz1⟩ := hs.1 w hw
  obtain ⟨n, hn⟩ : ∃ n, FU = n + 1 + 1 + 1 + 1 + 1 := ⟨FU - 5, by have := FU_big; omega⟩
  have ht0 : ∀ (P : PM) (x : Int32), MSt P 110 113 s → gr_Mo_forcesFrom FR 0 (P.1 110 (113 : Int32).toNatClampNeg) (P.1 110 (114 : Int32).toNatClampNeg) (P.1 110 (116 : Int32).toNatClampNeg) (nI g) x 0 P = gr_Mo_forcesFrom FR 0 (nI w) (nI (sZ s)) (nI (sA s)) (nI g) x 0 P := fun P x h => by
    rw [m113 h, m114 h, m116 h, hw]; rfl
  unfold f_Mo_forcedIn fI
  rw [hn]
  by_cases c : w = g
  · subst c
    refine ⟨P, ?_, sm_refl⟩
    rw [l_Mo_forcedIn_2, if_neg (by decide)]
    unfold g_Mo_forcesFrom
    rw [ht0 P _ h3, show FR = 99 + 1 from hFR]
    show bd2 (f_Mo_forcesFrom (gr_Mo_forcesFrom 99) (nI w) (nI (sZ s)) (nI (sA s)) (nI w) 0 P) _ = _
    unfold f_Mo_forcesFrom
    rw [if_pos rfl, bd2_some, if_neg (by decide), if_pos rfl]
    rfl
  · rw [if_neg c, l_Mo_forcedIn_2, if_neg (by decide)]
    unfold g_Mo_forcesFrom
    rw [ht0 P _ h3]
    have e0 : gr_Mo_forcesFrom FR 0 (nI w) (nI (sZ s)) (nI (sA s)) (nI g) 0 0 P = some (nI 0, P) := by
      rw [show FR = 99 + 1 from hFR]
      show f_Mo_forcesFrom (gr_Mo_forcesFrom 99) (nI w) (nI (sZ s)) (nI (sA s)) (nI g) 0 P = _
      unfold f_Mo_forcesFrom
      rw [if_neg (by simp (disch := omega) only [z_add, z_mul, z_sub, z_subm, z_addm, z_lt_t, z_lt_f, z_le_t, z_le_f, z_eq_t, z_eq_f, z_eqm, z_meq, z_mm, z_ltm, z_mlt, z_lem, z_mle, z_cl, z_ck, u1_1, u1_2, u2_1, u2_2, ↓reduceIte, Option.bind_some, Option.bind_none, bd2_some, lb_eq, and_true, and_false, true_and, false_and, not_true_eq_false, not_false_eq_true, eq_self_iff_true, if_true, if_false, Nat.reduceEqDiff, Nat.reduceAdd, Nat.reduceMul, Nat.reduceSub, Bool.false_eq_true, zl0, zl1, zl2, zl3, zl4, zl5, zl6, zl7, zl8, zl9, zl10, zl11, zl12, zl13, zl14, zl15, zl16, zl17, zl18, zl19, zl20, zl22, zl23, zl24, zl25, zl30, zl31, zl32, zl33, zl34, zl35, zl36, zl37, zl38, zl39, zl40, zl41, zl42, zl43, zl45, zl48, zl49, zl57, zl58, zl59, zl60, zl61, zl62, zl63, zl64, zl91, zl93, zl97, zl98, zl99, zl100, zl113, zl114, zl115, zl116, zl117, zl122, zl124, zl125, zl127, zl128, zl136, zl200, zl201, zl202, zl203, zl204, zl205, zl206, zl207, zl208, zl209, zl210, zl211, zl212, zl213, zl214, zl215, zl216, zl217, zl218, zl219, zl220, zl235, zl236, zl255, zl280, zl287, zl900, zl999, zl1000, zl1001, zl1136, zl1960, zl3000, zl3001, zl3002, zl3003, zl3004, zl3005, zl3006, zl3007, zl3008, zl3009, zl268435456, zl1000000000]), if_pos (by decide)]
      rfl
    have stp : ∀ (k : Nat) (P : PM), k ≤ 2 → MNet P 110 0 v → MSt P 110 113 s → ∃ P', gr_Mo_forcesFrom FR 0 (nI w) (nI (sZ s)) (nI (sA s)) (nI g) (nI (k + 1)) 0 P = some (if canF v s w (sZ s) (sA s) g = true then nI 1 else nI 0, P') ∧ sm r14 P P' ∧ MNet P' 110 0 v ∧ MSt P' 110 113 s := by
      intro k P hk n1 s1
      obtain ⟨P', a1, a2⟩ := game_F hv hg (by omega) (game_C hv hg k (by omega)) (n := FR) (by omega) n1 (fun i hi => s1.2.2.2.2 i hi) hwN c hz1 hs.2.2.1 hs.2.2.2.1
      exact ⟨P', a1, a2, MNet_sm n1 a2 rfl, MSt_sm s1 a2 rfl⟩
    rw [e0, bd2_some, if_pos (by decide), show (0 : Int32) + (1 : Int32) = nI (0 + 1) from rfl, l_Mo_forcedIn_2, if_neg (by decide)]
    unfold g_Mo_forcesFrom
    rw [ht0 P _ h3]
    obtain ⟨P1, a1, a2, a3, a4⟩ := stp 0 P (by omega) h1 h3
    rw [a1, bd2_some]
    by_cases c2 : canF v s w (sZ s) (sA s) g = true
    · rw [if_pos c2, if_neg (by decide), if_pos c2]
      exact ⟨P1, rfl, a2⟩
    · rw [if_neg c2, if_pos (by decide), if_neg c2, show nI (0 + 1) + (1 : Int32) = nI (1 + 1) from rfl, l_Mo_forcedIn_2, if_neg (by decide)]
      unfold g_Mo_forcesFrom
      rw [ht0 P1 _ a4]
      obtain ⟨P2, b1, b2, b3, b4⟩ := stp 1 P1 (by omega) a3 a4
      rw [b1, bd2_some, if_neg c2, if_pos (by decide), show nI (1 + 1) + (1 : Int32) = nI (2 + 1) from rfl, l_Mo_forcedIn_2, if_neg (by decide)]
      unfold g_Mo_forcesFrom
      rw [ht0 P2 _ b4]
      obtain ⟨P3, d1, d2, d3, d4⟩ := stp 2 P2 (by omega) b3 b4
      rw [d1, bd2_some, if_neg c2, if_pos (by decide), show nI (2 + 1) + (1 : Int32) = nI 4 from rfl, l_Mo_forcedIn_2, if_pos (by decide)]
      exact ⟨P3, rfl, sm_trans a2 (sm_trans b2 d2)⟩
theorem refus_C {P : PM} {s : SV} {w : Nat} (h : CSt P 21 s) (hw : sW s = some w) (hw7 : w < 7) : f_Yr_refusal (1 : Int32) (1 : Int32) P = 0 := by
  unfold f_Yr_refusal
  rw [if_neg (by decide), if_neg (by decide), h.1, hw, oI_s, if_neg (by simp (disch := omega) only [z_add, z_mul, z_sub, z_subm, z_addm, z_lt_t, z_lt_f, z_le_t, z_le_f, z_eq_t, z_eq_f, z_eqm, z_meq, z_mm, z_ltm, z_mlt, z_lem, z_mle, z_cl, z_ck, u1_1, u1_2, u2_1, u2_2, ↓reduceIte, Option.bind_some, Option.bind_none, bd2_some, lb_eq, and_true, and_false, true_and, false_and, not_true_eq_false, not_false_eq_true, eq_self_iff_true, if_true, if_false, Nat.reduceEqDiff, Nat.reduceAdd, Nat.reduceMul, Nat.reduceSub, Bool.false_eq_true, zl0, zl1, zl2, zl3, zl4, zl5, zl6, zl7, zl8, zl9, zl10, zl11, zl12, zl13, zl14, zl15, zl16, zl17, zl18, zl19, zl20, zl22, zl23, zl24, zl25, zl30, zl31, zl32, zl33, zl34, zl35, zl36, zl37, zl38, zl39, zl40, zl41, zl42, zl43, zl45, zl48, zl49, zl57, zl58, zl59, zl60, zl61, zl62, zl63, zl64, zl91, zl93, zl97, zl98, zl99, zl100, zl113, zl114, zl115, zl116, zl117, zl122, zl124, zl125, zl127, zl128, zl136, zl200, zl201, zl202, zl203, zl204, zl205, zl206, zl207, zl208, zl209, zl210, zl211, zl212, zl213, zl214, zl215, zl216, zl217, zl218, zl219, zl220, zl235, zl236, zl255, zl280, zl287, zl900, zl999, zl1000, zl1001, zl1136, zl1960, zl3000, zl3001, zl3002, zl3003, zl3004, zl3005, zl3006, zl3007, zl3008, zl3009, zl268435456, zl1000000000])]
theorem forces_C {P : PM} {a : AS} {w g : Nat} (hC : CRep P a) (hok : AOk a) (hca : CCa P (aV a)) (hw : sW (aS a) = some w) (hg : g < vN (aV a)) :
    ∃ P1, f_Yr_forces (nI g) P = some (fI (aV a) (aS a) w g, P1) ∧ CRep P1 a ∧ CCa P1 (aV a) ∧ sm cl P P1 := by
  have hN := hok.1.1
  obtain ⟨hwN, hz1⟩ := hok.2.1.1 w hw
  have hle := szP_le (t := g) hok.2.1
  unfold f_Yr_forces fI
  rw [isSt_C hC.1 hok.1 (by omega), if_pos hg, lb_eq, show nI 1 = (1 : Int32) from rfl, refus_C hC.2.1 hw (by omega), if_pos rfl, hC.2.1.1, hw, oI_s]
  by_cases c : w = g
  · rw [if_pos (by rw [c]), if_pos c]
    exact ⟨P, rfl, hC, hca, sm_refl⟩
  · rw [if_neg (by simp (disch := omega) only [z_add, z_mul, z_sub, z_subm, z_addm, z_lt_t, z_lt_f, z_le_t, z_le_f, z_eq_t, z_eq_f, z_eqm, z_meq, z_mm, z_ltm, z_mlt, z_lem, z_mle, z_cl, z_ck, u1_1, u1_2, u2_1, u2_2, ↓reduceIte, Option.bind_some, Option.bind_none, bd2_some, lb_eq, and_true, and_false, true_and, false_and, not_true_eq_false, not_false_eq_true, eq_self_iff_true, if_true, if_false, Nat.reduceEqDiff, Nat.reduceAdd, Nat.reduceMul, Nat.reduceSub, Bool.false_eq_true, zl0, zl1, zl2, zl3, zl4, zl5, zl6, zl7, zl8, zl9, zl10, zl11, zl12, zl13, zl14, zl15, zl16, zl17, zl18, zl19, zl20, zl22, zl23, zl24, zl25, zl30, zl31, zl32, zl33, zl34, zl35, zl36, zl37, zl38, zl39, zl40, zl41, zl42, zl43, zl45, zl48, zl49, zl57, zl58, zl59, zl60, zl61, zl62, zl63, zl64, zl91, zl93, zl97, zl98, zl99, zl100, zl113, zl114, zl115, zl116, zl117, zl122, zl124, zl125, zl127, zl128, zl136, zl200, zl201, zl202, zl203, zl204, zl205, zl206, zl207, zl208, zl209, zl210, zl211, zl212, zl213, zl214, zl215, zl216, zl217, zl218, zl219, zl220, zl235, zl236, zl255, zl280, zl287, zl900, zl999, zl1000, zl1001, zl1136, zl1960, zl3000, zl3001, zl3002, zl3003, zl3004, zl3005, zl3006, zl3007, zl3008, zl3009, zl268435456, zl1000000000]), if_neg c]
    obtain ⟨P1, g1, g2⟩ := sizeAt_C hC.1 hok.1 hC.2.1 hok.2.1 hg
    have r1 : CRep P1 a ∧ CCa P1 (aV a) ∧ sm cl P P1 := ⟨CRep_ce hC (ce_sm g2 (fun o e => by simp [esr] at e; simp; omega) (by rw [g2.1 31 rfl]) (by rw [g2.1 31 rfl])), CCa_ro hca (g2.1 59 rfl) (g2.1 60 rfl), sm_mono g2 (fun o ho => by simp [cl] at ho; simp; omega)⟩
    rw [g1, bd2_some]
    have hsz : szP (aV a) (aS a) g = pss (aV a) w (sZ (aS a)) g (sD (aS a) g) := by unfold szP; rw [hw]
    have hwy : whyP (aV a) (aS a) g = why (aV a) w (sZ (aS a)) g (sD (aS a) g) (sA (aS a)) := by unfold whyP; rw [hw]
    unfold szN
    by_cases c1 : whyP (aV a) (aS a) g = 0
    · rw [if_pos c1, oI_s]
      by_cases c2 : szP (aV a) (aS a) g = 0
      · rw [if_pos (by rw [c2]; decide), if_neg (by unfold canF; rw [← hsz]; simp [c2])]
        exact ⟨P1, rfl, r1⟩
      · rw [if_neg (by simp (disch := omega) only [z_add, z_mul, z_sub, z_subm, z_addm, z_lt_t, z_lt_f, z_le_t, z_le_f, z_eq_t, z_eq_f, z_eqm, z_meq, z_mm, z_ltm, z_mlt, z_lem, z_mle, z_cl, z_ck, u1_1, u1_2, u2_1, u2_2, ↓reduceIte, Option.bind_some, Option.bind_none, bd2_some, lb_eq, and_true, and_false, true_and, false_and, not_true_eq_false, not_false_eq_true, eq_self_iff_true, if_true, if_false, Nat.reduceEqDiff, Nat.reduceAdd, Nat.reduceMul, Nat.reduceSub, Bool.false_eq_true, zl0, zl1, zl2, zl3, zl4, zl5, zl6, zl7, zl8, zl9, zl10, zl11, zl12, zl13, zl14, zl15, zl16, zl17, zl18, zl19, zl20, zl22, zl23, zl24, zl25, zl30, zl31, zl32, zl33, zl34, zl35, zl36, zl37, zl38, zl39, zl40, zl41, zl42, zl43, zl45, zl48, zl49, zl57, zl58, zl59, zl60, zl61, zl62, zl63, zl64, zl91, zl93, zl97, zl98, zl99, zl100, zl113, zl114, zl115, zl116, zl117, zl122, zl124, zl125, zl127, zl128, zl136, zl200, zl201, zl202, zl203, zl204, zl205, zl206, zl207, zl208, zl209, zl210, zl211, zl212, zl213, zl214, zl215, zl216, zl217, zl218, zl219, zl220, zl235, zl236, zl255, zl280, zl287, zl900, zl999, zl1000, zl1001, zl1136, zl1960, zl3000, zl3001, zl3002, zl3003, zl3004, zl3005, zl3006, zl3007, zl3008, zl3009, zl268435456, zl1000000000]), if_pos (by unfold canF; rw [← hsz, ← hwy]; exact decide_eq_true ⟨c1, c2⟩)]
        exact ⟨P1, rfl, r1⟩
    · rw [if_neg c1, oI_n, if_pos (by decide), if_neg (by unfold canF; rw [← hwy]; simp [c1])]
      exact ⟨P1, rfl, r1⟩
theorem MRep_r14 {P P' : PM} {a : AS} (h : MRep P a) (g : sm r14 P P') : MRep P' a := MRep_14 h g
theorem r14_mo' {P P' : PM} (h : sm r14 P P') : sm mo P P' := r14_mo h
theorem rfn_C {P : PM} {s : SV} (h : CSt P 21 s) (hw : sW s = none) : f_Yr_refusal (1 : Int32) (1 : Int32) P = -nI 5 := by
  unfold f_Yr_refusal
  rw [if_neg (by decide), if_neg (by decide), h.1, hw]
  rfl
theorem forces_ok {P : PM} {a : AS} {x : Int32} (hC : CRep P a) (hM : MRep P a) (hca : CCa P (aV a)) (hok : AOk a) :
    ∃ v P1 P2, f_Yr_forces x P = some (v, P1) ∧ f_Mo_forces x P1 = some (v, P2) ∧ Inv P2 := by
  have hN := hok.1.1
  rcases i_cases x (vN (aV a)) (by omega) with ⟨k, hk, rfl⟩ | hx
  · cases hw : sW (aS a) with
    | none =>
      refine join (r := -nI 5) (a' := a) hM ⟨P, ?_, hC, hca, sm_refl⟩ (fun P hM => ⟨u1 P 109 0 (0 : Int32), ?_, MRep_me hM me_th, sm_th⟩) hok
      · unfold f_Yr_forces
        rw [isSt_C hC.1 hok.1 (by omega), if_pos hk, lb_eq, show nI 1 = (1 : Int32) from rfl, rfn_C hC.2.1 hw]
        rfl
      · have hM1 : MRep (u1 P 109 0 (0 : Int32)) a := MRep_me hM me_th
        unfold f_Mo_forces
        rw [isStation_M _ hM1.1.1 hN, tl_ti, nI_ti (by omega), if_pos (by omega), Option.bind_some, if_neg (by decide), m113 hM1.2.1, hw]
        rfl
    | some w =>
      obtain ⟨hwN, hz1⟩ := hok.2.1.1 w hw
      refine join (r := fI (aV a) (aS a) w k) (a' := a) hM (forces_C hC hok hca hw hk) (fun P hM => ?_) hok
      have hM1 : MRep (u1 P 109 0 (0 : Int32)) a := MRep_me hM me_th
      obtain ⟨P1, g1, g2⟩ := forcedIn_M hok.1 hM1.1 hM1.2.1 hok.2.1 hw hk
      refine ⟨P1, ?_, MRep_r14 hM1 g2, sm_trans sm_th (r14_mo' g2)⟩
      unfold f_Mo_forces
      rw [isStation_M _ hM1.1.1 hN, tl_ti, nI_ti (by omega), if_pos (by omega), Option.bind_some, if_neg (by decide), m113 hM1.2.1, hw, oI_s, if_neg (by simp (disch := omega) only [z_add, z_mul, z_sub, z_subm, z_addm, z_lt_t, z_lt_f, z_le_t, z_le_f, z_eq_t, z_eq_f, z_eqm, z_meq, z_mm, z_ltm, z_mlt, z_lem, z_mle, z_cl, z_ck, u1_1, u1_2, u2_1, u2_2, ↓reduceIte, Option.bind_some, Option.bind_none, bd2_some, lb_eq, and_true, and_false, true_and, false_and, not_true_eq_false, not_false_eq_true, eq_self_iff_true, if_true, if_false, Nat.reduceEqDiff, Nat.reduceAdd, Nat.reduceMul, Nat.reduceSub, Bool.false_eq_true, zl0, zl1, zl2, zl3, zl4, zl5, zl6, zl7, zl8, zl9, zl10, zl11, zl12, zl13, zl14, zl15, zl16, zl17, zl18, zl19, zl20, zl22, zl23, zl24, zl25, zl30, zl31, zl32, zl33, zl34, zl35, zl36, zl37, zl38, zl39, zl40, zl41, zl42, zl43, zl45, zl48, zl49, zl57, zl58, zl59, zl60, zl61, zl62, zl63, zl64, zl91, zl93, zl97, zl98, zl99, zl100, zl113, zl114, zl115, zl116, zl117, zl122, zl124, zl125, zl127, zl128, zl136, zl200, zl201, zl202, zl203, zl204, zl205, zl206, zl207, zl208, zl209, zl210, zl211, zl212, zl213, zl214, zl215, zl216, zl217, zl218, zl219, zl220, zl235, zl236, zl255, zl280, zl287, zl900, zl999, zl1000, zl1001, zl1136, zl1960, zl3000, zl3001, zl3002, zl3003, zl3004, zl3005, zl3006, zl3007, zl3008, zl3009, zl268435456, zl1000000000]), g1]
      rfl
  · refine join (r := -nI 2) (a' := a) hM ⟨P, ?_, hC, hca, sm_refl⟩ (fun P hM => ⟨u1 P 109 0 (0 : Int32), ?_, MRep_me hM me_th, sm_th⟩) hok
    · unfold f_Yr_forces f_Yr_refusal
      rw [isSt_Cn hC.1 hok.1 hx]; rfl
    · have hM1 : MRep (u1 P 109 0 (0 : Int32)) a := MRep_me hM me_th
      unfold f_Mo_forces
      rw [isStation_M _ hM1.1.1 hN, tl_ti, if_neg hx]
      rfl
theorem best_ok {P : PM} {a : AS} {x : Int32} (hC : CRep P a) (hM : MRep P a) (hca : CCa P (aV a)) (hok : AOk a) :
    ∃ v P1 P2, f_Yr_best x P = some (v, P1) ∧ f_Mo_best x P1 = some (v, P2) ∧ Inv P2 := by
  have hN := hok.1.1
  have hFR := FR_eq
  rcases i_cases x (vN (aV a)) (by omega) with ⟨k, hk, rfl⟩ | hx
  · cases hw : sW (aS a) with
    | none =>
      refine join (r := -nI 5) (a' := a) hM ⟨P, ?_, hC, hca, sm_refl⟩ (fun P hM => ⟨u1 P 109 0 (0 : Int32), ?_, MRep_me hM me_th, sm_th⟩) hok
      · unfold f_Yr_best f_Yr_forces
        rw [isSt_C hC.1 hok.1 (by omega), if_pos hk, lb_eq, show nI 1 = (1 : Int32) from rfl, rfn_C hC.2.1 hw]
        rfl
      · have hM1 : MRep (u1 P 109 0 (0 : Int32)) a := MRep_me hM me_th
        unfold f_Mo_best
        rw [isStation_M _ hM1.1.1 hN, tl_ti, nI_ti (by omega), if_pos (by omega), Option.bind_some, if_neg (by decide), m113 hM1.2.1, hw]
        rfl
    | some w =>
      obtain ⟨hwN, hz1⟩ := hok.2.1.1 w hw
      refine join (r := if w ≠ k ∧ canF (aV a) (aS a) w (sZ (aS a)) (sA (aS a)) k = true then nI k else -nI 1) (a' := a) hM ?_ (fun P hM => ?_) hok
      · obtain ⟨P1, g1, g2, g3, g4⟩ := forces_C hC hok hca hw hk
        refine ⟨P1, ?_, g2, g3, g4⟩
        unfold f_Yr_best
        rw [g1, bd2_some]
        unfold fI
        by_cases c : w = k
        · rw [if_pos c, if_pos (by decide), if_neg (by decide), if_neg (fun q => q.1 c)]; rfl
        · rw [if_neg c]
          by_cases c2 : canF (aV a) (aS a) w (sZ (aS a)) (sA (aS a)) k = true
          · rw [if_pos c2, if_pos (by decide), if_pos (by decide), if_pos ⟨c, c2⟩]
          · rw [if_neg c2, if_pos (by decide), if_neg (by decide), if_neg (fun q => c2 q.2)]; rfl
      · have hM1 : MRep (u1 P 109 0 (0 : Int32)) a := MRep_me hM me_th
        obtain ⟨P1, g1, g2⟩ := forcedIn_M hok.1 hM1.1 hM1.2.1 hok.2.1 hw hk
        have hM2 := MRep_r14 hM1 g2
        unfold f_Mo_best
        rw [isStation_M _ hM1.1.1 hN, tl_ti, nI_ti (by omega), if_pos (by omega), Option.bind_some, if_neg (by decide), m113 hM1.2.1, hw, oI_s, if_neg (by simp (disch := omega) only [z_add, z_mul, z_sub, z_subm, z_addm, z_lt_t, z_lt_f, z_le_t, z_le_f, z_eq_t, z_eq_f, z_eqm, z_meq, z_mm, z_ltm, z_mlt, z_lem, z_mle, z_cl, z_ck, u1_1, u1_2, u2_1, u2_2, ↓reduceIte, Option.bind_some, Option.bind_none, bd2_some, lb_eq, and_true, and_false, true_and, false_and, not_true_eq_false, not_false_eq_true, eq_self_iff_true, if_true, if_false, Nat.reduceEqDiff, Nat.reduceAdd, Nat.reduceMul, Nat.reduceSub, Bool.false_eq_true, zl0, zl1, zl2, zl3, zl4, zl5, zl6, zl7, zl8, zl9, zl10, zl11, zl12, zl13, zl14, zl15, zl16, zl17, zl18, zl19, zl20, zl22, zl23, zl24, zl25, zl30, zl31, zl32, zl33, zl34, zl35, zl36, zl37, zl38, zl39, zl40, zl41, zl42, zl43, zl45, zl48, zl49, zl57, zl58, zl59, zl60, zl61, zl62, zl63, zl64, zl91, zl93, zl97, zl98, zl99, zl100, zl113, zl114, zl115, zl116, zl117, zl122, zl124, zl125, zl127, zl128, zl136, zl200, zl201, zl202, zl203, zl204, zl205, zl206, zl207, zl208, zl209, zl210, zl211, zl212, zl213, zl214, zl215, zl216, zl217, zl218, zl219, zl220, zl235, zl236, zl255, zl280, zl287, zl900, zl999, zl1000, zl1001, zl1136, zl1960, zl3000, zl3001, zl3002, zl3003, zl3004, zl3005, zl3006, zl3007, zl3008, zl3009, zl268435456, zl1000000000]), g1, bd2_some]
        unfold fI
        by_cases c : w = k
        · rw [if_pos c, if_neg (by decide), if_neg (fun q => q.1 c)]
          exact ⟨P1, rfl, hM2, sm_trans sm_th (r14_mo' g2)⟩
        · rw [if_neg c]
          by_cases c2 : canF (aV a) (aS a) w (sZ (aS a)) (sA (aS a)) k = true
          · rw [if_pos c2, if_pos (by decide), if_pos ⟨c, c2⟩]
            have loop : ∀ (m q t : Nat) (P : PM), t + m = k → m < q → MRep P a → ∃ P', l_Mo_best_46 q (nI k) (nI 1) (nI t) P = some (nI k, P') ∧ sm r14 P P' := by
              intro m
              induction m with
              | zero =>
                intro q t P ht hq hM
                obtain ⟨q, rfl⟩ : ∃ r, q = r + 1 := ⟨q - 1, by omega⟩
                obtain rfl : t = k := by omega
                obtain ⟨P2, b1, b2⟩ := game_T hok.1 hk (by omega) (game_C hok.1 hk 0 (by omega)) (n := FR) (by omega) hM.1 (fun i hi => hM.2.1.2.2.2.2 i hi) hwN hz1 hok.2.1.2.2.1 hok.2.1.2.2.2.1 hk
                rw [l_Mo_best_46, show P.1 110 (1 : Int32).toNatClampNeg = nI (vN (aV a)) from hM.1.1, if_neg (nI_ge (by omega) (by omega))]
                unfold g_Mo_forcesTo
                rw [m113 hM.2.1, m114 hM.2.1, m116 hM.2.1, hw, oI_s]
                rw [show nI 1 = nI (0 + 1) from rfl, b1, if_pos ⟨rfl, c2⟩, bd2_some, if_neg (by decide)]
                exact ⟨P2, rfl, b2⟩
              | succ m ih =>
                intro q t P ht hq hM
                obtain ⟨q, rfl⟩ : ∃ r, q = r + 1 := ⟨q - 1, by omega⟩
                obtain ⟨P2, b1, b2⟩ := game_T hok.1 hk (by omega) (game_C hok.1 hk 0 (by omega)) (n := FR) (by omega) hM.1 (fun i hi => hM.2.1.2.2.2.2 i hi) hwN hz1 hok.2.1.2.2.1 hok.2.1.2.2.2.1 (show t < vN (aV a) by omega)
                rw [l_Mo_best_46, show P.1 110 (1 : Int32).toNatClampNeg = nI (vN (aV a)) from hM.1.1, if_neg (nI_ge (by omega) (by omega))]
                unfold g_Mo_forcesTo
                rw [m113 hM.2.1, m114 hM.2.1, m116 hM.2.1, hw, oI_s]
                obtain ⟨P3, e1, e2⟩ := ih q (t + 1) P2 (by omega) (by omega) (MRep_r14 hM b2)
                rw [show nI 1 = nI (0 + 1) from rfl, b1, if_neg (fun h => by omega), bd2_some, if_pos (by decide), show (1 : Int32) = nI 1 from rfl, nI_add]
                exact ⟨P3, e1, sm_trans b2 e2⟩
            obtain ⟨P3, e1, e2⟩ := loop k FU 0 P1 (by omega) (by have := FU_big; omega) hM2
            exact ⟨P3, e1, MRep_r14 hM2 e2, sm_trans sm_th (r14_mo' (sm_trans g2 e2))⟩
          · rw [if_neg c2, if_neg (by decide), if_neg (fun q => c2 q.2)]
            exact ⟨P1, rfl, hM2, sm_trans sm_th (r14_mo' g2)⟩
  · refine join (r := -nI 2) (a' := a) hM ⟨P, ?_, hC, hca, sm_refl⟩ (fun P hM => ⟨u1 P 109 0 (0 : Int32), ?_, MRep_me hM me_th, sm_th⟩) hok
    · unfold f_Yr_best f_Yr_forces f_Yr_refusal
      rw [isSt_Cn hC.1 hok.1 hx]; rfl
    · have hM1 : MRep (u1 P 109 0 (0 : Int32)) a := MRep_me hM me_th
      unfold f_Mo_best
      rw [isStation_M _ hM1.1.1 hN, tl_ti, if_neg hx]
      rfl
