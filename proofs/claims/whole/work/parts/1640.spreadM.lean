/-! the reference: a round of spreading -/
def ogm (o : Nat) : Bool := o == 114 || o == 115 || o == 120 || o == 121 || o == 122
def MKn (P : PM) (v : NV) (s : SV) : Prop := MNet P 110 0 v ∧ ∀ j, j < 7 → P.1 110 (117 + j) = nI (sD s j)
theorem MKn_og {P P' : PM} {v : NV} {s : SV} (h : MKn P v s) (g : sm ogm P P') : MKn P' v s := ⟨MNet_sm h.1 g rfl, fun j hj => by rw [g.1 110 rfl]; exact h.2 j hj⟩
theorem spreads_in {v : NV} {s : SV} {sl w a1 : Nat} {S : Nat → Prop} {B : Nat → Nat} {k28 : Int32 → Int32 → Int32 → PM → Option (Int32 × PM)} (hv : NVok v) (hsl : sl < 128) (ha : a1 = 120 ∨ a1 = 122) (hB : Pos S (vN v) B) (hw : w < vN v)
    (hS : ∀ w z t k, 1 ≤ z → z ≤ 40 → S (40 * w + z - 1) → gw v s sl w z t = some (k + 1) → S (40 * t + k)) :
    ∀ (m n t : Nat) (A : Nat → Nat) (f : Bool) (P : PM), t + m = vN v → m < n → MKn P v s → GAr P a1 A → GAr P 121 B → Pos S (vN v) A →
    ∃ P', l_Mo_spreads_42 a1 7 k28 n (nI sl) (flg f) (nI w) (nI t) P = k28 (nI sl) (flg (if B w = 0 then (A, f) else spl v s sl B (prs w m t) (A, f)).2) (nI (w + 1)) P' ∧
      GAr P' a1 (if B w = 0 then (A, f) else spl v s sl B (prs w m t) (A, f)).1 ∧ sm (fun o => o == a1 || o == 114 || o == 115) P P' := by
  have hN := hv.1
  have hab : ∀ o, o = a1 ∨ o = 121 → (o == 114 || o == 115) = false := by
    intro o ho
    simp
    omega
  intro m
  induction m with
  | zero =>
    intro n t A f P ht hn hX hA hB2 hpA
    obtain ⟨n, rfl⟩ : ∃ r, n = r + 1 := ⟨n - 1, by omega⟩
    have e : (if B w = 0 then (A, f) else spl v s sl B (prs w 0 t) (A, f)) = (A, f) := by split <;> rfl
    rw [l_Mo_spreads_42, show P.1 110 (1 : Int32).toNatClampNeg = nI (vN v) from hX.1.1, if_pos (nI_le (by omega) (by omega)), e]
    unfold j_Mo_spreads_134
    rw [show (1 : Int32) = nI 1 from rfl, nI_add]
    exact ⟨P, rfl, hA, sm_refl⟩
  | succ m ih =>
    intro n t A f P ht hn hX hA hB2 hpA
    obtain ⟨n, rfl⟩ : ∃ r, n = r + 1 := ⟨n - 1, by omega⟩
    have hb := (hB w).1
    have hat := (hpA t).1
    rw [l_Mo_spreads_42, show P.1 110 (1 : Int32).toNatClampNeg = nI (vN v) from hX.1.1, if_neg (nI_ge (by omega) (by omega)), z_ck (by omega) (by omega), z_cl (by omega), hB2 w (by omega)]
    by_cases c0 : B w = 0
    · rw [c0, if_pos (by decide), if_pos rfl]
      unfold j_Mo_spreads_134
      rw [show (1 : Int32) = nI 1 from rfl, nI_add]
      exact ⟨P, rfl, hA, sm_refl⟩
    · have hpos : 0 < B w := by omega
      obtain ⟨P1, g1, g2⟩ := whyBy_M (z := B w) (sl := sl) hX.1 hv (show w < 7 by omega) (show t < 7 by omega) (hX.2 t (by omega)) (by omega)
      have hwl := @why_lt v w (B w) t (sD s t) sl
      have s1 : sm (fun o => o == a1 || o == 114 || o == 115) P P1 := sm_mono g2 (fun o q => by simp at q; simp; omega)
      have o1 : sm ogm P P1 := sm_mono g2 (fun o q => by simp [ogm] at q; simp; omega)
      have ra : ∀ o, o = a1 ∨ o = 121 → P1.1 o = P.1 o := fun o ho => g2.1 o (hab o ho)
      rw [if_neg (by simp (disch := omega) only [z_add, z_mul, z_sub, z_subm, z_addm, z_lt_t, z_lt_f, z_le_t, z_le_f, z_eq_t, z_eq_f, z_eqm, z_meq, z_mm, z_ltm, z_mlt, z_lem, z_mle, z_cl, z_ck, u1_1, u1_2, u2_1, u2_2, ↓reduceIte, Option.bind_some, Option.bind_none, bd2_some, lb_eq, and_true, and_false, true_and, false_and, not_true_eq_false, not_false_eq_true, eq_self_iff_true, if_true, if_false, Nat.reduceEqDiff, Nat.reduceAdd, Nat.reduceMul, Nat.reduceSub, Bool.false_eq_true, zl0, zl1, zl2, zl3, zl4, zl5, zl6, zl7, zl8, zl9, zl10, zl11, zl12, zl13, zl14, zl15, zl16, zl17, zl18, zl19, zl20, zl22, zl23, zl24, zl25, zl30, zl31, zl32, zl33, zl34, zl35, zl36, zl37, zl38, zl39, zl40, zl41, zl42, zl43, zl45, zl48, zl49, zl57, zl58, zl59, zl60, zl61, zl62, zl63, zl64, zl91, zl93, zl97, zl98, zl99, zl100, zl113, zl114, zl115, zl116, zl117, zl122, zl124, zl125, zl127, zl128, zl136, zl200, zl201, zl202, zl203, zl204, zl205, zl206, zl207, zl208, zl209, zl210, zl211, zl212, zl213, zl214, zl215, zl216, zl217, zl218, zl219, zl220, zl235, zl236, zl255, zl280, zl287, zl900, zl999, zl1000, zl1001, zl1136, zl1960, zl3000, zl3001, zl3002, zl3003, zl3004, zl3005, zl3006, zl3007, zl3008, zl3009, zl268435456, zl1000000000]), z_ck (by omega) (by omega), g1, bd2_some]
      have hs1 := spo_p (t := t) (f := f) hv hS hB hpA hpos
      rw [if_neg c0]
      show ∃ P', _ = k28 (nI sl) (flg (spl v s sl B (prs w m (t + 1)) (spo A t f (gw v s sl w (B w) t))).2) (nI (w + 1)) P' ∧ GAr P' a1 (spl v s sl B (prs w m (t + 1)) (spo A t f (gw v s sl w (B w) t))).1 ∧ _
      have ih2 : ∀ (A' : Nat → Nat) (f' : Bool) (P' : PM), MKn P' v s → GAr P' a1 A' → GAr P' 121 B → Pos S (vN v) A' →
          ∃ P'', l_Mo_spreads_42 a1 7 k28 n (nI sl) (flg f') (nI w) (nI t + (1 : Int32)) P' = k28 (nI sl) (flg (spl v s sl B (prs w m (t + 1)) (A', f')).2) (nI (w + 1)) P'' ∧ GAr P'' a1 (spl v s sl B (prs w m (t + 1)) (A', f')).1 ∧ sm (fun o => o == a1 || o == 114 || o == 115) P' P'' := by
        intro A' f' P' h1 h2 h3 h4
        have r := ih n (t + 1) A' f' P' (by omega) (by omega) h1 h2 h3 h4
        rw [if_neg c0] at r
        rw [show (1 : Int32) = nI 1 from rfl, nI_add]
        exact r
      unfold j_Mo_spreads_128
      by_cases c4 : why v w (B w) t (sD s t) sl = 0
      · have hgw : gw v s sl w (B w) t = some (pss v w (B w) t (sD s t)) := by rw [gw_why, if_pos c4]
        have hp := pss_le (v := v) (s := w) (z := B w) (t := t) (d := sD s t) (by omega)
        have b121 : P1.1 121 w = nI (B w) := by rw [ra 121 (Or.inr rfl)]; exact hB2 w (by omega)
        obtain ⟨P2, b1, b2⟩ := passedTo_M (z := B w) (MNet_sm hX.1 g2 rfl) hv (show w < 7 by omega) (show t < 7 by omega) hb (by rw [g2.1 110 rfl]; exact hX.2 t (by omega))
        have s2 : sm (fun o => o == a1 || o == 114 || o == 115) P P2 := sm_trans s1 (sm_mono b2 (fun o q => by simp at q; simp; omega))
        have o2 : sm ogm P P2 := sm_trans o1 (sm_mono b2 (fun o q => by simp [ogm] at q; simp; omega))
        have rb : ∀ o, o = a1 ∨ o = 121 → P2.1 o = P.1 o := fun o ho => by rw [b2.1 o (hab o ho), ra o ho]
        have c121 : P2.1 121 w = nI (B w) := by rw [rb 121 (Or.inr rfl)]; exact hB2 w (by omega)
        have hX2 := MKn_og hX o2
        obtain ⟨P3, d1, d2⟩ := passedTo_M (z := B w) hX2.1 hv (show w < 7 by omega) (show t < 7 by omega) hb (hX2.2 t (by omega))
        have s3 : sm (fun o => o == a1 || o == 114 || o == 115) P P3 := sm_trans s2 (sm_mono d2 (fun o q => by simp at q; simp; omega))
        have o3 : sm ogm P P3 := sm_trans o2 (sm_mono d2 (fun o q => by simp [ogm] at q; simp; omega))
        have rc : ∀ o, o = a1 ∨ o = 121 → P3.1 o = P.1 o := fun o ho => by rw [d2.1 o (hab o ho), rb o ho]
        rw [if_pos (by rw [c4]; rfl), z_ck (by omega) (by omega), b121, b1, bd2_some, z_ck (by omega) (by omega), z_cl (by omega), rb a1 (Or.inl rfl), hA t (by omega), z_ck (by omega) (by omega), c121, d1, bd2_some, z_ck (by omega) (by omega)]
        have es : spo A t f (some (pss v w (B w) t (sD s t))) = if A t < pss v w (B w) t (sD s t) then (fun j => if j = t then pss v w (B w) t (sD s t) else A j, true) else (A, f) := rfl
        rw [hgw] at hs1 ⊢
        rw [es] at hs1 ⊢
        by_cases c : A t < pss v w (B w) t (sD s t)
        · rw [if_pos c] at hs1 ⊢
          rw [if_pos (nI_lt c (by omega))]
          have hsm : sm (fun o => o == a1 || o == 114 || o == 115) P (u1 P3 a1 t (nI (pss v w (B w) t (sD s t)))) := sm_u1 s3 (by simp)
          have hog : sm ogm P (u1 P3 a1 t (nI (pss v w (B w) t (sD s t)))) := sm_u1 o3 (by rcases ha with rfl | rfl <;> rfl)
          obtain ⟨P', q1, q2, q3⟩ := ih2 _ true (u1 P3 a1 t (nI (pss v w (B w) t (sD s t)))) (MKn_og hX hog) (fun j hj => by
            rw [u1_1]
            by_cases ej : j = t
            · rw [if_pos ⟨rfl, ej⟩]; exact congrArg nI (if_pos ej).symm
            · rw [if_neg (fun h => ej h.2), rc a1 (Or.inl rfl), hA j hj]; exact congrArg nI (if_neg ej).symm) (fun j hj => by
            rw [u1_1, if_neg (fun h => by rcases ha with h' | h' <;> omega), rc 121 (Or.inr rfl)]; exact hB2 j hj) hs1.1
          exact ⟨P', q1, q2, sm_trans hsm q3⟩
        · rw [if_neg c, if_neg (nI_nlt (by omega) (by omega))]
          obtain ⟨P', q1, q2, q3⟩ := ih2 A f P2 hX2 (fun j hj => by rw [rb a1 (Or.inl rfl)]; exact hA j hj) (fun j hj => by rw [rb 121 (Or.inr rfl)]; exact hB2 j hj) hpA
          exact ⟨P', q1, q2, sm_trans s2 q3⟩
      · have hgw : gw v s sl w (B w) t = none := by rw [gw_why, if_neg c4]
        rw [if_neg (by simp (disch := omega) only [z_add, z_mul, z_sub, z_subm, z_addm, z_lt_t, z_lt_f, z_le_t, z_le_f, z_eq_t, z_eq_f, z_eqm, z_meq, z_mm, z_ltm, z_mlt, z_lem, z_mle, z_cl, z_ck, u1_1, u1_2, u2_1, u2_2, ↓reduceIte, Option.bind_some, Option.bind_none, bd2_some, lb_eq, and_true, and_false, true_and, false_and, not_true_eq_false, not_false_eq_true, eq_self_iff_true, if_true, if_false, Nat.reduceEqDiff, Nat.reduceAdd, Nat.reduceMul, Nat.reduceSub, Bool.false_eq_true, zl0, zl1, zl2, zl3, zl4, zl5, zl6, zl7, zl8, zl9, zl10, zl11, zl12, zl13, zl14, zl15, zl16, zl17, zl18, zl19, zl20, zl22, zl23, zl24, zl25, zl30, zl31, zl32, zl33, zl34, zl35, zl36, zl37, zl38, zl39, zl40, zl41, zl42, zl43, zl45, zl48, zl49, zl57, zl58, zl59, zl60, zl61, zl62, zl63, zl64, zl91, zl93, zl97, zl98, zl99, zl100, zl113, zl114, zl115, zl116, zl117, zl122, zl124, zl125, zl127, zl128, zl136, zl200, zl201, zl202, zl203, zl204, zl205, zl206, zl207, zl208, zl209, zl210, zl211, zl212, zl213, zl214, zl215, zl216, zl217, zl218, zl219, zl220, zl235, zl236, zl255, zl280, zl287, zl900, zl999, zl1000, zl1001, zl1136, zl1960, zl3000, zl3001, zl3002, zl3003, zl3004, zl3005, zl3006, zl3007, zl3008, zl3009, zl268435456, zl1000000000]), hgw]
        obtain ⟨P', q1, q2, q3⟩ := ih2 A f P1 (MKn_og hX o1) (fun j hj => by rw [ra a1 (Or.inl rfl)]; exact hA j hj) (fun j hj => by rw [ra 121 (Or.inr rfl)]; exact hB2 j hj) hpA
        exact ⟨P', q1, q2, sm_trans s1 q3⟩
theorem spreads_out {v : NV} {s : SV} {sl a1 : Nat} {S : Nat → Prop} {B : Nat → Nat} (hv : NVok v) (hsl : sl < 128) (ha : a1 = 120 ∨ a1 = 122) (hB : Pos S (vN v) B)
    (hS : ∀ w z t k, 1 ≤ z → z ≤ 40 → S (40 * w + z - 1) → gw v s sl w z t = some (k + 1) → S (40 * t + k)) :
    ∀ (m n w : Nat) (A : Nat → Nat) (f : Bool) (P : PM), w + m = vN v → m < n → MKn P v s → GAr P a1 A → GAr P 121 B → Pos S (vN v) A →
    ∃ P', l_Mo_spreads_28 a1 7 n (nI sl) (flg f) (nI w) P = some (flg (spl v s sl B (spp B (vN v) m w) (A, f)).2, P') ∧ GAr P' a1 (spl v s sl B (spp B (vN v) m w) (A, f)).1 ∧ sm (fun o => o == a1 || o == 114 || o == 115) P P' := by
  have hN := hv.1
  intro m
  induction m with
  | zero =>
    intro n w A f P hw hn hX hA hB2 hpA
    obtain ⟨n, rfl⟩ : ∃ r, n = r + 1 := ⟨n - 1, by omega⟩
    rw [l_Mo_spreads_28, show P.1 110 (1 : Int32).toNatClampNeg = nI (vN v) from hX.1.1, if_pos (nI_le (by omega) (by omega)), isz_flg]
    exact ⟨P, rfl, hA, sm_refl⟩
  | succ m ih =>
    intro n w A f P hw hn hX hA hB2 hpA
    obtain ⟨n, rfl⟩ : ∃ r, n = r + 1 := ⟨n - 1, by omega⟩
    rw [l_Mo_spreads_28, show P.1 110 (1 : Int32).toNatClampNeg = nI (vN v) from hX.1.1, if_neg (nI_ge (by omega) (by omega)), show (0 : Int32) = nI 0 from rfl]
    obtain ⟨P1, g1, g2, g3⟩ := spreads_in (k28 := fun z0 z1 z2 Pz => l_Mo_spreads_28 a1 7 n z0 z1 z2 Pz) hv hsl ha hB (show w < vN v by omega) hS (vN v) FU 0 A f P (by omega) (by have := FU_big; omega) hX hA hB2 hpA
    have e : spl v s sl B (spp B (vN v) (m + 1) w) (A, f) = spl v s sl B (spp B (vN v) m (w + 1)) (if B w = 0 then (A, f) else spl v s sl B (prs w (vN v) 0) (A, f)) := by
      show spl v s sl B ((if B w = 0 then [] else prs w (vN v) 0) ++ spp B (vN v) m (w + 1)) (A, f) = _
      rw [spl_app]
      split <;> rfl
    have hp : Pos S (vN v) (if B w = 0 then (A, f) else spl v s sl B (prs w (vN v) 0) (A, f)).1 := by
      by_cases c : B w = 0
      · rw [if_pos c]; exact hpA
      · rw [if_neg c]
        exact (spl_p hv hS hB (prs w (vN v) 0) (A, f) (fun y hy => by rw [(prs_mem.mp hy).1]; omega) hpA).1
    have hog : sm ogm P P1 := sm_mono g3 (fun o q => by
      simp [ogm] at q
      simp
      rcases ha with rfl | rfl <;> omega)
    obtain ⟨P2, k1, k2, k3⟩ := ih n (w + 1) _ (if B w = 0 then (A, f) else spl v s sl B (prs w (vN v) 0) (A, f)).2 P1 (by omega) (by omega) (MKn_og hX hog) g2 (fun j hj => by rw [g3.1 121 (by rcases ha with rfl | rfl <;> rfl)]; exact hB2 j hj) hp
    rw [g1, e]
    exact ⟨P2, k1, k2, sm_trans g3 k3⟩
theorem copy121 {a1 : Nat} {sl : Int32} (ha : a1 = 120 ∨ a1 = 122) {A : Nat → Nat} : ∀ (m n i : Nat) (P : PM), i + m = 7 → m < n → GAr P a1 A → (∀ j, j < i → P.1 121 j = nI (A j)) →
    ∃ P', l_Mo_spreads_2 a1 7 n sl (nI i) P = l_Mo_spreads_28 a1 7 FU sl (0 : Int32) (0 : Int32) P' ∧ GAr P' a1 A ∧ GAr P' 121 A ∧ sm (fun o => o == 121) P P' := by
  intro m
  induction m with
  | zero =>
    intro n i P hi hn hA h
    obtain ⟨n, rfl⟩ : ∃ r, n = r + 1 := ⟨n - 1, by omega⟩
    rw [l_Mo_spreads_2, if_pos (by simp (disch := omega) only [z_add, z_mul, z_sub, z_subm, z_addm, z_lt_t, z_lt_f, z_le_t, z_le_f, z_eq_t, z_eq_f, z_eqm, z_meq, z_mm, z_ltm, z_mlt, z_lem, z_mle, z_cl, z_ck, u1_1, u1_2, u2_1, u2_2, ↓reduceIte, Option.bind_some, Option.bind_none, bd2_some, lb_eq, and_true, and_false, true_and, false_and, not_true_eq_false, not_false_eq_true, eq_self_iff_true, if_true, if_false, Nat.reduceEqDiff, Nat.reduceAdd, Nat.reduceMul, Nat.reduceSub, Bool.false_eq_true, zl0, zl1, zl2, zl3, zl4, zl5, zl6, zl7, zl8, zl9, zl10, zl11, zl12, zl13, zl14, zl15, zl16, zl17, zl18, zl19, zl20, zl22, zl23, zl24, zl25, zl30, zl31, zl32, zl33, zl34, zl35, zl36, zl37, zl38, zl39, zl40, zl41, zl42, zl43, zl45, zl48, zl49, zl57, zl58, zl59, zl60, zl61, zl62, zl63, zl64, zl91, zl93, zl97, zl98, zl99, zl100, zl113, zl114, zl115, zl116, zl117, zl122, zl124, zl125, zl127, zl128, zl136, zl200, zl201, zl202, zl203, zl204, zl205, zl206, zl207, zl208, zl209, zl210, zl211, zl212, zl213, zl214, zl215, zl216, zl217, zl218, zl219, zl220, zl235, zl236, zl255, zl280, zl287, zl900, zl999, zl1000, zl1001, zl1136, zl1960, zl3000, zl3001, zl3002, zl3003, zl3004, zl3005, zl3006, zl3007, zl3008, zl3009, zl268435456, zl1000000000])]
    exact ⟨P, rfl, hA, fun j hj => h j (by omega), sm_refl⟩
  | succ m ih =>
    intro n i P hi hn hA h
    obtain ⟨n, rfl⟩ : ∃ r, n = r + 1 := ⟨n - 1, by omega⟩
    rw [l_Mo_spreads_2, if_neg (by simp (disch := omega) only [z_add, z_mul, z_sub, z_subm, z_addm, z_lt_t, z_lt_f, z_le_t, z_le_f, z_eq_t, z_eq_f, z_eqm, z_meq, z_mm, z_ltm, z_mlt, z_lem, z_mle, z_cl, z_ck, u1_1, u1_2, u2_1, u2_2, ↓reduceIte, Option.bind_some, Option.bind_none, bd2_some, lb_eq, and_true, and_false, true_and, false_and, not_true_eq_false, not_false_eq_true, eq_self_iff_true, if_true, if_false, Nat.reduceEqDiff, Nat.reduceAdd, Nat.reduceMul, Nat.reduceSub, Bool.false_eq_true, zl0, zl1, zl2, zl3, zl4, zl5, zl6, zl7, zl8, zl9, zl10, zl11, zl12, zl13, zl14, zl15, zl16, zl17, zl18, zl19, zl20, zl22, zl23, zl24, zl25, zl30, zl31, zl32, zl33, zl34, zl35, zl36, zl37, zl38, zl39, zl40, zl41, zl42, zl43, zl45, zl48, zl49, zl57, zl58, zl59, zl60, zl61, zl62, zl63, zl64, zl91, zl93, zl97, zl98, zl99, zl100, zl113, zl114, zl115, zl116, zl117, zl122, zl124, zl125, zl127, zl128, zl136, zl200, zl201, zl202, zl203, zl204, zl205, zl206, zl207, zl208, zl209, zl210, zl211, zl212, zl213, zl214, zl215, zl216, zl217, zl218, zl219, zl220, zl235, zl236, zl255, zl280, zl287, zl900, zl999, zl1000, zl1001, zl1136, zl1960, zl3000, zl3001, zl3002, zl3003, zl3004, zl3005, zl3006, zl3007, zl3008, zl3009, zl268435456, zl1000000000]), z_ck (by omega) (by omega), z_ck (by omega) (by omega), z_cl (by omega), hA i (by omega), show (1 : Int32) = nI 1 from rfl, nI_add]
    obtain ⟨P', g1, g2, g3, g4⟩ := ih n (i + 1) (u1 P 121 i (nI (A i))) (by omega) (by omega) (fun j hj => by
      rw [u1_1, if_neg (fun h => by rcases ha with h' | h' <;> omega)]; exact hA j hj) (fun j hj => by
      rw [u1_1]
      by_cases e : j = i
      · rw [if_pos ⟨rfl, e⟩, e]
      · rw [if_neg (fun h => e h.2)]; exact h j (by omega))
    exact ⟨P', g1, g2, g3, sm_trans (sm_u1 sm_refl rfl) g4⟩
theorem spreads_M {P : PM} {v : NV} {s : SV} {sl a1 : Nat} {S : Nat → Prop} {A : Nat → Nat} (hv : NVok v) (hsl : sl < 128) (ha : a1 = 120 ∨ a1 = 122) (hA : Pos S (vN v) A)
    (hS : ∀ w z t k, 1 ≤ z → z ≤ 40 → S (40 * w + z - 1) → gw v s sl w z t = some (k + 1) → S (40 * t + k)) (hX : MKn P v s) (hg : GAr P a1 A) :
    ∃ P', f_Mo_spreads a1 7 (nI sl) P = some (flg (rd v s sl A).2, P') ∧ GAr P' a1 (rd v s sl A).1 ∧ sm (fun o => o == a1 || o == 114 || o == 115 || o == 121) P P' := by
  have hN := hv.1
  obtain ⟨P1, g1, g2, g3, g4⟩ := copy121 (sl := nI sl) ha 7 FU 0 P (by omega) (by have := FU_big; omega) hg (fun j hj => by omega)
  have hog : sm ogm P P1 := sm_mono g4 (fun o q => by simp [ogm] at q; simp; omega)
  obtain ⟨P2, k1, k2, k3⟩ := spreads_out hv hsl ha hA hS (vN v) FU 0 A false P1 (by omega) (by have := FU_big; omega) (MKn_og hX hog) g2 g3 hA
  refine ⟨P2, ?_, k2, sm_trans (sm_mono g4 (fun o q => by simp at q; simp; omega)) (sm_mono k3 (fun o q => by simp at q; simp; omega))⟩
  unfold f_Mo_spreads
  rw [show (0 : Int32) = nI 0 from rfl, g1]
  exact k1
