/-! whom to try -/
def ml (f : Nat → Nat) (bits : Nat) : Nat → Nat → (Nat → Nat) → Nat → Nat
  | 0, _, _, mo => mo
  | m + 1, i, al, mo => if bits.testBit i = true then ml f bits m (i + 1) (fun j => if j = f i then al j + 1 else al j) (max mo (al (f i) + 1)) else ml f bits m (i + 1) al mo
theorem ml_le {f : Nat → Nat} {bits : Nat} : ∀ (m i : Nat) (al : Nat → Nat) (mo : Nat), (∀ j, al j ≤ i) → mo ≤ i → ml f bits m i al mo ≤ i + m
  | 0, _, _, _, _, h => h
  | m + 1, i, al, mo, h1, h2 => by
    unfold ml
    split
    · have := @ml_le f bits m (i + 1) (fun j => if j = f i then al j + 1 else al j) (max mo (al (f i) + 1)) (fun j => by
        have := h1 j
        show (if j = f i then al j + 1 else al j) ≤ i + 1
        split <;> omega) (by have := h1 (f i); omega)
      omega
    · have := @ml_le f bits m (i + 1) al mo (fun j => by have := h1 j; omega) (by omega)
      omega
def lst (d : Nat) : Option (Nat × Nat) → Int32
  | none => nI d
  | some r => nI r.2
def ltb (x : Nat) : Option (Nat × Nat) → Bool
  | none => true
  | some q => decide (x < q.2)
def btt (hs : Nat → Bool) (f : Nat → Nat) : Nat → Nat → Option (Nat × Nat) → Option (Nat × Nat)
  | 0, _, b => b
  | m + 1, i, b => btt hs f m (i + 1) (if (hs i && ltb (f i) b) = true then some (i, f i) else b)
noncomputable def fal (v : NV) (s : SV) (w z g : Nat) : Nat → Nat := fun n => tz v w z g n (sA s)
theorem mx_n {a b : Nat} (ha : a < 2147483648) (hb : b < 2147483648) : mx (nI a) (nI b) = nI (max a b) := by
  unfold mx
  by_cases c : a < b
  · rw [if_pos (nI_lt c hb)]
    congr 1
    omega
  · rw [if_neg (nI_nlt (by omega) ha)]
    congr 1
    omega
theorem mA_C {v : NV} {s : SV} {w z g bits : Nat} (hv : NVok v) (hs : SVok v s) (hw : w < 7) (hg : g < 7) (hz : z ≤ 40) (hb : bits < 1024) :
    ∀ (m q i mo : Nat) (al : Nat → Nat) (P : PM), i + m = 10 → m < q → (∀ j, al j ≤ i) → mo ≤ i → (∀ j, j < 41 → P.1 35 j = nI (al j)) → CNet P 14 v → CSt P 21 s →
    ∃ P', l_De_mostAlike_14 q (nI w) (nI g) (nI z) (nI bits) (nI mo) (nI i) P = some (nI (ml (fal v s w z g) bits m i al mo), P') ∧ sm (fun o => o == 19 || o == 20 || o == 35) P P' := by
  have h7 := pw_le hv.1
  intro m
  induction m with
  | zero =>
    intro q i mo al P hi hq h1 h2 h3 h4 h5
    obtain ⟨q, rfl⟩ : ∃ r, q = r + 1 := ⟨q - 1, by omega⟩
    obtain rfl : i = 10 := by omega
    rw [l_De_mostAlike_14, if_pos (by decide)]
    exact ⟨P, rfl, sm_refl⟩
  | succ m ih =>
    intro q i mo al P hi hq h1 h2 h3 h4 h5
    obtain ⟨q, rfl⟩ : ∃ r, q = r + 1 := ⟨q - 1, by omega⟩
    rw [l_De_mostAlike_14, if_neg (by simp (disch := omega) only [z_add, z_mul, z_sub, z_subm, z_addm, z_lt_t, z_lt_f, z_le_t, z_le_f, z_eq_t, z_eq_f, z_eqm, z_meq, z_mm, z_ltm, z_mlt, z_lem, z_mle, z_cl, z_ck, u1_1, u1_2, u2_1, u2_2, ↓reduceIte, Option.bind_some, Option.bind_none, bd2_some, lb_eq, and_true, and_false, true_and, false_and, not_true_eq_false, not_false_eq_true, eq_self_iff_true, if_true, if_false, Nat.reduceEqDiff, Nat.reduceAdd, Nat.reduceMul, Nat.reduceSub, Bool.false_eq_true, zl0, zl1, zl2, zl3, zl4, zl5, zl6, zl7, zl8, zl9, zl10, zl11, zl12, zl13, zl14, zl15, zl16, zl17, zl18, zl19, zl20, zl22, zl23, zl24, zl25, zl30, zl31, zl32, zl33, zl34, zl35, zl36, zl37, zl38, zl39, zl40, zl41, zl42, zl43, zl45, zl48, zl49, zl57, zl58, zl59, zl60, zl61, zl62, zl63, zl64, zl91, zl93, zl97, zl98, zl99, zl100, zl113, zl114, zl115, zl116, zl117, zl122, zl124, zl125, zl127, zl128, zl136, zl200, zl201, zl202, zl203, zl204, zl205, zl206, zl207, zl208, zl209, zl210, zl211, zl212, zl213, zl214, zl215, zl216, zl217, zl218, zl219, zl220, zl235, zl236, zl255, zl280, zl287, zl900, zl999, zl1000, zl1001, zl1136, zl1960, zl3000, zl3001, zl3002, zl3003, zl3004, zl3005, zl3006, zl3007, zl3008, zl3009, zl268435456, zl1000000000]), has_n (by omega) (by omega), asleep_C h5 hv hs hg]
    unfold ml
    by_cases c : bits.testBit i = true
    · rw [if_pos c, if_neg (by decide), if_pos c]
      have h58 : ∀ (x : Int32) (P1 : PM), mx 0 (mn 40 x) = nI (fal v s w z g i) → sm (fun o => o == 19 || o == 20) P P1 → ∃ P', j_De_mostAlike_58 (fun z0 z1 z2 z3 z4 z5 Pz => l_De_mostAlike_14 q z0 z1 z2 z3 z4 z5 Pz) (nI w) (nI g) (nI z) (nI bits) (nI mo) (nI i) x P1 = some (nI (ml (fal v s w z g) bits m (i + 1) (fun j => if j = fal v s w z g i then al j + 1 else al j) (max mo (al (fal v s w z g i) + 1))), P') ∧ sm (fun o => o == 19 || o == 20 || o == 35) P P' := by
        intro x P1 hx hs1
        have hf : fal v s w z g i ≤ 40 := tz_le hz
        have ha := h1 (fal v s w z g i)
        have e1 : P1.1 35 (fal v s w z g i) = nI (al (fal v s w z g i)) := by rw [hs1.1 35 rfl]; exact h3 _ (by omega)
        unfold j_De_mostAlike_58 j_De_mostAlike_98
        rw [hx, lb_eq, z_ck (by omega) (by omega), z_ck (by omega) (by omega), z_ck (by omega) (by omega), z_cl (by omega), e1, show (1 : Int32) = nI 1 from rfl, nI_add, u1_1, if_pos ⟨rfl, rfl⟩, mx_n (by omega) (by omega), lb_eq, nI_add]
        have s2 : sm (fun o => o == 19 || o == 20 || o == 35) P (u1 P1 35 (fal v s w z g i) (nI (al (fal v s w z g i) + 1))) := sm_u1 (sm_mono hs1 (fun o q => by simp at q ⊢; exact q.1)) rfl
        obtain ⟨P2, r1, r2⟩ := ih q (i + 1) (max mo (al (fal v s w z g i) + 1)) (fun j => if j = fal v s w z g i then al j + 1 else al j) _ (by omega) (by omega) (fun j => by
          have := h1 j
          show (if j = fal v s w z g i then al j + 1 else al j) ≤ i + 1
          split <;> omega) (by omega) (fun j hj => by
          show (if 35 = 35 ∧ j = fal v s w z g i then nI (al (fal v s w z g i) + 1) else P1.1 35 j) = nI (if j = fal v s w z g i then al j + 1 else al j)
          by_cases e : j = fal v s w z g i
          · rw [if_pos ⟨rfl, e⟩, if_pos e, ← e]
          · rw [if_neg (fun q => e q.2), if_neg e, hs1.1 35 rfl]; exact h3 j hj) (CNet_sm h4 s2 rfl rfl rfl rfl rfl) (CSt_sm h5 s2 rfl rfl)
        exact ⟨P2, r1, sm_trans s2 r2⟩
      have htz := @tz_car v w z g i (sA s)
      by_cases c1 : (sA s).testBit g = true
      · rw [if_pos c1] at htz
        rw [if_pos c1, if_neg (by decide)]
        exact h58 0 P (by unfold fal; rw [htz]; decide) sm_refl
      · rw [if_neg c1] at htz
        obtain ⟨P1, g1, g2⟩ := carried_C (z := z) (d := i) h4 hv hw hg
        rw [if_neg c1, if_pos (by decide), g1, bd2_some]
        refine h58 _ P1 ?_ g2
        unfold fal
        rw [htz]
        cases ec : car v w z g i with
        | none => rfl
        | some r =>
          have := car_le hz ec
          show mx (nI 0) (mn (nI 40) (nI r)) = nI r
          unfold mn
          by_cases e : r < 40
          · rw [if_pos (nI_lt e (by omega)), mx_n (by omega) (by omega), Nat.max_eq_right (by omega)]
          · rw [if_neg (nI_nlt (by omega) (by omega)), mx_n (by omega) (by omega)]
            congr 1
            omega
    · rw [if_neg c, if_pos (by decide), if_neg c]
      unfold j_De_mostAlike_98
      rw [show (1 : Int32) = nI 1 from rfl, nI_add]
      exact ih q (i + 1) mo al P (by omega) (by omega) (fun j => by have := h1 j; omega) (by omega) h3 h4 h5
theorem mostAlike_C {P : PM} {v : NV} {s : SV} {w z g bits : Nat} (hv : NVok v) (hs : SVok v s) (hw : w < 7) (hg : g < 7) (hz : z ≤ 40) (hb : bits < 1024) (h4 : CNet P 14 v) (h5 : CSt P 21 s) :
    ∃ P', f_De_mostAlike (nI w) (nI g) (nI z) (nI bits) P = some (nI (ml (fal v s w z g) bits 10 0 (fun _ => 0) 0), P') ∧ sm (fun o => o == 19 || o == 20 || o == 35) P P' := by
  have hs1 : sm (fun o => o == 19 || o == 20 || o == 35) P (rowI P 35 0 41 (0 : Int32)) := sm_rowI sm_refl rfl
  obtain ⟨P1, g1, g2⟩ := mA_C hv hs hw hg hz hb 10 FU 0 0 (fun _ => 0) (rowI P 35 0 41 (0 : Int32)) (by omega) (by have := FU_big; omega) (fun _ => by omega) (by omega) (fun j hj => by rw [rowI_1, if_pos (by omega)]; rfl) (CNet_sm h4 hs1 rfl rfl rfl rfl rfl) (CSt_sm h5 hs1 rfl rfl)
  refine ⟨P1, ?_, sm_trans hs1 g2⟩
  unfold f_De_mostAlike
  rw [fillAII (by omega), Option.bind_some]
  exact g1
def hsg (v : NV) (g : Nat) : Nat → Bool := fun w => decide (0 < vH v w g)
theorem bT_C {v : NV} {s : SV} {z g bits : Nat} (hv : NVok v) (hs : SVok v s) (hg : g < 7) (hz : z ≤ 40) (hb : bits < 1024) :
    ∀ (m q i : Nat) (b : Option (Nat × Nat)) (P : PM), i + m = vN v → m < q → (∀ r, b = some r → r.1 < 7 ∧ r.2 ≤ 10) → CNet P 14 v → CSt P 21 s →
    ∃ P', l_De_bestToTry_10 q (nI g) (nI z) (nI bits) (oI (b.map Prod.fst)) (lst 11 b) (nI i) P = some (oI ((btt (hsg v g) (fun w => ml (fal v s w z g) bits 10 0 (fun _ => 0) 0) m i b).map Prod.fst), P') ∧ sm (fun o => o == 19 || o == 20 || o == 35) P P' := by
  have hN := hv.1
  intro m
  induction m with
  | zero =>
    intro q i b P hi hq h1 h4 h5
    obtain ⟨q, rfl⟩ : ∃ r, q = r + 1 := ⟨q - 1, by omega⟩
    rw [l_De_bestToTry_10, h4.1, if_pos (nI_le (by omega) (by omega))]
    exact ⟨P, rfl, sm_refl⟩
  | succ m ih =>
    intro q i b P hi hq h1 h4 h5
    obtain ⟨q, rfl⟩ : ∃ r, q = r + 1 := ⟨q - 1, by omega⟩
    have h9 := (hv.2.1 i g).1
    have hml := @ml_le (fal v s i z g) bits 10 0 (fun _ => 0) 0 (fun _ => by omega) (by omega)
    rw [l_De_bestToTry_10, h4.1, if_neg (nI_ge (by omega) (by omega)), hours_C h4 hv (by omega) hg, Option.bind_some]
    unfold btt j_De_bestToTry_49 j_De_bestToTry_66
    rw [show (1 : Int32) = nI 1 from rfl, nI_add]
    by_cases c : vH v i g = 0
    · have hh : ¬ ((hsg v g i && ltb (ml (fal v s i z g) bits 10 0 (fun _ => 0) 0) b) = true) := by
        unfold hsg
        simp [c]
      rw [if_pos (by rw [c]; decide), if_pos (Int32.le_refl _), if_neg hh]
      exact ih q (i + 1) b P (by omega) (by omega) h1 h4 h5
    · obtain ⟨P1, g1, g2⟩ := mostAlike_C (w := i) (z := z) (bits := bits) hv hs (by omega) hg hz hb h4 h5
      have n1 := CNet_sm h4 g2 rfl rfl rfl rfl rfl
      have s1 := CSt_sm h5 g2 rfl rfl
      have hp : hsg v g i = true := by unfold hsg; exact decide_eq_true (by omega)
      rw [if_neg (by simp (disch := omega) only [z_add, z_mul, z_sub, z_subm, z_addm, z_lt_t, z_lt_f, z_le_t, z_le_f, z_eq_t, z_eq_f, z_eqm, z_meq, z_mm, z_ltm, z_mlt, z_lem, z_mle, z_cl, z_ck, u1_1, u1_2, u2_1, u2_2, ↓reduceIte, Option.bind_some, Option.bind_none, bd2_some, lb_eq, and_true, and_false, true_and, false_and, not_true_eq_false, not_false_eq_true, eq_self_iff_true, if_true, if_false, Nat.reduceEqDiff, Nat.reduceAdd, Nat.reduceMul, Nat.reduceSub, Bool.false_eq_true, zl0, zl1, zl2, zl3, zl4, zl5, zl6, zl7, zl8, zl9, zl10, zl11, zl12, zl13, zl14, zl15, zl16, zl17, zl18, zl19, zl20, zl22, zl23, zl24, zl25, zl30, zl31, zl32, zl33, zl34, zl35, zl36, zl37, zl38, zl39, zl40, zl41, zl42, zl43, zl45, zl48, zl49, zl57, zl58, zl59, zl60, zl61, zl62, zl63, zl64, zl91, zl93, zl97, zl98, zl99, zl100, zl113, zl114, zl115, zl116, zl117, zl122, zl124, zl125, zl127, zl128, zl136, zl200, zl201, zl202, zl203, zl204, zl205, zl206, zl207, zl208, zl209, zl210, zl211, zl212, zl213, zl214, zl215, zl216, zl217, zl218, zl219, zl220, zl235, zl236, zl255, zl280, zl287, zl900, zl999, zl1000, zl1001, zl1136, zl1960, zl3000, zl3001, zl3002, zl3003, zl3004, zl3005, zl3006, zl3007, zl3008, zl3009, zl268435456, zl1000000000]), g1, bd2_some]
      by_cases c2 : ltb (ml (fal v s i z g) bits 10 0 (fun _ => 0) 0) b = true
      · have hc : (hsg v g i && ltb (ml (fal v s i z g) bits 10 0 (fun _ => 0) 0) b) = true := by rw [hp, c2]; rfl
        have e : ¬ (lst 11 b) ≤ nI (ml (fal v s i z g) bits 10 0 (fun _ => 0) 0) := by
          cases b with
          | none => exact nI_ge (by omega) (by omega)
          | some r => exact nI_ge (of_decide_eq_true c2) (by have := h1 r rfl; omega)
        rw [if_neg e, if_pos hc]
        obtain ⟨P2, r1, r2⟩ := ih q (i + 1) (some (i, ml (fal v s i z g) bits 10 0 (fun _ => 0) 0)) P1 (by omega) (by omega) (fun r hr => by cases hr; exact ⟨by omega, by omega⟩) n1 s1
        exact ⟨P2, r1, sm_trans g2 r2⟩
      · have hc : ¬ ((hsg v g i && ltb (ml (fal v s i z g) bits 10 0 (fun _ => 0) 0) b) = true) := by rw [hp]; simpa using c2
        have e : (lst 11 b) ≤ nI (ml (fal v s i z g) bits 10 0 (fun _ => 0) 0) := by
          cases b with
          | none => exact absurd rfl c2
          | some r => exact nI_le (Nat.not_lt.mp (fun q => c2 (decide_eq_true q))) (by omega)
        rw [if_pos e, if_neg hc]
        obtain ⟨P2, r1, r2⟩ := ih q (i + 1) b P1 (by omega) (by omega) h1 n1 s1
        exact ⟨P2, r1, sm_trans g2 r2⟩
theorem mA_M {v : NV} {s : SV} {w z g bits : Nat} (hv : NVok v) (hs : SVok v s) (hw : w < 7) (hg : g < 7) (hz : z ≤ 40) (hb : bits < 1024) (x5 : Int32) :
    ∀ (m q i mo : Nat) (al : Nat → Nat) (P : PM), i + m = 10 → m < q → (∀ j, al j ≤ i) → mo ≤ i → (∀ j, j < 41 → P.1 124 j = nI (al j)) → MNet P 110 0 v → P.1 110 116 = nI (sA s) →
    ∃ P', l_Mo_mostOften_41 q (nI w) (nI z) (nI g) (nI bits) x5 (nI mo) (nI i) P = some (nI (ml (fal v s w z g) bits m i al mo), P') ∧ md g P P' ∧ P'.1 110 (117 + g) = x5 := by
  have h7 := pw_le hv.1
  have hA := hs.2.2.2.1
  intro m
  induction m with
  | zero =>
    intro q i mo al P hi hq h1 h2 h3 h4 h5
    obtain ⟨q, rfl⟩ : ∃ r, q = r + 1 := ⟨q - 1, by omega⟩
    obtain rfl : i = 10 := by omega
    rw [l_Mo_mostOften_41, if_pos (by decide), show (117 : Int32) = nI 117 from rfl, nI_add, z_ck (by omega) (by omega), z_cl (by omega)]
    exact ⟨_, rfl, md_u1, by rw [u1_1, if_pos ⟨rfl, rfl⟩]⟩
  | succ m ih =>
    intro q i mo al P hi hq h1 h2 h3 h4 h5
    obtain ⟨q, rfl⟩ : ∃ r, q = r + 1 := ⟨q - 1, by omega⟩
    rw [l_Mo_mostOften_41, if_neg (by simp (disch := omega) only [z_add, z_mul, z_sub, z_subm, z_addm, z_lt_t, z_lt_f, z_le_t, z_le_f, z_eq_t, z_eq_f, z_eqm, z_meq, z_mm, z_ltm, z_mlt, z_lem, z_mle, z_cl, z_ck, u1_1, u1_2, u2_1, u2_2, ↓reduceIte, Option.bind_some, Option.bind_none, bd2_some, lb_eq, and_true, and_false, true_and, false_and, not_true_eq_false, not_false_eq_true, eq_self_iff_true, if_true, if_false, Nat.reduceEqDiff, Nat.reduceAdd, Nat.reduceMul, Nat.reduceSub, Bool.false_eq_true, zl0, zl1, zl2, zl3, zl4, zl5, zl6, zl7, zl8, zl9, zl10, zl11, zl12, zl13, zl14, zl15, zl16, zl17, zl18, zl19, zl20, zl22, zl23, zl24, zl25, zl30, zl31, zl32, zl33, zl34, zl35, zl36, zl37, zl38, zl39, zl40, zl41, zl42, zl43, zl45, zl48, zl49, zl57, zl58, zl59, zl60, zl61, zl62, zl63, zl64, zl91, zl93, zl97, zl98, zl99, zl100, zl113, zl114, zl115, zl116, zl117, zl122, zl124, zl125, zl127, zl128, zl136, zl200, zl201, zl202, zl203, zl204, zl205, zl206, zl207, zl208, zl209, zl210, zl211, zl212, zl213, zl214, zl215, zl216, zl217, zl218, zl219, zl220, zl235, zl236, zl255, zl280, zl287, zl900, zl999, zl1000, zl1001, zl1136, zl1960, zl3000, zl3001, zl3002, zl3003, zl3004, zl3005, zl3006, zl3007, zl3008, zl3009, zl268435456, zl1000000000]), isIn_n hb (by omega)]
    unfold ml
    by_cases c : bits.testBit i = true
    · rw [if_pos c, if_neg (by decide), if_pos c, show (117 : Int32) = nI 117 from rfl, nI_add, z_ck (by omega) (by omega), z_cl (by omega)]
      obtain ⟨P1, hP1⟩ : ∃ P1, P1 = u1 P 110 (117 + g) (nI i) := ⟨_, rfl⟩
      have m1 : md g P P1 := by rw [hP1]; exact md_u1
      have e124 : ∀ P2, sm r14 P1 P2 → ∀ j, P2.1 124 j = P.1 124 j := fun P2 h j => by rw [h.1 124 rfl, hP1, u1_1, if_neg (by omega)]
      have h101 : ∀ (P2 : PM), sm r14 P1 P2 → ∃ P', j_Mo_mostOften_101 (fun z0 z1 z2 z3 z4 z5 z6 Pz => l_Mo_mostOften_41 q z0 z1 z2 z3 z4 z5 z6 Pz) (nI w) (nI z) (nI g) (nI bits) x5 (nI mo) (nI i) (nI (fal v s w z g i)) P2 = some (nI (ml (fal v s w z g) bits m (i + 1) (fun j => if j = fal v s w z g i then al j + 1 else al j) (max mo (al (fal v s w z g i) + 1))), P') ∧ md g P P' ∧ P'.1 110 (117 + g) = x5 := by
        intro P2 hs2
        have hf : fal v s w z g i ≤ 40 := tz_le hz
        have ha := h1 (fal v s w z g i)
        have e1 : P2.1 124 (fal v s w z g i) = nI (al (fal v s w z g i)) := by rw [e124 P2 hs2]; exact h3 _ (by omega)
        have m3 : md g P (u1 P2 124 (fal v s w z g i) (nI (al (fal v s w z g i) + 1))) := md_trans m1 (md_trans (md_14 hs2) md_124)
        obtain ⟨P3, r1, r2, r3⟩ := ih q (i + 1) (max mo (al (fal v s w z g i) + 1)) (fun j => if j = fal v s w z g i then al j + 1 else al j) (u1 P2 124 (fal v s w z g i) (nI (al (fal v s w z g i) + 1))) (by omega) (by omega) (fun j => by
          have := h1 j
          show (if j = fal v s w z g i then al j + 1 else al j) ≤ i + 1
          split <;> omega) (by omega) (fun j hj => by
          show (if 124 = 124 ∧ j = fal v s w z g i then nI (al (fal v s w z g i) + 1) else P2.1 124 j) = nI (if j = fal v s w z g i then al j + 1 else al j)
          by_cases e : j = fal v s w z g i
          · rw [if_pos ⟨rfl, e⟩, if_pos e, ← e]
          · rw [if_neg (fun q => e q.2), if_neg e, e124 P2 hs2]; exact h3 j hj) (MNet_md h4 m3 hg) (by rw [m3.2 116 (by omega)]; exact h5)
        refine ⟨P3, ?_, md_trans m3 r2, r3⟩
        have e2 : (u1 P2 124 (fal v s w z g i) (nI (al (fal v s w z g i) + 1))).1 124 (fal v s w z g i) = nI (al (fal v s w z g i) + 1) := by rw [u1_1, if_pos ⟨rfl, rfl⟩]
        unfold j_Mo_mostOften_101 j_Mo_mostOften_138 j_Mo_mostOften_140
        rw [z_ck (by omega) (by omega), z_ck (by omega) (by omega), z_ck (by omega) (by omega), z_cl (by omega), e1, show (1 : Int32) = nI 1 from rfl, nI_add, e2]
        by_cases e : al (fal v s w z g i) + 1 ≤ mo
        · rw [if_pos (nI_le e (by omega)), nI_add, ← r1, Nat.max_eq_left e]
        · rw [if_neg (nI_ge (by omega) (by omega)), z_ck (by omega) (by omega), nI_add, ← r1, Nat.max_eq_right (by omega)]
      have n1 : MNet P1 110 0 v := MNet_md h4 m1 hg
      have a1 : P1.1 110 (116 : Int32).toNatClampNeg = nI (sA s) := by rw [show (116 : Int32).toNatClampNeg = 116 from rfl, m1.2 116 (by omega)]; exact h5
      have d1 : P1.1 110 (117 + g) = nI i := by rw [hP1, u1_1, if_pos ⟨rfl, rfl⟩]
      obtain ⟨P2, g1, g2⟩ := whyBy_M (z := z) (sl := sA s) n1 hv hw hg d1 (by omega)
      have hwl := @why_lt v w z g i (sA s)
      rw [← hP1, a1, g1, bd2_some]
      by_cases c1 : why v w z g i (sA s) = 0
      · obtain ⟨P3, b1, b2⟩ := passedTo_M (z := z) (MNet_sm n1 g2 rfl) hv hw hg hz (by rw [g2.1 110 rfl]; exact d1)
        have hf : pss v w z g i = fal v s w z g i := by unfold fal tz; rw [if_pos c1]
        rw [if_pos (by rw [c1]; rfl), b1, bd2_some, hf]
        exact h101 P3 (sm_trans g2 b2)
      · have hf : 0 = fal v s w z g i := by unfold fal tz; rw [if_neg c1]
        have := h101 P2 g2
        rw [← hf] at this ⊢
        rw [if_neg (by simp (disch := omega) only [z_add, z_mul, z_sub, z_subm, z_addm, z_lt_t, z_lt_f, z_le_t, z_le_f, z_eq_t, z_eq_f, z_eqm, z_meq, z_mm, z_ltm, z_mlt, z_lem, z_mle, z_cl, z_ck, u1_1, u1_2, u2_1, u2_2, ↓reduceIte, Option.bind_some, Option.bind_none, bd2_some, lb_eq, and_true, and_false, true_and, false_and, not_true_eq_false, not_false_eq_true, eq_self_iff_true, if_true, if_false, Nat.reduceEqDiff, Nat.reduceAdd, Nat.reduceMul, Nat.reduceSub, Bool.false_eq_true, zl0, zl1, zl2, zl3, zl4, zl5, zl6, zl7, zl8, zl9, zl10, zl11, zl12, zl13, zl14, zl15, zl16, zl17, zl18, zl19, zl20, zl22, zl23, zl24, zl25, zl30, zl31, zl32, zl33, zl34, zl35, zl36, zl37, zl38, zl39, zl40, zl41, zl42, zl43, zl45, zl48, zl49, zl57, zl58, zl59, zl60, zl61, zl62, zl63, zl64, zl91, zl93, zl97, zl98, zl99, zl100, zl113, zl114, zl115, zl116, zl117, zl122, zl124, zl125, zl127, zl128, zl136, zl200, zl201, zl202, zl203, zl204, zl205, zl206, zl207, zl208, zl209, zl210, zl211, zl212, zl213, zl214, zl215, zl216, zl217, zl218, zl219, zl220, zl235, zl236, zl255, zl280, zl287, zl900, zl999, zl1000, zl1001, zl1136, zl1960, zl3000, zl3001, zl3002, zl3003, zl3004, zl3005, zl3006, zl3007, zl3008, zl3009, zl268435456, zl1000000000])]
        exact this
    · rw [if_neg c, if_pos (by decide), if_neg c]
      unfold j_Mo_mostOften_140
      rw [show (1 : Int32) = nI 1 from rfl, nI_add]
      exact ih q (i + 1) mo al P (by omega) (by omega) (fun j => by have := h1 j; omega) (by omega) h3 h4 h5
theorem mo0_l (x1 x2 x3 x4 x5 x6 : Int32) : ∀ (m q i : Nat) (P : PM), i + m = 41 → m < q → l_Mo_mostOften_17 q x1 x2 x3 x4 x5 x6 (nI i) P = l_Mo_mostOften_41 FU x1 x2 x3 x4 x5 x6 0 (rowI P 124 i 41 0) := by
  intro m
  induction m with
  | zero =>
    intro q i P hi hq
    obtain ⟨q, rfl⟩ : ∃ r, q = r + 1 := ⟨q - 1, by omega⟩
    obtain rfl : i = 41 := by omega
    rw [l_Mo_mostOften_17, if_pos (by decide), rowI_nil (by omega)]
  | succ m ih =>
    intro q i P hi hq
    obtain ⟨q, rfl⟩ : ∃ r, q = r + 1 := ⟨q - 1, by omega⟩
    rw [l_Mo_mostOften_17, if_neg (by simp (disch := omega) only [z_add, z_mul, z_sub, z_subm, z_addm, z_lt_t, z_lt_f, z_le_t, z_le_f, z_eq_t, z_eq_f, z_eqm, z_meq, z_mm, z_ltm, z_mlt, z_lem, z_mle, z_cl, z_ck, u1_1, u1_2, u2_1, u2_2, ↓reduceIte, Option.bind_some, Option.bind_none, bd2_some, lb_eq, and_true, and_false, true_and, false_and, not_true_eq_false, not_false_eq_true, eq_self_iff_true, if_true, if_false, Nat.reduceEqDiff, Nat.reduceAdd, Nat.reduceMul, Nat.reduceSub, Bool.false_eq_true, zl0, zl1, zl2, zl3, zl4, zl5, zl6, zl7, zl8, zl9, zl10, zl11, zl12, zl13, zl14, zl15, zl16, zl17, zl18, zl19, zl20, zl22, zl23, zl24, zl25, zl30, zl31, zl32, zl33, zl34, zl35, zl36, zl37, zl38, zl39, zl40, zl41, zl42, zl43, zl45, zl48, zl49, zl57, zl58, zl59, zl60, zl61, zl62, zl63, zl64, zl91, zl93, zl97, zl98, zl99, zl100, zl113, zl114, zl115, zl116, zl117, zl122, zl124, zl125, zl127, zl128, zl136, zl200, zl201, zl202, zl203, zl204, zl205, zl206, zl207, zl208, zl209, zl210, zl211, zl212, zl213, zl214, zl215, zl216, zl217, zl218, zl219, zl220, zl235, zl236, zl255, zl280, zl287, zl900, zl999, zl1000, zl1001, zl1136, zl1960, zl3000, zl3001, zl3002, zl3003, zl3004, zl3005, zl3006, zl3007, zl3008, zl3009, zl268435456, zl1000000000]), z_ck (by omega) (by omega), z_cl (by omega), show (1 : Int32) = nI 1 from rfl, nI_add, ih q (i + 1) _ (by omega) (by omega), rowI_u1 (by omega)]
theorem mostOften_M {P : PM} {a : AS} {w z g bits : Nat} (hok : AOk a) (hw : w < 7) (hg : g < 7) (hz : z ≤ 40) (hb : bits < 1024) (hM : MRep P a) :
    ∃ P', f_Mo_mostOften (nI w) (nI z) (nI g) (nI bits) P = some (nI (ml (fal (aV a) (aS a) w z g) bits 10 0 (fun _ => 0) 0), P') ∧ MRep P' a ∧ sm mo P P' := by
  have hd := hM.2.1.2.2.2.2 g hg
  have m0 : md g P (rowI P 124 0 41 0) := ⟨sm_rowI sm_refl rfl, fun j _ => by rw [rowI_1, if_neg (by omega)]⟩
  obtain ⟨P1, g1, g2, g3⟩ := mA_M (bits := bits) hok.1 hok.2.1 hw hg hz hb (P.1 110 (117 + g)) 10 FU 0 0 (fun _ => 0) (rowI P 124 0 41 0) (by omega) (by have := FU_big; omega) (fun _ => by omega) (by omega) (fun j hj => by rw [rowI_1, if_pos (by omega)]; rfl) (MNet_md hM.1 m0 hg) (by rw [m0.2 116 (by omega)]; exact hM.2.1.2.2.2.1)
  refine ⟨P1, ?_, MRep_md hM (md_trans m0 g2) g3, md_mo (md_trans m0 g2)⟩
  unfold f_Mo_mostOften
  rw [show (117 : Int32) = nI 117 from rfl, nI_add, z_ck (by omega) (by omega), z_cl (by omega), lb_eq, show (0 : Int32) = nI 0 from rfl, mo0_l _ _ _ _ _ _ 41 FU 0 P (by omega) (by have := FU_big; omega)]
  exact g1
theorem bT_M {a : AS} {z g bits : Nat} (hok : AOk a) (hg : g < 7) (hz : z ≤ 40) (hb : bits < 1024) (hb0 : bits ≠ 0) :
    ∀ (m q i : Nat) (b : Option (Nat × Nat)) (P : PM), i + m = vN (aV a) → m < q → (∀ r, b = some r → r.1 < 7 ∧ r.2 ≤ 10) → MRep P a →
    ∃ P', l_Mo_attempt_42 q (nI g) (nI z) (nI bits) (oI (b.map Prod.fst)) (lst 268435456 b) (nI i) P = some (oI ((btt (hsg (aV a) g) (fun w => ml (fal (aV a) (aS a) w z g) bits 10 0 (fun _ => 0) 0) m i b).map Prod.fst), P') ∧ MRep P' a ∧ sm mo P P' := by
  have hN := hok.1.1
  intro m
  induction m with
  | zero =>
    intro q i b P hi hq h1 hM
    obtain ⟨q, rfl⟩ : ∃ r, q = r + 1 := ⟨q - 1, by omega⟩
    rw [l_Mo_attempt_42, show P.1 110 (1 : Int32).toNatClampNeg = nI (vN (aV a)) from hM.1.1, if_pos (nI_le (by omega) (by omega))]
    exact ⟨P, rfl, hM, sm_refl⟩
  | succ m ih =>
    intro q i b P hi hq h1 hM
    obtain ⟨q, rfl⟩ : ∃ r, q = r + 1 := ⟨q - 1, by omega⟩
    have h9 := (hok.1.2.1 i g).1
    have hml := @ml_le (fal (aV a) (aS a) i z g) bits 10 0 (fun _ => 0) 0 (fun _ => by omega) (by omega)
    rw [l_Mo_attempt_42, show P.1 110 (1 : Int32).toNatClampNeg = nI (vN (aV a)) from hM.1.1, if_neg (nI_ge (by omega) (by omega)), if_neg (by simp (disch := omega) only [z_add, z_mul, z_sub, z_subm, z_addm, z_lt_t, z_lt_f, z_le_t, z_le_f, z_eq_t, z_eq_f, z_eqm, z_meq, z_mm, z_ltm, z_mlt, z_lem, z_mle, z_cl, z_ck, u1_1, u1_2, u2_1, u2_2, ↓reduceIte, Option.bind_some, Option.bind_none, bd2_some, lb_eq, and_true, and_false, true_and, false_and, not_true_eq_false, not_false_eq_true, eq_self_iff_true, if_true, if_false, Nat.reduceEqDiff, Nat.reduceAdd, Nat.reduceMul, Nat.reduceSub, Bool.false_eq_true, zl0, zl1, zl2, zl3, zl4, zl5, zl6, zl7, zl8, zl9, zl10, zl11, zl12, zl13, zl14, zl15, zl16, zl17, zl18, zl19, zl20, zl22, zl23, zl24, zl25, zl30, zl31, zl32, zl33, zl34, zl35, zl36, zl37, zl38, zl39, zl40, zl41, zl42, zl43, zl45, zl48, zl49, zl57, zl58, zl59, zl60, zl61, zl62, zl63, zl64, zl91, zl93, zl97, zl98, zl99, zl100, zl113, zl114, zl115, zl116, zl117, zl122, zl124, zl125, zl127, zl128, zl136, zl200, zl201, zl202, zl203, zl204, zl205, zl206, zl207, zl208, zl209, zl210, zl211, zl212, zl213, zl214, zl215, zl216, zl217, zl218, zl219, zl220, zl235, zl236, zl255, zl280, zl287, zl900, zl999, zl1000, zl1001, zl1136, zl1960, zl3000, zl3001, zl3002, zl3003, zl3004, zl3005, zl3006, zl3007, zl3008, zl3009, zl268435456, zl1000000000]), hours_M hM.1 (by omega) hg, Option.bind_some]
    unfold btt j_Mo_attempt_101
    rw [show (1 : Int32) = nI 1 from rfl, nI_add]
    by_cases c : vH (aV a) i g = 0
    · have hh : ¬ ((hsg (aV a) g i && ltb (ml (fal (aV a) (aS a) i z g) bits 10 0 (fun _ => 0) 0) b) = true) := by
        unfold hsg
        simp [c]
      rw [if_pos (by rw [c]; rfl), if_neg hh]
      exact ih q (i + 1) b P (by omega) (by omega) h1 hM
    · obtain ⟨P1, g1, g2, g3⟩ := mostOften_M (w := i) (z := z) (g := g) (bits := bits) hok (by omega) hg hz hb hM
      have hp : hsg (aV a) g i = true := by unfold hsg; exact decide_eq_true (by omega)
      rw [if_neg (by simp (disch := omega) only [z_add, z_mul, z_sub, z_subm, z_addm, z_lt_t, z_lt_f, z_le_t, z_le_f, z_eq_t, z_eq_f, z_eqm, z_meq, z_mm, z_ltm, z_mlt, z_lem, z_mle, z_cl, z_ck, u1_1, u1_2, u2_1, u2_2, ↓reduceIte, Option.bind_some, Option.bind_none, bd2_some, lb_eq, and_true, and_false, true_and, false_and, not_true_eq_false, not_false_eq_true, eq_self_iff_true, if_true, if_false, Nat.reduceEqDiff, Nat.reduceAdd, Nat.reduceMul, Nat.reduceSub, Bool.false_eq_true, zl0, zl1, zl2, zl3, zl4, zl5, zl6, zl7, zl8, zl9, zl10, zl11, zl12, zl13, zl14, zl15, zl16, zl17, zl18, zl19, zl20, zl22, zl23, zl24, zl25, zl30, zl31, zl32, zl33, zl34, zl35, zl36, zl37, zl38, zl39, zl40, zl41, zl42, zl43, zl45, zl48, zl49, zl57, zl58, zl59, zl60, zl61, zl62, zl63, zl64, zl91, zl93, zl97, zl98, zl99, zl100, zl113, zl114, zl115, zl116, zl117, zl122, zl124, zl125, zl127, zl128, zl136, zl200, zl201, zl202, zl203, zl204, zl205, zl206, zl207, zl208, zl209, zl210, zl211, zl212, zl213, zl214, zl215, zl216, zl217, zl218, zl219, zl220, zl235, zl236, zl255, zl280, zl287, zl900, zl999, zl1000, zl1001, zl1136, zl1960, zl3000, zl3001, zl3002, zl3003, zl3004, zl3005, zl3006, zl3007, zl3008, zl3009, zl268435456, zl1000000000]), g1, bd2_some]
      by_cases c2 : ltb (ml (fal (aV a) (aS a) i z g) bits 10 0 (fun _ => 0) 0) b = true
      · have hc : (hsg (aV a) g i && ltb (ml (fal (aV a) (aS a) i z g) bits 10 0 (fun _ => 0) 0) b) = true := by rw [hp, c2]; rfl
        have e : nI (ml (fal (aV a) (aS a) i z g) bits 10 0 (fun _ => 0) 0) < (lst 268435456 b) := by
          cases b with
          | none => exact nI_lt (by omega) (by omega)
          | some r => exact nI_lt (of_decide_eq_true c2) (by have := h1 r rfl; omega)
        rw [if_pos e, if_pos hc]
        obtain ⟨P2, r1, r2, r3⟩ := ih q (i + 1) (some (i, ml (fal (aV a) (aS a) i z g) bits 10 0 (fun _ => 0) 0)) P1 (by omega) (by omega) (fun r hr => by cases hr; exact ⟨by omega, by omega⟩) g2
        exact ⟨P2, r1, r2, sm_trans g3 r3⟩
      · have hc : ¬ ((hsg (aV a) g i && ltb (ml (fal (aV a) (aS a) i z g) bits 10 0 (fun _ => 0) 0) b) = true) := by rw [hp]; simpa using c2
        have e : ¬ nI (ml (fal (aV a) (aS a) i z g) bits 10 0 (fun _ => 0) 0) < (lst 268435456 b) := by
          cases b with
          | none => exact absurd rfl c2
          | some r => exact nI_nlt (Nat.not_lt.mp (fun q => c2 (decide_eq_true q))) (by omega)
        rw [if_neg e, if_neg hc]
        obtain ⟨P2, r1, r2, r3⟩ := ih q (i + 1) b P1 (by omega) (by omega) h1 g2
        exact ⟨P2, r1, r2, sm_trans g3 r3⟩
theorem attempt_ok {P : PM} {a : AS} {x g y : Int32} (hC : CRep P a) (hM : MRep P a) (hca : CCa P (aV a)) (hok : AOk a) :
    ∃ v P1 P2, f_Yr_attempt x g y P = some (v, P1) ∧ f_Mo_attempt x g y P1 = some (v, P2) ∧ Inv P2 := by
  have hN := hok.1.1
  obtain ⟨r, hr, hf⟩ := rfT_C (x := x) (g := g) (y := y) hC hok
  have hfM : ∀ P, MRep P a → f_Mo_noDulls x g y P = some r := fun P hM => by
    obtain ⟨r', hr', hf'⟩ := rfT_M (x := x) (g := g) (y := y) hM hok
    rw [rfT_u hok hr hr']; exact hf'
  rcases rfT_0 hok hr with ⟨k, j, l, w, hk, rfl, hj, rfl, rfl, h1, h40, h10, ht, hw, hwN, rfl⟩ | ⟨c, c1, c2, rfl⟩
  · obtain ⟨B, hB⟩ : ∃ B, B = bo (dls (aV a) (aS a) (fun i => ((aT a k).2.2 i).toInt.toNat) (aT a k).2.1 w j l) 10 := ⟨_, rfl⟩
    have hBl := bo_lt (dls (aV a) (aS a) (fun i => ((aT a k).2.2 i).toInt.toNat) (aT a k).2.1 w j l) 10
    rw [← hB] at hBl
    have hBl : B < 1024 := hBl
    refine join (r := if B = 0 then -nI 1 else oI ((btt (hsg (aV a) j) (fun w => ml (fal (aV a) (aS a) w l j) B 10 0 (fun _ => 0) 0) (vN (aV a)) 0 none).map Prod.fst)) (a' := a) hM ?_ (fun P hM => ?_) hok
    · obtain ⟨P1, g1, g2⟩ := dls_C (nm := fun i => ((aT a k).2.2 i).toInt.toNat) hok.1 hk (by omega) (nm_ex hok.1 ht) (show j < 7 by omega) hok.2.1 hw (by omega) h1 h40 10 FU 0 P (by omega) (by have := FU_big; omega) hC.1 hC.2.2.2.1 hC.2.1
      rw [← hB] at g1
      obtain ⟨q1, q2, q3⟩ := c1920 hC hca g2
      unfold f_Yr_attempt
      rw [hf, Option.bind_some, if_pos (by decide), show f_De_dullsTold (nI k) (nI j) (nI l) P = some (nI B, P1) from g1, bd2_some]
      by_cases c : B = 0
      · rw [if_pos (by rw [c]; rfl), if_pos c]
        exact ⟨P1, rfl, q1, q2, q3⟩
      · obtain ⟨P2, r1, r2⟩ := bT_C (z := l) (g := j) (bits := B) hok.1 hok.2.1 (by omega) h40 hBl (vN (aV a)) FU 0 none P1 (by omega) (by have := FU_big; omega) (fun r hr => by cases hr) q1.1 q1.2.1
        rw [if_neg (by simp (disch := omega) only [z_add, z_mul, z_sub, z_subm, z_addm, z_lt_t, z_lt_f, z_le_t, z_le_f, z_eq_t, z_eq_f, z_eqm, z_meq, z_mm, z_ltm, z_mlt, z_lem, z_mle, z_cl, z_ck, u1_1, u1_2, u2_1, u2_2, ↓reduceIte, Option.bind_some, Option.bind_none, bd2_some, lb_eq, and_true, and_false, true_and, false_and, not_true_eq_false, not_false_eq_true, eq_self_iff_true, if_true, if_false, Nat.reduceEqDiff, Nat.reduceAdd, Nat.reduceMul, Nat.reduceSub, Bool.false_eq_true, zl0, zl1, zl2, zl3, zl4, zl5, zl6, zl7, zl8, zl9, zl10, zl11, zl12, zl13, zl14, zl15, zl16, zl17, zl18, zl19, zl20, zl22, zl23, zl24, zl25, zl30, zl31, zl32, zl33, zl34, zl35, zl36, zl37, zl38, zl39, zl40, zl41, zl42, zl43, zl45, zl48, zl49, zl57, zl58, zl59, zl60, zl61, zl62, zl63, zl64, zl91, zl93, zl97, zl98, zl99, zl100, zl113, zl114, zl115, zl116, zl117, zl122, zl124, zl125, zl127, zl128, zl136, zl200, zl201, zl202, zl203, zl204, zl205, zl206, zl207, zl208, zl209, zl210, zl211, zl212, zl213, zl214, zl215, zl216, zl217, zl218, zl219, zl220, zl235, zl236, zl255, zl280, zl287, zl900, zl999, zl1000, zl1001, zl1136, zl1960, zl3000, zl3001, zl3002, zl3003, zl3004, zl3005, zl3006, zl3007, zl3008, zl3009, zl268435456, zl1000000000]), if_neg c, show f_De_bestToTry (nI j) (nI l) (nI B) P1 = _ from r1]
        refine ⟨P2, rfl, CRep_ce q1 (ce_sm r2 (fun o e => by simp [esr] at e; simp; omega) (by rw [r2.1 31 rfl]) (by rw [r2.1 31 rfl])), CCa_ro q2 (r2.1 59 rfl) (r2.1 60 rfl), sm_trans q3 (sm_mono r2 (fun o ho => by simp [cl] at ho; simp; omega))⟩
    · have hM1 : MRep (u1 P 109 0 (0 : Int32)) a := MRep_me hM me_th
      obtain ⟨P1, g1, g2, g3⟩ := dullsOf_M hM1 hok hk hj h1 h40 h10 ht hw hwN
      rw [← hB] at g1
      unfold f_Mo_attempt
      rw [hfM _ hM1, Option.bind_some, if_pos (by decide), g1, bd2_some]
      by_cases c : B = 0
      · rw [if_pos c, c]
        obtain ⟨n, hn⟩ : ∃ n, FU = n + 1 := ⟨FU - 1, by have := FU_big; omega⟩
        refine ⟨P1, ?_, g2, sm_trans sm_th g3⟩
        rw [hn, l_Mo_attempt_42]
        split
        · rfl
        · rw [if_pos (by decide)]; rfl
      · obtain ⟨P2, r1, r2, r3⟩ := bT_M (z := l) (g := j) (bits := B) hok (by omega) h40 hBl c (vN (aV a)) FU 0 none P1 (by omega) (by have := FU_big; omega) (fun r hr => by cases hr) g2
        rw [if_neg c]
        exact ⟨P2, r1, r2, sm_trans sm_th (sm_trans g3 r3)⟩
  · refine join (r := -nI c) (a' := a) hM ⟨P, ?_, hC, hca, sm_refl⟩ (fun P hM => ⟨u1 P 109 0 (0 : Int32), ?_, MRep_me hM me_th, sm_th⟩) hok
    · unfold f_Yr_attempt
      rw [hf, Option.bind_some, if_neg (by simp (disch := omega) only [z_add, z_mul, z_sub, z_subm, z_addm, z_lt_t, z_lt_f, z_le_t, z_le_f, z_eq_t, z_eq_f, z_eqm, z_meq, z_mm, z_ltm, z_mlt, z_lem, z_mle, z_cl, z_ck, u1_1, u1_2, u2_1, u2_2, ↓reduceIte, Option.bind_some, Option.bind_none, bd2_some, lb_eq, and_true, and_false, true_and, false_and, not_true_eq_false, not_false_eq_true, eq_self_iff_true, if_true, if_false, Nat.reduceEqDiff, Nat.reduceAdd, Nat.reduceMul, Nat.reduceSub, Bool.false_eq_true, zl0, zl1, zl2, zl3, zl4, zl5, zl6, zl7, zl8, zl9, zl10, zl11, zl12, zl13, zl14, zl15, zl16, zl17, zl18, zl19, zl20, zl22, zl23, zl24, zl25, zl30, zl31, zl32, zl33, zl34, zl35, zl36, zl37, zl38, zl39, zl40, zl41, zl42, zl43, zl45, zl48, zl49, zl57, zl58, zl59, zl60, zl61, zl62, zl63, zl64, zl91, zl93, zl97, zl98, zl99, zl100, zl113, zl114, zl115, zl116, zl117, zl122, zl124, zl125, zl127, zl128, zl136, zl200, zl201, zl202, zl203, zl204, zl205, zl206, zl207, zl208, zl209, zl210, zl211, zl212, zl213, zl214, zl215, zl216, zl217, zl218, zl219, zl220, zl235, zl236, zl255, zl280, zl287, zl900, zl999, zl1000, zl1001, zl1136, zl1960, zl3000, zl3001, zl3002, zl3003, zl3004, zl3005, zl3006, zl3007, zl3008, zl3009, zl268435456, zl1000000000])]
    · unfold f_Mo_attempt
      rw [hfM _ (MRep_me hM me_th), Option.bind_some, if_neg (by simp (disch := omega) only [z_add, z_mul, z_sub, z_subm, z_addm, z_lt_t, z_lt_f, z_le_t, z_le_f, z_eq_t, z_eq_f, z_eqm, z_meq, z_mm, z_ltm, z_mlt, z_lem, z_mle, z_cl, z_ck, u1_1, u1_2, u2_1, u2_2, ↓reduceIte, Option.bind_some, Option.bind_none, bd2_some, lb_eq, and_true, and_false, true_and, false_and, not_true_eq_false, not_false_eq_true, eq_self_iff_true, if_true, if_false, Nat.reduceEqDiff, Nat.reduceAdd, Nat.reduceMul, Nat.reduceSub, Bool.false_eq_true, zl0, zl1, zl2, zl3, zl4, zl5, zl6, zl7, zl8, zl9, zl10, zl11, zl12, zl13, zl14, zl15, zl16, zl17, zl18, zl19, zl20, zl22, zl23, zl24, zl25, zl30, zl31, zl32, zl33, zl34, zl35, zl36, zl37, zl38, zl39, zl40, zl41, zl42, zl43, zl45, zl48, zl49, zl57, zl58, zl59, zl60, zl61, zl62, zl63, zl64, zl91, zl93, zl97, zl98, zl99, zl100, zl113, zl114, zl115, zl116, zl117, zl122, zl124, zl125, zl127, zl128, zl136, zl200, zl201, zl202, zl203, zl204, zl205, zl206, zl207, zl208, zl209, zl210, zl211, zl212, zl213, zl214, zl215, zl216, zl217, zl218, zl219, zl220, zl235, zl236, zl255, zl280, zl287, zl900, zl999, zl1000, zl1001, zl1136, zl1960, zl3000, zl3001, zl3002, zl3003, zl3004, zl3005, zl3006, zl3007, zl3008, zl3009, zl268435456, zl1000000000])]
