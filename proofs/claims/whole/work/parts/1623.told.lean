/-! told routes: dulls, attempt -/
noncomputable def tz (v : NV) (w z t d sl : Nat) : Nat := if why v w z t d sl = 0 then pss v w z t d else 0
noncomputable def tS (v : NV) (dl : Nat → Nat) (sl : Nat) (nm : Nat → Nat) : Nat → Nat → Nat → Nat → Nat
  | 0, _, _, z => z
  | m + 1, i, w, z => if z = 0 then 0 else tS v dl sl nm m (i + 1) (nm i) (tz v w z (nm i) (dl (nm i)) sl)
theorem tz_le {v : NV} {w z t d sl : Nat} (hz : z ≤ 40) : tz v w z t d sl ≤ 40 := by
  unfold tz
  split
  · exact pss_le hz
  · omega
theorem tz_car {v : NV} {w z t d sl : Nat} : tz v w z t d sl = if sl.testBit t = true then 0 else (car v w z t d).getD 0 := by
  unfold tz why car
  by_cases h0 : vH v w t = 0
  · simp [h0]
  · by_cases h1 : sl.testBit t = true
    · simp [h0, h1]
    · by_cases h2 : tks v w z t d = true
      · simp [h0, h1, h2]
      · simp [h0, h1, h2]
theorem isz01 : isz (nI 0) = true ∧ isz (nI 1) = true := by decide
theorem tS_C {v : NV} {s : SV} {t : TV} {k g n : Nat} {nm : Nat → Nat} (hv : NVok v) (hk : k < 4) (h40 : (t k).2.1 ≤ 40) (hnm : ∀ i, i < (t k).2.1 → (t k).2.2 i = lN (nm i) ∧ nm i < vN v) (hg : g < 7) (hn : n < 10) (hs : SVok v s) :
    ∀ (m q i w z : Nat) (x : Int32) (P : PM), i + m = (t k).2.1 → m < q → w < 7 → z ≤ 40 → (x = nI z ∨ z = 0 ∧ x = -nI 1) → CNet P 14 v → CTr P t → CSt P 21 s →
    ∃ y P', l_De_sizeTold_21 q (nI k) (nI g) (nI n) (nI w) x (nI i) P = some (y, P') ∧ (y = nI (tS v (fun j => if j = g then n else sD s j) (sA s) nm m i w z) ∨ tS v (fun j => if j = g then n else sD s j) (sA s) nm m i w z = 0 ∧ y = -nI 1) ∧ sm (fun o => o == 19 || o == 20) P P' := by
  have hN := hv.1
  intro m
  induction m with
  | zero =>
    intro q i w z x P hi hq hw hz hx h1 h2 h3
    obtain ⟨q, rfl⟩ : ∃ r, q = r + 1 := ⟨q - 1, by omega⟩
    rw [l_De_sizeTold_21, len_C h2 hk, Option.bind_some, if_pos (nI_le (by omega) (by omega))]
    exact ⟨x, P, rfl, hx, sm_refl⟩
  | succ m ih =>
    intro q i w z x P hi hq hw hz hx h1 h2 h3
    obtain ⟨q, rfl⟩ : ∃ r, q = r + 1 := ⟨q - 1, by omega⟩
    rw [l_De_sizeTold_21, len_C h2 hk, Option.bind_some, if_neg (nI_ge (by omega) (by omega))]
    by_cases c0 : z = 0
    · have e : tS v (fun j => if j = g then n else sD s j) (sA s) nm (m + 1) i w z = 0 := by rw [tS, if_pos c0]
      rw [e]
      refine ⟨x, P, ?_, ?_, sm_refl⟩
      · rcases hx with rfl | ⟨_, rfl⟩
        · rw [if_pos (by rw [c0]; decide)]
        · rw [if_pos (by decide)]
      · rcases hx with rfl | ⟨_, rfl⟩
        · left; rw [c0]
        · exact Or.inr ⟨rfl, rfl⟩
    · obtain rfl : x = nI z := hx.resolve_right (fun q => c0 q.1)
      obtain ⟨e1, e2⟩ := hnm i (by omega)
      have hcar := fun k h => @car_le v w z (nm i) (if nm i = g then n else sD s (nm i)) k hz h
      have e : tS v (fun j => if j = g then n else sD s j) (sA s) nm (m + 1) i w z = tS v (fun j => if j = g then n else sD s j) (sA s) nm m (i + 1) (nm i) (tz v w z (nm i) (if nm i = g then n else sD s (nm i)) (sA s)) := by rw [tS, if_neg c0]
      rw [if_neg (by simp (disch := omega) only [z_add, z_mul, z_sub, z_subm, z_addm, z_lt_t, z_lt_f, z_le_t, z_le_f, z_eq_t, z_eq_f, z_eqm, z_meq, z_mm, z_ltm, z_mlt, z_lem, z_mle, z_cl, z_ck, u1_1, u1_2, u2_1, u2_2, ↓reduceIte, Option.bind_some, Option.bind_none, bd2_some, lb_eq, and_true, and_false, true_and, false_and, not_true_eq_false, not_false_eq_true, eq_self_iff_true, if_true, if_false, Nat.reduceEqDiff, Nat.reduceAdd, Nat.reduceMul, Nat.reduceSub, Bool.false_eq_true, zl0, zl1, zl2, zl3, zl4, zl5, zl6, zl7, zl8, zl9, zl10, zl11, zl12, zl13, zl14, zl15, zl16, zl17, zl18, zl19, zl20, zl22, zl23, zl24, zl25, zl30, zl31, zl32, zl33, zl34, zl35, zl36, zl37, zl38, zl39, zl40, zl41, zl42, zl43, zl45, zl48, zl49, zl57, zl58, zl59, zl60, zl61, zl62, zl63, zl64, zl91, zl93, zl97, zl98, zl99, zl100, zl113, zl114, zl115, zl116, zl117, zl122, zl124, zl125, zl127, zl128, zl136, zl200, zl201, zl202, zl203, zl204, zl205, zl206, zl207, zl208, zl209, zl210, zl211, zl212, zl213, zl214, zl215, zl216, zl217, zl218, zl219, zl220, zl235, zl236, zl255, zl280, zl287, zl900, zl999, zl1000, zl1001, zl1136, zl1960, zl3000, zl3001, zl3002, zl3003, zl3004, zl3005, zl3006, zl3007, zl3008, zl3009, zl268435456, zl1000000000]), num_C h2 hk (by omega) (by omega), Option.bind_some, e1, lb_eq, lN_i, e]
      have h71 : ∀ d, d = (if nm i = g then n else sD s (nm i)) → ∃ y P', j_De_sizeTold_71 (fun z0 z1 z2 z3 z4 z5 Pz => l_De_sizeTold_21 q z0 z1 z2 z3 z4 z5 Pz) (nI k) (nI g) (nI n) (nI w) (nI z) (nI i) (nI (nm i)) (nI d) P = some (y, P') ∧ (y = nI (tS v (fun j => if j = g then n else sD s j) (sA s) nm m (i + 1) (nm i) (tz v w z (nm i) (if nm i = g then n else sD s (nm i)) (sA s))) ∨ tS v (fun j => if j = g then n else sD s j) (sA s) nm m (i + 1) (nm i) (tz v w z (nm i) (if nm i = g then n else sD s (nm i)) (sA s)) = 0 ∧ y = -nI 1) ∧ sm (fun o => o == 19 || o == 20) P P' := by
        intro d hd
        unfold j_De_sizeTold_71 j_De_sizeTold_104
        rw [asleep_C h3 hv hs (by omega), show (1 : Int32) = nI 1 from rfl, nI_add]
        have htz := @tz_car v w z (nm i) (if nm i = g then n else sD s (nm i)) (sA s)
        by_cases c1 : (sA s).testBit (nm i) = true
        · rw [if_pos c1] at htz
          rw [if_pos c1, if_neg (by decide), htz]
          exact ih q (i + 1) (nm i) 0 _ P (by omega) (by omega) (by omega) (by omega) (Or.inr ⟨rfl, rfl⟩) h1 h2 h3
        · rw [if_neg c1] at htz
          obtain ⟨P1, g1, g2⟩ := carried_C (z := z) (d := d) h1 hv hw (show nm i < 7 by omega)
          have n1 : CNet P1 14 v := CNet_sm h1 g2 rfl rfl rfl rfl rfl
          have t1 : CTr P1 t := CTr_sm h2 g2 rfl rfl (fun j hj => by simp; omega)
          have s1 : CSt P1 21 s := CSt_sm h3 g2 rfl rfl
          rw [if_neg c1, if_pos (by decide), g1, bd2_some, htz, hd]
          have : ∃ y P', l_De_sizeTold_21 q (nI k) (nI g) (nI n) (nI (nm i)) (oI (car v w z (nm i) (if nm i = g then n else sD s (nm i)))) (nI (i + 1)) P1 = some (y, P') ∧ (y = nI (tS v (fun j => if j = g then n else sD s j) (sA s) nm m (i + 1) (nm i) ((car v w z (nm i) (if nm i = g then n else sD s (nm i))).getD 0)) ∨ tS v (fun j => if j = g then n else sD s j) (sA s) nm m (i + 1) (nm i) ((car v w z (nm i) (if nm i = g then n else sD s (nm i))).getD 0) = 0 ∧ y = -nI 1) ∧ sm (fun o => o == 19 || o == 20) P1 P' := by
            cases ec : car v w z (nm i) (if nm i = g then n else sD s (nm i)) with
            | none => exact ih q (i + 1) (nm i) 0 _ P1 (by omega) (by omega) (by omega) (by omega) (Or.inr ⟨rfl, rfl⟩) n1 t1 s1
            | some r => exact ih q (i + 1) (nm i) r _ P1 (by omega) (by omega) (by omega) (hcar r ec) (Or.inl rfl) n1 t1 s1
          obtain ⟨y, P', r1, r2, r3⟩ := this
          exact ⟨y, P', r1, r2, sm_trans g2 r3⟩
      by_cases c2 : nm i = g
      · rw [if_pos (by rw [c2])]
        exact h71 n (by rw [if_pos c2])
      · rw [if_neg (by simp (disch := omega) only [z_add, z_mul, z_sub, z_subm, z_addm, z_lt_t, z_lt_f, z_le_t, z_le_f, z_eq_t, z_eq_f, z_eqm, z_meq, z_mm, z_ltm, z_mlt, z_lem, z_mle, z_cl, z_ck, u1_1, u1_2, u2_1, u2_2, ↓reduceIte, Option.bind_some, Option.bind_none, bd2_some, lb_eq, and_true, and_false, true_and, false_and, not_true_eq_false, not_false_eq_true, eq_self_iff_true, if_true, if_false, Nat.reduceEqDiff, Nat.reduceAdd, Nat.reduceMul, Nat.reduceSub, Bool.false_eq_true, zl0, zl1, zl2, zl3, zl4, zl5, zl6, zl7, zl8, zl9, zl10, zl11, zl12, zl13, zl14, zl15, zl16, zl17, zl18, zl19, zl20, zl22, zl23, zl24, zl25, zl30, zl31, zl32, zl33, zl34, zl35, zl36, zl37, zl38, zl39, zl40, zl41, zl42, zl43, zl45, zl48, zl49, zl57, zl58, zl59, zl60, zl61, zl62, zl63, zl64, zl91, zl93, zl97, zl98, zl99, zl100, zl113, zl114, zl115, zl116, zl117, zl122, zl124, zl125, zl127, zl128, zl136, zl200, zl201, zl202, zl203, zl204, zl205, zl206, zl207, zl208, zl209, zl210, zl211, zl212, zl213, zl214, zl215, zl216, zl217, zl218, zl219, zl220, zl235, zl236, zl255, zl280, zl287, zl900, zl999, zl1000, zl1001, zl1136, zl1960, zl3000, zl3001, zl3002, zl3003, zl3004, zl3005, zl3006, zl3007, zl3008, zl3009, zl268435456, zl1000000000]), dullOf_C h3 (by omega), Option.bind_some]
        exact h71 _ (by rw [if_neg c2])
theorem tS_M {v : NV} {t : TV} {k sl : Nat} {dl nm : Nat → Nat} (hv : NVok v) (hk : k < 4) (h40 : (t k).2.1 ≤ 40) (hnm : ∀ i, i < (t k).2.1 → (t k).2.2 i = lN (nm i) ∧ nm i < vN v) (hsl : sl < 1024) :
    ∀ (m q i w z : Nat) (P : PM), i + m = (t k).2.1 → m < q → w < 7 → z ≤ 40 → MNet P 110 0 v → MTr P t → (∀ j, j < 7 → P.1 110 (117 + j) = nI (dl j)) → P.1 110 116 = nI sl →
    ∃ P', l_Mo_toldSize_19 q (nI k) (nI w) (nI z) (nI i) P = some (nI (tS v dl sl nm m i w z), P') ∧ sm r14 P P' := by
  have hN := hv.1
  intro m
  induction m with
  | zero =>
    intro q i w z P hi hq hw hz h1 h2 h3 h4
    obtain ⟨q, rfl⟩ : ∃ r, q = r + 1 := ⟨q - 1, by omega⟩
    rw [l_Mo_toldSize_19, z_ck (by omega) (by omega), z_cl (by omega), (h2 k hk).2.1, if_pos (nI_le (by omega) (by omega))]
    exact ⟨P, rfl, sm_refl⟩
  | succ m ih =>
    intro q i w z P hi hq hw hz h1 h2 h3 h4
    obtain ⟨q, rfl⟩ : ∃ r, q = r + 1 := ⟨q - 1, by omega⟩
    rw [l_Mo_toldSize_19, z_ck (by omega) (by omega), z_cl (by omega), (h2 k hk).2.1, if_neg (nI_ge (by omega) (by omega))]
    by_cases c0 : z = 0
    · rw [if_pos (by rw [c0]; decide), tS, if_pos c0, c0]
      exact ⟨P, rfl, sm_refl⟩
    · obtain ⟨e1, e2⟩ := hnm i (by omega)
      have hcell := (h2 k hk).2.2 i (by omega)
      obtain ⟨P1, g1, g2⟩ := whyBy_M (z := z) (sl := sl) h1 hv hw (show nm i < 7 by omega) (h3 _ (by omega)) hsl
      have hwl := @why_lt v w z (nm i) (dl (nm i)) sl
      have n1 : MNet P1 110 0 v := MNet_sm h1 g2 rfl
      have t1 : MTr P1 t := MTr_sm h2 g2 rfl rfl rfl
      have d1 : ∀ j, j < 7 → P1.1 110 (117 + j) = nI (dl j) := fun j hj => by rw [g2.1 110 rfl]; exact h3 j hj
      have a1 : P1.1 110 116 = nI sl := by rw [g2.1 110 rfl]; exact h4
      rw [if_neg (by simp (disch := omega) only [z_add, z_mul, z_sub, z_subm, z_addm, z_lt_t, z_lt_f, z_le_t, z_le_f, z_eq_t, z_eq_f, z_eqm, z_meq, z_mm, z_ltm, z_mlt, z_lem, z_mle, z_cl, z_ck, u1_1, u1_2, u2_1, u2_2, ↓reduceIte, Option.bind_some, Option.bind_none, bd2_some, lb_eq, and_true, and_false, true_and, false_and, not_true_eq_false, not_false_eq_true, eq_self_iff_true, if_true, if_false, Nat.reduceEqDiff, Nat.reduceAdd, Nat.reduceMul, Nat.reduceSub, Bool.false_eq_true, zl0, zl1, zl2, zl3, zl4, zl5, zl6, zl7, zl8, zl9, zl10, zl11, zl12, zl13, zl14, zl15, zl16, zl17, zl18, zl19, zl20, zl22, zl23, zl24, zl25, zl30, zl31, zl32, zl33, zl34, zl35, zl36, zl37, zl38, zl39, zl40, zl41, zl42, zl43, zl45, zl48, zl49, zl57, zl58, zl59, zl60, zl61, zl62, zl63, zl64, zl91, zl93, zl97, zl98, zl99, zl100, zl113, zl114, zl115, zl116, zl117, zl122, zl124, zl125, zl127, zl128, zl136, zl200, zl201, zl202, zl203, zl204, zl205, zl206, zl207, zl208, zl209, zl210, zl211, zl212, zl213, zl214, zl215, zl216, zl217, zl218, zl219, zl220, zl235, zl236, zl255, zl280, zl287, zl900, zl999, zl1000, zl1001, zl1136, zl1960, zl3000, zl3001, zl3002, zl3003, zl3004, zl3005, zl3006, zl3007, zl3008, zl3009, zl268435456, zl1000000000]), show (40 : Int32) = nI 40 from rfl, pk_mul, nI_add, z_ck (by omega) (by omega), z_cl (by omega), hcell, e1, lb_eq, lN_i, show P.1 110 (116 : Int32).toNatClampNeg = nI sl from h4, g1, bd2_some, tS, if_neg c0]
      unfold j_Mo_toldSize_79
      by_cases c : why v w z (nm i) (dl (nm i)) sl = 0
      · obtain ⟨P2, b1, b2⟩ := passedTo_M (z := z) n1 hv hw (show nm i < 7 by omega) hz (d1 _ (by omega))
        obtain ⟨P3, r1, r2⟩ := ih q (i + 1) (nm i) (tz v w z (nm i) (dl (nm i)) sl) P2 (by omega) (by omega) (by omega) (tz_le hz) (MNet_sm n1 b2 rfl) (MTr_sm t1 b2 rfl rfl rfl) (fun j hj => by rw [b2.1 110 rfl]; exact d1 j hj) (by rw [b2.1 110 rfl]; exact a1)
        have etz : tz v w z (nm i) (dl (nm i)) sl = pss v w z (nm i) (dl (nm i)) := if_pos c
        rw [if_pos (by rw [c]; rfl), b1, bd2_some, ← etz, show (1 : Int32) = nI 1 from rfl, nI_add]
        exact ⟨P3, r1, sm_trans g2 (sm_trans b2 r2)⟩
      · obtain ⟨P3, r1, r2⟩ := ih q (i + 1) (nm i) (tz v w z (nm i) (dl (nm i)) sl) P1 (by omega) (by omega) (by omega) (tz_le hz) n1 t1 d1 a1
        have etz : tz v w z (nm i) (dl (nm i)) sl = 0 := if_neg c
        rw [etz] at r1 ⊢
        rw [if_neg (by simp (disch := omega) only [z_add, z_mul, z_sub, z_subm, z_addm, z_lt_t, z_lt_f, z_le_t, z_le_f, z_eq_t, z_eq_f, z_eqm, z_meq, z_mm, z_ltm, z_mlt, z_lem, z_mle, z_cl, z_ck, u1_1, u1_2, u2_1, u2_2, ↓reduceIte, Option.bind_some, Option.bind_none, bd2_some, lb_eq, and_true, and_false, true_and, false_and, not_true_eq_false, not_false_eq_true, eq_self_iff_true, if_true, if_false, Nat.reduceEqDiff, Nat.reduceAdd, Nat.reduceMul, Nat.reduceSub, Bool.false_eq_true, zl0, zl1, zl2, zl3, zl4, zl5, zl6, zl7, zl8, zl9, zl10, zl11, zl12, zl13, zl14, zl15, zl16, zl17, zl18, zl19, zl20, zl22, zl23, zl24, zl25, zl30, zl31, zl32, zl33, zl34, zl35, zl36, zl37, zl38, zl39, zl40, zl41, zl42, zl43, zl45, zl48, zl49, zl57, zl58, zl59, zl60, zl61, zl62, zl63, zl64, zl91, zl93, zl97, zl98, zl99, zl100, zl113, zl114, zl115, zl116, zl117, zl122, zl124, zl125, zl127, zl128, zl136, zl200, zl201, zl202, zl203, zl204, zl205, zl206, zl207, zl208, zl209, zl210, zl211, zl212, zl213, zl214, zl215, zl216, zl217, zl218, zl219, zl220, zl235, zl236, zl255, zl280, zl287, zl900, zl999, zl1000, zl1001, zl1136, zl1960, zl3000, zl3001, zl3002, zl3003, zl3004, zl3005, zl3006, zl3007, zl3008, zl3009, zl268435456, zl1000000000]), show (1 : Int32) = nI 1 from rfl, nI_add]
        exact ⟨P3, r1, sm_trans g2 r2⟩
/-- which dullnesses of g -/
noncomputable def dls (v : NV) (s : SV) (nm : Nat → Nat) (len w g y : Nat) : Nat → Bool := fun n => decide (tS v (fun j => if j = g then n else sD s j) (sA s) nm len 0 w (sZ s) = y)
theorem dls_C {v : NV} {s : SV} {t : TV} {k g w y : Nat} {nm : Nat → Nat} (hv : NVok v) (hk : k < 4) (h40 : (t k).2.1 ≤ 40) (hnm : ∀ i, i < (t k).2.1 → (t k).2.2 i = lN (nm i) ∧ nm i < vN v) (hg : g < 7) (hs : SVok v s) (hw : sW s = some w) (hw7 : w < 7) (hy1 : 1 ≤ y) (hy : y ≤ 40) :
    ∀ (m q n : Nat) (P : PM), n + m = 10 → m < q → CNet P 14 v → CTr P t → CSt P 21 s →
    ∃ P', l_De_dullsTold_6 q (nI k) (nI g) (nI y) (nI (bo (dls v s nm (t k).2.1 w g y) n)) (nI n) P = some (nI (bo (dls v s nm (t k).2.1 w g y) 10), P') ∧ sm (fun o => o == 19 || o == 20) P P' := by
  intro m
  induction m with
  | zero =>
    intro q n P hi hq h1 h2 h3
    obtain ⟨q, rfl⟩ : ∃ r, q = r + 1 := ⟨q - 1, by omega⟩
    obtain rfl : n = 10 := by omega
    rw [l_De_dullsTold_6, if_pos (by decide)]
    exact ⟨P, rfl, sm_refl⟩
  | succ m ih =>
    intro q n P hi hq h1 h2 h3
    obtain ⟨q, rfl⟩ : ∃ r, q = r + 1 := ⟨q - 1, by omega⟩
    obtain ⟨x, P1, g1, g2, g3⟩ := tS_C hv hk h40 hnm hg (show n < 10 by omega) hs (t k).2.1 FU 0 w (sZ s) (nI (sZ s)) P (by omega) (by have := FU_big; omega) hw7 hs.2.2.1 (Or.inl rfl) h1 h2 h3
    have e1 : f_De_sizeTold (nI k) (nI g) (nI n) P = some (x, P1) := by
      unfold f_De_sizeTold
      rw [h3.1, hw, oI_s, h3.2.1]
      exact g1
    have hz : ∀ (a b c d : Nat) , d ≤ 40 → tS v (fun j => if j = g then n else sD s j) (sA s) nm a b c d ≤ 40 := by
      intro a
      induction a with
      | zero => intro b c d hd; exact hd
      | succ a iha =>
        intro b c d hd
        rw [tS]
        split
        · omega
        · exact iha _ _ _ (tz_le hd)
    have hz0 := hz (t k).2.1 0 w (sZ s) hs.2.2.1
    obtain ⟨P2, r1, r2⟩ := ih q (n + 1) P1 (by omega) (by omega) (CNet_sm h1 g3 rfl rfl rfl rfl rfl) (CTr_sm h2 g3 rfl rfl (fun j hj => by simp; omega)) (CSt_sm h3 g3 rfl rfl)
    rw [bo_s] at r1
    rw [l_De_dullsTold_6, if_neg (by simp (disch := omega) only [z_add, z_mul, z_sub, z_subm, z_addm, z_lt_t, z_lt_f, z_le_t, z_le_f, z_eq_t, z_eq_f, z_eqm, z_meq, z_mm, z_ltm, z_mlt, z_lem, z_mle, z_cl, z_ck, u1_1, u1_2, u2_1, u2_2, ↓reduceIte, Option.bind_some, Option.bind_none, bd2_some, lb_eq, and_true, and_false, true_and, false_and, not_true_eq_false, not_false_eq_true, eq_self_iff_true, if_true, if_false, Nat.reduceEqDiff, Nat.reduceAdd, Nat.reduceMul, Nat.reduceSub, Bool.false_eq_true, zl0, zl1, zl2, zl3, zl4, zl5, zl6, zl7, zl8, zl9, zl10, zl11, zl12, zl13, zl14, zl15, zl16, zl17, zl18, zl19, zl20, zl22, zl23, zl24, zl25, zl30, zl31, zl32, zl33, zl34, zl35, zl36, zl37, zl38, zl39, zl40, zl41, zl42, zl43, zl45, zl48, zl49, zl57, zl58, zl59, zl60, zl61, zl62, zl63, zl64, zl91, zl93, zl97, zl98, zl99, zl100, zl113, zl114, zl115, zl116, zl117, zl122, zl124, zl125, zl127, zl128, zl136, zl200, zl201, zl202, zl203, zl204, zl205, zl206, zl207, zl208, zl209, zl210, zl211, zl212, zl213, zl214, zl215, zl216, zl217, zl218, zl219, zl220, zl235, zl236, zl255, zl280, zl287, zl900, zl999, zl1000, zl1001, zl1136, zl1960, zl3000, zl3001, zl3002, zl3003, zl3004, zl3005, zl3006, zl3007, zl3008, zl3009, zl268435456, zl1000000000]), e1, bd2_some]
    unfold j_De_dullsTold_35
    by_cases c : tS v (fun j => if j = g then n else sD s j) (sA s) nm (t k).2.1 0 w (sZ s) = y
    · have hx : x = nI y := by
        rcases g2 with h | ⟨h, _⟩
        · rw [h, c]
        · omega
      rw [if_pos (by unfold dls; exact decide_eq_true c)] at r1
      rw [if_pos hx, lb_eq, sh_1 n (by omega), nx_or, show (1 : Int32) = nI 1 from rfl, nI_add]
      exact ⟨P2, r1, sm_trans g3 r2⟩
    · have hx : ¬ x = nI y := by
        rcases g2 with h | ⟨_, h⟩
        · rw [h]; simp (disch := omega) only [z_add, z_mul, z_sub, z_subm, z_addm, z_lt_t, z_lt_f, z_le_t, z_le_f, z_eq_t, z_eq_f, z_eqm, z_meq, z_mm, z_ltm, z_mlt, z_lem, z_mle, z_cl, z_ck, u1_1, u1_2, u2_1, u2_2, ↓reduceIte, Option.bind_some, Option.bind_none, bd2_some, lb_eq, and_true, and_false, true_and, false_and, not_true_eq_false, not_false_eq_true, eq_self_iff_true, if_true, if_false, Nat.reduceEqDiff, Nat.reduceAdd, Nat.reduceMul, Nat.reduceSub, Bool.false_eq_true, zl0, zl1, zl2, zl3, zl4, zl5, zl6, zl7, zl8, zl9, zl10, zl11, zl12, zl13, zl14, zl15, zl16, zl17, zl18, zl19, zl20, zl22, zl23, zl24, zl25, zl30, zl31, zl32, zl33, zl34, zl35, zl36, zl37, zl38, zl39, zl40, zl41, zl42, zl43, zl45, zl48, zl49, zl57, zl58, zl59, zl60, zl61, zl62, zl63, zl64, zl91, zl93, zl97, zl98, zl99, zl100, zl113, zl114, zl115, zl116, zl117, zl122, zl124, zl125, zl127, zl128, zl136, zl200, zl201, zl202, zl203, zl204, zl205, zl206, zl207, zl208, zl209, zl210, zl211, zl212, zl213, zl214, zl215, zl216, zl217, zl218, zl219, zl220, zl235, zl236, zl255, zl280, zl287, zl900, zl999, zl1000, zl1001, zl1136, zl1960, zl3000, zl3001, zl3002, zl3003, zl3004, zl3005, zl3006, zl3007, zl3008, zl3009, zl268435456, zl1000000000]
        · rw [h]; simp (disch := omega) only [z_add, z_mul, z_sub, z_subm, z_addm, z_lt_t, z_lt_f, z_le_t, z_le_f, z_eq_t, z_eq_f, z_eqm, z_meq, z_mm, z_ltm, z_mlt, z_lem, z_mle, z_cl, z_ck, u1_1, u1_2, u2_1, u2_2, ↓reduceIte, Option.bind_some, Option.bind_none, bd2_some, lb_eq, and_true, and_false, true_and, false_and, not_true_eq_false, not_false_eq_true, eq_self_iff_true, if_true, if_false, Nat.reduceEqDiff, Nat.reduceAdd, Nat.reduceMul, Nat.reduceSub, Bool.false_eq_true, zl0, zl1, zl2, zl3, zl4, zl5, zl6, zl7, zl8, zl9, zl10, zl11, zl12, zl13, zl14, zl15, zl16, zl17, zl18, zl19, zl20, zl22, zl23, zl24, zl25, zl30, zl31, zl32, zl33, zl34, zl35, zl36, zl37, zl38, zl39, zl40, zl41, zl42, zl43, zl45, zl48, zl49, zl57, zl58, zl59, zl60, zl61, zl62, zl63, zl64, zl91, zl93, zl97, zl98, zl99, zl100, zl113, zl114, zl115, zl116, zl117, zl122, zl124, zl125, zl127, zl128, zl136, zl200, zl201, zl202, zl203, zl204, zl205, zl206, zl207, zl208, zl209, zl210, zl211, zl212, zl213, zl214, zl215, zl216, zl217, zl218, zl219, zl220, zl235, zl236, zl255, zl280, zl287, zl900, zl999, zl1000, zl1001, zl1136, zl1960, zl3000, zl3001, zl3002, zl3003, zl3004, zl3005, zl3006, zl3007, zl3008, zl3009, zl268435456, zl1000000000]
      rw [if_neg (by unfold dls; rw [decide_eq_true_eq]; exact c), Nat.or_zero] at r1
      rw [if_neg hx, lb_eq, show (0 : Int32) = nI 0 from rfl, nx_or, Nat.or_zero, show (1 : Int32) = nI 1 from rfl, nI_add]
      exact ⟨P2, r1, sm_trans g3 r2⟩
/-- the reference's memory with another dullness of g -/
def md (g : Nat) (P P' : PM) : Prop := sm (fun o => o == 110 || o == 114 || o == 115 || o == 124) P P' ∧ ∀ j, j ≠ 117 + g → P'.1 110 j = P.1 110 j
theorem md_refl {g : Nat} {P : PM} : md g P P := ⟨sm_refl, fun _ _ => rfl⟩
theorem md_trans {g : Nat} {P P' P'' : PM} (h : md g P P') (q : md g P' P'') : md g P P'' := ⟨sm_trans h.1 q.1, fun j r => (q.2 j r).trans (h.2 j r)⟩
theorem md_14 {g : Nat} {P P' : PM} (h : sm r14 P P') : md g P P' := ⟨sm_mono h (fun o q => by simp at q; simp [r14]; omega), fun j _ => by rw [h.1 110 rfl]⟩
theorem md_u1 {g : Nat} {P : PM} {x : Int32} : md g P (u1 P 110 (117 + g) x) := ⟨sm_u1 sm_refl rfl, fun j q => by rw [u1_1, if_neg (fun c => q c.2)]⟩
theorem md_124 {g : Nat} {P : PM} {i : Nat} {x : Int32} : md g P (u1 P 124 i x) := ⟨sm_u1 sm_refl rfl, fun j q => by rw [u1_1, if_neg (by omega)]⟩
theorem MNet_md {P P' : PM} {v : NV} {g : Nat} (h : MNet P 110 0 v) (q : md g P P') (hg : g < 7) : MNet P' 110 0 v := MNet_ix h (fun j hj => q.2 _ (by omega))
theorem MTr_md {P P' : PM} {t : TV} {g : Nat} (h : MTr P t) (q : md g P P') : MTr P' t := MTr_sm h q.1 rfl rfl rfl
theorem MRep_md {P P' : PM} {a : AS} {g : Nat} (h : MRep P a) (q : md g P P') (e : P'.1 110 (117 + g) = P.1 110 (117 + g)) : MRep P' a := by
  have e110 : P'.1 110 = P.1 110 := by
    funext j
    by_cases c : j = 117 + g
    · rw [c, e]
    · exact q.2 j c
  refine MRep_me h ⟨fun o ho => ?_, q.1.2 129 rfl, by rw [q.1.1 109 rfl], by rw [q.1.1 109 rfl], by rw [q.1.1 109 rfl]⟩
  by_cases c : o = 110
  · rw [c]; exact e110
  · exact q.1.1 o (by simp [msr] at ho; simp; omega)
theorem md_mo {P P' : PM} {g : Nat} (q : md g P P') : sm mo P P' := sm_mono q.1 (fun o ho => by simp [mo] at ho; simp; omega)
theorem dls_M {v : NV} {s : SV} {t : TV} {k g w y : Nat} {nm : Nat → Nat} (hv : NVok v) (hk : k < 4) (h40 : (t k).2.1 ≤ 40) (hnm : ∀ i, i < (t k).2.1 → (t k).2.2 i = lN (nm i) ∧ nm i < vN v) (hg : g < 7) (hs : SVok v s) (hw : sW s = some w) (hw7 : w < 7) (hy1 : 1 ≤ y) (hy : y ≤ 40) (x4 : Int32) :
    ∀ (m q n : Nat) (P : PM), n + m = 10 → m < q → MNet P 110 0 v → MTr P t → (∀ j, j < 117 + g ∨ 117 + g < j → j < 124 → 113 ≤ j → ∀ P0 : PM, MSt P0 110 113 s → P.1 110 j = P0.1 110 j) →
    ∃ P', l_Mo_dullsOf_17 q (nI k) (nI g) (nI y) x4 (nI (bo (dls v s nm (t k).2.1 w g y) n)) (nI n) P = some (nI (bo (dls v s nm (t k).2.1 w g y) 10), P') ∧ md g P P' ∧ P'.1 110 (117 + g) = x4 := by
  have hN := hv.1
  have h7 := pw_le hv.1
  intro m
  induction m with
  | zero =>
    intro q n P hi hq h1 h2 h3
    obtain ⟨q, rfl⟩ : ∃ r, q = r + 1 := ⟨q - 1, by omega⟩
    obtain rfl : n = 10 := by omega
    rw [l_Mo_dullsOf_17, if_pos (by decide), show (117 : Int32) = nI 117 from rfl, nI_add, z_ck (by omega) (by omega), z_cl (by omega)]
    exact ⟨_, rfl, md_u1, by rw [u1_1, if_pos ⟨rfl, rfl⟩]⟩
  | succ m ih =>
    intro q n P hi hq h1 h2 h3
    obtain ⟨q, rfl⟩ : ∃ r, q = r + 1 := ⟨q - 1, by omega⟩
    obtain ⟨P1, hP1⟩ : ∃ P1, P1 = u1 P 110 (117 + g) (nI n) := ⟨_, rfl⟩
    have m1 : md g P P1 := by rw [hP1]; exact md_u1
    have hP0 : MSt (fun _ j => if j = 113 then oI (sW s) else if j = 114 then nI (sZ s) else if j = 115 then sH s else if j = 116 then nI (sA s) else nI (sD s (j - 117)), fun _ _ => 0) 110 113 s := by
      refine ⟨by simp, by simp, by simp, by simp, fun i hi => ?_⟩
      show (if 113 + 4 + i = 113 then _ else _) = _
      rw [if_neg (by omega), if_neg (by omega), if_neg (by omega), if_neg (by omega), show 113 + 4 + i - 117 = i by omega]
    have c113 : P1.1 110 113 = nI w := by
      rw [m1.2 113 (by omega), h3 113 (by omega) (by omega) (by omega) _ hP0]
      simp [hw, oI_s]
    have c114 : P1.1 110 114 = nI (sZ s) := by
      rw [m1.2 114 (by omega), h3 114 (by omega) (by omega) (by omega) _ hP0]
      simp
    have c116 : P1.1 110 116 = nI (sA s) := by
      rw [m1.2 116 (by omega), h3 116 (by omega) (by omega) (by omega) _ hP0]
      simp
    have cd : ∀ j, j < 7 → P1.1 110 (117 + j) = nI ((fun j => if j = g then n else sD s j) j) := by
      intro j hj
      by_cases c : j = g
      · subst c
        rw [hP1, u1_1, if_pos ⟨rfl, rfl⟩]
        simp
      · rw [m1.2 _ (by omega), h3 _ (by omega) (by omega) (by omega) _ hP0]
        simp only [c, if_false]
        rw [if_neg (by omega), if_neg (by omega), if_neg (by omega), if_neg (by omega), show 117 + j - 117 = j by omega]
    obtain ⟨P2, g1, g2⟩ := tS_M hv hk h40 hnm (show sA s < 1024 by have := hs.2.2.2.1; omega) (t k).2.1 FU 0 w (sZ s) P1 (by omega) (by have := FU_big; omega) hw7 hs.2.2.1 (MNet_md h1 m1 hg) (MTr_md h2 m1) cd c116
    have e1 : f_Mo_toldSize (nI k) P1 = some (nI (tS v (fun j => if j = g then n else sD s j) (sA s) nm (t k).2.1 0 w (sZ s)), P2) := by
      unfold f_Mo_toldSize
      rw [show P1.1 110 (113 : Int32).toNatClampNeg = nI w from c113, show P1.1 110 (114 : Int32).toNatClampNeg = nI (sZ s) from c114]
      exact g1
    have m2 : md g P P2 := md_trans m1 (md_14 g2)
    obtain ⟨P3, r1, r2, r3⟩ := ih q (n + 1) P2 (by omega) (by omega) (MNet_md h1 m2 hg) (MTr_md h2 m2) (fun j a b c P0 hP => by rw [m2.2 j (by omega)]; exact h3 j a b c P0 hP)
    have hz : ∀ (a b c d : Nat) , d ≤ 40 → tS v (fun j => if j = g then n else sD s j) (sA s) nm a b c d ≤ 40 := by
      intro a
      induction a with
      | zero => intro b c d hd; exact hd
      | succ a iha =>
        intro b c d hd
        rw [tS]
        split
        · omega
        · exact iha _ _ _ (tz_le hd)
    have hz0 := hz (t k).2.1 0 w (sZ s) hs.2.2.1
    rw [bo_s] at r1
    rw [l_Mo_dullsOf_17, if_neg (by simp (disch := omega) only [z_add, z_mul, z_sub, z_subm, z_addm, z_lt_t, z_lt_f, z_le_t, z_le_f, z_eq_t, z_eq_f, z_eqm, z_meq, z_mm, z_ltm, z_mlt, z_lem, z_mle, z_cl, z_ck, u1_1, u1_2, u2_1, u2_2, ↓reduceIte, Option.bind_some, Option.bind_none, bd2_some, lb_eq, and_true, and_false, true_and, false_and, not_true_eq_false, not_false_eq_true, eq_self_iff_true, if_true, if_false, Nat.reduceEqDiff, Nat.reduceAdd, Nat.reduceMul, Nat.reduceSub, Bool.false_eq_true, zl0, zl1, zl2, zl3, zl4, zl5, zl6, zl7, zl8, zl9, zl10, zl11, zl12, zl13, zl14, zl15, zl16, zl17, zl18, zl19, zl20, zl22, zl23, zl24, zl25, zl30, zl31, zl32, zl33, zl34, zl35, zl36, zl37, zl38, zl39, zl40, zl41, zl42, zl43, zl45, zl48, zl49, zl57, zl58, zl59, zl60, zl61, zl62, zl63, zl64, zl91, zl93, zl97, zl98, zl99, zl100, zl113, zl114, zl115, zl116, zl117, zl122, zl124, zl125, zl127, zl128, zl136, zl200, zl201, zl202, zl203, zl204, zl205, zl206, zl207, zl208, zl209, zl210, zl211, zl212, zl213, zl214, zl215, zl216, zl217, zl218, zl219, zl220, zl235, zl236, zl255, zl280, zl287, zl900, zl999, zl1000, zl1001, zl1136, zl1960, zl3000, zl3001, zl3002, zl3003, zl3004, zl3005, zl3006, zl3007, zl3008, zl3009, zl268435456, zl1000000000]), show (117 : Int32) = nI 117 from rfl, nI_add, z_ck (by omega) (by omega), z_cl (by omega), ← hP1, e1, bd2_some]
    unfold j_Mo_dullsOf_54
    by_cases c : tS v (fun j => if j = g then n else sD s j) (sA s) nm (t k).2.1 0 w (sZ s) = y
    · rw [if_pos (by unfold dls; exact decide_eq_true c)] at r1
      rw [if_pos (by rw [c]), lb_eq, sh_1 n (by omega), nx_or, show (1 : Int32) = nI 1 from rfl, nI_add]
      exact ⟨P3, r1, md_trans m2 r2, r3⟩
    · rw [if_neg (by unfold dls; rw [decide_eq_true_eq]; exact c), Nat.or_zero] at r1
      rw [if_neg (by simp (disch := omega) only [z_add, z_mul, z_sub, z_subm, z_addm, z_lt_t, z_lt_f, z_le_t, z_le_f, z_eq_t, z_eq_f, z_eqm, z_meq, z_mm, z_ltm, z_mlt, z_lem, z_mle, z_cl, z_ck, u1_1, u1_2, u2_1, u2_2, ↓reduceIte, Option.bind_some, Option.bind_none, bd2_some, lb_eq, and_true, and_false, true_and, false_and, not_true_eq_false, not_false_eq_true, eq_self_iff_true, if_true, if_false, Nat.reduceEqDiff, Nat.reduceAdd, Nat.reduceMul, Nat.reduceSub, Bool.false_eq_true, zl0, zl1, zl2, zl3, zl4, zl5, zl6, zl7, zl8, zl9, zl10, zl11, zl12, zl13, zl14, zl15, zl16, zl17, zl18, zl19, zl20, zl22, zl23, zl24, zl25, zl30, zl31, zl32, zl33, zl34, zl35, zl36, zl37, zl38, zl39, zl40, zl41, zl42, zl43, zl45, zl48, zl49, zl57, zl58, zl59, zl60, zl61, zl62, zl63, zl64, zl91, zl93, zl97, zl98, zl99, zl100, zl113, zl114, zl115, zl116, zl117, zl122, zl124, zl125, zl127, zl128, zl136, zl200, zl201, zl202, zl203, zl204, zl205, zl206, zl207, zl208, zl209, zl210, zl211, zl212, zl213, zl214, zl215, zl216, zl217, zl218, zl219, zl220, zl235, zl236, zl255, zl280, zl287, zl900, zl999, zl1000, zl1001, zl1136, zl1960, zl3000, zl3001, zl3002, zl3003, zl3004, zl3005, zl3006, zl3007, zl3008, zl3009, zl268435456, zl1000000000]), lb_eq, show (0 : Int32) = nI 0 from rfl, nx_or, Nat.or_zero, show (1 : Int32) = nI 1 from rfl, nI_add]
      exact ⟨P3, r1, md_trans m2 r2, r3⟩
