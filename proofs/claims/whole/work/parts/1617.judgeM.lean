/-! told deeds: the reference; judge and perform as calls -/
theorem win {k : Nat} {P : PM} (a b : Int64) (x y : Nat) (hk : k < 2000) (ha : a.toInt = x) (hb : b.toInt = y) : f_Mo_within (lN k) a b P = if x ≤ k ∧ k ≤ y then nI 1 else nI 0 := by
  rw [within_i, ha, hb, lN_ti (by omega)]
  by_cases c : x ≤ k ∧ k ≤ y
  · rw [if_pos c, if_pos (by omega)]
  · rw [if_neg c, if_neg (by omega)]
theorem isStN_M {P : PM} {N k : Nat} (h : P.1 110 1 = nI N) (hN : N ≤ 7) (hk : k < 2000) : f_Mo_isStation (lN k) P = some (if k < N then nI 1 else nI 0) := by
  rw [isStation_M _ h hN, lN_ti (by omega)]
  by_cases c : k < N
  · rw [if_pos c, if_pos (by omega)]
  · rw [if_neg c, if_neg (by omega)]
theorem whyNot_M {P : PM} {v : NV} {s : SV} (z : Int64) (hn : MNet P 110 0 v) (hv : NVok v) (h : MSt P 110 113 s) (hs : SVok v s) :
    ∃ P', f_Mo_whyNot z P = some (nI (dd v s z).1, P') ∧ sm (fun o => o == 114 || o == 115) P P' := by
  have hN := hv.1
  rcases l_cases z with ⟨k, hk, rfl⟩ | hz
  · have hdd : dd v s (lN k) = dk v s k := by
      unfold dd
      rw [lN_ti (by omega), if_pos (by omega)]
      rfl
    rw [hdd]
    unfold f_Mo_whyNot
    rw [win 0 9 0 9 hk rfl rfl, win 10 19 10 19 hk rfl rfl, win 100 199 100 199 hk rfl rfl, win 1000 1999 1000 1999 hk rfl rfl]
    unfold dk
    by_cases h1 : k < 10
    · have e1 : (if 0 ≤ k ∧ k ≤ 9 then nI 1 else nI 0) = nI 1 := if_pos (by omega)
      rw [e1, if_neg (by decide), if_pos h1]
      obtain ⟨P', g1, g2⟩ := whyPass_M hn hv h hs (show k < 100 by omega)
      exact ⟨P', by rw [g1]; rfl, g2⟩
    have e1 : (if 0 ≤ k ∧ k ≤ 9 then nI 1 else nI 0) = nI 0 := if_neg (by omega)
    rw [e1, if_pos (by decide), if_neg h1]
    by_cases h2 : k < 20
    · have e2 : (if 10 ≤ k ∧ k ≤ 19 then nI 1 else nI 0) = nI 1 := if_pos (by omega)
      rw [e2, if_neg (by decide), if_pos h2, show (10 : Int64) = lN 10 from rfl, lN_sub (by omega), isStN_M hn.1 hN (by omega)]
      refine ⟨P, ?_, sm_refl⟩
      unfold asl
      by_cases c : k - 10 < vN v
      · rw [if_pos c, if_pos c]; rfl
      · rw [if_neg c, if_neg c]; rfl
    have e2 : (if 10 ≤ k ∧ k ≤ 19 then nI 1 else nI 0) = nI 0 := if_neg (by omega)
    rw [e2, if_pos (by decide), if_neg h2]
    by_cases h5 : 100 ≤ k ∧ k < 200
    · have e3 : (if 100 ≤ k ∧ k ≤ 199 then nI 1 else nI 0) = nI 1 := if_pos (by omega)
      rw [e3, if_neg (by decide), if_neg (by omega), if_pos h5, show (100 : Int64) = lN 100 from rfl, lN_sub (by omega), show (10 : Int64) = lN 10 from rfl, pk_lDiv (by omega) (by omega) (by omega), isStN_M hn.1 hN (by omega)]
      refine ⟨P, ?_, sm_refl⟩
      unfold adl
      by_cases c : (k - 100) / 10 < vN v
      · rw [if_pos c, if_pos ⟨c, by omega⟩]; rfl
      · rw [if_neg c, if_neg (fun q => c q.1)]; rfl
    have e3 : (if 100 ≤ k ∧ k ≤ 199 then nI 1 else nI 0) = nI 0 := if_neg (by omega)
    rw [e3, if_pos (by decide)]
    by_cases h3 : 1000 ≤ k
    · have e4 : (if 1000 ≤ k ∧ k ≤ 1999 then nI 1 else nI 0) = nI 1 := if_pos (by omega)
      rw [e4, if_neg (by decide), if_pos h3, show (1000 : Int64) = lN 1000 from rfl, lN_sub (by omega), show (100 : Int64) = lN 100 from rfl, pk_lDiv (by omega) (by omega) (by omega), isStN_M hn.1 hN (by omega), pk_lRem (by omega) (by omega) (by omega), isSize_M, lN_ti (by omega)]
      refine ⟨P, ?_, sm_refl⟩
      by_cases c : (k - 1000) / 100 < vN v
      · rw [if_pos c, Option.bind_some, if_neg (by decide)]
        by_cases c2 : 1 ≤ k % 100 ∧ k % 100 ≤ 40
        · have e5 : (if (1 : Int) ≤ ((k % 100 : Nat) : Int) ∧ ((k % 100 : Nat) : Int) ≤ 40 then nI 1 else nI 0) = nI 1 := if_pos (by omega)
          have e6 : (aof v s ((k - 1000) / 100) (k % 100)).1 = 0 := by unfold aof; rw [if_pos ⟨c, c2⟩]
          rw [e5, e6]; rfl
        · have e5 : (if (1 : Int) ≤ ((k % 100 : Nat) : Int) ∧ ((k % 100 : Nat) : Int) ≤ 40 then nI 1 else nI 0) = nI 0 := if_neg (by omega)
          have e6 : (aof v s ((k - 1000) / 100) (k % 100)).1 = 1 := by unfold aof; rw [if_neg (fun q => c2 q.2)]
          rw [e5, e6]; rfl
      · have e6 : (aof v s ((k - 1000) / 100) (k % 100)).1 = 1 := by unfold aof; rw [if_neg (fun q => c q.1)]
        rw [if_neg c, e6]; rfl
    · have e4 : (if 1000 ≤ k ∧ k ≤ 1999 then nI 1 else nI 0) = nI 0 := if_neg (by omega)
      rw [e4, if_pos (by decide), if_neg h3, if_neg h5]
      exact ⟨P, rfl, sm_refl⟩
  · have hdd : dd v s z = (1, s) := by
      unfold dd
      rw [if_neg hz]
    rw [hdd]
    refine ⟨P, ?_, sm_refl⟩
    unfold f_Mo_whyNot
    rw [within_i, within_i, within_i, within_i, show (0 : Int64).toInt = 0 from rfl, show (9 : Int64).toInt = 9 from rfl, show (10 : Int64).toInt = 10 from rfl, show (19 : Int64).toInt = 19 from rfl, show (100 : Int64).toInt = 100 from rfl, show (199 : Int64).toInt = 199 from rfl, show (1000 : Int64).toInt = 1000 from rfl, show (1999 : Int64).toInt = 1999 from rfl]
    have e1 : (if 0 ≤ z.toInt ∧ z.toInt ≤ 9 then nI 1 else nI 0) = nI 0 := if_neg (by omega)
    have e2 : (if 10 ≤ z.toInt ∧ z.toInt ≤ 19 then nI 1 else nI 0) = nI 0 := if_neg (by omega)
    have e3 : (if 100 ≤ z.toInt ∧ z.toInt ≤ 199 then nI 1 else nI 0) = nI 0 := if_neg (by omega)
    have e4 : (if 1000 ≤ z.toInt ∧ z.toInt ≤ 1999 then nI 1 else nI 0) = nI 0 := if_neg (by omega)
    rw [e1, e2, e3, e4, if_pos (by decide), if_pos (by decide), if_pos (by decide), if_pos (by decide)]
    rfl
theorem does_M {P : PM} {v : NV} {s : SV} {k : Nat} (hn : MNet P 110 0 v) (hv : NVok v) (h : MSt P 110 113 s) (hs : SVok v s) (hk : k < 2000) (h0 : (dk v s k).1 = 0) :
    ∃ P', f_Mo_does (nI k) P = some P' ∧ MSt P' 110 113 (dk v s k).2 ∧ mj P P' := by
  have hN := hv.1
  unfold f_Mo_does
  unfold dk at *
  by_cases h1 : k < 10
  · rw [if_pos h1] at h0
    rw [if_neg (by simp (disch := omega) only [z_add, z_mul, z_sub, z_subm, z_addm, z_lt_t, z_lt_f, z_le_t, z_le_f, z_eq_t, z_eq_f, z_eqm, z_meq, z_mm, z_ltm, z_mlt, z_lem, z_mle, z_cl, z_ck, u1_1, u1_2, u2_1, u2_2, ↓reduceIte, Option.bind_some, Option.bind_none, bd2_some, lb_eq, and_true, and_false, true_and, false_and, not_true_eq_false, not_false_eq_true, eq_self_iff_true, if_true, if_false, Nat.reduceEqDiff, Nat.reduceAdd, Nat.reduceMul, Nat.reduceSub, Bool.false_eq_true, zl0, zl1, zl2, zl3, zl4, zl5, zl6, zl7, zl8, zl9, zl10, zl11, zl12, zl13, zl14, zl15, zl16, zl17, zl18, zl19, zl20, zl22, zl23, zl24, zl25, zl30, zl31, zl32, zl33, zl34, zl35, zl36, zl37, zl38, zl39, zl40, zl41, zl42, zl43, zl45, zl48, zl49, zl57, zl58, zl59, zl60, zl61, zl62, zl63, zl64, zl91, zl93, zl97, zl98, zl99, zl100, zl113, zl114, zl115, zl116, zl117, zl122, zl124, zl125, zl127, zl128, zl136, zl200, zl201, zl202, zl203, zl204, zl205, zl206, zl207, zl208, zl209, zl210, zl211, zl212, zl213, zl214, zl215, zl216, zl217, zl218, zl219, zl220, zl235, zl236, zl255, zl280, zl287, zl900, zl999, zl1000, zl1001, zl1136, zl1960, zl3000, zl3001, zl3002, zl3003, zl3004, zl3005, zl3006, zl3007, zl3008, zl3009, zl268435456, zl1000000000]), if_pos h1]
    have hk : k < vN v := by
      unfold aps at h0
      split at h0
      · assumption
      · cases h0
    have hap : aps v s k = (whyP v s k, if whyP v s k = 0 then goP v s k else s) := if_pos hk
    have hw0 : whyP v s k = 0 := by rw [hap] at h0; exact h0
    obtain ⟨P', g1, g2, g3⟩ := goes_M hn hv h hs hk hw0
    refine ⟨P', by rw [g1]; rfl, ?_, g3⟩
    rw [hap, hw0]
    exact g2
  rw [if_neg h1] at h0
  rw [if_pos (by simp (disch := omega) only [z_add, z_mul, z_sub, z_subm, z_addm, z_lt_t, z_lt_f, z_le_t, z_le_f, z_eq_t, z_eq_f, z_eqm, z_meq, z_mm, z_ltm, z_mlt, z_lem, z_mle, z_cl, z_ck, u1_1, u1_2, u2_1, u2_2, ↓reduceIte, Option.bind_some, Option.bind_none, bd2_some, lb_eq, and_true, and_false, true_and, false_and, not_true_eq_false, not_false_eq_true, eq_self_iff_true, if_true, if_false, Nat.reduceEqDiff, Nat.reduceAdd, Nat.reduceMul, Nat.reduceSub, Bool.false_eq_true, zl0, zl1, zl2, zl3, zl4, zl5, zl6, zl7, zl8, zl9, zl10, zl11, zl12, zl13, zl14, zl15, zl16, zl17, zl18, zl19, zl20, zl22, zl23, zl24, zl25, zl30, zl31, zl32, zl33, zl34, zl35, zl36, zl37, zl38, zl39, zl40, zl41, zl42, zl43, zl45, zl48, zl49, zl57, zl58, zl59, zl60, zl61, zl62, zl63, zl64, zl91, zl93, zl97, zl98, zl99, zl100, zl113, zl114, zl115, zl116, zl117, zl122, zl124, zl125, zl127, zl128, zl136, zl200, zl201, zl202, zl203, zl204, zl205, zl206, zl207, zl208, zl209, zl210, zl211, zl212, zl213, zl214, zl215, zl216, zl217, zl218, zl219, zl220, zl235, zl236, zl255, zl280, zl287, zl900, zl999, zl1000, zl1001, zl1136, zl1960, zl3000, zl3001, zl3002, zl3003, zl3004, zl3005, zl3006, zl3007, zl3008, zl3009, zl268435456, zl1000000000]), if_neg h1]
  by_cases h2 : k < 20
  · rw [if_pos h2] at h0
    rw [if_neg (by simp (disch := omega) only [z_add, z_mul, z_sub, z_subm, z_addm, z_lt_t, z_lt_f, z_le_t, z_le_f, z_eq_t, z_eq_f, z_eqm, z_meq, z_mm, z_ltm, z_mlt, z_lem, z_mle, z_cl, z_ck, u1_1, u1_2, u2_1, u2_2, ↓reduceIte, Option.bind_some, Option.bind_none, bd2_some, lb_eq, and_true, and_false, true_and, false_and, not_true_eq_false, not_false_eq_true, eq_self_iff_true, if_true, if_false, Nat.reduceEqDiff, Nat.reduceAdd, Nat.reduceMul, Nat.reduceSub, Bool.false_eq_true, zl0, zl1, zl2, zl3, zl4, zl5, zl6, zl7, zl8, zl9, zl10, zl11, zl12, zl13, zl14, zl15, zl16, zl17, zl18, zl19, zl20, zl22, zl23, zl24, zl25, zl30, zl31, zl32, zl33, zl34, zl35, zl36, zl37, zl38, zl39, zl40, zl41, zl42, zl43, zl45, zl48, zl49, zl57, zl58, zl59, zl60, zl61, zl62, zl63, zl64, zl91, zl93, zl97, zl98, zl99, zl100, zl113, zl114, zl115, zl116, zl117, zl122, zl124, zl125, zl127, zl128, zl136, zl200, zl201, zl202, zl203, zl204, zl205, zl206, zl207, zl208, zl209, zl210, zl211, zl212, zl213, zl214, zl215, zl216, zl217, zl218, zl219, zl220, zl235, zl236, zl255, zl280, zl287, zl900, zl999, zl1000, zl1001, zl1136, zl1960, zl3000, zl3001, zl3002, zl3003, zl3004, zl3005, zl3006, zl3007, zl3008, zl3009, zl268435456, zl1000000000]), if_pos h2]
    have hk : k - 10 < vN v := by
      unfold asl at h0
      split at h0
      · assumption
      · cases h0
    rw [m116 h, show (10 : Int32) = nI 10 from rfl, z_sub (by omega), sh_1 _ (by omega), nx_xor, show (116 : Int32).toNatClampNeg = 116 from rfl]
    refine ⟨_, rfl, ?_, mj_u1 mj_refl (by decide)⟩
    unfold asl
    rw [if_pos hk]
    refine ⟨?_, ?_, ?_, ?_, fun i hi => ?_⟩
    · simp (disch := omega) only [z_add, z_mul, z_sub, z_subm, z_addm, z_lt_t, z_lt_f, z_le_t, z_le_f, z_eq_t, z_eq_f, z_eqm, z_meq, z_mm, z_ltm, z_mlt, z_lem, z_mle, z_cl, z_ck, u1_1, u1_2, u2_1, u2_2, ↓reduceIte, Option.bind_some, Option.bind_none, bd2_some, lb_eq, and_true, and_false, true_and, false_and, not_true_eq_false, not_false_eq_true, eq_self_iff_true, if_true, if_false, Nat.reduceEqDiff, Nat.reduceAdd, Nat.reduceMul, Nat.reduceSub, Bool.false_eq_true, zl0, zl1, zl2, zl3, zl4, zl5, zl6, zl7, zl8, zl9, zl10, zl11, zl12, zl13, zl14, zl15, zl16, zl17, zl18, zl19, zl20, zl22, zl23, zl24, zl25, zl30, zl31, zl32, zl33, zl34, zl35, zl36, zl37, zl38, zl39, zl40, zl41, zl42, zl43, zl45, zl48, zl49, zl57, zl58, zl59, zl60, zl61, zl62, zl63, zl64, zl91, zl93, zl97, zl98, zl99, zl100, zl113, zl114, zl115, zl116, zl117, zl122, zl124, zl125, zl127, zl128, zl136, zl200, zl201, zl202, zl203, zl204, zl205, zl206, zl207, zl208, zl209, zl210, zl211, zl212, zl213, zl214, zl215, zl216, zl217, zl218, zl219, zl220, zl235, zl236, zl255, zl280, zl287, zl900, zl999, zl1000, zl1001, zl1136, zl1960, zl3000, zl3001, zl3002, zl3003, zl3004, zl3005, zl3006, zl3007, zl3008, zl3009, zl268435456, zl1000000000]; exact h.1
    · simp (disch := omega) only [z_add, z_mul, z_sub, z_subm, z_addm, z_lt_t, z_lt_f, z_le_t, z_le_f, z_eq_t, z_eq_f, z_eqm, z_meq, z_mm, z_ltm, z_mlt, z_lem, z_mle, z_cl, z_ck, u1_1, u1_2, u2_1, u2_2, ↓reduceIte, Option.bind_some, Option.bind_none, bd2_some, lb_eq, and_true, and_false, true_and, false_and, not_true_eq_false, not_false_eq_true, eq_self_iff_true, if_true, if_false, Nat.reduceEqDiff, Nat.reduceAdd, Nat.reduceMul, Nat.reduceSub, Bool.false_eq_true, zl0, zl1, zl2, zl3, zl4, zl5, zl6, zl7, zl8, zl9, zl10, zl11, zl12, zl13, zl14, zl15, zl16, zl17, zl18, zl19, zl20, zl22, zl23, zl24, zl25, zl30, zl31, zl32, zl33, zl34, zl35, zl36, zl37, zl38, zl39, zl40, zl41, zl42, zl43, zl45, zl48, zl49, zl57, zl58, zl59, zl60, zl61, zl62, zl63, zl64, zl91, zl93, zl97, zl98, zl99, zl100, zl113, zl114, zl115, zl116, zl117, zl122, zl124, zl125, zl127, zl128, zl136, zl200, zl201, zl202, zl203, zl204, zl205, zl206, zl207, zl208, zl209, zl210, zl211, zl212, zl213, zl214, zl215, zl216, zl217, zl218, zl219, zl220, zl235, zl236, zl255, zl280, zl287, zl900, zl999, zl1000, zl1001, zl1136, zl1960, zl3000, zl3001, zl3002, zl3003, zl3004, zl3005, zl3006, zl3007, zl3008, zl3009, zl268435456, zl1000000000]; exact h.2.1
    · simp (disch := omega) only [z_add, z_mul, z_sub, z_subm, z_addm, z_lt_t, z_lt_f, z_le_t, z_le_f, z_eq_t, z_eq_f, z_eqm, z_meq, z_mm, z_ltm, z_mlt, z_lem, z_mle, z_cl, z_ck, u1_1, u1_2, u2_1, u2_2, ↓reduceIte, Option.bind_some, Option.bind_none, bd2_some, lb_eq, and_true, and_false, true_and, false_and, not_true_eq_false, not_false_eq_true, eq_self_iff_true, if_true, if_false, Nat.reduceEqDiff, Nat.reduceAdd, Nat.reduceMul, Nat.reduceSub, Bool.false_eq_true, zl0, zl1, zl2, zl3, zl4, zl5, zl6, zl7, zl8, zl9, zl10, zl11, zl12, zl13, zl14, zl15, zl16, zl17, zl18, zl19, zl20, zl22, zl23, zl24, zl25, zl30, zl31, zl32, zl33, zl34, zl35, zl36, zl37, zl38, zl39, zl40, zl41, zl42, zl43, zl45, zl48, zl49, zl57, zl58, zl59, zl60, zl61, zl62, zl63, zl64, zl91, zl93, zl97, zl98, zl99, zl100, zl113, zl114, zl115, zl116, zl117, zl122, zl124, zl125, zl127, zl128, zl136, zl200, zl201, zl202, zl203, zl204, zl205, zl206, zl207, zl208, zl209, zl210, zl211, zl212, zl213, zl214, zl215, zl216, zl217, zl218, zl219, zl220, zl235, zl236, zl255, zl280, zl287, zl900, zl999, zl1000, zl1001, zl1136, zl1960, zl3000, zl3001, zl3002, zl3003, zl3004, zl3005, zl3006, zl3007, zl3008, zl3009, zl268435456, zl1000000000]; exact h.2.2.1
    · simp (disch := omega) only [z_add, z_mul, z_sub, z_subm, z_addm, z_lt_t, z_lt_f, z_le_t, z_le_f, z_eq_t, z_eq_f, z_eqm, z_meq, z_mm, z_ltm, z_mlt, z_lem, z_mle, z_cl, z_ck, u1_1, u1_2, u2_1, u2_2, ↓reduceIte, Option.bind_some, Option.bind_none, bd2_some, lb_eq, and_true, and_false, true_and, false_and, not_true_eq_false, not_false_eq_true, eq_self_iff_true, if_true, if_false, Nat.reduceEqDiff, Nat.reduceAdd, Nat.reduceMul, Nat.reduceSub, Bool.false_eq_true, zl0, zl1, zl2, zl3, zl4, zl5, zl6, zl7, zl8, zl9, zl10, zl11, zl12, zl13, zl14, zl15, zl16, zl17, zl18, zl19, zl20, zl22, zl23, zl24, zl25, zl30, zl31, zl32, zl33, zl34, zl35, zl36, zl37, zl38, zl39, zl40, zl41, zl42, zl43, zl45, zl48, zl49, zl57, zl58, zl59, zl60, zl61, zl62, zl63, zl64, zl91, zl93, zl97, zl98, zl99, zl100, zl113, zl114, zl115, zl116, zl117, zl122, zl124, zl125, zl127, zl128, zl136, zl200, zl201, zl202, zl203, zl204, zl205, zl206, zl207, zl208, zl209, zl210, zl211, zl212, zl213, zl214, zl215, zl216, zl217, zl218, zl219, zl220, zl235, zl236, zl255, zl280, zl287, zl900, zl999, zl1000, zl1001, zl1136, zl1960, zl3000, zl3001, zl3002, zl3003, zl3004, zl3005, zl3006, zl3007, zl3008, zl3009, zl268435456, zl1000000000]; rfl
    · rw [u1_1, if_neg (fun q => absurd q.2 (by omega))]; exact h.2.2.2.2 i hi
  rw [if_neg h2] at h0
  rw [if_pos (by simp (disch := omega) only [z_add, z_mul, z_sub, z_subm, z_addm, z_lt_t, z_lt_f, z_le_t, z_le_f, z_eq_t, z_eq_f, z_eqm, z_meq, z_mm, z_ltm, z_mlt, z_lem, z_mle, z_cl, z_ck, u1_1, u1_2, u2_1, u2_2, ↓reduceIte, Option.bind_some, Option.bind_none, bd2_some, lb_eq, and_true, and_false, true_and, false_and, not_true_eq_false, not_false_eq_true, eq_self_iff_true, if_true, if_false, Nat.reduceEqDiff, Nat.reduceAdd, Nat.reduceMul, Nat.reduceSub, Bool.false_eq_true, zl0, zl1, zl2, zl3, zl4, zl5, zl6, zl7, zl8, zl9, zl10, zl11, zl12, zl13, zl14, zl15, zl16, zl17, zl18, zl19, zl20, zl22, zl23, zl24, zl25, zl30, zl31, zl32, zl33, zl34, zl35, zl36, zl37, zl38, zl39, zl40, zl41, zl42, zl43, zl45, zl48, zl49, zl57, zl58, zl59, zl60, zl61, zl62, zl63, zl64, zl91, zl93, zl97, zl98, zl99, zl100, zl113, zl114, zl115, zl116, zl117, zl122, zl124, zl125, zl127, zl128, zl136, zl200, zl201, zl202, zl203, zl204, zl205, zl206, zl207, zl208, zl209, zl210, zl211, zl212, zl213, zl214, zl215, zl216, zl217, zl218, zl219, zl220, zl235, zl236, zl255, zl280, zl287, zl900, zl999, zl1000, zl1001, zl1136, zl1960, zl3000, zl3001, zl3002, zl3003, zl3004, zl3005, zl3006, zl3007, zl3008, zl3009, zl268435456, zl1000000000]), if_neg h2]
  by_cases h3 : 1000 ≤ k
  · rw [if_pos h3] at h0
    rw [if_pos (by simp (disch := omega) only [z_add, z_mul, z_sub, z_subm, z_addm, z_lt_t, z_lt_f, z_le_t, z_le_f, z_eq_t, z_eq_f, z_eqm, z_meq, z_mm, z_ltm, z_mlt, z_lem, z_mle, z_cl, z_ck, u1_1, u1_2, u2_1, u2_2, ↓reduceIte, Option.bind_some, Option.bind_none, bd2_some, lb_eq, and_true, and_false, true_and, false_and, not_true_eq_false, not_false_eq_true, eq_self_iff_true, if_true, if_false, Nat.reduceEqDiff, Nat.reduceAdd, Nat.reduceMul, Nat.reduceSub, Bool.false_eq_true, zl0, zl1, zl2, zl3, zl4, zl5, zl6, zl7, zl8, zl9, zl10, zl11, zl12, zl13, zl14, zl15, zl16, zl17, zl18, zl19, zl20, zl22, zl23, zl24, zl25, zl30, zl31, zl32, zl33, zl34, zl35, zl36, zl37, zl38, zl39, zl40, zl41, zl42, zl43, zl45, zl48, zl49, zl57, zl58, zl59, zl60, zl61, zl62, zl63, zl64, zl91, zl93, zl97, zl98, zl99, zl100, zl113, zl114, zl115, zl116, zl117, zl122, zl124, zl125, zl127, zl128, zl136, zl200, zl201, zl202, zl203, zl204, zl205, zl206, zl207, zl208, zl209, zl210, zl211, zl212, zl213, zl214, zl215, zl216, zl217, zl218, zl219, zl220, zl235, zl236, zl255, zl280, zl287, zl900, zl999, zl1000, zl1001, zl1136, zl1960, zl3000, zl3001, zl3002, zl3003, zl3004, zl3005, zl3006, zl3007, zl3008, zl3009, zl268435456, zl1000000000]), if_pos h3, show (1000 : Int32) = nI 1000 from rfl, z_sub (by omega), show (100 : Int32) = nI 100 from rfl, pk_div (by omega) (by omega) (by omega), pk_rem (by omega) (by omega) (by omega)]
    have hc : (k - 1000) / 100 < vN v ∧ 1 ≤ k % 100 ∧ k % 100 ≤ 40 := by
      unfold aof at h0
      split at h0
      · assumption
      · cases h0
    unfold f_Mo_letsOff
    rw [show (113 : Int32).toNatClampNeg = 113 from rfl, show (114 : Int32).toNatClampNeg = 114 from rfl]
    refine ⟨_, rfl, ?_, mj_u1 (mj_u1 mj_refl (by decide)) (by decide)⟩
    unfold aof
    rw [if_pos hc]
    refine ⟨?_, ?_, ?_, ?_, fun i hi => ?_⟩
    · simp (disch := omega) only [z_add, z_mul, z_sub, z_subm, z_addm, z_lt_t, z_lt_f, z_le_t, z_le_f, z_eq_t, z_eq_f, z_eqm, z_meq, z_mm, z_ltm, z_mlt, z_lem, z_mle, z_cl, z_ck, u1_1, u1_2, u2_1, u2_2, ↓reduceIte, Option.bind_some, Option.bind_none, bd2_some, lb_eq, and_true, and_false, true_and, false_and, not_true_eq_false, not_false_eq_true, eq_self_iff_true, if_true, if_false, Nat.reduceEqDiff, Nat.reduceAdd, Nat.reduceMul, Nat.reduceSub, Bool.false_eq_true, zl0, zl1, zl2, zl3, zl4, zl5, zl6, zl7, zl8, zl9, zl10, zl11, zl12, zl13, zl14, zl15, zl16, zl17, zl18, zl19, zl20, zl22, zl23, zl24, zl25, zl30, zl31, zl32, zl33, zl34, zl35, zl36, zl37, zl38, zl39, zl40, zl41, zl42, zl43, zl45, zl48, zl49, zl57, zl58, zl59, zl60, zl61, zl62, zl63, zl64, zl91, zl93, zl97, zl98, zl99, zl100, zl113, zl114, zl115, zl116, zl117, zl122, zl124, zl125, zl127, zl128, zl136, zl200, zl201, zl202, zl203, zl204, zl205, zl206, zl207, zl208, zl209, zl210, zl211, zl212, zl213, zl214, zl215, zl216, zl217, zl218, zl219, zl220, zl235, zl236, zl255, zl280, zl287, zl900, zl999, zl1000, zl1001, zl1136, zl1960, zl3000, zl3001, zl3002, zl3003, zl3004, zl3005, zl3006, zl3007, zl3008, zl3009, zl268435456, zl1000000000]; rfl
    · simp (disch := omega) only [z_add, z_mul, z_sub, z_subm, z_addm, z_lt_t, z_lt_f, z_le_t, z_le_f, z_eq_t, z_eq_f, z_eqm, z_meq, z_mm, z_ltm, z_mlt, z_lem, z_mle, z_cl, z_ck, u1_1, u1_2, u2_1, u2_2, ↓reduceIte, Option.bind_some, Option.bind_none, bd2_some, lb_eq, and_true, and_false, true_and, false_and, not_true_eq_false, not_false_eq_true, eq_self_iff_true, if_true, if_false, Nat.reduceEqDiff, Nat.reduceAdd, Nat.reduceMul, Nat.reduceSub, Bool.false_eq_true, zl0, zl1, zl2, zl3, zl4, zl5, zl6, zl7, zl8, zl9, zl10, zl11, zl12, zl13, zl14, zl15, zl16, zl17, zl18, zl19, zl20, zl22, zl23, zl24, zl25, zl30, zl31, zl32, zl33, zl34, zl35, zl36, zl37, zl38, zl39, zl40, zl41, zl42, zl43, zl45, zl48, zl49, zl57, zl58, zl59, zl60, zl61, zl62, zl63, zl64, zl91, zl93, zl97, zl98, zl99, zl100, zl113, zl114, zl115, zl116, zl117, zl122, zl124, zl125, zl127, zl128, zl136, zl200, zl201, zl202, zl203, zl204, zl205, zl206, zl207, zl208, zl209, zl210, zl211, zl212, zl213, zl214, zl215, zl216, zl217, zl218, zl219, zl220, zl235, zl236, zl255, zl280, zl287, zl900, zl999, zl1000, zl1001, zl1136, zl1960, zl3000, zl3001, zl3002, zl3003, zl3004, zl3005, zl3006, zl3007, zl3008, zl3009, zl268435456, zl1000000000]; rfl
    · simp (disch := omega) only [z_add, z_mul, z_sub, z_subm, z_addm, z_lt_t, z_lt_f, z_le_t, z_le_f, z_eq_t, z_eq_f, z_eqm, z_meq, z_mm, z_ltm, z_mlt, z_lem, z_mle, z_cl, z_ck, u1_1, u1_2, u2_1, u2_2, ↓reduceIte, Option.bind_some, Option.bind_none, bd2_some, lb_eq, and_true, and_false, true_and, false_and, not_true_eq_false, not_false_eq_true, eq_self_iff_true, if_true, if_false, Nat.reduceEqDiff, Nat.reduceAdd, Nat.reduceMul, Nat.reduceSub, Bool.false_eq_true, zl0, zl1, zl2, zl3, zl4, zl5, zl6, zl7, zl8, zl9, zl10, zl11, zl12, zl13, zl14, zl15, zl16, zl17, zl18, zl19, zl20, zl22, zl23, zl24, zl25, zl30, zl31, zl32, zl33, zl34, zl35, zl36, zl37, zl38, zl39, zl40, zl41, zl42, zl43, zl45, zl48, zl49, zl57, zl58, zl59, zl60, zl61, zl62, zl63, zl64, zl91, zl93, zl97, zl98, zl99, zl100, zl113, zl114, zl115, zl116, zl117, zl122, zl124, zl125, zl127, zl128, zl136, zl200, zl201, zl202, zl203, zl204, zl205, zl206, zl207, zl208, zl209, zl210, zl211, zl212, zl213, zl214, zl215, zl216, zl217, zl218, zl219, zl220, zl235, zl236, zl255, zl280, zl287, zl900, zl999, zl1000, zl1001, zl1136, zl1960, zl3000, zl3001, zl3002, zl3003, zl3004, zl3005, zl3006, zl3007, zl3008, zl3009, zl268435456, zl1000000000]; exact h.2.2.1
    · simp (disch := omega) only [z_add, z_mul, z_sub, z_subm, z_addm, z_lt_t, z_lt_f, z_le_t, z_le_f, z_eq_t, z_eq_f, z_eqm, z_meq, z_mm, z_ltm, z_mlt, z_lem, z_mle, z_cl, z_ck, u1_1, u1_2, u2_1, u2_2, ↓reduceIte, Option.bind_some, Option.bind_none, bd2_some, lb_eq, and_true, and_false, true_and, false_and, not_true_eq_false, not_false_eq_true, eq_self_iff_true, if_true, if_false, Nat.reduceEqDiff, Nat.reduceAdd, Nat.reduceMul, Nat.reduceSub, Bool.false_eq_true, zl0, zl1, zl2, zl3, zl4, zl5, zl6, zl7, zl8, zl9, zl10, zl11, zl12, zl13, zl14, zl15, zl16, zl17, zl18, zl19, zl20, zl22, zl23, zl24, zl25, zl30, zl31, zl32, zl33, zl34, zl35, zl36, zl37, zl38, zl39, zl40, zl41, zl42, zl43, zl45, zl48, zl49, zl57, zl58, zl59, zl60, zl61, zl62, zl63, zl64, zl91, zl93, zl97, zl98, zl99, zl100, zl113, zl114, zl115, zl116, zl117, zl122, zl124, zl125, zl127, zl128, zl136, zl200, zl201, zl202, zl203, zl204, zl205, zl206, zl207, zl208, zl209, zl210, zl211, zl212, zl213, zl214, zl215, zl216, zl217, zl218, zl219, zl220, zl235, zl236, zl255, zl280, zl287, zl900, zl999, zl1000, zl1001, zl1136, zl1960, zl3000, zl3001, zl3002, zl3003, zl3004, zl3005, zl3006, zl3007, zl3008, zl3009, zl268435456, zl1000000000]; exact h.2.2.2.1
    · rw [u1_1, if_neg (by omega), u1_1, if_neg (by omega)]; exact h.2.2.2.2 i hi
  rw [if_neg h3] at h0
  rw [if_neg h3]
  by_cases h5 : 100 ≤ k ∧ k < 200
  · rw [if_pos h5] at h0
    have hc : (k - 100) / 10 < vN v ∧ k % 10 ≤ 9 := by
      unfold adl at h0
      split at h0
      · assumption
      · cases h0
    rw [if_neg (by simp (disch := omega) only [z_add, z_mul, z_sub, z_subm, z_addm, z_lt_t, z_lt_f, z_le_t, z_le_f, z_eq_t, z_eq_f, z_eqm, z_meq, z_mm, z_ltm, z_mlt, z_lem, z_mle, z_cl, z_ck, u1_1, u1_2, u2_1, u2_2, ↓reduceIte, Option.bind_some, Option.bind_none, bd2_some, lb_eq, and_true, and_false, true_and, false_and, not_true_eq_false, not_false_eq_true, eq_self_iff_true, if_true, if_false, Nat.reduceEqDiff, Nat.reduceAdd, Nat.reduceMul, Nat.reduceSub, Bool.false_eq_true, zl0, zl1, zl2, zl3, zl4, zl5, zl6, zl7, zl8, zl9, zl10, zl11, zl12, zl13, zl14, zl15, zl16, zl17, zl18, zl19, zl20, zl22, zl23, zl24, zl25, zl30, zl31, zl32, zl33, zl34, zl35, zl36, zl37, zl38, zl39, zl40, zl41, zl42, zl43, zl45, zl48, zl49, zl57, zl58, zl59, zl60, zl61, zl62, zl63, zl64, zl91, zl93, zl97, zl98, zl99, zl100, zl113, zl114, zl115, zl116, zl117, zl122, zl124, zl125, zl127, zl128, zl136, zl200, zl201, zl202, zl203, zl204, zl205, zl206, zl207, zl208, zl209, zl210, zl211, zl212, zl213, zl214, zl215, zl216, zl217, zl218, zl219, zl220, zl235, zl236, zl255, zl280, zl287, zl900, zl999, zl1000, zl1001, zl1136, zl1960, zl3000, zl3001, zl3002, zl3003, zl3004, zl3005, zl3006, zl3007, zl3008, zl3009, zl268435456, zl1000000000]), if_pos h5, show (100 : Int32) = nI 100 from rfl, z_sub (by omega), show (10 : Int32) = nI 10 from rfl, pk_div (by omega) (by omega) (by omega), pk_rem (by omega) (by omega) (by omega), show (117 : Int32) = nI 117 from rfl, nI_add, z_ck (by omega) (by omega), z_cl (by omega)]
    refine ⟨_, rfl, ?_, mj_u1 mj_refl (by omega)⟩
    unfold adl
    rw [if_pos hc]
    refine ⟨?_, ?_, ?_, ?_, fun i hi => ?_⟩
    · rw [u1_1, if_neg (by omega)]; exact h.1
    · rw [u1_1, if_neg (by omega)]; exact h.2.1
    · rw [u1_1, if_neg (by omega)]; exact h.2.2.1
    · rw [u1_1, if_neg (by omega)]; exact h.2.2.2.1
    · show (if 110 = 110 ∧ 113 + 4 + i = 117 + (k - 100) / 10 then nI (k % 10) else P.1 110 (113 + 4 + i)) = nI (if i = (k - 100) / 10 then k % 10 else sD s i)
      by_cases c : i = (k - 100) / 10
      · rw [if_pos (by omega), if_pos c]
      · rw [if_neg (by omega), if_neg c]; exact h.2.2.2.2 i hi
  · rw [if_neg h5] at h0
    cases h0
theorem dd_in {v : NV} {s : SV} {z : Int64} (h : (dd v s z).1 = 0) : ∃ k, k < 2000 ∧ z = lN k ∧ dd v s z = dk v s k := by
  rcases l_cases z with ⟨k, hk, rfl⟩ | hz
  · refine ⟨k, hk, rfl, ?_⟩
    unfold dd
    rw [lN_ti (by omega), if_pos (by omega)]
    rfl
  · unfold dd at h
    rw [if_neg hz] at h
    cases h
/-- the reference's memory through told deeds -/
def mk (P P' : PM) : Prop := sm (fun o => o == 110 || o == 114 || o == 115 || o == 109) P P' ∧ (∀ j, j < 113 ∨ 124 ≤ j → P'.1 110 j = P.1 110 j) ∧ ∀ j, j ≠ 18 → j ≠ 19 → P'.1 109 j = P.1 109 j
theorem mk_refl {P : PM} : mk P P := ⟨sm_refl, fun _ _ => rfl, fun _ _ _ => rfl⟩
theorem mk_trans {P P' P'' : PM} (h : mk P P') (g : mk P' P'') : mk P P'' := ⟨sm_trans h.1 g.1, fun j q => (g.2.1 j q).trans (h.2.1 j q), fun j q r => (g.2.2 j q r).trans (h.2.2 j q r)⟩
theorem mk_mj {P P' : PM} (h : mj P P') : mk P P' := ⟨sm_mono h.1 (fun o q => by simp at q ⊢; exact q.1), h.2, fun j _ _ => by rw [h.1.1 109 rfl]⟩
theorem mk_18 {P : PM} {x : Int32} : mk P (u1 P 109 18 x) := ⟨sm_u1 sm_refl rfl, fun j _ => by rw [u1_1, if_neg (by omega)], fun j q _ => by rw [u1_1, if_neg (fun c => q c.2)]⟩
theorem tells_l {k : Nat} {v : NV} {t : TV} (hv : NVok v) (hk : k < 4) (h40 : (t k).2.1 ≤ 40) : ∀ (m n i : Nat) (s : SV) (P : PM), i + m = (t k).2.1 → m < n → MNet P 110 0 v → MTr P t → MSt P 110 113 s → SVok v s → P.1 109 18 = nI 0 →
    ∃ P', l_Mo_tells_7 n (nI k) (nI i) P = some (nI (drun v (t k).2.2 m i s).2.1, P') ∧ MSt P' 110 113 (drun v (t k).2.2 m i s).2.2 ∧ P'.1 109 18 = nI (drun v (t k).2.2 m i s).1 ∧ mk P P' := by
  intro m
  induction m with
  | zero =>
    intro n i s P hi hn h1 h2 h3 hs h4
    obtain ⟨n, rfl⟩ : ∃ q, n = q + 1 := ⟨n - 1, by omega⟩
    have e1 := (h2 k hk).2.1
    rw [l_Mo_tells_7, z_ck (by omega) (by omega), z_ck (by omega) (by omega), z_cl (by omega), e1]
    refine ⟨P, ?_, h3, h4, mk_refl⟩
    rw [if_pos (by rw [← hi]; exact nI_le (by omega) (by omega)), ← hi]
    rfl
  | succ m ih =>
    intro n i s P hi hn h1 h2 h3 hs h4
    obtain ⟨n, rfl⟩ : ∃ q, n = q + 1 := ⟨n - 1, by omega⟩
    have e1 := (h2 k hk).2.1
    have e2 := (h2 k hk).2.2 i (by omega)
    obtain ⟨P1, g1, g2⟩ := whyNot_M ((t k).2.2 i) h1 hv h3 hs
    have hlt := @dd_lt v s ((t k).2.2 i)
    rw [l_Mo_tells_7, z_ck (by omega) (by omega), z_cl (by omega), e1, if_neg (nI_ge (by omega) (by omega)), show (40 : Int32) = nI 40 from rfl, pk_mul, nI_add, z_ck (by omega) (by omega), z_cl (by omega), e2, g1, bd2_some]
    obtain ⟨P2, hP2⟩ : ∃ P2, P2 = u1 P1 109 18 (nI (dd v s ((t k).2.2 i)).1) := ⟨_, rfl⟩
    have m2 : mk P P2 := by rw [hP2]; exact mk_trans (mk_mj (mj_sm g2)) mk_18
    have e3 : P2.1 109 18 = nI (dd v s ((t k).2.2 i)).1 := by rw [hP2, u1_1, if_pos ⟨rfl, rfl⟩]
    have n2 : MNet P2 110 0 v := MNet_ix h1 (fun j hj => m2.2.1 _ (by omega))
    have t2 : MTr P2 t := MTr_sm h2 m2.1 rfl rfl rfl
    have s2 : MSt P2 110 113 s := MSt_sm h3 (S := fun o => o == 114 || o == 115 || o == 109) (by rw [hP2]; exact sm_u1 (sm_mono g2 (fun o q => by simp at q ⊢; omega)) rfl) rfl
    rw [← hP2, e3]
    by_cases c : (dd v s ((t k).2.2 i)).1 = 0
    · obtain ⟨j, hj, hz, hd⟩ := dd_in c
      have e4 := (t2 k hk).2.2 i (by omega)
      obtain ⟨P3, k1, k2, k3⟩ := does_M n2 hv s2 hs hj (by rw [← hd]; exact c)
      rw [if_pos (by rw [c]; rfl), z_ck (by omega) (by omega), e4, hz, lN_i, k1, Option.bind_some]
      have m3 : mk P P3 := mk_trans m2 (mk_mj k3)
      have hdr : drun v (t k).2.2 (m + 1) i s = drun v (t k).2.2 m (i + 1) (dk v s j).2 := by
        rw [drun, if_pos c, hd]
      obtain ⟨P4, l1, l2, l3, l4⟩ := ih n (i + 1) (dk v s j).2 P3 (by omega) (by omega) (MNet_ix h1 (fun j hj => m3.2.1 _ (by omega))) (MTr_sm h2 m3.1 rfl rfl rfl) k2 (dk_ok hs) (by rw [k3.1.1 109 rfl, e3, c])
      rw [hdr, show (1 : Int32) = nI 1 from rfl, nI_add]
      exact ⟨P4, l1, l2, l3, mk_trans m3 l4⟩
    · have hdr : drun v (t k).2.2 (m + 1) i s = ((dd v s ((t k).2.2 i)).1, i, s) := by
        rw [drun, if_neg c]
      rw [hdr, if_neg (by simp (disch := omega) only [z_add, z_mul, z_sub, z_subm, z_addm, z_lt_t, z_lt_f, z_le_t, z_le_f, z_eq_t, z_eq_f, z_eqm, z_meq, z_mm, z_ltm, z_mlt, z_lem, z_mle, z_cl, z_ck, u1_1, u1_2, u2_1, u2_2, ↓reduceIte, Option.bind_some, Option.bind_none, bd2_some, lb_eq, and_true, and_false, true_and, false_and, not_true_eq_false, not_false_eq_true, eq_self_iff_true, if_true, if_false, Nat.reduceEqDiff, Nat.reduceAdd, Nat.reduceMul, Nat.reduceSub, Bool.false_eq_true, zl0, zl1, zl2, zl3, zl4, zl5, zl6, zl7, zl8, zl9, zl10, zl11, zl12, zl13, zl14, zl15, zl16, zl17, zl18, zl19, zl20, zl22, zl23, zl24, zl25, zl30, zl31, zl32, zl33, zl34, zl35, zl36, zl37, zl38, zl39, zl40, zl41, zl42, zl43, zl45, zl48, zl49, zl57, zl58, zl59, zl60, zl61, zl62, zl63, zl64, zl91, zl93, zl97, zl98, zl99, zl100, zl113, zl114, zl115, zl116, zl117, zl122, zl124, zl125, zl127, zl128, zl136, zl200, zl201, zl202, zl203, zl204, zl205, zl206, zl207, zl208, zl209, zl210, zl211, zl212, zl213, zl214, zl215, zl216, zl217, zl218, zl219, zl220, zl235, zl236, zl255, zl280, zl287, zl900, zl999, zl1000, zl1001, zl1136, zl1960, zl3000, zl3001, zl3002, zl3003, zl3004, zl3005, zl3006, zl3007, zl3008, zl3009, zl268435456, zl1000000000])]
      exact ⟨P2, rfl, s2, e3, m2⟩
theorem MRep_18 {P : PM} {a : AS} {x : Int32} (h : MRep P a) : MRep (u1 P 109 18 x) a := by
  refine MRep_me h ⟨fun o e => ?_, rfl, rfl, rfl, rfl⟩
  funext j
  rw [u1_1, if_neg]
  rintro ⟨rfl, _⟩
  cases e
