/-! a passing, on both sides -/
theorem isSt_C {P : PM} {b : Nat} {v : NV} {s : Nat} (h : CNet P b v) (hv : NVok v) (hs : s < 2147483648) : f_Ne_isStation b (nI s) P = if s < vN v then nI 1 else nI 0 := by
  have hN := hv.1
  by_cases c : s < vN v
  · simp (disch := omega) only [z_add, z_mul, z_sub, z_subm, z_addm, z_lt_t, z_lt_f, z_le_t, z_le_f, z_eq_t, z_eq_f, z_eqm, z_meq, z_mm, z_ltm, z_mlt, z_lem, z_mle, z_cl, z_ck, u1_1, u1_2, u2_1, u2_2, ↓reduceIte, Option.bind_some, Option.bind_none, bd2_some, lb_eq, and_true, and_false, true_and, false_and, not_true_eq_false, not_false_eq_true, eq_self_iff_true, if_true, if_false, Nat.reduceEqDiff, Nat.reduceAdd, Nat.reduceMul, Nat.reduceSub, Bool.false_eq_true, zl0, zl1, zl2, zl3, zl4, zl5, zl6, zl7, zl8, zl9, zl10, zl11, zl12, zl13, zl14, zl15, zl16, zl17, zl18, zl19, zl20, zl22, zl23, zl24, zl25, zl30, zl31, zl32, zl33, zl34, zl35, zl36, zl37, zl38, zl39, zl40, zl41, zl42, zl43, zl45, zl48, zl49, zl57, zl58, zl59, zl60, zl61, zl62, zl63, zl64, zl91, zl93, zl97, zl98, zl99, zl100, zl113, zl114, zl115, zl116, zl117, zl122, zl124, zl125, zl127, zl128, zl136, zl200, zl201, zl202, zl203, zl204, zl205, zl206, zl207, zl208, zl209, zl210, zl211, zl212, zl213, zl214, zl215, zl216, zl217, zl218, zl219, zl220, zl235, zl236, zl255, zl280, zl287, zl900, zl999, zl1000, zl1001, zl1136, zl1960, zl3000, zl3001, zl3002, zl3003, zl3004, zl3005, zl3006, zl3007, zl3008, zl3009, zl268435456, zl1000000000, f_Ne_isStation, j_Ne_isStation_16, h.1, c]
  · simp (disch := omega) only [z_add, z_mul, z_sub, z_subm, z_addm, z_lt_t, z_lt_f, z_le_t, z_le_f, z_eq_t, z_eq_f, z_eqm, z_meq, z_mm, z_ltm, z_mlt, z_lem, z_mle, z_cl, z_ck, u1_1, u1_2, u2_1, u2_2, ↓reduceIte, Option.bind_some, Option.bind_none, bd2_some, lb_eq, and_true, and_false, true_and, false_and, not_true_eq_false, not_false_eq_true, eq_self_iff_true, if_true, if_false, Nat.reduceEqDiff, Nat.reduceAdd, Nat.reduceMul, Nat.reduceSub, Bool.false_eq_true, zl0, zl1, zl2, zl3, zl4, zl5, zl6, zl7, zl8, zl9, zl10, zl11, zl12, zl13, zl14, zl15, zl16, zl17, zl18, zl19, zl20, zl22, zl23, zl24, zl25, zl30, zl31, zl32, zl33, zl34, zl35, zl36, zl37, zl38, zl39, zl40, zl41, zl42, zl43, zl45, zl48, zl49, zl57, zl58, zl59, zl60, zl61, zl62, zl63, zl64, zl91, zl93, zl97, zl98, zl99, zl100, zl113, zl114, zl115, zl116, zl117, zl122, zl124, zl125, zl127, zl128, zl136, zl200, zl201, zl202, zl203, zl204, zl205, zl206, zl207, zl208, zl209, zl210, zl211, zl212, zl213, zl214, zl215, zl216, zl217, zl218, zl219, zl220, zl235, zl236, zl255, zl280, zl287, zl900, zl999, zl1000, zl1001, zl1136, zl1960, zl3000, zl3001, zl3002, zl3003, zl3004, zl3005, zl3006, zl3007, zl3008, zl3009, zl268435456, zl1000000000, f_Ne_isStation, j_Ne_isStation_16, h.1, c]
theorem hours_C {P : PM} {b : Nat} {v : NV} {s t : Nat} (h : CNet P b v) (hv : NVok v) (hs : s < 7) (ht : t < 7) : f_Ne_hoursOf b (nI s) (nI t) P = some (nI (vH v s t)) := by
  have hN := hv.1
  have h0 := (hv.2.1 s t).2.2.1
  unfold f_Ne_hoursOf
  by_cases c1 : s < vN v
  · by_cases c2 : t < vN v
    · simp (disch := omega) only [z_add, z_mul, z_sub, z_subm, z_addm, z_lt_t, z_lt_f, z_le_t, z_le_f, z_eq_t, z_eq_f, z_eqm, z_meq, z_mm, z_ltm, z_mlt, z_lem, z_mle, z_cl, z_ck, u1_1, u1_2, u2_1, u2_2, ↓reduceIte, Option.bind_some, Option.bind_none, bd2_some, lb_eq, and_true, and_false, true_and, false_and, not_true_eq_false, not_false_eq_true, eq_self_iff_true, if_true, if_false, Nat.reduceEqDiff, Nat.reduceAdd, Nat.reduceMul, Nat.reduceSub, Bool.false_eq_true, zl0, zl1, zl2, zl3, zl4, zl5, zl6, zl7, zl8, zl9, zl10, zl11, zl12, zl13, zl14, zl15, zl16, zl17, zl18, zl19, zl20, zl22, zl23, zl24, zl25, zl30, zl31, zl32, zl33, zl34, zl35, zl36, zl37, zl38, zl39, zl40, zl41, zl42, zl43, zl45, zl48, zl49, zl57, zl58, zl59, zl60, zl61, zl62, zl63, zl64, zl91, zl93, zl97, zl98, zl99, zl100, zl113, zl114, zl115, zl116, zl117, zl122, zl124, zl125, zl127, zl128, zl136, zl200, zl201, zl202, zl203, zl204, zl205, zl206, zl207, zl208, zl209, zl210, zl211, zl212, zl213, zl214, zl215, zl216, zl217, zl218, zl219, zl220, zl235, zl236, zl255, zl280, zl287, zl900, zl999, zl1000, zl1001, zl1136, zl1960, zl3000, zl3001, zl3002, zl3003, zl3004, zl3005, zl3006, zl3007, zl3008, zl3009, zl268435456, zl1000000000, isSt_C h hv, c1, c2]
      rw [Nat.mul_comm s 7, h.2.2.2.1 s t hs ht]
    · have : vH v s t = 0 := Nat.eq_zero_of_not_pos (fun q => c2 (h0 (by omega)).2.1)
      simp (disch := omega) only [z_add, z_mul, z_sub, z_subm, z_addm, z_lt_t, z_lt_f, z_le_t, z_le_f, z_eq_t, z_eq_f, z_eqm, z_meq, z_mm, z_ltm, z_mlt, z_lem, z_mle, z_cl, z_ck, u1_1, u1_2, u2_1, u2_2, ↓reduceIte, Option.bind_some, Option.bind_none, bd2_some, lb_eq, and_true, and_false, true_and, false_and, not_true_eq_false, not_false_eq_true, eq_self_iff_true, if_true, if_false, Nat.reduceEqDiff, Nat.reduceAdd, Nat.reduceMul, Nat.reduceSub, Bool.false_eq_true, zl0, zl1, zl2, zl3, zl4, zl5, zl6, zl7, zl8, zl9, zl10, zl11, zl12, zl13, zl14, zl15, zl16, zl17, zl18, zl19, zl20, zl22, zl23, zl24, zl25, zl30, zl31, zl32, zl33, zl34, zl35, zl36, zl37, zl38, zl39, zl40, zl41, zl42, zl43, zl45, zl48, zl49, zl57, zl58, zl59, zl60, zl61, zl62, zl63, zl64, zl91, zl93, zl97, zl98, zl99, zl100, zl113, zl114, zl115, zl116, zl117, zl122, zl124, zl125, zl127, zl128, zl136, zl200, zl201, zl202, zl203, zl204, zl205, zl206, zl207, zl208, zl209, zl210, zl211, zl212, zl213, zl214, zl215, zl216, zl217, zl218, zl219, zl220, zl235, zl236, zl255, zl280, zl287, zl900, zl999, zl1000, zl1001, zl1136, zl1960, zl3000, zl3001, zl3002, zl3003, zl3004, zl3005, zl3006, zl3007, zl3008, zl3009, zl268435456, zl1000000000, isSt_C h hv, c1, c2, j_Ne_hoursOf_30, this]
  · have : vH v s t = 0 := Nat.eq_zero_of_not_pos (fun q => c1 (h0 (by omega)).1)
    simp (disch := omega) only [z_add, z_mul, z_sub, z_subm, z_addm, z_lt_t, z_lt_f, z_le_t, z_le_f, z_eq_t, z_eq_f, z_eqm, z_meq, z_mm, z_ltm, z_mlt, z_lem, z_mle, z_cl, z_ck, u1_1, u1_2, u2_1, u2_2, ↓reduceIte, Option.bind_some, Option.bind_none, bd2_some, lb_eq, and_true, and_false, true_and, false_and, not_true_eq_false, not_false_eq_true, eq_self_iff_true, if_true, if_false, Nat.reduceEqDiff, Nat.reduceAdd, Nat.reduceMul, Nat.reduceSub, Bool.false_eq_true, zl0, zl1, zl2, zl3, zl4, zl5, zl6, zl7, zl8, zl9, zl10, zl11, zl12, zl13, zl14, zl15, zl16, zl17, zl18, zl19, zl20, zl22, zl23, zl24, zl25, zl30, zl31, zl32, zl33, zl34, zl35, zl36, zl37, zl38, zl39, zl40, zl41, zl42, zl43, zl45, zl48, zl49, zl57, zl58, zl59, zl60, zl61, zl62, zl63, zl64, zl91, zl93, zl97, zl98, zl99, zl100, zl113, zl114, zl115, zl116, zl117, zl122, zl124, zl125, zl127, zl128, zl136, zl200, zl201, zl202, zl203, zl204, zl205, zl206, zl207, zl208, zl209, zl210, zl211, zl212, zl213, zl214, zl215, zl216, zl217, zl218, zl219, zl220, zl235, zl236, zl255, zl280, zl287, zl900, zl999, zl1000, zl1001, zl1136, zl1960, zl3000, zl3001, zl3002, zl3003, zl3004, zl3005, zl3006, zl3007, zl3008, zl3009, zl268435456, zl1000000000, isSt_C h hv, c1, j_Ne_hoursOf_30, this]
theorem odds_C {P : PM} {b : Nat} {v : NV} {s t : Nat} (h : CNet P b v) (hv : NVok v) (hs : s < 7) (ht : t < 7) : f_Ne_oddsOf b (nI s) (nI t) P = some (nI (vO v s t)) := by
  have hN := hv.1
  have h0 := (hv.2.1 s t).2.2.1
  have h1 := (hv.2.1 s t).2.2.2
  unfold f_Ne_oddsOf
  by_cases c1 : s < vN v
  · by_cases c2 : t < vN v
    · simp (disch := omega) only [z_add, z_mul, z_sub, z_subm, z_addm, z_lt_t, z_lt_f, z_le_t, z_le_f, z_eq_t, z_eq_f, z_eqm, z_meq, z_mm, z_ltm, z_mlt, z_lem, z_mle, z_cl, z_ck, u1_1, u1_2, u2_1, u2_2, ↓reduceIte, Option.bind_some, Option.bind_none, bd2_some, lb_eq, and_true, and_false, true_and, false_and, not_true_eq_false, not_false_eq_true, eq_self_iff_true, if_true, if_false, Nat.reduceEqDiff, Nat.reduceAdd, Nat.reduceMul, Nat.reduceSub, Bool.false_eq_true, zl0, zl1, zl2, zl3, zl4, zl5, zl6, zl7, zl8, zl9, zl10, zl11, zl12, zl13, zl14, zl15, zl16, zl17, zl18, zl19, zl20, zl22, zl23, zl24, zl25, zl30, zl31, zl32, zl33, zl34, zl35, zl36, zl37, zl38, zl39, zl40, zl41, zl42, zl43, zl45, zl48, zl49, zl57, zl58, zl59, zl60, zl61, zl62, zl63, zl64, zl91, zl93, zl97, zl98, zl99, zl100, zl113, zl114, zl115, zl116, zl117, zl122, zl124, zl125, zl127, zl128, zl136, zl200, zl201, zl202, zl203, zl204, zl205, zl206, zl207, zl208, zl209, zl210, zl211, zl212, zl213, zl214, zl215, zl216, zl217, zl218, zl219, zl220, zl235, zl236, zl255, zl280, zl287, zl900, zl999, zl1000, zl1001, zl1136, zl1960, zl3000, zl3001, zl3002, zl3003, zl3004, zl3005, zl3006, zl3007, zl3008, zl3009, zl268435456, zl1000000000, isSt_C h hv, c1, c2]
      rw [Nat.mul_comm s 7, h.2.2.2.2.1 s t hs ht]
    · have : vO v s t = 0 := h1 (Nat.eq_zero_of_not_pos (fun q => c2 (h0 (by omega)).2.1))
      simp (disch := omega) only [z_add, z_mul, z_sub, z_subm, z_addm, z_lt_t, z_lt_f, z_le_t, z_le_f, z_eq_t, z_eq_f, z_eqm, z_meq, z_mm, z_ltm, z_mlt, z_lem, z_mle, z_cl, z_ck, u1_1, u1_2, u2_1, u2_2, ↓reduceIte, Option.bind_some, Option.bind_none, bd2_some, lb_eq, and_true, and_false, true_and, false_and, not_true_eq_false, not_false_eq_true, eq_self_iff_true, if_true, if_false, Nat.reduceEqDiff, Nat.reduceAdd, Nat.reduceMul, Nat.reduceSub, Bool.false_eq_true, zl0, zl1, zl2, zl3, zl4, zl5, zl6, zl7, zl8, zl9, zl10, zl11, zl12, zl13, zl14, zl15, zl16, zl17, zl18, zl19, zl20, zl22, zl23, zl24, zl25, zl30, zl31, zl32, zl33, zl34, zl35, zl36, zl37, zl38, zl39, zl40, zl41, zl42, zl43, zl45, zl48, zl49, zl57, zl58, zl59, zl60, zl61, zl62, zl63, zl64, zl91, zl93, zl97, zl98, zl99, zl100, zl113, zl114, zl115, zl116, zl117, zl122, zl124, zl125, zl127, zl128, zl136, zl200, zl201, zl202, zl203, zl204, zl205, zl206, zl207, zl208, zl209, zl210, zl211, zl212, zl213, zl214, zl215, zl216, zl217, zl218, zl219, zl220, zl235, zl236, zl255, zl280, zl287, zl900, zl999, zl1000, zl1001, zl1136, zl1960, zl3000, zl3001, zl3002, zl3003, zl3004, zl3005, zl3006, zl3007, zl3008, zl3009, zl268435456, zl1000000000, isSt_C h hv, c1, c2, j_Ne_oddsOf_30, this]
  · have : vO v s t = 0 := h1 (Nat.eq_zero_of_not_pos (fun q => c1 (h0 (by omega)).1))
    simp (disch := omega) only [z_add, z_mul, z_sub, z_subm, z_addm, z_lt_t, z_lt_f, z_le_t, z_le_f, z_eq_t, z_eq_f, z_eqm, z_meq, z_mm, z_ltm, z_mlt, z_lem, z_mle, z_cl, z_ck, u1_1, u1_2, u2_1, u2_2, ↓reduceIte, Option.bind_some, Option.bind_none, bd2_some, lb_eq, and_true, and_false, true_and, false_and, not_true_eq_false, not_false_eq_true, eq_self_iff_true, if_true, if_false, Nat.reduceEqDiff, Nat.reduceAdd, Nat.reduceMul, Nat.reduceSub, Bool.false_eq_true, zl0, zl1, zl2, zl3, zl4, zl5, zl6, zl7, zl8, zl9, zl10, zl11, zl12, zl13, zl14, zl15, zl16, zl17, zl18, zl19, zl20, zl22, zl23, zl24, zl25, zl30, zl31, zl32, zl33, zl34, zl35, zl36, zl37, zl38, zl39, zl40, zl41, zl42, zl43, zl45, zl48, zl49, zl57, zl58, zl59, zl60, zl61, zl62, zl63, zl64, zl91, zl93, zl97, zl98, zl99, zl100, zl113, zl114, zl115, zl116, zl117, zl122, zl124, zl125, zl127, zl128, zl136, zl200, zl201, zl202, zl203, zl204, zl205, zl206, zl207, zl208, zl209, zl210, zl211, zl212, zl213, zl214, zl215, zl216, zl217, zl218, zl219, zl220, zl235, zl236, zl255, zl280, zl287, zl900, zl999, zl1000, zl1001, zl1136, zl1960, zl3000, zl3001, zl3002, zl3003, zl3004, zl3005, zl3006, zl3007, zl3008, zl3009, zl268435456, zl1000000000, isSt_C h hv, c1, j_Ne_oddsOf_30, this]
theorem value_C {P : PM} {b q : Nat} {es : List Nat} {a : Nat → Int32} {t : Bool} (h : CLw P b q es) (hc : cts es [] = some [t]) (ha : ∀ j, j < 6 → P.1 (b + 5) j = a j) :
    ∃ P', f_Ne_valueOf b (P.1 b (7 + 2 * q)) (P.1 b (8 + 2 * q)) P = some ((evs a es []).headD 0, P') ∧ sm (fun o => o == b + 6) P P' := by
  obtain ⟨fr, h1, h2, h3, h4⟩ := h
  have := val_loop b a es FU fr [] [] [t] P (by have := FU_big; omega) h3 h4 ha trivial trivial hc (by simp) (by simp)
  rw [h1, h2]
  exact this
theorem carried_C {P : PM} {b : Nat} {v : NV} {s z t d : Nat} (h : CNet P b v) (hv : NVok v) (hs : s < 7) (ht : t < 7) :
    ∃ P', f_Ne_carried b (nI s) (nI z) (nI t) (nI d) P = some (oI (car v s z t d), P') ∧ sm (fun o => o == b + 5 || o == b + 6) P P' := by
  have hN := hv.1
  have h9 := (hv.2.1 s t).1
  unfold f_Ne_carried
  rw [hours_C h hv hs ht]
  by_cases h0 : vH v s t = 0
  · refine ⟨P, ?_, sm_refl⟩
    show (if nI (vH v s t) = 0 then _ else _) = _
    rw [if_pos (by rw [h0]; rfl)]
    unfold car
    rw [if_pos h0]
    rfl
  · obtain ⟨P1, hP1⟩ : ∃ P1, P1 = u1 (u1 (u1 (u1 (u1 (u1 P (b + 5) 0 (nI t)) (b + 5) 1 (nI d)) (b + 5) 2 (vK v t)) (b + 5) 3 (nI z)) (b + 5) 4 (nI s)) (b + 5) 5 (nI (vH v s t)) := ⟨_, rfl⟩
    have hsm : sm (fun o => o == b + 5 || o == b + 6) P P1 := by
      rw [hP1]
      exact sm_u1 (sm_u1 (sm_u1 (sm_u1 (sm_u1 (sm_u1 sm_refl (by simp)) (by simp)) (by simp)) (by simp)) (by simp)) (by simp)
    have hk : P.1 (b + 1) t = vK v t := h.2.2.1 t ht
    have hC : CNet P1 b v := CNet_sm h hsm (by simp) (by simp) (by simp) (by simp) (by simp)
    have ha : ∀ j, j < 6 → P1.1 (b + 5) j = wd v s z t d j := by
      intro j hj
      rw [hP1]
      unfold wd
      obtain rfl | rfl | rfl | rfl | rfl | rfl : j = 0 ∨ j = 1 ∨ j = 2 ∨ j = 3 ∨ j = 4 ∨ j = 5 := by omega
      all_goals simp [u1_1]
    have hA : u1 (u1 (u1 (u1 (u1 (u1 P (b + 5) (0 : Int32).toNatClampNeg (nI t)) (b + 5) (1 : Int32).toNatClampNeg (nI d)) (b + 5) (2 : Int32).toNatClampNeg ((u1 (u1 P (b + 5) (0 : Int32).toNatClampNeg (nI t)) (b + 5) (1 : Int32).toNatClampNeg (nI d)).1 (b + 1) (nI t).toNatClampNeg)) (b + 5) (3 : Int32).toNatClampNeg (nI z)) (b + 5) (4 : Int32).toNatClampNeg (nI s)) (b + 5) (5 : Int32).toNatClampNeg (nI (vH v s t)) = P1 := by
      rw [hP1]
      simp (disch := omega) only [z_add, z_mul, z_sub, z_subm, z_addm, z_lt_t, z_lt_f, z_le_t, z_le_f, z_eq_t, z_eq_f, z_eqm, z_meq, z_mm, z_ltm, z_mlt, z_lem, z_mle, z_cl, z_ck, u1_1, u1_2, u2_1, u2_2, ↓reduceIte, Option.bind_some, Option.bind_none, bd2_some, lb_eq, and_true, and_false, true_and, false_and, not_true_eq_false, not_false_eq_true, eq_self_iff_true, if_true, if_false, Nat.reduceEqDiff, Nat.reduceAdd, Nat.reduceMul, Nat.reduceSub, Bool.false_eq_true, zl0, zl1, zl2, zl3, zl4, zl5, zl6, zl7, zl8, zl9, zl10, zl11, zl12, zl13, zl14, zl15, zl16, zl17, zl18, zl19, zl20, zl22, zl23, zl24, zl25, zl30, zl31, zl32, zl33, zl34, zl35, zl36, zl37, zl38, zl39, zl40, zl41, zl42, zl43, zl45, zl48, zl49, zl57, zl58, zl59, zl60, zl61, zl62, zl63, zl64, zl91, zl93, zl97, zl98, zl99, zl100, zl113, zl114, zl115, zl116, zl117, zl122, zl124, zl125, zl127, zl128, zl136, zl200, zl201, zl202, zl203, zl204, zl205, zl206, zl207, zl208, zl209, zl210, zl211, zl212, zl213, zl214, zl215, zl216, zl217, zl218, zl219, zl220, zl235, zl236, zl255, zl280, zl287, zl900, zl999, zl1000, zl1001, zl1136, zl1960, zl3000, zl3001, zl3002, zl3003, zl3004, zl3005, zl3006, zl3007, zl3008, zl3009, zl268435456, zl1000000000]
      rw [if_neg (by omega), if_neg (by omega), hk]
    show ∃ P', (if nI (vH v s t) = 0 then _ else _) = _ ∧ _
    rw [if_neg (by simp (disch := omega) only [z_add, z_mul, z_sub, z_subm, z_addm, z_lt_t, z_lt_f, z_le_t, z_le_f, z_eq_t, z_eq_f, z_eqm, z_meq, z_mm, z_ltm, z_mlt, z_lem, z_mle, z_cl, z_ck, u1_1, u1_2, u2_1, u2_2, ↓reduceIte, Option.bind_some, Option.bind_none, bd2_some, lb_eq, and_true, and_false, true_and, false_and, not_true_eq_false, not_false_eq_true, eq_self_iff_true, if_true, if_false, Nat.reduceEqDiff, Nat.reduceAdd, Nat.reduceMul, Nat.reduceSub, Bool.false_eq_true, zl0, zl1, zl2, zl3, zl4, zl5, zl6, zl7, zl8, zl9, zl10, zl11, zl12, zl13, zl14, zl15, zl16, zl17, zl18, zl19, zl20, zl22, zl23, zl24, zl25, zl30, zl31, zl32, zl33, zl34, zl35, zl36, zl37, zl38, zl39, zl40, zl41, zl42, zl43, zl45, zl48, zl49, zl57, zl58, zl59, zl60, zl61, zl62, zl63, zl64, zl91, zl93, zl97, zl98, zl99, zl100, zl113, zl114, zl115, zl116, zl117, zl122, zl124, zl125, zl127, zl128, zl136, zl200, zl201, zl202, zl203, zl204, zl205, zl206, zl207, zl208, zl209, zl210, zl211, zl212, zl213, zl214, zl215, zl216, zl217, zl218, zl219, zl220, zl235, zl236, zl255, zl280, zl287, zl900, zl999, zl1000, zl1001, zl1136, zl1960, zl3000, zl3001, zl3002, zl3003, zl3004, zl3005, zl3006, zl3007, zl3008, zl3009, zl268435456, zl1000000000]), z_ck ht (by omega), hA]
    have hj : ∀ P2, sm (fun o => o == b + 6) P1 P2 → ∃ P', j_Ne_carried_92 b (nI z) P2 = some (nI (pss v s z t d), P') ∧ sm (fun o => o == b + 5 || o == b + 6) P P' := by
      intro P2 h2
      have hs2 : sm (fun o => o == b + 5 || o == b + 6) P P2 := sm_trans hsm (sm_mono h2 (fun o ho => by simp at ho ⊢; exact ho.2))
      have hC2 : CNet P2 b v := CNet_sm h hs2 (by simp) (by simp) (by simp) (by simp) (by simp)
      have ha2 : ∀ j, j < 6 → P2.1 (b + 5) j = wd v s z t d j := fun j hj => by rw [h2.1 (b + 5) (by simp)]; exact ha j hj
      unfold j_Ne_carried_92 pss
      by_cases e : vP v = []
      · obtain ⟨fr, g1, g2, g3, g4⟩ := hC2.2.2.2.2.2.2
        have e2 : P2.1 b 9 = P2.1 b 10 := by
          rw [show P2.1 b 9 = nI fr from g1, show P2.1 b 10 = nI (fr + (vP v).length) from g2, e]
          rfl
        exact ⟨P2, by rw [if_pos e2, if_pos e], hs2⟩
      · obtain ⟨P3, g1, g2⟩ := value_C (q := 1) hC2.2.2.2.2.2.2 (hv.2.2.2 e) ha2
        obtain ⟨fr, k1, k2, k3, k4⟩ := hC2.2.2.2.2.2.2
        have hl : 0 < (vP v).length := List.length_pos_iff.mpr e
        have e2 : ¬ P2.1 b 9 = P2.1 b 10 := by
          rw [show P2.1 b 9 = nI fr from k1, show P2.1 b 10 = nI (fr + (vP v).length) from k2]
          simp (disch := omega) only [z_add, z_mul, z_sub, z_subm, z_addm, z_lt_t, z_lt_f, z_le_t, z_le_f, z_eq_t, z_eq_f, z_eqm, z_meq, z_mm, z_ltm, z_mlt, z_lem, z_mle, z_cl, z_ck, u1_1, u1_2, u2_1, u2_2, ↓reduceIte, Option.bind_some, Option.bind_none, bd2_some, lb_eq, and_true, and_false, true_and, false_and, not_true_eq_false, not_false_eq_true, eq_self_iff_true, if_true, if_false, Nat.reduceEqDiff, Nat.reduceAdd, Nat.reduceMul, Nat.reduceSub, Bool.false_eq_true, zl0, zl1, zl2, zl3, zl4, zl5, zl6, zl7, zl8, zl9, zl10, zl11, zl12, zl13, zl14, zl15, zl16, zl17, zl18, zl19, zl20, zl22, zl23, zl24, zl25, zl30, zl31, zl32, zl33, zl34, zl35, zl36, zl37, zl38, zl39, zl40, zl41, zl42, zl43, zl45, zl48, zl49, zl57, zl58, zl59, zl60, zl61, zl62, zl63, zl64, zl91, zl93, zl97, zl98, zl99, zl100, zl113, zl114, zl115, zl116, zl117, zl122, zl124, zl125, zl127, zl128, zl136, zl200, zl201, zl202, zl203, zl204, zl205, zl206, zl207, zl208, zl209, zl210, zl211, zl212, zl213, zl214, zl215, zl216, zl217, zl218, zl219, zl220, zl235, zl236, zl255, zl280, zl287, zl900, zl999, zl1000, zl1001, zl1136, zl1960, zl3000, zl3001, zl3002, zl3003, zl3004, zl3005, zl3006, zl3007, zl3008, zl3009, zl268435456, zl1000000000]
        have g1 : f_Ne_valueOf b (P2.1 b 9) (P2.1 b 10) P2 = some ((evs (wd v s z t d) (vP v) []).headD 0, P3) := g1
        refine ⟨P3, ?_, sm_trans hs2 (sm_mono g2 (fun o ho => by simp at ho ⊢; exact ho.2))⟩
        rw [if_neg e2, if_neg e, g1]
        show some (mx 0 (mn 40 _), P3) = _
        rw [(clp_le _).2]
    by_cases e : vT v = []
    · obtain ⟨fr, g1, g2, g3, g4⟩ := hC.2.2.2.2.2.1
      have e2 : P1.1 b 8 ≤ P1.1 b 7 := by
        rw [show P1.1 b 7 = nI fr from g1, show P1.1 b 8 = nI (fr + (vT v).length) from g2, e]
        exact nI_le (Nat.le_refl _) (by omega)
      have hcar : car v s z t d = some (pss v s z t d) := by
        unfold car tks
        rw [if_neg h0, if_pos (by simp [e])]
      rw [if_pos e2, hcar]
      exact hj P1 sm_refl
    · obtain ⟨P3, g1, g2⟩ := value_C (q := 0) hC.2.2.2.2.2.1 (hv.2.2.1 e) ha
      obtain ⟨fr, k1, k2, k3, k4⟩ := hC.2.2.2.2.2.1
      have hl : 0 < (vT v).length := List.length_pos_iff.mpr e
      have e2 : ¬ P1.1 b 8 ≤ P1.1 b 7 := by
        rw [show P1.1 b 7 = nI fr from k1, show P1.1 b 8 = nI (fr + (vT v).length) from k2]
        exact nI_ge (by omega) (by omega)
      have g1 : f_Ne_valueOf b (P1.1 b 7) (P1.1 b 8) P1 = some ((evs (wd v s z t d) (vT v) []).headD 0, P3) := g1
      rw [if_neg e2, g1]
      show ∃ P', (if (evs (wd v s z t d) (vT v) []).headD 0 = nI 0 then _ else _) = _ ∧ _
      by_cases c : (evs (wd v s z t d) (vT v) []).headD 0 = nI 0
      · have hcar : car v s z t d = none := by
          unfold car tks
          rw [if_neg h0, if_neg (by rw [decide_eq_true_eq]; exact fun q => q.elim e (fun r => r c))]
        rw [if_pos c, hcar]
        exact ⟨P3, rfl, sm_trans hsm (sm_mono g2 (fun o ho => by simp at ho ⊢; exact ho.2))⟩
      · have hcar : car v s z t d = some (pss v s z t d) := by
          unfold car tks
          rw [if_neg h0, if_pos (by rw [decide_eq_true_eq]; exact Or.inr c)]
        rw [if_neg c, hcar]
        exact hj P3 g2
theorem hours_M {P : PM} {v : NV} {s t : Nat} (h : MNet P 110 0 v) (hs : s < 7) (ht : t < 7) : f_Mo_hoursOf (nI s) (nI t) P = some (nI (vH v s t)) := by
  have := h.2.2.2.1 s t hs ht
  simp (disch := omega) only [z_add, z_mul, z_sub, z_subm, z_addm, z_lt_t, z_lt_f, z_le_t, z_le_f, z_eq_t, z_eq_f, z_eqm, z_meq, z_mm, z_ltm, z_mlt, z_lem, z_mle, z_cl, z_ck, u1_1, u1_2, u2_1, u2_2, ↓reduceIte, Option.bind_some, Option.bind_none, bd2_some, lb_eq, and_true, and_false, true_and, false_and, not_true_eq_false, not_false_eq_true, eq_self_iff_true, if_true, if_false, Nat.reduceEqDiff, Nat.reduceAdd, Nat.reduceMul, Nat.reduceSub, Bool.false_eq_true, zl0, zl1, zl2, zl3, zl4, zl5, zl6, zl7, zl8, zl9, zl10, zl11, zl12, zl13, zl14, zl15, zl16, zl17, zl18, zl19, zl20, zl22, zl23, zl24, zl25, zl30, zl31, zl32, zl33, zl34, zl35, zl36, zl37, zl38, zl39, zl40, zl41, zl42, zl43, zl45, zl48, zl49, zl57, zl58, zl59, zl60, zl61, zl62, zl63, zl64, zl91, zl93, zl97, zl98, zl99, zl100, zl113, zl114, zl115, zl116, zl117, zl122, zl124, zl125, zl127, zl128, zl136, zl200, zl201, zl202, zl203, zl204, zl205, zl206, zl207, zl208, zl209, zl210, zl211, zl212, zl213, zl214, zl215, zl216, zl217, zl218, zl219, zl220, zl235, zl236, zl255, zl280, zl287, zl900, zl999, zl1000, zl1001, zl1136, zl1960, zl3000, zl3001, zl3002, zl3003, zl3004, zl3005, zl3006, zl3007, zl3008, zl3009, zl268435456, zl1000000000, f_Mo_hoursOf]
  rw [show 15 + 7 * s + t = 0 + 15 + (7 * s + t) by omega, this]
theorem reckons_M {P : PM} {v : NV} {q s z t d : Nat} {es : List Nat} {ty : Bool} (h : MNet P 110 0 v) (hq : q < 2) (hl : MLw P 110 0 q es) (he : es ≠ []) (hc : cts es [] = some [ty]) (hs : s < 7) (ht : t < 7) (hd : P.1 110 (117 + t) = nI d) :
    ∃ P', f_Mo_reckons (nI q) (nI s) (nI z) (nI t) P = some ((evs (wd v s z t d) es []).headD 0, P') ∧ sm (fun o => o == 114 || o == 115) P P' := by
  obtain ⟨P1, hP1⟩ : ∃ P1, P1 = u1 (u1 (u1 (u1 (u1 (u1 P 115 0 (nI t)) 115 1 (nI d)) 115 2 (vK v t)) 115 3 (nI z)) 115 4 (nI s)) 115 5 (nI (vH v s t)) := ⟨_, rfl⟩
  have hsm : sm (fun o => o == 114 || o == 115) P P1 := by
    rw [hP1]
    exact sm_u1 (sm_u1 (sm_u1 (sm_u1 (sm_u1 (sm_u1 sm_refl rfl) rfl) rfl) rfl) rfl) rfl
  have hk : P.1 110 (8 + t) = vK v t := by
    have := h.2.2.1 t ht
    rwa [Nat.zero_add] at this
  have ha : ∀ j, j < 6 → P1.1 115 j = wd v s z t d j := by
    intro j hj
    rw [hP1]
    unfold wd
    obtain rfl | rfl | rfl | rfl | rfl | rfl : j = 0 ∨ j = 1 ∨ j = 2 ∨ j = 3 ∨ j = 4 ∨ j = 5 := by omega
    all_goals simp [u1_1]
  obtain ⟨fr, k1, k2, k3, k4⟩ := hl.2 he
  rw [← hsm.1 110 rfl] at k1 k2
  have k4' : ∀ j, j < es.length → P1.1 110 (236 + fr + (0 + j)) = nI (es.getD j 0) := fun j hj => by
    have := k4 j hj
    rw [hsm.1 110 rfl, show 236 + fr + (0 + j) = 0 + 236 + fr + j by omega]
    exact this
  obtain ⟨P2, g1, g2⟩ := rec_loop q fr (wd v s z t d) hq es FU 0 [] [] ty P1 (by have := FU_big; omega) (by omega) k4' (by rw [show 6 + q = 0 + 6 + q by omega, k2, Nat.zero_add]) (by rw [show 4 + q = 0 + 4 + q by omega, k1]) ha trivial trivial hc (by simp)
  refine ⟨P2, ?_, sm_trans hsm (sm_mono g2 (fun o ho => by simp at ho ⊢; exact ho.1))⟩
  rw [← g1]
  unfold f_Mo_reckons
  have hA4 : u1 (u1 (u1 (u1 (u1 P 115 (0 : Int32).toNatClampNeg (nI t)) 115 (1 : Int32).toNatClampNeg ((u1 P 115 (0 : Int32).toNatClampNeg (nI t)).1 110 ((117 : Int32) + nI t).toNatClampNeg)) 115 (2 : Int32).toNatClampNeg ((u1 (u1 P 115 (0 : Int32).toNatClampNeg (nI t)) 115 (1 : Int32).toNatClampNeg ((u1 P 115 (0 : Int32).toNatClampNeg (nI t)).1 110 ((117 : Int32) + nI t).toNatClampNeg)).1 110 ((8 : Int32) + nI t).toNatClampNeg)) 115 (3 : Int32).toNatClampNeg (nI z)) 115 (4 : Int32).toNatClampNeg (nI s) = u1 (u1 (u1 (u1 (u1 P 115 0 (nI t)) 115 1 (nI d)) 115 2 (vK v t)) 115 3 (nI z)) 115 4 (nI s) := by
    simp (disch := omega) only [z_add, z_mul, z_sub, z_subm, z_addm, z_lt_t, z_lt_f, z_le_t, z_le_f, z_eq_t, z_eq_f, z_eqm, z_meq, z_mm, z_ltm, z_mlt, z_lem, z_mle, z_cl, z_ck, u1_1, u1_2, u2_1, u2_2, ↓reduceIte, Option.bind_some, Option.bind_none, bd2_some, lb_eq, and_true, and_false, true_and, false_and, not_true_eq_false, not_false_eq_true, eq_self_iff_true, if_true, if_false, Nat.reduceEqDiff, Nat.reduceAdd, Nat.reduceMul, Nat.reduceSub, Bool.false_eq_true, zl0, zl1, zl2, zl3, zl4, zl5, zl6, zl7, zl8, zl9, zl10, zl11, zl12, zl13, zl14, zl15, zl16, zl17, zl18, zl19, zl20, zl22, zl23, zl24, zl25, zl30, zl31, zl32, zl33, zl34, zl35, zl36, zl37, zl38, zl39, zl40, zl41, zl42, zl43, zl45, zl48, zl49, zl57, zl58, zl59, zl60, zl61, zl62, zl63, zl64, zl91, zl93, zl97, zl98, zl99, zl100, zl113, zl114, zl115, zl116, zl117, zl122, zl124, zl125, zl127, zl128, zl136, zl200, zl201, zl202, zl203, zl204, zl205, zl206, zl207, zl208, zl209, zl210, zl211, zl212, zl213, zl214, zl215, zl216, zl217, zl218, zl219, zl220, zl235, zl236, zl255, zl280, zl287, zl900, zl999, zl1000, zl1001, zl1136, zl1960, zl3000, zl3001, zl3002, zl3003, zl3004, zl3005, zl3006, zl3007, zl3008, zl3009, zl268435456, zl1000000000, hd, hk]
  have e1 : (117 : Int32) + nI t = nI (117 + t) := nI_add 117 t
  have e2 : (8 : Int32) + nI t = nI (8 + t) := nI_add 8 t
  rw [hA4, e1, e2, z_ck (by omega) (by omega), z_ck (by omega) (by omega)]
  have hM4 : MNet (u1 (u1 (u1 (u1 (u1 P 115 0 (nI t)) 115 1 (nI d)) 115 2 (vK v t)) 115 3 (nI z)) 115 4 (nI s)) 110 0 v := MNet_sm h (S := fun o => o == 115) (sm_u1 (sm_u1 (sm_u1 (sm_u1 (sm_u1 sm_refl rfl) rfl) rfl) rfl) rfl) rfl
  rw [hours_M hM4 hs ht]
  show l_Mo_reckons_73 FU (nI q) 0 0 (u1 _ 115 (5 : Int32).toNatClampNeg _) = _
  rw [show (5 : Int32).toNatClampNeg = 5 from rfl, hP1]
  rfl
theorem whyBy_M {P : PM} {v : NV} {s z t d sl : Nat} (h : MNet P 110 0 v) (hv : NVok v) (hs : s < 7) (ht : t < 7) (hd : P.1 110 (117 + t) = nI d) (hsl : sl < 1024) :
    ∃ P', f_Mo_whyBy (nI s) (nI z) (nI t) (nI sl) P = some (nI (why v s z t d sl), P') ∧ sm (fun o => o == 114 || o == 115) P P' := by
  have h9 := (hv.2.1 s t).1
  unfold f_Mo_whyBy
  rw [hours_M h hs ht, isIn_n hsl (by omega)]
  show ∃ P', (if nI (vH v s t) = 0 then _ else _) = _ ∧ _
  by_cases h0 : vH v s t = 0
  · rw [if_pos (by rw [h0]; rfl)]
    exact ⟨P, by unfold why; rw [if_pos h0]; rfl, sm_refl⟩
  rw [if_neg (by simp (disch := omega) only [z_add, z_mul, z_sub, z_subm, z_addm, z_lt_t, z_lt_f, z_le_t, z_le_f, z_eq_t, z_eq_f, z_eqm, z_meq, z_mm, z_ltm, z_mlt, z_lem, z_mle, z_cl, z_ck, u1_1, u1_2, u2_1, u2_2, ↓reduceIte, Option.bind_some, Option.bind_none, bd2_some, lb_eq, and_true, and_false, true_and, false_and, not_true_eq_false, not_false_eq_true, eq_self_iff_true, if_true, if_false, Nat.reduceEqDiff, Nat.reduceAdd, Nat.reduceMul, Nat.reduceSub, Bool.false_eq_true, zl0, zl1, zl2, zl3, zl4, zl5, zl6, zl7, zl8, zl9, zl10, zl11, zl12, zl13, zl14, zl15, zl16, zl17, zl18, zl19, zl20, zl22, zl23, zl24, zl25, zl30, zl31, zl32, zl33, zl34, zl35, zl36, zl37, zl38, zl39, zl40, zl41, zl42, zl43, zl45, zl48, zl49, zl57, zl58, zl59, zl60, zl61, zl62, zl63, zl64, zl91, zl93, zl97, zl98, zl99, zl100, zl113, zl114, zl115, zl116, zl117, zl122, zl124, zl125, zl127, zl128, zl136, zl200, zl201, zl202, zl203, zl204, zl205, zl206, zl207, zl208, zl209, zl210, zl211, zl212, zl213, zl214, zl215, zl216, zl217, zl218, zl219, zl220, zl235, zl236, zl255, zl280, zl287, zl900, zl999, zl1000, zl1001, zl1136, zl1960, zl3000, zl3001, zl3002, zl3003, zl3004, zl3005, zl3006, zl3007, zl3008, zl3009, zl268435456, zl1000000000])]
  by_cases h1 : sl.testBit t = true
  · rw [if_neg (by rw [if_pos h1]; simp (disch := omega) only [z_add, z_mul, z_sub, z_subm, z_addm, z_lt_t, z_lt_f, z_le_t, z_le_f, z_eq_t, z_eq_f, z_eqm, z_meq, z_mm, z_ltm, z_mlt, z_lem, z_mle, z_cl, z_ck, u1_1, u1_2, u2_1, u2_2, ↓reduceIte, Option.bind_some, Option.bind_none, bd2_some, lb_eq, and_true, and_false, true_and, false_and, not_true_eq_false, not_false_eq_true, eq_self_iff_true, if_true, if_false, Nat.reduceEqDiff, Nat.reduceAdd, Nat.reduceMul, Nat.reduceSub, Bool.false_eq_true, zl0, zl1, zl2, zl3, zl4, zl5, zl6, zl7, zl8, zl9, zl10, zl11, zl12, zl13, zl14, zl15, zl16, zl17, zl18, zl19, zl20, zl22, zl23, zl24, zl25, zl30, zl31, zl32, zl33, zl34, zl35, zl36, zl37, zl38, zl39, zl40, zl41, zl42, zl43, zl45, zl48, zl49, zl57, zl58, zl59, zl60, zl61, zl62, zl63, zl64, zl91, zl93, zl97, zl98, zl99, zl100, zl113, zl114, zl115, zl116, zl117, zl122, zl124, zl125, zl127, zl128, zl136, zl200, zl201, zl202, zl203, zl204, zl205, zl206, zl207, zl208, zl209, zl210, zl211, zl212, zl213, zl214, zl215, zl216, zl217, zl218, zl219, zl220, zl235, zl236, zl255, zl280, zl287, zl900, zl999, zl1000, zl1001, zl1136, zl1960, zl3000, zl3001, zl3002, zl3003, zl3004, zl3005, zl3006, zl3007, zl3008, zl3009, zl268435456, zl1000000000])]
    exact ⟨P, by unfold why; rw [if_neg h0, if_pos h1]; rfl, sm_refl⟩
  rw [if_pos (by rw [if_neg h1]; rfl)]
  have hl := h.2.2.2.2.2.1
  have hl1 : P.1 110 (2 : Int32).toNatClampNeg = nI (if vT v = [] then 0 else 1) := hl.1
  rw [hl1]
  by_cases e : vT v = []
  · rw [if_pos (by rw [if_pos e]; rfl)]
    refine ⟨P, ?_, sm_refl⟩
    unfold why tks
    rw [if_neg h0, if_neg h1, if_pos (by rw [decide_eq_true_eq]; exact Or.inl e)]
    rfl
  · rw [if_neg (by rw [if_neg e]; simp (disch := omega) only [z_add, z_mul, z_sub, z_subm, z_addm, z_lt_t, z_lt_f, z_le_t, z_le_f, z_eq_t, z_eq_f, z_eqm, z_meq, z_mm, z_ltm, z_mlt, z_lem, z_mle, z_cl, z_ck, u1_1, u1_2, u2_1, u2_2, ↓reduceIte, Option.bind_some, Option.bind_none, bd2_some, lb_eq, and_true, and_false, true_and, false_and, not_true_eq_false, not_false_eq_true, eq_self_iff_true, if_true, if_false, Nat.reduceEqDiff, Nat.reduceAdd, Nat.reduceMul, Nat.reduceSub, Bool.false_eq_true, zl0, zl1, zl2, zl3, zl4, zl5, zl6, zl7, zl8, zl9, zl10, zl11, zl12, zl13, zl14, zl15, zl16, zl17, zl18, zl19, zl20, zl22, zl23, zl24, zl25, zl30, zl31, zl32, zl33, zl34, zl35, zl36, zl37, zl38, zl39, zl40, zl41, zl42, zl43, zl45, zl48, zl49, zl57, zl58, zl59, zl60, zl61, zl62, zl63, zl64, zl91, zl93, zl97, zl98, zl99, zl100, zl113, zl114, zl115, zl116, zl117, zl122, zl124, zl125, zl127, zl128, zl136, zl200, zl201, zl202, zl203, zl204, zl205, zl206, zl207, zl208, zl209, zl210, zl211, zl212, zl213, zl214, zl215, zl216, zl217, zl218, zl219, zl220, zl235, zl236, zl255, zl280, zl287, zl900, zl999, zl1000, zl1001, zl1136, zl1960, zl3000, zl3001, zl3002, zl3003, zl3004, zl3005, zl3006, zl3007, zl3008, zl3009, zl268435456, zl1000000000])]
    obtain ⟨P2, g1, g2⟩ := reckons_M (z := z) h (by omega) hl e (hv.2.2.1 e) hs ht hd
    rw [show (0 : Int32) = nI 0 from rfl, g1]
    show ∃ P', (if (evs (wd v s z t d) (vT v) []).headD 0 = 1 then _ else _) = _ ∧ _
    obtain ⟨x, r, hx, hx1, _⟩ := tv_c (tv_evs (a := wd v s z t d) (k := []) (ts := []) trivial (hv.2.2.1 e))
    by_cases c : (evs (wd v s z t d) (vT v) []).headD 0 = 1
    · rw [if_pos c]
      refine ⟨P2, ?_, g2⟩
      unfold why tks
      rw [if_neg h0, if_neg h1, if_pos (by rw [decide_eq_true_eq, c]; exact Or.inr (by decide))]
      rfl
    · rw [if_neg c]
      refine ⟨P2, ?_, g2⟩
      unfold why tks
      rw [hx] at c ⊢
      have : x = nI 0 := (hx1 rfl).resolve_right c
      rw [if_neg h0, if_neg h1, if_neg (by rw [decide_eq_true_eq]; exact fun q => q.elim e (fun r => r this))]
      rfl
theorem passedTo_M {P : PM} {v : NV} {s z t d : Nat} (h : MNet P 110 0 v) (hv : NVok v) (hs : s < 7) (ht : t < 7) (hz : z ≤ 40) (hd : P.1 110 (117 + t) = nI d) :
    ∃ P', f_Mo_passedTo (nI s) (nI z) (nI t) P = some (nI (pss v s z t d), P') ∧ sm (fun o => o == 114 || o == 115) P P' := by
  have hj : ∀ x P2, j_Mo_passedTo_21 x P2 = some (nI (clp x), P2) := by
    intro x P2
    rw [← clp_M x]
    unfold j_Mo_passedTo_21
    show (if nI 1 ≤ x then (if x ≤ nI 40 then some (x, P2) else some (nI 40, P2)) else some (nI 0, P2)) = _
    by_cases c1 : nI 1 ≤ x
    · by_cases c2 : x ≤ nI 40
      · rw [if_pos c1, if_pos c2, if_pos c1, if_pos c2]
      · rw [if_pos c1, if_neg c2, if_pos c1, if_neg c2]
    · rw [if_neg c1, if_neg c1]
  unfold f_Mo_passedTo
  have hl := h.2.2.2.2.2.2
  have hl1 : P.1 110 (3 : Int32).toNatClampNeg = nI (if vP v = [] then 0 else 1) := hl.1
  rw [hl1]
  by_cases e : vP v = []
  · rw [if_pos (by rw [if_pos e]; rfl), hj]
    refine ⟨P, ?_, sm_refl⟩
    unfold pss
    rw [if_pos e]
    have : clp (nI z) = z := by
      unfold clp mx mn
      by_cases h4 : z = 40
      · subst h4; rfl
      · by_cases h0 : z = 0
        · subst h0; rfl
        · simp (disch := omega) only [z_add, z_mul, z_sub, z_subm, z_addm, z_lt_t, z_lt_f, z_le_t, z_le_f, z_eq_t, z_eq_f, z_eqm, z_meq, z_mm, z_ltm, z_mlt, z_lem, z_mle, z_cl, z_ck, u1_1, u1_2, u2_1, u2_2, ↓reduceIte, Option.bind_some, Option.bind_none, bd2_some, lb_eq, and_true, and_false, true_and, false_and, not_true_eq_false, not_false_eq_true, eq_self_iff_true, if_true, if_false, Nat.reduceEqDiff, Nat.reduceAdd, Nat.reduceMul, Nat.reduceSub, Bool.false_eq_true, zl0, zl1, zl2, zl3, zl4, zl5, zl6, zl7, zl8, zl9, zl10, zl11, zl12, zl13, zl14, zl15, zl16, zl17, zl18, zl19, zl20, zl22, zl23, zl24, zl25, zl30, zl31, zl32, zl33, zl34, zl35, zl36, zl37, zl38, zl39, zl40, zl41, zl42, zl43, zl45, zl48, zl49, zl57, zl58, zl59, zl60, zl61, zl62, zl63, zl64, zl91, zl93, zl97, zl98, zl99, zl100, zl113, zl114, zl115, zl116, zl117, zl122, zl124, zl125, zl127, zl128, zl136, zl200, zl201, zl202, zl203, zl204, zl205, zl206, zl207, zl208, zl209, zl210, zl211, zl212, zl213, zl214, zl215, zl216, zl217, zl218, zl219, zl220, zl235, zl236, zl255, zl280, zl287, zl900, zl999, zl1000, zl1001, zl1136, zl1960, zl3000, zl3001, zl3002, zl3003, zl3004, zl3005, zl3006, zl3007, zl3008, zl3009, zl268435456, zl1000000000]
    rw [this]
  · rw [if_neg (by rw [if_neg e]; simp (disch := omega) only [z_add, z_mul, z_sub, z_subm, z_addm, z_lt_t, z_lt_f, z_le_t, z_le_f, z_eq_t, z_eq_f, z_eqm, z_meq, z_mm, z_ltm, z_mlt, z_lem, z_mle, z_cl, z_ck, u1_1, u1_2, u2_1, u2_2, ↓reduceIte, Option.bind_some, Option.bind_none, bd2_some, lb_eq, and_true, and_false, true_and, false_and, not_true_eq_false, not_false_eq_true, eq_self_iff_true, if_true, if_false, Nat.reduceEqDiff, Nat.reduceAdd, Nat.reduceMul, Nat.reduceSub, Bool.false_eq_true, zl0, zl1, zl2, zl3, zl4, zl5, zl6, zl7, zl8, zl9, zl10, zl11, zl12, zl13, zl14, zl15, zl16, zl17, zl18, zl19, zl20, zl22, zl23, zl24, zl25, zl30, zl31, zl32, zl33, zl34, zl35, zl36, zl37, zl38, zl39, zl40, zl41, zl42, zl43, zl45, zl48, zl49, zl57, zl58, zl59, zl60, zl61, zl62, zl63, zl64, zl91, zl93, zl97, zl98, zl99, zl100, zl113, zl114, zl115, zl116, zl117, zl122, zl124, zl125, zl127, zl128, zl136, zl200, zl201, zl202, zl203, zl204, zl205, zl206, zl207, zl208, zl209, zl210, zl211, zl212, zl213, zl214, zl215, zl216, zl217, zl218, zl219, zl220, zl235, zl236, zl255, zl280, zl287, zl900, zl999, zl1000, zl1001, zl1136, zl1960, zl3000, zl3001, zl3002, zl3003, zl3004, zl3005, zl3006, zl3007, zl3008, zl3009, zl268435456, zl1000000000])]
    obtain ⟨P2, g1, g2⟩ := reckons_M (z := z) h (by omega) hl e (hv.2.2.2 e) hs ht hd
    rw [show (1 : Int32) = nI 1 from rfl, g1]
    refine ⟨P2, ?_, g2⟩
    rw [bd2_some, hj]
    unfold pss
    rw [if_neg e]
