/-! needed, sleepers -/
theorem comes_C {P : PM} {a : AS} {w g more : Nat} (hC : CRep P a) (hok : AOk a) (hca : CCa P (aV a)) (hw : sW (aS a) = some w) (hm : more < 2 ^ vN (aV a)) (hg : g < 7) :
    ∃ P', f_Ro_comesTo (nI g) (nI more) P = some (nI (if rS (aV a) (aS a) w (sA (aS a) ||| more) g = true then 1 else 0), P') ∧ CRep P' a ∧ CCa P' (aV a) ∧ sm xr P P' := by
  obtain ⟨L, P1, g1, g2, g3, g4, g5⟩ := expl_C hC hok hca hw (Nat.or_lt_two_pow hok.2.1.2.2.2.1 hm)
  refine ⟨P1, ?_, g3, g4, g5⟩
  unfold f_Ro_comesTo
  rw [hC.2.1.2.2.2.1, nx_or, g1, Option.bind_some, isR_C g2 hg, Option.bind_some, ck_t (by split <;> decide)]
theorem inR_M {a : AS} {w sl g : Nat} (hg : g < 7) (P : PM) : f_Mo_isIn (nI (bo (rS (aV a) (aS a) w sl) 7)).toInt64 (nI g) P = nI (if rS (aV a) (aS a) w sl g = true then 1 else 0) := by
  have := bo_lt (rS (aV a) (aS a) w sl) 7
  rw [isIn_n (by omega) (by omega), bo_tb]
  simp [hg]
noncomputable def ndf (a : AS) (w g : Nat) : Nat → Bool := fun t => decide (t ≠ g) && decide (t ≠ w) && !rS (aV a) (aS a) w (sA (aS a) ||| 2 ^ t) g
theorem needed_ok {P : PM} {a : AS} {x : Int32} (hC : CRep P a) (hM : MRep P a) (hca : CCa P (aV a)) (hok : AOk a) :
    ∃ v P1 P2, f_Yr_needed x P = some (v, P1) ∧ f_Mo_needed x P1 = some (v, P2) ∧ Inv P2 := by
  have hA := hok.2.1.2.2.2.1
  have hN := hok.1.1
  rcases i_cases x (vN (aV a)) (by omega) with ⟨g, hg, rfl⟩ | hx
  · cases hw : sW (aS a) with
    | none =>
      refine join (r := -nI 5) (a' := a) hM ⟨P, ?_, hC, hca, sm_refl⟩ (fun P hM => ⟨u1 P 109 0 (0 : Int32), ?_, MRep_me hM me_th, sm_th⟩) hok
      · unfold f_Yr_needed
        rw [isStK hC.1 hok.1 hg, rfn_C hC.2.1 hw]
        rfl
      · have hM1 : MRep (u1 P 109 0 (0 : Int32)) a := MRep_me hM me_th
        unfold f_Mo_needed
        rw [isSt_Mk hM1 hok hg, Option.bind_some, if_neg (by decide), m113 hM1.2.1, hw]
        rfl
    | some w =>
      obtain ⟨h280, _, h7⟩ := pl_ok hok.1 hok.2.1 hw
      refine join (r := if rS (aV a) (aS a) w (sA (aS a)) g = true then nI (bo (ndf a w g) (vN (aV a))) else nI 0) (a' := a) hM ?_ (fun P hM => ?_) hok
      · obtain ⟨P1, g1, g2, g3, g4⟩ := comes_C (g := g) (more := 0) hC hok hca hw (Nat.two_pow_pos _) (by omega)
        rw [Nat.or_zero] at g1
        unfold f_Yr_needed f_Ro_without
        rw [isStK hC.1 hok.1 hg, refus_C hC.2.1 hw h7, lb_eq, if_pos rfl, show (0 : Int32) = nI 0 from rfl, g1, bd2_some]
        by_cases c : rS (aV a) (aS a) w (sA (aS a)) g = true
        · rw [if_pos c, if_neg (by decide), if_pos c]
          have loop : ∀ (m n t : Nat) (P : PM), t + m = vN (aV a) → m < n → CRep P a → CCa P (aV a) → ∃ P', l_Ro_without_15 n (nI g) (nI (bo (ndf a w g) t)) (nI t) P = some (nI (bo (ndf a w g) (vN (aV a))), P') ∧ CRep P' a ∧ CCa P' (aV a) ∧ sm xr P P' := by
            intro m
            induction m with
            | zero =>
              intro n t P ht hn q1 q2
              obtain ⟨n, rfl⟩ : ∃ r, n = r + 1 := ⟨n - 1, by omega⟩
              obtain rfl : t = vN (aV a) := by omega
              rw [l_Ro_without_15, q1.1.1, if_pos (nI_le (Nat.le_refl _) (by omega))]
              exact ⟨P, rfl, q1, q2, sm_refl⟩
            | succ m ih =>
              intro n t P ht hn q1 q2
              obtain ⟨n, rfl⟩ : ∃ r, n = r + 1 := ⟨n - 1, by omega⟩
              have skip : ndf a w g t = false → ∃ P', l_Ro_without_15 n (nI g) (nI (bo (ndf a w g) t)) (nI (t + 1)) P = some (nI (bo (ndf a w g) (vN (aV a))), P') ∧ CRep P' a ∧ CCa P' (aV a) ∧ sm xr P P' := fun h => by
                have := ih n (t + 1) P (by omega) (by omega) q1 q2
                rw [bo_s, h, if_neg (by decide), Nat.or_zero] at this
                exact this
              rw [l_Ro_without_15, q1.1.1, if_neg (nI_ge (by omega) (by omega)), q1.2.1.1, hw, oI_s]
              unfold j_Ro_without_46 j_Ro_without_47 j_Ro_without_72 j_Ro_without_73
              rw [show (1 : Int32) = nI 1 from rfl, nI_add, show (0 : Int32) = nI 0 from rfl, nx_or, Nat.or_zero]
              by_cases c1 : t = g
              · rw [if_pos (by rw [c1]), if_pos rfl, lb_eq]
                exact skip (by unfold ndf; simp [c1])
              rw [if_neg (by simp (disch := omega) only [z_add, z_mul, z_sub, z_subm, z_addm, z_lt_t, z_lt_f, z_le_t, z_le_f, z_eq_t, z_eq_f, z_eqm, z_meq, z_mm, z_ltm, z_mlt, z_lem, z_mle, z_cl, z_ck, u1_1, u1_2, u2_1, u2_2, ↓reduceIte, Option.bind_some, Option.bind_none, bd2_some, lb_eq, and_true, and_false, true_and, false_and, not_true_eq_false, not_false_eq_true, eq_self_iff_true, if_true, if_false, Nat.reduceEqDiff, Nat.reduceAdd, Nat.reduceMul, Nat.reduceSub, Bool.false_eq_true, zl0, zl1, zl2, zl3, zl4, zl5, zl6, zl7, zl8, zl9, zl10, zl11, zl12, zl13, zl14, zl15, zl16, zl17, zl18, zl19, zl20, zl22, zl23, zl24, zl25, zl30, zl31, zl32, zl33, zl34, zl35, zl36, zl37, zl38, zl39, zl40, zl41, zl42, zl43, zl45, zl48, zl49, zl57, zl58, zl59, zl60, zl61, zl62, zl63, zl64, zl91, zl93, zl97, zl98, zl99, zl100, zl113, zl114, zl115, zl116, zl117, zl122, zl124, zl125, zl127, zl128, zl136, zl200, zl201, zl202, zl203, zl204, zl205, zl206, zl207, zl208, zl209, zl210, zl211, zl212, zl213, zl214, zl215, zl216, zl217, zl218, zl219, zl220, zl235, zl236, zl255, zl280, zl287, zl900, zl999, zl1000, zl1001, zl1136, zl1960, zl3000, zl3001, zl3002, zl3003, zl3004, zl3005, zl3006, zl3007, zl3008, zl3009, zl268435456, zl1000000000])]
              by_cases c2 : t = w
              · rw [if_pos (by rw [c2]), if_pos rfl, lb_eq]
                exact skip (by unfold ndf; simp [c2])
              rw [if_neg (by simp (disch := omega) only [z_add, z_mul, z_sub, z_subm, z_addm, z_lt_t, z_lt_f, z_le_t, z_le_f, z_eq_t, z_eq_f, z_eqm, z_meq, z_mm, z_ltm, z_mlt, z_lem, z_mle, z_cl, z_ck, u1_1, u1_2, u2_1, u2_2, ↓reduceIte, Option.bind_some, Option.bind_none, bd2_some, lb_eq, and_true, and_false, true_and, false_and, not_true_eq_false, not_false_eq_true, eq_self_iff_true, if_true, if_false, Nat.reduceEqDiff, Nat.reduceAdd, Nat.reduceMul, Nat.reduceSub, Bool.false_eq_true, zl0, zl1, zl2, zl3, zl4, zl5, zl6, zl7, zl8, zl9, zl10, zl11, zl12, zl13, zl14, zl15, zl16, zl17, zl18, zl19, zl20, zl22, zl23, zl24, zl25, zl30, zl31, zl32, zl33, zl34, zl35, zl36, zl37, zl38, zl39, zl40, zl41, zl42, zl43, zl45, zl48, zl49, zl57, zl58, zl59, zl60, zl61, zl62, zl63, zl64, zl91, zl93, zl97, zl98, zl99, zl100, zl113, zl114, zl115, zl116, zl117, zl122, zl124, zl125, zl127, zl128, zl136, zl200, zl201, zl202, zl203, zl204, zl205, zl206, zl207, zl208, zl209, zl210, zl211, zl212, zl213, zl214, zl215, zl216, zl217, zl218, zl219, zl220, zl235, zl236, zl255, zl280, zl287, zl900, zl999, zl1000, zl1001, zl1136, zl1960, zl3000, zl3001, zl3002, zl3003, zl3004, zl3005, zl3006, zl3007, zl3008, zl3009, zl268435456, zl1000000000]), if_neg (by decide), show nI 1 = (1 : Int32) from rfl, sh_1 t (by omega), nx_or]
              obtain ⟨P2, b1, b2, b3, b4⟩ := comes_C (g := g) (more := 2 ^ t) q1 hok q2 hw (Nat.pow_lt_pow_right (by decide) (by omega)) (by omega)
              obtain ⟨P3, d1, d2, d3, d4⟩ := ih n (t + 1) P2 (by omega) (by omega) b2 b3
              rw [bo_s] at d1
              rw [b1, bd2_some]
              by_cases c3 : rS (aV a) (aS a) w (sA (aS a) ||| 2 ^ t) g = true
              · rw [show ndf a w g t = false by unfold ndf; simp [c3], if_neg (by decide), Nat.or_zero] at d1
                rw [if_pos c3, if_neg (by decide), lb_eq]
                exact ⟨P3, d1, d2, d3, sm_trans b4 d4⟩
              · rw [show ndf a w g t = true by unfold ndf; simp [c1, c2, c3], if_pos rfl] at d1
                rw [if_neg c3, if_pos rfl, lb_eq]
                exact ⟨P3, d1, d2, d3, sm_trans b4 d4⟩
          obtain ⟨P2, d1, d2, d3, d4⟩ := loop (vN (aV a)) FU 0 P1 (by omega) (by have := FU_big; omega) g2 g3
          rw [show l_Ro_without_15 FU (nI g) (nI 0) (nI 0) P1 = _ from d1]
          exact ⟨P2, rfl, d2, d3, xr_cl (sm_trans g4 d4)⟩
        · rw [if_neg c, if_pos rfl, if_neg c]
          exact ⟨P1, rfl, g2, g3, xr_cl g4⟩
      · have hM1 : MRep (u1 P 109 0 (0 : Int32)) a := MRep_me hM me_th
        obtain ⟨P1, g1, g2, g3⟩ := reachBy_M hM1 hok hw hA
        unfold f_Mo_needed
        rw [isSt_Mk hM1 hok hg, Option.bind_some, if_neg (by decide), m113 hM1.2.1, hw, oI_s, if_neg (by simp (disch := omega) only [z_add, z_mul, z_sub, z_subm, z_addm, z_lt_t, z_lt_f, z_le_t, z_le_f, z_eq_t, z_eq_f, z_eqm, z_meq, z_mm, z_ltm, z_mlt, z_lem, z_mle, z_cl, z_ck, u1_1, u1_2, u2_1, u2_2, ↓reduceIte, Option.bind_some, Option.bind_none, bd2_some, lb_eq, and_true, and_false, true_and, false_and, not_true_eq_false, not_false_eq_true, eq_self_iff_true, if_true, if_false, Nat.reduceEqDiff, Nat.reduceAdd, Nat.reduceMul, Nat.reduceSub, Bool.false_eq_true, zl0, zl1, zl2, zl3, zl4, zl5, zl6, zl7, zl8, zl9, zl10, zl11, zl12, zl13, zl14, zl15, zl16, zl17, zl18, zl19, zl20, zl22, zl23, zl24, zl25, zl30, zl31, zl32, zl33, zl34, zl35, zl36, zl37, zl38, zl39, zl40, zl41, zl42, zl43, zl45, zl48, zl49, zl57, zl58, zl59, zl60, zl61, zl62, zl63, zl64, zl91, zl93, zl97, zl98, zl99, zl100, zl113, zl114, zl115, zl116, zl117, zl122, zl124, zl125, zl127, zl128, zl136, zl200, zl201, zl202, zl203, zl204, zl205, zl206, zl207, zl208, zl209, zl210, zl211, zl212, zl213, zl214, zl215, zl216, zl217, zl218, zl219, zl220, zl235, zl236, zl255, zl280, zl287, zl900, zl999, zl1000, zl1001, zl1136, zl1960, zl3000, zl3001, zl3002, zl3003, zl3004, zl3005, zl3006, zl3007, zl3008, zl3009, zl268435456, zl1000000000]), m116 hM1.2.1, g1, bd2_some, inR_M (by omega)]
        by_cases c : rS (aV a) (aS a) w (sA (aS a)) g = true
        · rw [if_pos c, if_neg (by decide), if_pos c]
          have loop : ∀ (m n t : Nat) (P : PM), t + m = vN (aV a) → m < n → MRep P a → ∃ P', l_Mo_needed_56 n (nI g) (nI (bo (ndf a w g) t)) (nI t) P = some (nI (bo (ndf a w g) (vN (aV a))), P') ∧ MRep P' a ∧ sm lyr P P' := by
            intro m
            induction m with
            | zero =>
              intro n t P ht hn q1
              obtain ⟨n, rfl⟩ : ∃ r, n = r + 1 := ⟨n - 1, by omega⟩
              obtain rfl : t = vN (aV a) := by omega
              rw [l_Mo_needed_56, show P.1 110 (1 : Int32).toNatClampNeg = nI (vN (aV a)) from q1.1.1, if_pos (nI_le (Nat.le_refl _) (by omega))]
              exact ⟨P, rfl, q1, sm_refl⟩
            | succ m ih =>
              intro n t P ht hn q1
              obtain ⟨n, rfl⟩ : ∃ r, n = r + 1 := ⟨n - 1, by omega⟩
              have skip : ndf a w g t = false → ∃ P', l_Mo_needed_56 n (nI g) (nI (bo (ndf a w g) t)) (nI (t + 1)) P = some (nI (bo (ndf a w g) (vN (aV a))), P') ∧ MRep P' a ∧ sm lyr P P' := fun h => by
                have := ih n (t + 1) P (by omega) (by omega) q1
                rw [bo_s, h, if_neg (by decide), Nat.or_zero] at this
                exact this
              rw [l_Mo_needed_56, show P.1 110 (1 : Int32).toNatClampNeg = nI (vN (aV a)) from q1.1.1, if_neg (nI_ge (by omega) (by omega)), m113 q1.2.1, hw, oI_s]
              unfold j_Mo_needed_111
              rw [sh_1 t (by omega), nx_or, m116 q1.2.1, nx_or, show (1 : Int32) = nI 1 from rfl, nI_add]
              by_cases c1 : t = g
              · rw [if_pos (by rw [c1])]
                exact skip (by unfold ndf; simp [c1])
              rw [if_neg (by simp (disch := omega) only [z_add, z_mul, z_sub, z_subm, z_addm, z_lt_t, z_lt_f, z_le_t, z_le_f, z_eq_t, z_eq_f, z_eqm, z_meq, z_mm, z_ltm, z_mlt, z_lem, z_mle, z_cl, z_ck, u1_1, u1_2, u2_1, u2_2, ↓reduceIte, Option.bind_some, Option.bind_none, bd2_some, lb_eq, and_true, and_false, true_and, false_and, not_true_eq_false, not_false_eq_true, eq_self_iff_true, if_true, if_false, Nat.reduceEqDiff, Nat.reduceAdd, Nat.reduceMul, Nat.reduceSub, Bool.false_eq_true, zl0, zl1, zl2, zl3, zl4, zl5, zl6, zl7, zl8, zl9, zl10, zl11, zl12, zl13, zl14, zl15, zl16, zl17, zl18, zl19, zl20, zl22, zl23, zl24, zl25, zl30, zl31, zl32, zl33, zl34, zl35, zl36, zl37, zl38, zl39, zl40, zl41, zl42, zl43, zl45, zl48, zl49, zl57, zl58, zl59, zl60, zl61, zl62, zl63, zl64, zl91, zl93, zl97, zl98, zl99, zl100, zl113, zl114, zl115, zl116, zl117, zl122, zl124, zl125, zl127, zl128, zl136, zl200, zl201, zl202, zl203, zl204, zl205, zl206, zl207, zl208, zl209, zl210, zl211, zl212, zl213, zl214, zl215, zl216, zl217, zl218, zl219, zl220, zl235, zl236, zl255, zl280, zl287, zl900, zl999, zl1000, zl1001, zl1136, zl1960, zl3000, zl3001, zl3002, zl3003, zl3004, zl3005, zl3006, zl3007, zl3008, zl3009, zl268435456, zl1000000000])]
              by_cases c2 : t = w
              · rw [if_pos (by rw [c2])]
                exact skip (by unfold ndf; simp [c2])
              rw [if_neg (by simp (disch := omega) only [z_add, z_mul, z_sub, z_subm, z_addm, z_lt_t, z_lt_f, z_le_t, z_le_f, z_eq_t, z_eq_f, z_eqm, z_meq, z_mm, z_ltm, z_mlt, z_lem, z_mle, z_cl, z_ck, u1_1, u1_2, u2_1, u2_2, ↓reduceIte, Option.bind_some, Option.bind_none, bd2_some, lb_eq, and_true, and_false, true_and, false_and, not_true_eq_false, not_false_eq_true, eq_self_iff_true, if_true, if_false, Nat.reduceEqDiff, Nat.reduceAdd, Nat.reduceMul, Nat.reduceSub, Bool.false_eq_true, zl0, zl1, zl2, zl3, zl4, zl5, zl6, zl7, zl8, zl9, zl10, zl11, zl12, zl13, zl14, zl15, zl16, zl17, zl18, zl19, zl20, zl22, zl23, zl24, zl25, zl30, zl31, zl32, zl33, zl34, zl35, zl36, zl37, zl38, zl39, zl40, zl41, zl42, zl43, zl45, zl48, zl49, zl57, zl58, zl59, zl60, zl61, zl62, zl63, zl64, zl91, zl93, zl97, zl98, zl99, zl100, zl113, zl114, zl115, zl116, zl117, zl122, zl124, zl125, zl127, zl128, zl136, zl200, zl201, zl202, zl203, zl204, zl205, zl206, zl207, zl208, zl209, zl210, zl211, zl212, zl213, zl214, zl215, zl216, zl217, zl218, zl219, zl220, zl235, zl236, zl255, zl280, zl287, zl900, zl999, zl1000, zl1001, zl1136, zl1960, zl3000, zl3001, zl3002, zl3003, zl3004, zl3005, zl3006, zl3007, zl3008, zl3009, zl268435456, zl1000000000])]
              obtain ⟨P2, b1, b2, b3⟩ := reachBy_M q1 hok hw (Nat.or_lt_two_pow hA (Nat.pow_lt_pow_right (by decide) (show t < vN (aV a) by omega)))
              obtain ⟨P3, d1, d2, d3⟩ := ih n (t + 1) P2 (by omega) (by omega) b2
              rw [bo_s] at d1
              rw [b1, bd2_some, inR_M (by omega)]
              by_cases c3 : rS (aV a) (aS a) w (sA (aS a) ||| 2 ^ t) g = true
              · rw [show ndf a w g t = false by unfold ndf; simp [c3], if_neg (by decide), Nat.or_zero] at d1
                rw [if_pos c3, if_neg (by decide)]
                exact ⟨P3, d1, d2, sm_trans b3 d3⟩
              · rw [show ndf a w g t = true by unfold ndf; simp [c1, c2, c3], if_pos rfl] at d1
                rw [if_neg c3, if_pos (by decide), lb_eq]
                exact ⟨P3, d1, d2, sm_trans b3 d3⟩
          obtain ⟨P2, d1, d2, d3⟩ := loop (vN (aV a)) FU 0 P1 (by omega) (by have := FU_big; omega) g2
          exact ⟨P2, d1, d2, sm_trans sm_th (ly_mo (sm_trans g3 d3))⟩
        · rw [if_neg c, if_pos (by decide), if_neg c]
          exact ⟨P1, rfl, g2, sm_trans sm_th (ly_mo g3)⟩
  · refine join (r := -nI 2) (a' := a) hM ⟨P, ?_, hC, hca, sm_refl⟩ (fun P hM => ⟨u1 P 109 0 (0 : Int32), ?_, MRep_me hM me_th, sm_th⟩) hok
    · unfold f_Yr_needed
      rw [refus_s hC.1 hok.1 hx]
      rfl
    · have hM1 : MRep (u1 P 109 0 (0 : Int32)) a := MRep_me hM me_th
      unfold f_Mo_needed
      rw [isSt_Mn hM1 hok hx]
      rfl
/-- sleepers: sets that do -/
noncomputable def slv (a : AS) (w g b : Nat) : Bool := decide (b < 2 ^ vN (aV a)) && !b.testBit g && !b.testBit w && !rS (aV a) (aS a) w (sA (aS a) ||| b) g
/-- the first of as few as can be, of the first n -/
def lst2 (f : Nat → Bool) : Nat → Option Nat
  | 0 => none
  | n + 1 => if f n = true ∧ ∀ b, lst2 f n = some b → pc 7 n < pc 7 b then some n else lst2 f n
theorem lst2_some {f : Nat → Bool} : ∀ {n b : Nat}, lst2 f n = some b → b < n ∧ f b = true ∧ (∀ c, c < n → f c = true → pc 7 b ≤ pc 7 c) ∧ ∀ c, c < b → f c = true → pc 7 b < pc 7 c
  | 0, _, h => by cases h
  | n + 1, b, h => by
    unfold lst2 at h
    split at h
    · rename_i hc
      cases h
      refine ⟨by omega, hc.1, fun c h1 h2 => ?_, fun c h1 h2 => ?_⟩
      · by_cases e : c = n
        · rw [e]; exact Nat.le_refl _
        · cases e2 : lst2 f n with
          | none => exact absurd h2 (by
              have : ∀ m, lst2 f m = none → ∀ c, c < m → ¬ f c = true := by
                intro m
                induction m with
                | zero => intro _ c hc; omega
                | succ m ih =>
                  intro h c hc
                  unfold lst2 at h
                  split at h
                  · cases h
                  · rename_i hn
                    by_cases e : c = m
                    · subst e; exact fun hf => hn ⟨hf, fun b hb => by rw [h] at hb; cases hb⟩
                    · exact ih h c (by omega)
              exact this n e2 c (by omega))
          | some b' =>
            obtain ⟨_, _, k3, _⟩ := lst2_some e2
            have := hc.2 b' e2
            have := k3 c (by omega) h2
            omega
      · cases e2 : lst2 f n with
        | none => exact absurd h2 (by
            have : ∀ m, lst2 f m = none → ∀ c, c < m → ¬ f c = true := by
              intro m
              induction m with
              | zero => intro _ c hc; omega
              | succ m ih =>
                intro h c hc
                unfold lst2 at h
                split at h
                · cases h
                · rename_i hn
                  by_cases e : c = m
                  · subst e; exact fun hf => hn ⟨hf, fun b hb => by rw [h] at hb; cases hb⟩
                  · exact ih h c (by omega)
            exact this n e2 c (by omega))
        | some b' =>
          obtain ⟨_, _, k3, _⟩ := lst2_some e2
          have := hc.2 b' e2
          have := k3 c (by omega) h2
          omega
    · rename_i hc
      obtain ⟨k1, k2, k3, k4⟩ := lst2_some h
      refine ⟨by omega, k2, fun c h1 h2 => ?_, k4⟩
      by_cases e : c = n
      · subst e
        apply Nat.not_lt.mp
        exact fun hlt => hc ⟨h2, fun b' hb' => by rw [h] at hb'; cases hb'; exact hlt⟩
      · exact k3 c (by omega) h2
theorem lst2_none {f : Nat → Bool} : ∀ {n : Nat}, lst2 f n = none → ∀ c, c < n → f c = false
  | 0, _, c, hc => by omega
  | n + 1, h, c, hc => by
    unfold lst2 at h
    split at h
    · cases h
    · rename_i hn
      by_cases e : c = n
      · subst e
        cases hf : f c with
        | false => rfl
        | true => exact absurd ⟨hf, fun b hb => by rw [h] at hb; cases hb⟩ hn
      · exact lst2_none h c (by omega)
theorem and_lt : ∀ a, a < 128 → ∀ b, b < 128 → a &&& b ≠ 0 → pc 7 (b ^^^ (a &&& b)) < pc 7 b := by decide +kernel
theorem or_x : ∀ a, a < 128 → ∀ b, b < 128 → a ||| (b ^^^ (a &&& b)) = a ||| b := by decide +kernel
theorem and_x : ∀ a, a < 128 → ∀ b, b < 128 → a &&& (b ^^^ (a &&& b)) = 0 ∧ b ^^^ (a &&& b) ≤ b := by decide +kernel
theorem lst2_eq {a : AS} {w g : Nat} (hok : AOk a) (hg : g < 7) : lst2 (slv a w g) 128 = lst2 (fun b => slv a w g b && decide (b &&& sA (aS a) = 0)) (2 ^ vN (aV a)) := by
  have hA := hok.2.1.2.2.2.1
  have h7 := pw_le hok.1.1
  have hN : ∀ b, slv a w g b = true → b < 2 ^ vN (aV a) := fun b h => by
    unfold slv at h
    simp only [Bool.and_eq_true, decide_eq_true_eq] at h
    exact h.1.1.1
  have hdis : ∀ b, slv a w g b = true → (∀ c, c < 128 → slv a w g c = true → pc 7 b ≤ pc 7 c) → b &&& sA (aS a) = 0 := by
    intro b hb hmin
    have hbN := hN b hb
    apply Classical.byContradiction
    intro hne
    have hne' : sA (aS a) &&& b ≠ 0 := by rw [Nat.and_comm]; exact hne
    have h1 := and_lt (sA (aS a)) (by omega) b (by omega) hne'
    have h2 := or_x (sA (aS a)) (by omega) b (by omega)
    have h3 := and_x (sA (aS a)) (by omega) b (by omega)
    have h4 : slv a w g (b ^^^ (sA (aS a) &&& b)) = true := by
      unfold slv at hb ⊢
      simp only [Bool.and_eq_true, decide_eq_true_eq, Bool.not_eq_true'] at hb ⊢
      obtain ⟨⟨⟨b1, b2⟩, b3⟩, b4⟩ := hb
      refine ⟨⟨⟨by omega, ?_⟩, ?_⟩, by rw [h2]; exact b4⟩
      · rw [Nat.testBit_xor, Nat.testBit_and, b2]; simp
      · rw [Nat.testBit_xor, Nat.testBit_and, b3]; simp
    have := hmin _ (by omega) h4
    omega
  cases e1 : lst2 (slv a w g) 128 with
  | none =>
    cases e2 : lst2 (fun b => slv a w g b && decide (b &&& sA (aS a) = 0)) (2 ^ vN (aV a)) with
    | none => rfl
    | some b =>
      obtain ⟨k1, k2, _⟩ := lst2_some e2
      simp only [Bool.and_eq_true] at k2
      have := lst2_none e1 b (by omega)
      rw [k2.1] at this
      cases this
  | some b =>
    obtain ⟨k1, k2, k3, k4⟩ := lst2_some e1
    have hd := hdis b k2 k3
    have hbN := hN b k2
    cases e2 : lst2 (fun b => slv a w g b && decide (b &&& sA (aS a) = 0)) (2 ^ vN (aV a)) with
    | none =>
      have := lst2_none e2 b hbN
      simp [k2, hd] at this
    | some c =>
      obtain ⟨m1, m2, m3, m4⟩ := lst2_some e2
      simp only [Bool.and_eq_true, decide_eq_true_eq] at m2
      have p1 := k3 c (by omega) m2.1
      have p2 := m3 b hbN (by simp [k2, hd])
      have : b = c := by
        rcases Nat.lt_trichotomy b c with h | h | h
        · have := m4 b h (by simp [k2, hd]); omega
        · exact h
        · have := k4 c h m2.1; omega
      rw [this]
theorem pc_le : ∀ b, b < 128 → pc 7 b ≤ 7 := by decide +kernel
theorem canS_C {P : PM} {a : AS} {w g b : Nat} (hC : CRep P a) (hok : AOk a) (hw : sW (aS a) = some w) (hb : b < 128) (hg : g < 7) (hw7 : w < 7) : f_Ro_canSleep (nI b) (nI g) P = nI (if (decide (b < 2 ^ vN (aV a)) && !b.testBit g && !b.testBit w) = true then 1 else 0) := by
  have hN := hok.1.1
  have h7 := pw_le hN
  unfold f_Ro_canSleep j_Ro_canSleep_39
  rw [hC.1.1, sh_1 _ (by omega), has_n (by omega) (by omega), hC.2.1.1, hw, oI_s, has_n (by omega) (by omega)]
  by_cases c1 : b < 2 ^ vN (aV a)
  · rw [if_neg (nI_ge c1 (by omega))]
    by_cases c2 : b.testBit g = true
    · rw [if_pos c2, if_neg (by decide), if_neg (by simp [c2])]
      rfl
    · rw [if_neg c2, if_pos (by decide)]
      by_cases c3 : b.testBit w = true
      · rw [if_pos c3, if_neg (by decide), if_neg (by simp [c3])]
        rfl
      · rw [if_neg c3, if_pos (by decide), if_pos (by simp [c1, c2, c3])]
        rfl
  · rw [if_pos (nI_le (by omega) (by omega)), if_neg (by simp [c1])]
    rfl
theorem least_C {P : PM} {a : AS} {w g : Nat} (hC : CRep P a) (hok : AOk a) (hca : CCa P (aV a)) (hw : sW (aS a) = some w) (hg : g < vN (aV a)) :
    ∃ P', f_Ro_leastSleepers (nI g) P = some (oI (lst2 (slv a w g) 128), P') ∧ CRep P' a ∧ CCa P' (aV a) ∧ sm xr P P' := by
  have hN := hok.1.1
  obtain ⟨_, _, hw7⟩ := pl_ok hok.1 hok.2.1 hw
  have loop : ∀ (m n b : Nat) (P : PM), b + m = 128 → m < n → CRep P a → CCa P (aV a) → ∃ P', l_Ro_leastSleepers_8 n (nI g) (oI (lst2 (slv a w g) b)) (match lst2 (slv a w g) b with | none => nI 8 | some c => nI (pc 7 c)) (nI b) P = some (oI (lst2 (slv a w g) 128), P') ∧ CRep P' a ∧ CCa P' (aV a) ∧ sm xr P P' := by
    intro m
    induction m with
    | zero =>
      intro n b P hb hn q1 q2
      obtain ⟨n, rfl⟩ : ∃ r, n = r + 1 := ⟨n - 1, by omega⟩
      obtain rfl : b = 128 := by omega
      rw [l_Ro_leastSleepers_8, if_pos (by decide)]
      exact ⟨P, rfl, q1, q2, sm_refl⟩
    | succ m ih =>
      intro n b P hb hn q1 q2
      obtain ⟨n, rfl⟩ : ∃ r, n = r + 1 := ⟨n - 1, by omega⟩
      have hpc := pc_le b (by omega)
      have hbest : ∀ c, lst2 (slv a w g) b = some c → pc 7 c ≤ 7 := fun c hc => pc_le c (by have := (lst2_some hc).1; omega)
      have hcmp : ((match lst2 (slv a w g) b with | none => nI 8 | some c => nI (pc 7 c)) ≤ nI (pc 7 b)) ↔ ¬ ∀ c, lst2 (slv a w g) b = some c → pc 7 b < pc 7 c := by
        cases e : lst2 (slv a w g) b with
        | none =>
          refine ⟨fun h => absurd h (nI_ge (by omega) (by omega)), fun h => absurd (fun c hc => by cases hc) h⟩
        | some c =>
          have := hbest c e
          constructor
          · intro h hall
            exact absurd h (nI_ge (hall c rfl) (by omega))
          · intro h
            apply nI_le _ (by omega)
            apply Nat.not_lt.mp
            exact fun hlt => h (fun c' hc' => by cases hc'; exact hlt)
      have keep : ¬ (slv a w g b = true ∧ ∀ c, lst2 (slv a w g) b = some c → pc 7 b < pc 7 c) → ∀ P1, CRep P1 a → CCa P1 (aV a) → ∃ P', l_Ro_leastSleepers_8 n (nI g) (oI (lst2 (slv a w g) b)) (match lst2 (slv a w g) b with | none => nI 8 | some c => nI (pc 7 c)) (nI (b + 1)) P1 = some (oI (lst2 (slv a w g) 128), P') ∧ CRep P' a ∧ CCa P' (aV a) ∧ sm xr P1 P' := fun h P1 r1 r2 => by
        have e : lst2 (slv a w g) (b + 1) = lst2 (slv a w g) b := by rw [lst2, if_neg h]
        have := ih n (b + 1) P1 (by omega) (by omega) r1 r2
        rw [e] at this
        exact this
      rw [l_Ro_leastSleepers_8, if_neg (by simp (disch := omega) only [z_add, z_mul, z_sub, z_subm, z_addm, z_lt_t, z_lt_f, z_le_t, z_le_f, z_eq_t, z_eq_f, z_eqm, z_meq, z_mm, z_ltm, z_mlt, z_lem, z_mle, z_cl, z_ck, u1_1, u1_2, u2_1, u2_2, ↓reduceIte, Option.bind_some, Option.bind_none, bd2_some, lb_eq, and_true, and_false, true_and, false_and, not_true_eq_false, not_false_eq_true, eq_self_iff_true, if_true, if_false, Nat.reduceEqDiff, Nat.reduceAdd, Nat.reduceMul, Nat.reduceSub, Bool.false_eq_true, zl0, zl1, zl2, zl3, zl4, zl5, zl6, zl7, zl8, zl9, zl10, zl11, zl12, zl13, zl14, zl15, zl16, zl17, zl18, zl19, zl20, zl22, zl23, zl24, zl25, zl30, zl31, zl32, zl33, zl34, zl35, zl36, zl37, zl38, zl39, zl40, zl41, zl42, zl43, zl45, zl48, zl49, zl57, zl58, zl59, zl60, zl61, zl62, zl63, zl64, zl91, zl93, zl97, zl98, zl99, zl100, zl113, zl114, zl115, zl116, zl117, zl122, zl124, zl125, zl127, zl128, zl136, zl200, zl201, zl202, zl203, zl204, zl205, zl206, zl207, zl208, zl209, zl210, zl211, zl212, zl213, zl214, zl215, zl216, zl217, zl218, zl219, zl220, zl235, zl236, zl255, zl280, zl287, zl900, zl999, zl1000, zl1001, zl1136, zl1960, zl3000, zl3001, zl3002, zl3003, zl3004, zl3005, zl3006, zl3007, zl3008, zl3009, zl268435456, zl1000000000]), bitCount_n (by omega), canS_C q1 hok hw (by omega) (by omega) hw7]
      unfold j_Ro_leastSleepers_39 j_Ro_leastSleepers_40 j_Ro_leastSleepers_66
      rw [show (1 : Int32) = nI 1 from rfl, nI_add]
      by_cases c1 : ∀ c, lst2 (slv a w g) b = some c → pc 7 b < pc 7 c
      · rw [if_neg (fun q => (hcmp.mp q) c1)]
        by_cases c2 : (decide (b < 2 ^ vN (aV a)) && !b.testBit g && !b.testBit w) = true
        · have hbN : b < 2 ^ vN (aV a) := by
            simp only [Bool.and_eq_true, decide_eq_true_eq] at c2
            exact c2.1.1
          obtain ⟨P1, b1, b2, b3, b4⟩ := comes_C (g := g) (more := b) q1 hok q2 hw hbN (by omega)
          rw [if_pos c2, if_neg (by decide), if_neg (by decide), b1, bd2_some]
          by_cases c3 : rS (aV a) (aS a) w (sA (aS a) ||| b) g = true
          · rw [if_pos c3, if_neg (by decide)]
            obtain ⟨P2, r1, r2, r3, r4⟩ := keep (fun q => by
              have := q.1
              unfold slv at this
              rw [c3] at this
              simp at this) P1 b2 b3
            exact ⟨P2, r1, r2, r3, sm_trans b4 r4⟩
          · have hs : slv a w g b = true := by
              unfold slv
              rw [c2]
              simp [c3]
            have e : lst2 (slv a w g) (b + 1) = some b := by rw [lst2, if_pos ⟨hs, c1⟩]
            obtain ⟨P2, r1, r2, r3, r4⟩ := ih n (b + 1) P1 (by omega) (by omega) b2 b3
            rw [e] at r1
            rw [if_neg c3, if_pos (by decide), bitCount_n (by omega), lb_eq]
            exact ⟨P2, r1, r2, r3, sm_trans b4 r4⟩
        · rw [if_neg c2, if_pos (by decide), if_pos (by decide)]
          exact keep (fun q => c2 (by
            have := q.1
            unfold slv at this
            rw [Bool.and_eq_true] at this
            exact this.1)) P q1 q2
      · rw [if_pos (hcmp.mpr c1), if_pos (by decide)]
        exact keep (fun q => c1 q.2) P q1 q2
  exact loop 128 FU 0 P (by omega) (by have := FU_big; omega) hC hca
theorem bO_l (b : Nat) (hb : b < 128) (P : PM) : ∀ (m n i acc : Nat), i + m = 10 → m < n → acc ≤ i → l_Mo_bitsOf_4 n (nI b) (nI acc) (nI i) P = some (nI (acc + cnt (fun j => b.testBit (i + j)) m)) := by
  intro m
  induction m with
  | zero =>
    intro n i acc hi hn ha
    obtain ⟨n, rfl⟩ : ∃ r, n = r + 1 := ⟨n - 1, by omega⟩
    obtain rfl : i = 10 := by omega
    rw [l_Mo_bitsOf_4, if_pos (by decide)]
    rfl
  | succ m ih =>
    intro n i acc hi hn ha
    obtain ⟨n, rfl⟩ : ∃ r, n = r + 1 := ⟨n - 1, by omega⟩
    have hs := cnt_shift (fun j => b.testBit (i + j)) 1 m
    have h1 : cnt (fun j => b.testBit (i + j)) 1 = if b.testBit i = true then 1 else 0 := by
      rw [cnt_s]
      show 0 + (if b.testBit (i + 0) = true then 1 else 0) = _
      rw [Nat.add_zero, Nat.zero_add]
    have h2 : cnt (fun t => b.testBit (i + (1 + t))) m = cnt (fun j => b.testBit (i + 1 + j)) m := cnt_congr m (fun j _ => by rw [Nat.add_assoc])
    rw [Nat.add_comm 1 m, h1, h2] at hs
    rw [l_Mo_bitsOf_4, if_neg (by simp (disch := omega) only [z_add, z_mul, z_sub, z_subm, z_addm, z_lt_t, z_lt_f, z_le_t, z_le_f, z_eq_t, z_eq_f, z_eqm, z_meq, z_mm, z_ltm, z_mlt, z_lem, z_mle, z_cl, z_ck, u1_1, u1_2, u2_1, u2_2, ↓reduceIte, Option.bind_some, Option.bind_none, bd2_some, lb_eq, and_true, and_false, true_and, false_and, not_true_eq_false, not_false_eq_true, eq_self_iff_true, if_true, if_false, Nat.reduceEqDiff, Nat.reduceAdd, Nat.reduceMul, Nat.reduceSub, Bool.false_eq_true, zl0, zl1, zl2, zl3, zl4, zl5, zl6, zl7, zl8, zl9, zl10, zl11, zl12, zl13, zl14, zl15, zl16, zl17, zl18, zl19, zl20, zl22, zl23, zl24, zl25, zl30, zl31, zl32, zl33, zl34, zl35, zl36, zl37, zl38, zl39, zl40, zl41, zl42, zl43, zl45, zl48, zl49, zl57, zl58, zl59, zl60, zl61, zl62, zl63, zl64, zl91, zl93, zl97, zl98, zl99, zl100, zl113, zl114, zl115, zl116, zl117, zl122, zl124, zl125, zl127, zl128, zl136, zl200, zl201, zl202, zl203, zl204, zl205, zl206, zl207, zl208, zl209, zl210, zl211, zl212, zl213, zl214, zl215, zl216, zl217, zl218, zl219, zl220, zl235, zl236, zl255, zl280, zl287, zl900, zl999, zl1000, zl1001, zl1136, zl1960, zl3000, zl3001, zl3002, zl3003, zl3004, zl3005, zl3006, zl3007, zl3008, zl3009, zl268435456, zl1000000000]), show (1 : Int32) = nI 1 from rfl, sar_n (by omega) (by omega), nI_add, lb_eq, nI_add]
    have := ih n (i + 1) (acc + (if b.testBit i = true then 1 else 0)) (by omega) (by omega) (by split <;> omega)
    rw [this, hs, Nat.add_assoc]
theorem pc_cnt : ∀ b, b < 128 → cnt (fun j => b.testBit (0 + j)) 10 = pc 7 b := by decide +kernel
theorem bitsOf_M {b : Nat} (hb : b < 128) (P : PM) : f_Mo_bitsOf (nI b) P = some (nI (pc 7 b)) := by
  unfold f_Mo_bitsOf
  rw [show (0 : Int32) = nI 0 from rfl, bO_l b hb P 10 FU 0 0 (by omega) (by have := FU_big; omega) (by omega), pc_cnt b hb, Nat.zero_add]
