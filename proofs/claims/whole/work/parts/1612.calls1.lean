/-! pass, off, sleep, dull, undo -/
theorem aps_n {v : NV} {s : SV} {t : Nat} (h : (aps v s t).1 ≠ 0) : (aps v s t).2 = s := by
  unfold aps at *
  split at h
  · rename_i c
    rw [if_pos c]
    exact if_neg h
  · rename_i c
    rw [if_neg c]
theorem why_lt {v : NV} {s z t d sl : Nat} : why v s z t d sl < 5 := by
  unfold why
  split
  · omega
  · split
    · omega
    · split <;> omega
theorem whyP_lt {v : NV} {s : SV} {t : Nat} : whyP v s t < 5 := by
  unfold whyP
  split
  · omega
  · exact why_lt
theorem aps_lt {v : NV} {s : SV} {t : Nat} : (aps v s t).1 < 5 := by
  unfold aps
  split
  · exact whyP_lt
  · show 1 < 5; omega
theorem m113 {P : PM} {s : SV} (h : MSt P 110 113 s) : P.1 110 (113 : Int32).toNatClampNeg = oI (sW s) := h.1
theorem m114 {P : PM} {s : SV} (h : MSt P 110 113 s) : P.1 110 (114 : Int32).toNatClampNeg = nI (sZ s) := h.2.1
theorem m115 {P : PM} {s : SV} (h : MSt P 110 113 s) : P.1 110 (115 : Int32).toNatClampNeg = sH s := h.2.2.1
theorem m116 {P : PM} {s : SV} (h : MSt P 110 113 s) : P.1 110 (116 : Int32).toNatClampNeg = nI (sA s) := h.2.2.2.1
theorem sm_th {P : PM} {x : Int32} : sm mo P (u1 P 109 0 x) := sm_u1 sm_refl rfl
theorem er_mo {P P' : PM} (h : sm er P P') : sm mo P P' := sm_mono h (fun o ho => by simp [mo] at ho; simp [er]; omega)
theorem r14_mo {P P' : PM} (h : sm (fun o => o == 114 || o == 115) P P') : sm mo P P' := sm_mono h (fun o ho => by simp [mo] at ho; simp; omega)
theorem MRep_14 {P P' : PM} {a : AS} (h : MRep P a) (g : sm (fun o => o == 114 || o == 115) P P') : MRep P' a := MRep_me h (me_sm g (fun o e => by simp [msr] at e; simp; omega) rfl)
theorem pass_ok {P : PM} {a : AS} {t : Int32} (hC : CRep P a) (hM : MRep P a) (hca : CCa P (aV a)) (hok : AOk a) :
    ∃ v P1 P2, f_Yr_pass t P = some (v, P1) ∧ f_Mo_pass t P1 = some (v, P2) ∧ Inv P2 := by
  have hN := hok.1.1
  rcases i_cases t (vN (aV a)) (by omega) with ⟨k, hk, rfl⟩ | hx
  · refine join (r := if (aps (aV a) (aS a) k).1 = 0 then nI (sZ (aps (aV a) (aS a) k).2) else -nI (10 + (aps (aV a) (aS a) k).1)) (a' := if (aps (aV a) (aS a) k).1 = 0 then setSP a (aps (aV a) (aS a) k).2 ((aS a :: aP a).take 10) else a) hM ?_ ?_ ?_
    · obtain ⟨P1, P2, g1, g2, g3, g4, g5⟩ := deed_C (f := f_De_tryPass 21 (nI k)) hC hok hca (fun P1 n1 t1 => tryPass_C (Or.inl rfl) n1 hok.1 t1 hok.2.1 hk) aps_n (by have := @aps_lt (aV a) (aS a) k; omega)
      obtain ⟨P3, l1, l2, l3, l4⟩ := g5 (P2.1 21 1)
      refine ⟨P3, ?_, l2, ?_, l4⟩
      · unfold f_Yr_pass
        rw [g1, Option.bind_some, g3, bd2_some, l1, bd2_some, g4.2.1]
      · split <;> exact l3
    · intro P hM
      have hM1 : MRep (u1 P 109 0 (0 : Int32)) a := MRep_me hM me_th
      obtain ⟨P1, g1, g2⟩ := whyPass_M hM1.1 hok.1 hM1.2.1 hok.2.1 (show k < 100 by omega)
      have hM2 : MRep P1 a := MRep_14 hM1 g2
      unfold f_Mo_pass
      rw [nI_l (by omega), g1, bd2_some]
      by_cases h0 : (aps (aV a) (aS a) k).1 = 0
      · have hap : aps (aV a) (aS a) k = (whyP (aV a) (aS a) k, if whyP (aV a) (aS a) k = 0 then goP (aV a) (aS a) k else aS a) := if_pos hk
        have hw0 : whyP (aV a) (aS a) k = 0 := by rw [hap] at h0; exact h0
        have h2 : (aps (aV a) (aS a) k).2 = goP (aV a) (aS a) k := by rw [hap]; exact if_pos hw0
        rw [if_pos (by rw [h0]; rfl), if_pos h0, if_pos h0, keeps_M, Option.bind_some, h2]
        have c1 : MNet (cpy P1 110 113 116 0 0 11) 110 0 (aV a) := MNet_sm hM2.1 cpy_sm rfl
        have c2 : MSt (cpy P1 110 113 116 0 0 11) 110 113 (aS a) := MSt_sm hM2.2.1 cpy_sm rfl
        obtain ⟨P2, k1, k2, k3⟩ := goes_M c1 hok.1 c2 hok.2.1 hk hw0
        obtain ⟨P3, l1, l2, l3, l4, _⟩ := deed_M hM2 hok k2 k3
        refine ⟨P3, ?_, l2, sm_trans sm_th (sm_trans (r14_mo g2) (er_mo l3))⟩
        rw [k1, Option.bind_some, l1, Option.bind_some, m114 l4]
      · have := @aps_lt (aV a) (aS a) k
        rw [if_neg (by simp (disch := omega) only [z_add, z_mul, z_sub, z_subm, z_addm, z_lt_t, z_lt_f, z_le_t, z_le_f, z_eq_t, z_eq_f, z_eqm, z_meq, z_mm, z_ltm, z_mlt, z_lem, z_mle, z_cl, z_ck, u1_1, u1_2, u2_1, u2_2, ↓reduceIte, Option.bind_some, Option.bind_none, bd2_some, lb_eq, and_true, and_false, true_and, false_and, not_true_eq_false, not_false_eq_true, eq_self_iff_true, if_true, if_false, Nat.reduceEqDiff, Nat.reduceAdd, Nat.reduceMul, Nat.reduceSub, Bool.false_eq_true, zl0, zl1, zl2, zl3, zl4, zl5, zl6, zl7, zl8, zl9, zl10, zl11, zl12, zl13, zl14, zl15, zl16, zl17, zl18, zl19, zl20, zl22, zl23, zl24, zl25, zl30, zl31, zl32, zl33, zl34, zl35, zl36, zl37, zl38, zl39, zl40, zl41, zl42, zl43, zl45, zl48, zl49, zl57, zl58, zl59, zl60, zl61, zl62, zl63, zl64, zl91, zl93, zl97, zl98, zl99, zl100, zl113, zl114, zl115, zl116, zl117, zl122, zl124, zl125, zl127, zl128, zl136, zl200, zl201, zl202, zl203, zl204, zl205, zl206, zl207, zl208, zl209, zl210, zl211, zl212, zl213, zl214, zl215, zl216, zl217, zl218, zl219, zl220, zl235, zl236, zl255, zl280, zl287, zl900, zl999, zl1000, zl1001, zl1136, zl1960, zl3000, zl3001, zl3002, zl3003, zl3004, zl3005, zl3006, zl3007, zl3008, zl3009, zl268435456, zl1000000000]), if_neg h0, if_neg h0]
        refine ⟨P1, ?_, hM2, sm_trans sm_th (r14_mo g2)⟩
        rw [show (-10 : Int32) = -nI 10 from rfl, z_msub]
    · split
      · exact AOk_SP hok (SVok_aps hok.2.1)
      · exact hok
  · refine join (r := -nI 11) (a' := a) hM ?_ ?_ hok
    · obtain ⟨P1, P2, g1, g2, g3, g4, g5⟩ := deed_C (f := f_De_tryPass 21 t) (w := 1) (s' := aS a) hC hok hca (fun P1 n1 t1 => ⟨P1, by unfold f_De_tryPass; rw [isSt_Cn n1 hok.1 hx]; rfl, t1, sm_refl⟩) (fun _ => rfl) (by omega)
      obtain ⟨P3, l1, l2, l3, l4⟩ := g5 (P2.1 21 1)
      refine ⟨P3, ?_, l2, l3, l4⟩
      unfold f_Yr_pass
      rw [g1, Option.bind_some, g3, bd2_some, l1, bd2_some]
      rfl
    · intro P hM
      have hM1 : MRep (u1 P 109 0 (0 : Int32)) a := MRep_me hM me_th
      refine ⟨u1 P 109 0 (0 : Int32), ?_, hM1, sm_th⟩
      unfold f_Mo_pass f_Mo_whyPass
      rw [isStation_M _ hM1.1.1 hN, tl_ti, if_neg hx, Option.bind_some, if_pos (by decide), bd2_some, if_neg (by decide)]
      rfl
theorem aof_H {v : NV} {s : SV} {t z : Nat} : sH (aof v s t z).2 = sH s := by
  unfold aof
  split <;> rfl
theorem off_ok {P : PM} {a : AS} {t z : Int32} (hC : CRep P a) (hM : MRep P a) (hca : CCa P (aV a)) (hok : AOk a) :
    ∃ v P1 P2, f_Yr_off t z P = some (v, P1) ∧ f_Mo_off t z P1 = some (v, P2) ∧ Inv P2 := by
  have hN := hok.1.1
  by_cases hx : (0 ≤ t.toInt ∧ t.toInt < vN (aV a)) ∧ 1 ≤ z.toInt ∧ z.toInt ≤ 40
  · obtain ⟨k, hk, rfl⟩ : ∃ k, k < vN (aV a) ∧ t = nI k := (i_cases t (vN (aV a)) (by omega)).resolve_right (fun q => q hx.1)
    obtain ⟨y, hy, rfl⟩ : ∃ k, k < 41 ∧ z = nI k := (i_cases z 41 (by omega)).resolve_right (fun q => q (by omega))
    have hy1 : 1 ≤ y := by have := hx.2.1; rw [nI_ti (by omega)] at this; omega
    have hz := hx.2
    refine join (r := sH (aS a)) (a' := setSP a (aof (aV a) (aS a) k y).2 ((aS a :: aP a).take 10)) hM ?_ ?_ (AOk_SP hok (SVok_aof hok.2.1))
    · obtain ⟨P1, P2, g1, g2, g3, g4, g5⟩ := deed_C (f := f_De_tryOff 21 (nI k) (nI y)) (w := 0) hC hok hca (fun P1 n1 t1 => tryOff_C (Or.inl rfl) n1 hok.1 t1 hk hy1 (by omega)) (fun h => absurd rfl h) (by omega)
      obtain ⟨P3, l1, l2, l3, l4⟩ := g5 (P2.1 21 2)
      refine ⟨P3, ?_, l2, l3, l4⟩
      unfold f_Yr_off
      rw [g1, Option.bind_some, g3, bd2_some, l1, bd2_some, if_pos rfl, g4.2.2.1, aof_H]
    · intro P hM
      have hM1 : MRep (u1 P 109 0 (0 : Int32)) a := MRep_me hM me_th
      have c2 : MSt (cpy (u1 P 109 0 (0 : Int32)) 110 113 116 0 0 11) 110 113 (aS a) := MSt_sm hM1.2.1 cpy_sm rfl
      obtain ⟨P2, hP2⟩ : ∃ P2, P2 = u1 (u1 (cpy (u1 P 109 0 (0 : Int32)) 110 113 116 0 0 11) 110 113 (nI k)) 110 114 (nI y) := ⟨_, rfl⟩
      have k2 : MSt P2 110 113 (aof (aV a) (aS a) k y).2 := by
        unfold aof
        rw [if_pos ⟨hk, hy1, by omega⟩, hP2]
        refine ⟨?_, ?_, ?_, ?_, fun i hi => ?_⟩
        · simp (disch := omega) only [z_add, z_mul, z_sub, z_subm, z_addm, z_lt_t, z_lt_f, z_le_t, z_le_f, z_eq_t, z_eq_f, z_eqm, z_meq, z_mm, z_ltm, z_mlt, z_lem, z_mle, z_cl, z_ck, u1_1, u1_2, u2_1, u2_2, ↓reduceIte, Option.bind_some, Option.bind_none, bd2_some, lb_eq, and_true, and_false, true_and, false_and, not_true_eq_false, not_false_eq_true, eq_self_iff_true, if_true, if_false, Nat.reduceEqDiff, Nat.reduceAdd, Nat.reduceMul, Nat.reduceSub, Bool.false_eq_true, zl0, zl1, zl2, zl3, zl4, zl5, zl6, zl7, zl8, zl9, zl10, zl11, zl12, zl13, zl14, zl15, zl16, zl17, zl18, zl19, zl20, zl22, zl23, zl24, zl25, zl30, zl31, zl32, zl33, zl34, zl35, zl36, zl37, zl38, zl39, zl40, zl41, zl42, zl43, zl45, zl48, zl49, zl57, zl58, zl59, zl60, zl61, zl62, zl63, zl64, zl91, zl93, zl97, zl98, zl99, zl100, zl113, zl114, zl115, zl116, zl117, zl122, zl124, zl125, zl127, zl128, zl136, zl200, zl201, zl202, zl203, zl204, zl205, zl206, zl207, zl208, zl209, zl210, zl211, zl212, zl213, zl214, zl215, zl216, zl217, zl218, zl219, zl220, zl235, zl236, zl255, zl280, zl287, zl900, zl999, zl1000, zl1001, zl1136, zl1960, zl3000, zl3001, zl3002, zl3003, zl3004, zl3005, zl3006, zl3007, zl3008, zl3009, zl268435456, zl1000000000]; rfl
        · simp (disch := omega) only [z_add, z_mul, z_sub, z_subm, z_addm, z_lt_t, z_lt_f, z_le_t, z_le_f, z_eq_t, z_eq_f, z_eqm, z_meq, z_mm, z_ltm, z_mlt, z_lem, z_mle, z_cl, z_ck, u1_1, u1_2, u2_1, u2_2, ↓reduceIte, Option.bind_some, Option.bind_none, bd2_some, lb_eq, and_true, and_false, true_and, false_and, not_true_eq_false, not_false_eq_true, eq_self_iff_true, if_true, if_false, Nat.reduceEqDiff, Nat.reduceAdd, Nat.reduceMul, Nat.reduceSub, Bool.false_eq_true, zl0, zl1, zl2, zl3, zl4, zl5, zl6, zl7, zl8, zl9, zl10, zl11, zl12, zl13, zl14, zl15, zl16, zl17, zl18, zl19, zl20, zl22, zl23, zl24, zl25, zl30, zl31, zl32, zl33, zl34, zl35, zl36, zl37, zl38, zl39, zl40, zl41, zl42, zl43, zl45, zl48, zl49, zl57, zl58, zl59, zl60, zl61, zl62, zl63, zl64, zl91, zl93, zl97, zl98, zl99, zl100, zl113, zl114, zl115, zl116, zl117, zl122, zl124, zl125, zl127, zl128, zl136, zl200, zl201, zl202, zl203, zl204, zl205, zl206, zl207, zl208, zl209, zl210, zl211, zl212, zl213, zl214, zl215, zl216, zl217, zl218, zl219, zl220, zl235, zl236, zl255, zl280, zl287, zl900, zl999, zl1000, zl1001, zl1136, zl1960, zl3000, zl3001, zl3002, zl3003, zl3004, zl3005, zl3006, zl3007, zl3008, zl3009, zl268435456, zl1000000000]; rfl
        · simp (disch := omega) only [z_add, z_mul, z_sub, z_subm, z_addm, z_lt_t, z_lt_f, z_le_t, z_le_f, z_eq_t, z_eq_f, z_eqm, z_meq, z_mm, z_ltm, z_mlt, z_lem, z_mle, z_cl, z_ck, u1_1, u1_2, u2_1, u2_2, ↓reduceIte, Option.bind_some, Option.bind_none, bd2_some, lb_eq, and_true, and_false, true_and, false_and, not_true_eq_false, not_false_eq_true, eq_self_iff_true, if_true, if_false, Nat.reduceEqDiff, Nat.reduceAdd, Nat.reduceMul, Nat.reduceSub, Bool.false_eq_true, zl0, zl1, zl2, zl3, zl4, zl5, zl6, zl7, zl8, zl9, zl10, zl11, zl12, zl13, zl14, zl15, zl16, zl17, zl18, zl19, zl20, zl22, zl23, zl24, zl25, zl30, zl31, zl32, zl33, zl34, zl35, zl36, zl37, zl38, zl39, zl40, zl41, zl42, zl43, zl45, zl48, zl49, zl57, zl58, zl59, zl60, zl61, zl62, zl63, zl64, zl91, zl93, zl97, zl98, zl99, zl100, zl113, zl114, zl115, zl116, zl117, zl122, zl124, zl125, zl127, zl128, zl136, zl200, zl201, zl202, zl203, zl204, zl205, zl206, zl207, zl208, zl209, zl210, zl211, zl212, zl213, zl214, zl215, zl216, zl217, zl218, zl219, zl220, zl235, zl236, zl255, zl280, zl287, zl900, zl999, zl1000, zl1001, zl1136, zl1960, zl3000, zl3001, zl3002, zl3003, zl3004, zl3005, zl3006, zl3007, zl3008, zl3009, zl268435456, zl1000000000]; exact c2.2.2.1
        · simp (disch := omega) only [z_add, z_mul, z_sub, z_subm, z_addm, z_lt_t, z_lt_f, z_le_t, z_le_f, z_eq_t, z_eq_f, z_eqm, z_meq, z_mm, z_ltm, z_mlt, z_lem, z_mle, z_cl, z_ck, u1_1, u1_2, u2_1, u2_2, ↓reduceIte, Option.bind_some, Option.bind_none, bd2_some, lb_eq, and_true, and_false, true_and, false_and, not_true_eq_false, not_false_eq_true, eq_self_iff_true, if_true, if_false, Nat.reduceEqDiff, Nat.reduceAdd, Nat.reduceMul, Nat.reduceSub, Bool.false_eq_true, zl0, zl1, zl2, zl3, zl4, zl5, zl6, zl7, zl8, zl9, zl10, zl11, zl12, zl13, zl14, zl15, zl16, zl17, zl18, zl19, zl20, zl22, zl23, zl24, zl25, zl30, zl31, zl32, zl33, zl34, zl35, zl36, zl37, zl38, zl39, zl40, zl41, zl42, zl43, zl45, zl48, zl49, zl57, zl58, zl59, zl60, zl61, zl62, zl63, zl64, zl91, zl93, zl97, zl98, zl99, zl100, zl113, zl114, zl115, zl116, zl117, zl122, zl124, zl125, zl127, zl128, zl136, zl200, zl201, zl202, zl203, zl204, zl205, zl206, zl207, zl208, zl209, zl210, zl211, zl212, zl213, zl214, zl215, zl216, zl217, zl218, zl219, zl220, zl235, zl236, zl255, zl280, zl287, zl900, zl999, zl1000, zl1001, zl1136, zl1960, zl3000, zl3001, zl3002, zl3003, zl3004, zl3005, zl3006, zl3007, zl3008, zl3009, zl268435456, zl1000000000]; exact c2.2.2.2.1
        · rw [u1_1, if_neg (by omega), u1_1, if_neg (by omega)]; exact c2.2.2.2.2 i hi
      have k3 : mj (cpy (u1 P 109 0 (0 : Int32)) 110 113 116 0 0 11) P2 := by
        rw [hP2]
        exact mj_u1 (mj_u1 mj_refl (by omega)) (by omega)
      obtain ⟨P3, l1, l2, l3, l4, _⟩ := deed_M hM1 hok k2 k3
      refine ⟨P3, ?_, l2, sm_trans sm_th (er_mo l3)⟩
      unfold f_Mo_off
      rw [isStation_M _ hM1.1.1 hN, tl_ti, if_pos hx.1, Option.bind_some, if_neg (by decide), isSize_M, tl_ti, if_pos hz, Option.bind_some, if_neg (by decide), keeps_M, Option.bind_some]
      rw [show f_Mo_letsOff (nI k) (nI y) (cpy (u1 P 109 0 (0 : Int32)) 110 113 116 0 0 11) = some P2 by rw [hP2]; rfl, Option.bind_some, l1, Option.bind_some, m115 l4, aof_H]
  · refine join (r := -nI 11) (a' := a) hM ?_ ?_ hok
    · obtain ⟨P1, P2, g1, g2, g3, g4, g5⟩ := deed_C (f := f_De_tryOff 21 t z) (w := 1) (s' := aS a) hC hok hca (fun P1 n1 t1 => ⟨P1, by
        unfold f_De_tryOff
        rcases i_cases t (vN (aV a)) (by omega) with ⟨k, hk, rfl⟩ | hy
        · have hz : ¬ (1 ≤ z.toInt ∧ z.toInt ≤ 40) := fun q => hx ⟨by rw [nI_ti (by omega)]; omega, q⟩
          have e1 : f_Yr_isSize z P1 = nI 0 := by rw [isSz_C, if_neg hz]
          rw [isSt_C n1 hok.1 (by omega), if_pos hk, if_neg (by decide), e1]
          rfl
        · rw [isSt_Cn n1 hok.1 hy]; rfl, t1, sm_refl⟩) (fun _ => rfl) (by omega)
      obtain ⟨P3, l1, l2, l3, l4⟩ := g5 (P2.1 21 2)
      refine ⟨P3, ?_, l2, l3, l4⟩
      unfold f_Yr_off
      rw [g1, Option.bind_some, g3, bd2_some, l1, bd2_some]
      rfl
    · intro P hM
      have hM1 : MRep (u1 P 109 0 (0 : Int32)) a := MRep_me hM me_th
      refine ⟨u1 P 109 0 (0 : Int32), ?_, hM1, sm_th⟩
      unfold f_Mo_off
      rw [isStation_M _ hM1.1.1 hN, tl_ti]
      by_cases c : 0 ≤ t.toInt ∧ t.toInt < vN (aV a)
      · rw [if_pos c, Option.bind_some, if_neg (by decide), isSize_M, tl_ti, if_neg (fun q => hx ⟨c, q⟩)]
        rfl
      · rw [if_neg c]
        rfl
theorem sleep_ok {P : PM} {a : AS} {t : Int32} (hC : CRep P a) (hM : MRep P a) (hca : CCa P (aV a)) (hok : AOk a) :
    ∃ v P1 P2, f_Yr_sleep t P = some (v, P1) ∧ f_Mo_sleep t P1 = some (v, P2) ∧ Inv P2 := by
  have hN := hok.1.1
  rcases i_cases t (vN (aV a)) (by omega) with ⟨k, hk, rfl⟩ | hx
  · have hA2 : sA (asl (aV a) (aS a) k).2 = sA (aS a) ^^^ 2 ^ k := by unfold asl; rw [if_pos hk]; rfl
    have h7 := pw_le hN
    have hso := SVok_asl (t := k) hok.2.1
    have hlt := hso.2.2.2.1
    refine join (r := nI (if (sA (asl (aV a) (aS a) k).2).testBit k = true then 1 else 0)) (a' := setSP a (asl (aV a) (aS a) k).2 ((aS a :: aP a).take 10)) hM ?_ ?_ (AOk_SP hok hso)
    · obtain ⟨P1, P2, g1, g2, g3, g4, g5⟩ := deed_C (f := f_De_trySleep 21 (nI k)) (w := 0) hC hok hca (fun P1 n1 t1 => trySleep_C (Or.inl rfl) n1 hok.1 t1 hk) (fun h => absurd rfl h) (by omega)
      obtain ⟨P3, l1, l2, l3, l4⟩ := g5 (nI (if (sA (asl (aV a) (aS a) k).2).testBit k = true then 1 else 0))
      refine ⟨P3, ?_, l2, l3, l4⟩
      unfold f_Yr_sleep
      rw [g1, Option.bind_some, g3, bd2_some, asleep_C g4 hok.1 hso (by omega)]
      by_cases c : (sA (asl (aV a) (aS a) k).2).testBit k = true
      · rw [if_pos c] at l1 ⊢
        rw [if_neg (by decide), show (1 : Int32) = nI 1 from rfl, l1]
        rfl
      · rw [if_neg c] at l1 ⊢
        rw [if_pos (by decide), show (0 : Int32) = nI 0 from rfl, l1]
        rfl
    · intro P hM
      have hM1 : MRep (u1 P 109 0 (0 : Int32)) a := MRep_me hM me_th
      have c2 : MSt (cpy (u1 P 109 0 (0 : Int32)) 110 113 116 0 0 11) 110 113 (aS a) := MSt_sm hM1.2.1 cpy_sm rfl
      obtain ⟨P2, hP2⟩ : ∃ P2, P2 = u1 (cpy (u1 P 109 0 (0 : Int32)) 110 113 116 0 0 11) 110 116 (nI (sA (aS a) ^^^ 2 ^ k)) := ⟨_, rfl⟩
      have k2 : MSt P2 110 113 (asl (aV a) (aS a) k).2 := by
        unfold asl
        rw [if_pos hk, hP2]
        refine ⟨?_, ?_, ?_, ?_, fun i hi => ?_⟩
        · simp (disch := omega) only [z_add, z_mul, z_sub, z_subm, z_addm, z_lt_t, z_lt_f, z_le_t, z_le_f, z_eq_t, z_eq_f, z_eqm, z_meq, z_mm, z_ltm, z_mlt, z_lem, z_mle, z_cl, z_ck, u1_1, u1_2, u2_1, u2_2, ↓reduceIte, Option.bind_some, Option.bind_none, bd2_some, lb_eq, and_true, and_false, true_and, false_and, not_true_eq_false, not_false_eq_true, eq_self_iff_true, if_true, if_false, Nat.reduceEqDiff, Nat.reduceAdd, Nat.reduceMul, Nat.reduceSub, Bool.false_eq_true, zl0, zl1, zl2, zl3, zl4, zl5, zl6, zl7, zl8, zl9, zl10, zl11, zl12, zl13, zl14, zl15, zl16, zl17, zl18, zl19, zl20, zl22, zl23, zl24, zl25, zl30, zl31, zl32, zl33, zl34, zl35, zl36, zl37, zl38, zl39, zl40, zl41, zl42, zl43, zl45, zl48, zl49, zl57, zl58, zl59, zl60, zl61, zl62, zl63, zl64, zl91, zl93, zl97, zl98, zl99, zl100, zl113, zl114, zl115, zl116, zl117, zl122, zl124, zl125, zl127, zl128, zl136, zl200, zl201, zl202, zl203, zl204, zl205, zl206, zl207, zl208, zl209, zl210, zl211, zl212, zl213, zl214, zl215, zl216, zl217, zl218, zl219, zl220, zl235, zl236, zl255, zl280, zl287, zl900, zl999, zl1000, zl1001, zl1136, zl1960, zl3000, zl3001, zl3002, zl3003, zl3004, zl3005, zl3006, zl3007, zl3008, zl3009, zl268435456, zl1000000000]; exact c2.1
        · simp (disch := omega) only [z_add, z_mul, z_sub, z_subm, z_addm, z_lt_t, z_lt_f, z_le_t, z_le_f, z_eq_t, z_eq_f, z_eqm, z_meq, z_mm, z_ltm, z_mlt, z_lem, z_mle, z_cl, z_ck, u1_1, u1_2, u2_1, u2_2, ↓reduceIte, Option.bind_some, Option.bind_none, bd2_some, lb_eq, and_true, and_false, true_and, false_and, not_true_eq_false, not_false_eq_true, eq_self_iff_true, if_true, if_false, Nat.reduceEqDiff, Nat.reduceAdd, Nat.reduceMul, Nat.reduceSub, Bool.false_eq_true, zl0, zl1, zl2, zl3, zl4, zl5, zl6, zl7, zl8, zl9, zl10, zl11, zl12, zl13, zl14, zl15, zl16, zl17, zl18, zl19, zl20, zl22, zl23, zl24, zl25, zl30, zl31, zl32, zl33, zl34, zl35, zl36, zl37, zl38, zl39, zl40, zl41, zl42, zl43, zl45, zl48, zl49, zl57, zl58, zl59, zl60, zl61, zl62, zl63, zl64, zl91, zl93, zl97, zl98, zl99, zl100, zl113, zl114, zl115, zl116, zl117, zl122, zl124, zl125, zl127, zl128, zl136, zl200, zl201, zl202, zl203, zl204, zl205, zl206, zl207, zl208, zl209, zl210, zl211, zl212, zl213, zl214, zl215, zl216, zl217, zl218, zl219, zl220, zl235, zl236, zl255, zl280, zl287, zl900, zl999, zl1000, zl1001, zl1136, zl1960, zl3000, zl3001, zl3002, zl3003, zl3004, zl3005, zl3006, zl3007, zl3008, zl3009, zl268435456, zl1000000000]; exact c2.2.1
        · simp (disch := omega) only [z_add, z_mul, z_sub, z_subm, z_addm, z_lt_t, z_lt_f, z_le_t, z_le_f, z_eq_t, z_eq_f, z_eqm, z_meq, z_mm, z_ltm, z_mlt, z_lem, z_mle, z_cl, z_ck, u1_1, u1_2, u2_1, u2_2, ↓reduceIte, Option.bind_some, Option.bind_none, bd2_some, lb_eq, and_true, and_false, true_and, false_and, not_true_eq_false, not_false_eq_true, eq_self_iff_true, if_true, if_false, Nat.reduceEqDiff, Nat.reduceAdd, Nat.reduceMul, Nat.reduceSub, Bool.false_eq_true, zl0, zl1, zl2, zl3, zl4, zl5, zl6, zl7, zl8, zl9, zl10, zl11, zl12, zl13, zl14, zl15, zl16, zl17, zl18, zl19, zl20, zl22, zl23, zl24, zl25, zl30, zl31, zl32, zl33, zl34, zl35, zl36, zl37, zl38, zl39, zl40, zl41, zl42, zl43, zl45, zl48, zl49, zl57, zl58, zl59, zl60, zl61, zl62, zl63, zl64, zl91, zl93, zl97, zl98, zl99, zl100, zl113, zl114, zl115, zl116, zl117, zl122, zl124, zl125, zl127, zl128, zl136, zl200, zl201, zl202, zl203, zl204, zl205, zl206, zl207, zl208, zl209, zl210, zl211, zl212, zl213, zl214, zl215, zl216, zl217, zl218, zl219, zl220, zl235, zl236, zl255, zl280, zl287, zl900, zl999, zl1000, zl1001, zl1136, zl1960, zl3000, zl3001, zl3002, zl3003, zl3004, zl3005, zl3006, zl3007, zl3008, zl3009, zl268435456, zl1000000000]; exact c2.2.2.1
        · simp (disch := omega) only [z_add, z_mul, z_sub, z_subm, z_addm, z_lt_t, z_lt_f, z_le_t, z_le_f, z_eq_t, z_eq_f, z_eqm, z_meq, z_mm, z_ltm, z_mlt, z_lem, z_mle, z_cl, z_ck, u1_1, u1_2, u2_1, u2_2, ↓reduceIte, Option.bind_some, Option.bind_none, bd2_some, lb_eq, and_true, and_false, true_and, false_and, not_true_eq_false, not_false_eq_true, eq_self_iff_true, if_true, if_false, Nat.reduceEqDiff, Nat.reduceAdd, Nat.reduceMul, Nat.reduceSub, Bool.false_eq_true, zl0, zl1, zl2, zl3, zl4, zl5, zl6, zl7, zl8, zl9, zl10, zl11, zl12, zl13, zl14, zl15, zl16, zl17, zl18, zl19, zl20, zl22, zl23, zl24, zl25, zl30, zl31, zl32, zl33, zl34, zl35, zl36, zl37, zl38, zl39, zl40, zl41, zl42, zl43, zl45, zl48, zl49, zl57, zl58, zl59, zl60, zl61, zl62, zl63, zl64, zl91, zl93, zl97, zl98, zl99, zl100, zl113, zl114, zl115, zl116, zl117, zl122, zl124, zl125, zl127, zl128, zl136, zl200, zl201, zl202, zl203, zl204, zl205, zl206, zl207, zl208, zl209, zl210, zl211, zl212, zl213, zl214, zl215, zl216, zl217, zl218, zl219, zl220, zl235, zl236, zl255, zl280, zl287, zl900, zl999, zl1000, zl1001, zl1136, zl1960, zl3000, zl3001, zl3002, zl3003, zl3004, zl3005, zl3006, zl3007, zl3008, zl3009, zl268435456, zl1000000000]; rfl
        · rw [u1_1, if_neg (by omega)]; exact c2.2.2.2.2 i hi
      have k3 : mj (cpy (u1 P 109 0 (0 : Int32)) 110 113 116 0 0 11) P2 := by
        rw [hP2]
        exact mj_u1 mj_refl (by omega)
      obtain ⟨P3, l1, l2, l3, l4, _⟩ := deed_M hM1 hok k2 k3
      refine ⟨P3, ?_, l2, sm_trans sm_th (er_mo l3)⟩
      unfold f_Mo_sleep
      rw [isStation_M _ hM1.1.1 hN, tl_ti, nI_ti (by omega), if_pos (by omega), Option.bind_some, if_neg (by decide), keeps_M, Option.bind_some, m116 c2, sh_1 k (by omega), nx_xor]
      rw [show u1 (cpy (u1 P 109 0 (0 : Int32)) 110 113 116 0 0 11) 110 (116 : Int32).toNatClampNeg (nI (sA (aS a) ^^^ 2 ^ k)) = P2 by rw [hP2]; rfl, l1, Option.bind_some, m116 l4, show (1 : Int32) = nI 1 from rfl, sar_n (by omega) (by omega)]
  · refine join (r := -nI 11) (a' := a) hM ?_ ?_ hok
    · obtain ⟨P1, P2, g1, g2, g3, g4, g5⟩ := deed_C (f := f_De_trySleep 21 t) (w := 1) (s' := aS a) hC hok hca (fun P1 n1 t1 => ⟨P1, by unfold f_De_trySleep; rw [isSt_Cn n1 hok.1 hx]; rfl, t1, sm_refl⟩) (fun _ => rfl) (by omega)
      unfold f_Yr_sleep
      rw [g1, Option.bind_some, g3, bd2_some]
      by_cases c : f_Sa_isAsleep 21 t P2 = 0
      · obtain ⟨P3, l1, l2, l3, l4⟩ := g5 0
        refine ⟨P3, ?_, l2, l3, l4⟩
        rw [if_pos c, l1]
        rfl
      · obtain ⟨P3, l1, l2, l3, l4⟩ := g5 1
        refine ⟨P3, ?_, l2, l3, l4⟩
        rw [if_neg c, l1]
        rfl
    · intro P hM
      have hM1 : MRep (u1 P 109 0 (0 : Int32)) a := MRep_me hM me_th
      refine ⟨u1 P 109 0 (0 : Int32), ?_, hM1, sm_th⟩
      unfold f_Mo_sleep
      rw [isStation_M _ hM1.1.1 hN, tl_ti, if_neg hx]
      rfl
