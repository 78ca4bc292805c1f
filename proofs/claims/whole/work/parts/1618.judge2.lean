theorem dr_cl {P P' : PM} (h : sm dr P P') : sm cl P P' := sm_mono h (fun o ho => by simp [cl] at ho; simp [dr, ps]; omega)
/-- the class's memory behind a deed as a call, whatever it changed -/
theorem fin_C {P P2 : PM} {a : AS} {s' : SV} (hC : CRep P a) (hok : AOk a) (hca : CCa P (aV a)) (hn : CNoted P2 (aP a) (aS a)) (hs : sm dr P P2) (h2 : CSt P2 21 s') :
    (s' = aS a → CRep P2 a ∧ CCa P2 (aV a)) ∧ ∃ P3, f_De_keep P2 = some P3 ∧ CRep P3 (setSP a s' ((aS a :: aP a).take 10)) ∧ CCa P3 (aV a) ∧ sm cl P P3 := by
  obtain ⟨c1, c2, c3, c4, c5, c6⟩ := hC
  have hrest : ∀ P3, sm dr P P3 → CNet P3 14 (aV a) ∧ CTr P3 (aT a) ∧ CIm P3 (aI a) ∧ CTp P3 (aF a) (aB a) (aK a) (aQ a) ∧ CCa P3 (aV a) := fun P3 h =>
    ⟨CNet_sm c1 h rfl rfl rfl rfl rfl, CTr_sm c4 h rfl rfl (fun k hk => by simp [dr, ps]; omega), CIm_sm c5 h (fun o h1 h2 => by simp [dr, ps]; omega), CTp_sm c6 h rfl rfl, CCa_ro hca (h.1 59 rfl) (h.1 60 rfl)⟩
  refine ⟨fun e => ?_, ?_⟩
  · obtain ⟨r1, r2, r3, r4, r5⟩ := hrest P2 hs
    exact ⟨⟨r1, by rw [← e]; exact h2, CNoted_P hn, r2, r3, r4⟩, r5⟩
  · obtain ⟨P3, l1, l2, l3⟩ := keep_C hn hok.2.2.1
    have s3 : sm dr P P3 := sm_trans hs (sm_mono l3 (fun o ho => by simp [dr] at ho; simp; omega))
    obtain ⟨r1, r2, r3, r4, r5⟩ := hrest P3 s3
    exact ⟨P3, l1, ⟨r1, CSt_sm h2 l3 rfl rfl, l2, r2, r3, r4⟩, r5, dr_cl s3⟩
def er2 (o : Nat) : Bool := o == 109 || o == 110 || o == 114 || o == 115 || o == 116
theorem er2_mo {P P' : PM} (h : sm er2 P P') : sm mo P P' := sm_mono h (fun o ho => by simp [mo] at ho; simp [er2]; omega)
theorem fin_M {P P2 : PM} {a : AS} {s' : SV} (hM : MRep P a) (hok : AOk a) (hs : MSt P2 110 113 s') (hmk : mk (cpy P 110 113 116 0 0 11) P2) :
    (s' = aS a → MRep P2 a) ∧ sm er2 P P2 ∧ MSt P2 116 0 (aS a) ∧ ∃ P3, f_Mo_notes P2 = some P3 ∧ MRep P3 (setSP a s' ((aS a :: aP a).take 10)) ∧ sm er2 P P3 := by
  obtain ⟨m1, m2, m3, m4, m5, m6⟩ := hM
  have w1 : MSt (cpy P 110 113 116 0 0 11) 116 0 (aS a) := MSt_cp m2 (fun i hi => by rw [cpy_1, if_pos (by omega)]; exact congrArg (P.1 110) (by omega))
  have w2 : MSt P2 116 0 (aS a) := MSt_sm w1 hmk.1 rfl
  have hJ : ∀ j, j < 113 ∨ 124 ≤ j → P2.1 110 j = P.1 110 j := fun j hj => by rw [hmk.2.1 j hj, cpy_1, if_neg (by omega)]
  have h9 : ∀ j, j ≠ 18 → j ≠ 19 → P2.1 109 j = P.1 109 j := fun j q r => by rw [hmk.2.2 j q r, cpy_1, if_neg (by omega)]
  have p2 : MPast P2 (aP a) := MPast_ix m3 hok.2.2.1 (fun j h1 h2 => hJ j (Or.inr h1))
  have s2 : sm er2 P P2 := sm_trans (sm_mono cpy_sm (fun o ho => by simp [er2] at ho; simp; omega)) (sm_mono hmk.1 (fun o ho => by simp [er2] at ho; simp; omega))
  refine ⟨fun e => ⟨MNet_ix m1 (fun j hj => hJ _ (by omega)), by rw [← e]; exact hs, p2, MTr_sm m4 s2 rfl rfl rfl, MIm_ix m5 (s2.1 111 rfl) (fun j hj => hJ j (by omega)), MTp_sm m6 s2 rfl (h9 5 (by decide) (by decide)) (h9 13 (by decide) (by decide)) (h9 14 (by decide) (by decide))⟩, s2, w2, ?_⟩
  obtain ⟨P3, g1, g2, g3, g4⟩ := notes_M p2 hok.2.2.1 w2
  have s3 : sm er2 P P3 := sm_trans s2 (sm_mono g3 (fun o ho => by simp [er2] at ho; simp; omega))
  have hJ3 : ∀ j, j < 113 ∨ 235 ≤ j → P3.1 110 j = P.1 110 j := fun j hj => (g4 j (by omega)).trans (hJ j (by omega))
  have t3 : MSt P3 110 113 s' := MSt_cp hs (fun i hi => g4 _ (by omega))
  have k9 : ∀ j, j ≠ 18 → j ≠ 19 → P3.1 109 j = P.1 109 j := fun j q r => by rw [g3.1 109 rfl]; exact h9 j q r
  exact ⟨P3, g1, ⟨MNet_ix m1 (fun j hj => hJ3 _ (by omega)), t3, g2, MTr_sm m4 s3 rfl rfl rfl, MIm_ix m5 (s3.1 111 rfl) (fun j hj => hJ3 j (by omega)), MTp_sm m6 s3 rfl (k9 5 (by decide) (by decide)) (k9 13 (by decide) (by decide)) (k9 14 (by decide) (by decide))⟩, s3⟩
theorem perform_ok {P : PM} {a : AS} {x : Int32} (hC : CRep P a) (hM : MRep P a) (hca : CCa P (aV a)) (hok : AOk a) :
    ∃ v P1 P2, f_Yr_perform x P = some (v, P1) ∧ f_Mo_perform x P1 = some (v, P2) ∧ Inv P2 := by
  have hq := fun k => (hok.2.2.2.2.1 k).2.1
  rcases i_cases x 4 (by omega) with ⟨k, hk, rfl⟩ | hx
  · have h40 := (hok.2.2.2.2.1 k).1
    by_cases hm : (aT a k).1 = none
    · refine join (r := -nI 6) (a' := a) hM ⟨P, ?_, hC, hca, sm_refl⟩ (fun P hM => ⟨u1 P 109 0 (0 : Int32), ?_, MRep_me hM me_th, sm_th⟩) hok
      · unfold f_Yr_perform
        rw [tray_t hk, if_neg (by decide), miss_C hC.2.2.2.1 hk (hq k), if_pos hm]
        rfl
      · have hM1 : MRep (u1 P 109 0 (0 : Int32)) a := MRep_me hM me_th
        unfold f_Mo_perform
        rw [noTray_k hM1.2.2.2.1 hk (hq k), if_pos hm]
        rfl
    · obtain ⟨R, hR⟩ : ∃ R, R = drun (aV a) (aT a k).2.2 (aT a k).2.1 0 (aS a) := ⟨_, rfl⟩
      have hi := @drun_i (aV a) (aT a k).2.2 (aT a k).2.1 0 (aS a)
      have hk2 := @drun_ok (aV a) (aT a k).2.2 (aT a k).2.1 0 (aS a) hok.2.1
      have hz := @drun_0 (aV a) (aT a k).2.2 (aT a k).2.1 0 (aS a)
      rw [← hR] at hi hk2 hz
      refine join (r := nI R.2.1) (a' := if R.2.1 = 0 then a else setSP a R.2.2 ((aS a :: aP a).take 10)) hM ?_ ?_ ?_
      · obtain ⟨P1, g1, g2, g3⟩ := note_C hC.2.2.1 hok.2.2.1 hC.2.1
        obtain ⟨P2, k1, k2, k3, k4, k5, k6⟩ := tryAll_l (Or.inl rfl) hok.1 hk h40 (aT a k).2.1 FU 0 (aS a) (u1 P1 31 4 (0 : Int32)) (by omega) (by have := FU_big; omega) (CNet_sm hC.1 (S := fun o => ps o || o == 31) (sm_u1 (sm_mono g3 (fun o q => by simp at q; exact q.1)) rfl) rfl rfl rfl rfl rfl) (CTr_sm hC.2.2.2.1 (S := fun o => ps o || o == 31) (sm_u1 (sm_mono g3 (fun o q => by simp at q; exact q.1)) rfl) rfl rfl (fun j hj => by simp [ps]; omega)) (CSt_sm hC.2.1 (S := fun o => ps o || o == 31) (sm_u1 (sm_mono g3 (fun o q => by simp at q; exact q.1)) rfl) rfl rfl) hok.2.1 (by rw [u1_1, if_pos ⟨rfl, rfl⟩]; rfl)
        rw [← hR] at k1 k2 k3
        have s12 : sm (tr4 21) P1 P2 := sm_trans (sm_u1 sm_refl rfl) k4
        have q2 : CNoted P2 (aP a) (aS a) := CNoted_sm g2 s12 (fun o ho => by simp [ps] at ho; simp [tr4, on4]; omega) (by rw [k5, u1_1, if_neg (by omega)]) (by rw [k6, u1_1, if_neg (by omega)])
        have s2 : sm dr P P2 := sm_trans (sm_mono g3 (fun o ho => by simp [dr] at ho; exact ho.2)) (sm_mono s12 (fun o ho => by simp [dr] at ho; simp [tr4, on4]; omega))
        obtain ⟨f1, P3, f2, f3, f4, f5⟩ := fin_C hC hok hca q2 s2 k2
        have e1 : f_De_tryAll 21 (nI k) P1 = some (nI R.2.1, P2) := by
          unfold f_De_tryAll
          rw [len_C (CTr_sm hC.2.2.2.1 g3 rfl rfl (fun j hj => by simp [ps]; omega)) hk]
          exact k1
        unfold f_Yr_perform
        rw [tray_t hk, if_neg (by decide), miss_C hC.2.2.2.1 hk (hq k), if_neg hm, Option.bind_some, if_pos (by decide), g1, Option.bind_some, e1, bd2_some]
        by_cases c : R.2.1 = 0
        · obtain ⟨r1, r2⟩ := f1 (hz c)
          rw [if_pos (by rw [c]; decide), if_pos c]
          exact ⟨P2, rfl, r1, r2, dr_cl s2⟩
        · rw [if_neg (by simp (disch := omega) only [z_add, z_mul, z_sub, z_subm, z_addm, z_lt_t, z_lt_f, z_le_t, z_le_f, z_eq_t, z_eq_f, z_eqm, z_meq, z_mm, z_ltm, z_mlt, z_lem, z_mle, z_cl, z_ck, u1_1, u1_2, u2_1, u2_2, ↓reduceIte, Option.bind_some, Option.bind_none, bd2_some, lb_eq, and_true, and_false, true_and, false_and, not_true_eq_false, not_false_eq_true, eq_self_iff_true, if_true, if_false, Nat.reduceEqDiff, Nat.reduceAdd, Nat.reduceMul, Nat.reduceSub, Bool.false_eq_true, zl0, zl1, zl2, zl3, zl4, zl5, zl6, zl7, zl8, zl9, zl10, zl11, zl12, zl13, zl14, zl15, zl16, zl17, zl18, zl19, zl20, zl22, zl23, zl24, zl25, zl30, zl31, zl32, zl33, zl34, zl35, zl36, zl37, zl38, zl39, zl40, zl41, zl42, zl43, zl45, zl48, zl49, zl57, zl58, zl59, zl60, zl61, zl62, zl63, zl64, zl91, zl93, zl97, zl98, zl99, zl100, zl113, zl114, zl115, zl116, zl117, zl122, zl124, zl125, zl127, zl128, zl136, zl200, zl201, zl202, zl203, zl204, zl205, zl206, zl207, zl208, zl209, zl210, zl211, zl212, zl213, zl214, zl215, zl216, zl217, zl218, zl219, zl220, zl235, zl236, zl255, zl280, zl287, zl900, zl999, zl1000, zl1001, zl1136, zl1960, zl3000, zl3001, zl3002, zl3003, zl3004, zl3005, zl3006, zl3007, zl3008, zl3009, zl268435456, zl1000000000]), if_neg c, f2]
          exact ⟨P3, rfl, f3, f4, f5⟩
      · intro P hM
        have hM1 : MRep (u1 P 109 0 (0 : Int32)) a := MRep_me hM me_th
        have hcp := @cpy_sm (u1 P 109 0 (0 : Int32)) 110 113 116 0 0 11
        obtain ⟨P2, k1, k2, k3, k4⟩ := tells_l hok.1 hk h40 (aT a k).2.1 FU 0 (aS a) (u1 (cpy (u1 P 109 0 (0 : Int32)) 110 113 116 0 0 11) 109 18 (0 : Int32)) (by omega) (by have := FU_big; omega) (MNet_sm hM1.1 (S := fun o => o == 116 || o == 109) (sm_u1 (sm_mono hcp (fun o q => by simp at q ⊢; exact q.1)) rfl) rfl) (MTr_sm hM1.2.2.2.1 (S := fun o => o == 116 || o == 109) (sm_u1 (sm_mono hcp (fun o q => by simp at q ⊢; exact q.1)) rfl) rfl rfl rfl) (MSt_sm hM1.2.1 (S := fun o => o == 116 || o == 109) (sm_u1 (sm_mono hcp (fun o q => by simp at q ⊢; exact q.1)) rfl) rfl) hok.2.1 (by rw [u1_1, if_pos ⟨rfl, rfl⟩]; rfl)
        rw [← hR] at k1 k2 k3
        obtain ⟨f1, f2, _, P3, f3, f4, f5⟩ := fin_M hM1 hok k2 (mk_trans mk_18 k4)
        unfold f_Mo_perform
        rw [noTray_k hM1.2.2.2.1 hk (hq k), if_neg hm, Option.bind_some, if_pos (by decide), keeps_M, Option.bind_some]
        have e1 : f_Mo_tells (nI k) (cpy (u1 P 109 0 (0 : Int32)) 110 113 116 0 0 11) = some (nI R.2.1, P2) := k1
        rw [e1, bd2_some]
        by_cases c : R.2.1 = 0
        · rw [if_pos (by rw [c]; decide), if_pos c]
          exact ⟨P2, rfl, f1 (hz c), sm_trans sm_th (er2_mo f2)⟩
        · rw [if_neg (by simp (disch := omega) only [z_add, z_mul, z_sub, z_subm, z_addm, z_lt_t, z_lt_f, z_le_t, z_le_f, z_eq_t, z_eq_f, z_eqm, z_meq, z_mm, z_ltm, z_mlt, z_lem, z_mle, z_cl, z_ck, u1_1, u1_2, u2_1, u2_2, ↓reduceIte, Option.bind_some, Option.bind_none, bd2_some, lb_eq, and_true, and_false, true_and, false_and, not_true_eq_false, not_false_eq_true, eq_self_iff_true, if_true, if_false, Nat.reduceEqDiff, Nat.reduceAdd, Nat.reduceMul, Nat.reduceSub, Bool.false_eq_true, zl0, zl1, zl2, zl3, zl4, zl5, zl6, zl7, zl8, zl9, zl10, zl11, zl12, zl13, zl14, zl15, zl16, zl17, zl18, zl19, zl20, zl22, zl23, zl24, zl25, zl30, zl31, zl32, zl33, zl34, zl35, zl36, zl37, zl38, zl39, zl40, zl41, zl42, zl43, zl45, zl48, zl49, zl57, zl58, zl59, zl60, zl61, zl62, zl63, zl64, zl91, zl93, zl97, zl98, zl99, zl100, zl113, zl114, zl115, zl116, zl117, zl122, zl124, zl125, zl127, zl128, zl136, zl200, zl201, zl202, zl203, zl204, zl205, zl206, zl207, zl208, zl209, zl210, zl211, zl212, zl213, zl214, zl215, zl216, zl217, zl218, zl219, zl220, zl235, zl236, zl255, zl280, zl287, zl900, zl999, zl1000, zl1001, zl1136, zl1960, zl3000, zl3001, zl3002, zl3003, zl3004, zl3005, zl3006, zl3007, zl3008, zl3009, zl268435456, zl1000000000]), if_neg c, f3]
          exact ⟨P3, rfl, f4, sm_trans sm_th (er2_mo f5)⟩
      · split
        · exact hok
        · exact AOk_SP hok hk2
  · refine join (r := -nI 2) (a' := a) hM ⟨P, ?_, hC, hca, sm_refl⟩ (fun P hM => ⟨u1 P 109 0 (0 : Int32), ?_, MRep_me hM me_th, sm_th⟩) hok
    · unfold f_Yr_perform
      rw [tray_f hx]; rfl
    · unfold f_Mo_perform
      rw [noTray_x hx]; rfl
theorem judge_ok {P : PM} {a : AS} {x w : Int32} (hC : CRep P a) (hM : MRep P a) (hca : CCa P (aV a)) (hok : AOk a) :
    ∃ v P1 P2, f_Yr_judge x w P = some (v, P1) ∧ f_Mo_judge x w P1 = some (v, P2) ∧ Inv P2 := by
  have hq := fun k => (hok.2.2.2.2.1 k).2.1
  by_cases hx : (0 ≤ x.toInt ∧ x.toInt < 4) ∧ (0 ≤ w.toInt ∧ w.toInt < 4)
  · obtain ⟨k, hk, rfl⟩ : ∃ k, k < 4 ∧ x = nI k := (i_cases x 4 (by omega)).resolve_right (fun q => q hx.1)
    obtain ⟨y, hy, rfl⟩ : ∃ k, k < 4 ∧ w = nI k := (i_cases w 4 (by omega)).resolve_right (fun q => q hx.2)
    have h40 := (hok.2.2.2.2.1 k).1
    have hwi : ∀ P, f_Mo_within (nI y).toInt64 (0 : Int64) (3 : Int64) P = nI 1 := fun P => by rw [w03]; exact if_pos hx.2
    by_cases hm : (aT a k).1 = none
    · refine join (r := -nI 6) (a' := a) hM ⟨P, ?_, hC, hca, sm_refl⟩ (fun P hM => ⟨u1 P 109 0 (0 : Int32), ?_, MRep_me hM me_th, sm_th⟩) hok
      · unfold f_Yr_judge
        rw [tray_t hk, if_neg (by decide), if_neg (by simp (disch := omega) only [z_add, z_mul, z_sub, z_subm, z_addm, z_lt_t, z_lt_f, z_le_t, z_le_f, z_eq_t, z_eq_f, z_eqm, z_meq, z_mm, z_ltm, z_mlt, z_lem, z_mle, z_cl, z_ck, u1_1, u1_2, u2_1, u2_2, ↓reduceIte, Option.bind_some, Option.bind_none, bd2_some, lb_eq, and_true, and_false, true_and, false_and, not_true_eq_false, not_false_eq_true, eq_self_iff_true, if_true, if_false, Nat.reduceEqDiff, Nat.reduceAdd, Nat.reduceMul, Nat.reduceSub, Bool.false_eq_true, zl0, zl1, zl2, zl3, zl4, zl5, zl6, zl7, zl8, zl9, zl10, zl11, zl12, zl13, zl14, zl15, zl16, zl17, zl18, zl19, zl20, zl22, zl23, zl24, zl25, zl30, zl31, zl32, zl33, zl34, zl35, zl36, zl37, zl38, zl39, zl40, zl41, zl42, zl43, zl45, zl48, zl49, zl57, zl58, zl59, zl60, zl61, zl62, zl63, zl64, zl91, zl93, zl97, zl98, zl99, zl100, zl113, zl114, zl115, zl116, zl117, zl122, zl124, zl125, zl127, zl128, zl136, zl200, zl201, zl202, zl203, zl204, zl205, zl206, zl207, zl208, zl209, zl210, zl211, zl212, zl213, zl214, zl215, zl216, zl217, zl218, zl219, zl220, zl235, zl236, zl255, zl280, zl287, zl900, zl999, zl1000, zl1001, zl1136, zl1960, zl3000, zl3001, zl3002, zl3003, zl3004, zl3005, zl3006, zl3007, zl3008, zl3009, zl268435456, zl1000000000]), if_pos (by simp (disch := omega) only [z_add, z_mul, z_sub, z_subm, z_addm, z_lt_t, z_lt_f, z_le_t, z_le_f, z_eq_t, z_eq_f, z_eqm, z_meq, z_mm, z_ltm, z_mlt, z_lem, z_mle, z_cl, z_ck, u1_1, u1_2, u2_1, u2_2, ↓reduceIte, Option.bind_some, Option.bind_none, bd2_some, lb_eq, and_true, and_false, true_and, false_and, not_true_eq_false, not_false_eq_true, eq_self_iff_true, if_true, if_false, Nat.reduceEqDiff, Nat.reduceAdd, Nat.reduceMul, Nat.reduceSub, Bool.false_eq_true, zl0, zl1, zl2, zl3, zl4, zl5, zl6, zl7, zl8, zl9, zl10, zl11, zl12, zl13, zl14, zl15, zl16, zl17, zl18, zl19, zl20, zl22, zl23, zl24, zl25, zl30, zl31, zl32, zl33, zl34, zl35, zl36, zl37, zl38, zl39, zl40, zl41, zl42, zl43, zl45, zl48, zl49, zl57, zl58, zl59, zl60, zl61, zl62, zl63, zl64, zl91, zl93, zl97, zl98, zl99, zl100, zl113, zl114, zl115, zl116, zl117, zl122, zl124, zl125, zl127, zl128, zl136, zl200, zl201, zl202, zl203, zl204, zl205, zl206, zl207, zl208, zl209, zl210, zl211, zl212, zl213, zl214, zl215, zl216, zl217, zl218, zl219, zl220, zl235, zl236, zl255, zl280, zl287, zl900, zl999, zl1000, zl1001, zl1136, zl1960, zl3000, zl3001, zl3002, zl3003, zl3004, zl3005, zl3006, zl3007, zl3008, zl3009, zl268435456, zl1000000000]), miss_C hC.2.2.2.1 hk (hq k), if_pos hm]
        rfl
      · have hM1 : MRep (u1 P 109 0 (0 : Int32)) a := MRep_me hM me_th
        unfold f_Mo_judge
        rw [hwi, if_neg (by decide), noTray_k hM1.2.2.2.1 hk (hq k), if_pos hm]
        rfl
    · obtain ⟨R, hR⟩ : ∃ R, R = drun (aV a) (aT a k).2.2 (aT a k).2.1 0 (aS a) := ⟨_, rfl⟩
      have hi := @drun_i (aV a) (aT a k).2.2 (aT a k).2.1 0 (aS a)
      have hlt := @drun_lt (aV a) (aT a k).2.2 (aT a k).2.1 0 (aS a)
      rw [← hR] at hi hlt
      refine join (r := if y = 0 then (if R.1 = 0 then -nI 1 else nI R.2.1) else if y = 1 then nI R.1 else if y = 2 then oI (sW R.2.2) else nI (sZ R.2.2)) (a' := a) hM ?_ ?_ hok
      · obtain ⟨P1, g1, g2, g3⟩ := copy_C (o := 32) hC.2.1 (by omega) (by omega) (by omega) (by omega)
        obtain ⟨P2, k1, k2, k3, k4, k5, k6⟩ := tryAll_l (Or.inr rfl) hok.1 hk h40 (aT a k).2.1 FU 0 (aS a) (u1 P1 31 4 (0 : Int32)) (by omega) (by have := FU_big; omega) (CNet_sm hC.1 (S := fun o => o == 32 || o == 33 || o == 31) (sm_u1 (sm_mono g3 (fun o q => by simp at q ⊢; exact q.1)) rfl) rfl rfl rfl rfl rfl) (CTr_sm hC.2.2.2.1 (S := fun o => o == 32 || o == 33 || o == 31) (sm_u1 (sm_mono g3 (fun o q => by simp at q ⊢; exact q.1)) rfl) rfl rfl (fun j hj => by simp; omega)) (CSt_sm g2 (S := fun o => o == 31) (sm_u1 sm_refl rfl) rfl rfl) hok.2.1 (by rw [u1_1, if_pos ⟨rfl, rfl⟩]; rfl)
        rw [← hR] at k1 k2 k3
        have s2 : sm (fun o => o == 19 || o == 20 || o == 31 || o == 32 || o == 33) P P2 := sm_trans (sm_mono g3 (fun o q => by simp at q ⊢; omega)) (sm_trans (sm_u1 sm_refl rfl) (sm_mono k4 (fun o q => by simp at q; simp [tr4, on4]; omega)))
        have h5 : P2.1 31 5 = P.1 31 5 := by rw [k5, u1_1, if_neg (by omega), g3.1 31 rfl]
        have h7 : P2.1 31 7 = P.1 31 7 := by rw [k6, u1_1, if_neg (by omega), g3.1 31 rfl]
        have e1 : f_De_tryOut (nI k) P = some (nI R.2.1, P2) := by
          unfold f_De_tryOut f_De_tryAll
          rw [g1, Option.bind_some, len_C (CTr_sm hC.2.2.2.1 g3 rfl rfl (fun j hj => by simp; omega)) hk, Option.bind_some]
          change l_De_tryAll_20 32 FU (nI k) (nI (aT a k).2.1) (0 : Int32) (0 : Int32) (u1 P1 31 4 (0 : Int32)) = _ at k1
          rw [k1]
          rfl
        refine ⟨P2, ?_, CRep_ce hC (ce_sm s2 (fun o e => by simp [esr] at e; simp; omega) h5 h7), CCa_ro hca (s2.1 59 rfl) (s2.1 60 rfl), sm_mono s2 (fun o ho => by simp [cl] at ho; simp; omega)⟩
        unfold f_Yr_judge
        rw [tray_t hk, if_neg (by decide), if_neg (by simp (disch := omega) only [z_add, z_mul, z_sub, z_subm, z_addm, z_lt_t, z_lt_f, z_le_t, z_le_f, z_eq_t, z_eq_f, z_eqm, z_meq, z_mm, z_ltm, z_mlt, z_lem, z_mle, z_cl, z_ck, u1_1, u1_2, u2_1, u2_2, ↓reduceIte, Option.bind_some, Option.bind_none, bd2_some, lb_eq, and_true, and_false, true_and, false_and, not_true_eq_false, not_false_eq_true, eq_self_iff_true, if_true, if_false, Nat.reduceEqDiff, Nat.reduceAdd, Nat.reduceMul, Nat.reduceSub, Bool.false_eq_true, zl0, zl1, zl2, zl3, zl4, zl5, zl6, zl7, zl8, zl9, zl10, zl11, zl12, zl13, zl14, zl15, zl16, zl17, zl18, zl19, zl20, zl22, zl23, zl24, zl25, zl30, zl31, zl32, zl33, zl34, zl35, zl36, zl37, zl38, zl39, zl40, zl41, zl42, zl43, zl45, zl48, zl49, zl57, zl58, zl59, zl60, zl61, zl62, zl63, zl64, zl91, zl93, zl97, zl98, zl99, zl100, zl113, zl114, zl115, zl116, zl117, zl122, zl124, zl125, zl127, zl128, zl136, zl200, zl201, zl202, zl203, zl204, zl205, zl206, zl207, zl208, zl209, zl210, zl211, zl212, zl213, zl214, zl215, zl216, zl217, zl218, zl219, zl220, zl235, zl236, zl255, zl280, zl287, zl900, zl999, zl1000, zl1001, zl1136, zl1960, zl3000, zl3001, zl3002, zl3003, zl3004, zl3005, zl3006, zl3007, zl3008, zl3009, zl268435456, zl1000000000]), if_pos (by simp (disch := omega) only [z_add, z_mul, z_sub, z_subm, z_addm, z_lt_t, z_lt_f, z_le_t, z_le_f, z_eq_t, z_eq_f, z_eqm, z_meq, z_mm, z_ltm, z_mlt, z_lem, z_mle, z_cl, z_ck, u1_1, u1_2, u2_1, u2_2, ↓reduceIte, Option.bind_some, Option.bind_none, bd2_some, lb_eq, and_true, and_false, true_and, false_and, not_true_eq_false, not_false_eq_true, eq_self_iff_true, if_true, if_false, Nat.reduceEqDiff, Nat.reduceAdd, Nat.reduceMul, Nat.reduceSub, Bool.false_eq_true, zl0, zl1, zl2, zl3, zl4, zl5, zl6, zl7, zl8, zl9, zl10, zl11, zl12, zl13, zl14, zl15, zl16, zl17, zl18, zl19, zl20, zl22, zl23, zl24, zl25, zl30, zl31, zl32, zl33, zl34, zl35, zl36, zl37, zl38, zl39, zl40, zl41, zl42, zl43, zl45, zl48, zl49, zl57, zl58, zl59, zl60, zl61, zl62, zl63, zl64, zl91, zl93, zl97, zl98, zl99, zl100, zl113, zl114, zl115, zl116, zl117, zl122, zl124, zl125, zl127, zl128, zl136, zl200, zl201, zl202, zl203, zl204, zl205, zl206, zl207, zl208, zl209, zl210, zl211, zl212, zl213, zl214, zl215, zl216, zl217, zl218, zl219, zl220, zl235, zl236, zl255, zl280, zl287, zl900, zl999, zl1000, zl1001, zl1136, zl1960, zl3000, zl3001, zl3002, zl3003, zl3004, zl3005, zl3006, zl3007, zl3008, zl3009, zl268435456, zl1000000000]), miss_C hC.2.2.2.1 hk (hq k), if_neg hm, Option.bind_some, if_pos (by decide), e1, bd2_some, k3, k2.1, k2.2.1, len_C (CTr_sm hC.2.2.2.1 s2 rfl rfl (fun j hj => by simp; omega)) hk]
        obtain rfl | rfl | rfl | rfl : y = 0 ∨ y = 1 ∨ y = 2 ∨ y = 3 := by omega
        · rw [if_pos (by decide), if_pos rfl, Option.bind_some]
          by_cases c : R.1 = 0
          · rw [if_pos c, if_pos (by have := hi.2.2.1 c; exact nI_le (by omega) (by omega))]; rfl
          · rw [if_neg c, if_neg (by have := hi.2.2.2 c; exact nI_ge (by omega) (by omega))]
        · rw [if_neg (by decide), if_pos (by decide), if_neg (by decide), if_pos rfl]
        · rw [if_neg (by decide), if_neg (by decide), if_pos (by decide), if_neg (by decide), if_neg (by decide), if_pos rfl]
        · rw [if_neg (by decide), if_neg (by decide), if_neg (by decide), if_neg (by decide), if_neg (by decide), if_neg (by decide)]
      · intro P hM
        have hM1 : MRep (u1 P 109 0 (0 : Int32)) a := MRep_me hM me_th
        have hcp := @cpy_sm (u1 P 109 0 (0 : Int32)) 110 113 116 0 0 11
        obtain ⟨P2, k1, k2, k3, k4⟩ := tells_l hok.1 hk h40 (aT a k).2.1 FU 0 (aS a) (u1 (cpy (u1 P 109 0 (0 : Int32)) 110 113 116 0 0 11) 109 18 (0 : Int32)) (by omega) (by have := FU_big; omega) (MNet_sm hM1.1 (S := fun o => o == 116 || o == 109) (sm_u1 (sm_mono hcp (fun o q => by simp at q ⊢; exact q.1)) rfl) rfl) (MTr_sm hM1.2.2.2.1 (S := fun o => o == 116 || o == 109) (sm_u1 (sm_mono hcp (fun o q => by simp at q ⊢; exact q.1)) rfl) rfl rfl rfl) (MSt_sm hM1.2.1 (S := fun o => o == 116 || o == 109) (sm_u1 (sm_mono hcp (fun o q => by simp at q ⊢; exact q.1)) rfl) rfl) hok.2.1 (by rw [u1_1, if_pos ⟨rfl, rfl⟩]; rfl)
        rw [← hR] at k1 k2 k3
        have m2 := mk_trans (mk_18 (P := cpy (u1 P 109 0 (0 : Int32)) 110 113 116 0 0 11) (x := (0 : Int32))) k4
        obtain ⟨f1, f2, f0, _⟩ := fin_M hM1 hok k2 m2
        obtain ⟨P9, hP9⟩ : ∃ P9, P9 = cpy P2 116 0 110 113 0 11 := ⟨_, rfl⟩
        have h18 : P9.1 109 18 = nI R.1 := by rw [hP9, cpy_1, if_neg (by omega), k3]
        have s9 : sm er2 (u1 P 109 0 (0 : Int32)) P9 := sm_trans f2 (by rw [hP9]; exact sm_mono cpy_sm (fun o q => by simp [er2] at q; simp; omega))
        have e116 : ∀ i, i < 11 → P2.1 116 i = (u1 P 109 0 (0 : Int32)).1 110 (113 + i) := fun i hi => by
          rw [m2.1.1 116 rfl, cpy_1, if_pos (by omega)]
          exact congrArg ((u1 P 109 0 (0 : Int32)).1 110) (by omega)
        have e110 : P9.1 110 = (u1 P 109 0 (0 : Int32)).1 110 := by
          funext j
          rw [hP9, cpy_1]
          by_cases c : 110 = 110 ∧ 113 + 0 ≤ j ∧ j < 113 + 11
          · rw [if_pos c, Nat.zero_add, e116 _ (by omega)]
            exact congrArg ((u1 P 109 0 (0 : Int32)).1 110) (by omega)
          · rw [if_neg c, m2.2.1 j (by omega), cpy_1, if_neg (by omega)]
        have h9 : ∀ j, j ≠ 18 → j ≠ 19 → P9.1 109 j = (u1 P 109 0 (0 : Int32)).1 109 j := fun j q r => by
          rw [hP9, cpy_1, if_neg (by omega), m2.2.2 j q r, cpy_1, if_neg (by omega)]
        have M9 : MRep P9 a := MRep_me hM1 ⟨fun o e => by
          by_cases c : o = 110
          · subst c; exact e110
          · exact s9.1 o (by simp [msr] at e; simp [er2]; omega), s9.2 129 rfl, h9 5 (by decide) (by decide), h9 13 (by decide) (by decide), h9 14 (by decide) (by decide)⟩
        refine ⟨P9, ?_, M9, sm_trans sm_th (er2_mo s9)⟩
        unfold f_Mo_judge
        rw [hwi, if_neg (by decide), noTray_k hM1.2.2.2.1 hk (hq k), if_neg hm, Option.bind_some, if_pos (by decide), keeps_M, Option.bind_some]
        have e1 : f_Mo_tells (nI k) (cpy (u1 P 109 0 (0 : Int32)) 110 113 116 0 0 11) = some (nI R.2.1, P2) := k1
        rw [e1, bd2_some, lb_eq, lb_eq, isAgain_M, ← hP9, Option.bind_some, h18, m113 k2, m114 k2]
        obtain rfl | rfl | rfl | rfl : y = 0 ∨ y = 1 ∨ y = 2 ∨ y = 3 := by omega
        · rw [if_pos (by decide), if_pos rfl]
          by_cases c : R.1 = 0
          · rw [if_pos c, if_pos (by rw [c]; rfl)]; rfl
          · rw [if_neg c, if_neg (by simp (disch := omega) only [z_add, z_mul, z_sub, z_subm, z_addm, z_lt_t, z_lt_f, z_le_t, z_le_f, z_eq_t, z_eq_f, z_eqm, z_meq, z_mm, z_ltm, z_mlt, z_lem, z_mle, z_cl, z_ck, u1_1, u1_2, u2_1, u2_2, ↓reduceIte, Option.bind_some, Option.bind_none, bd2_some, lb_eq, and_true, and_false, true_and, false_and, not_true_eq_false, not_false_eq_true, eq_self_iff_true, if_true, if_false, Nat.reduceEqDiff, Nat.reduceAdd, Nat.reduceMul, Nat.reduceSub, Bool.false_eq_true, zl0, zl1, zl2, zl3, zl4, zl5, zl6, zl7, zl8, zl9, zl10, zl11, zl12, zl13, zl14, zl15, zl16, zl17, zl18, zl19, zl20, zl22, zl23, zl24, zl25, zl30, zl31, zl32, zl33, zl34, zl35, zl36, zl37, zl38, zl39, zl40, zl41, zl42, zl43, zl45, zl48, zl49, zl57, zl58, zl59, zl60, zl61, zl62, zl63, zl64, zl91, zl93, zl97, zl98, zl99, zl100, zl113, zl114, zl115, zl116, zl117, zl122, zl124, zl125, zl127, zl128, zl136, zl200, zl201, zl202, zl203, zl204, zl205, zl206, zl207, zl208, zl209, zl210, zl211, zl212, zl213, zl214, zl215, zl216, zl217, zl218, zl219, zl220, zl235, zl236, zl255, zl280, zl287, zl900, zl999, zl1000, zl1001, zl1136, zl1960, zl3000, zl3001, zl3002, zl3003, zl3004, zl3005, zl3006, zl3007, zl3008, zl3009, zl268435456, zl1000000000])]
        · rw [if_neg (by decide), if_pos (by decide), if_neg (by decide), if_pos rfl]
        · rw [if_neg (by decide), if_neg (by decide), if_pos (by decide), if_neg (by decide), if_neg (by decide), if_pos rfl]
        · rw [if_neg (by decide), if_neg (by decide), if_neg (by decide), if_neg (by decide), if_neg (by decide), if_neg (by decide)]
  · have e3 : (3 : Int32).toInt = 3 := rfl
    refine join (r := -nI 2) (a' := a) hM ⟨P, ?_, hC, hca, sm_refl⟩ (fun P hM => ⟨u1 P 109 0 (0 : Int32), ?_, MRep_me hM me_th, sm_th⟩) hok
    · unfold f_Yr_judge
      by_cases c : 0 ≤ x.toInt ∧ x.toInt < 4
      · rw [show f_Tr_isTray x P = nI 1 by (rw [tray_in]; exact if_pos c), if_neg (by decide)]
        by_cases c2 : w < 0
        · rw [if_pos c2]; rfl
        · have c3 : ¬ w.toInt < 0 := fun q => c2 (Int32.lt_iff_toInt_lt.mpr q)
          rw [if_neg c2, if_neg (fun q => by have := Int32.le_iff_toInt_le.mp q; omega)]
          rfl
      · rw [tray_f c]; rfl
    · unfold f_Mo_judge
      by_cases c : 0 ≤ w.toInt ∧ w.toInt < 4
      · have e1 : f_Mo_within w.toInt64 (0 : Int64) (3 : Int64) (u1 P 109 0 (0 : Int32)) = nI 1 := by rw [w03]; exact if_pos c
        rw [e1, if_neg (by decide), noTray_x (fun q => hx ⟨q, c⟩)]
        rfl
      · have e1 : f_Mo_within w.toInt64 (0 : Int64) (3 : Int64) (u1 P 109 0 (0 : Int32)) = nI 0 := by rw [w03]; exact if_neg c
        rw [e1]; rfl
