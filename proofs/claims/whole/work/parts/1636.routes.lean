/-! soonest, soonBy, fewest, fewBy -/
theorem ask_ok {P : PM} {a : AS} {x e : Int32} {ok : Prop} {bc fc fm : PM → Option (Int32 × PM)} (hC : CRep P a) (hM : MRep P a) (hca : CCa P (aV a)) (hok : AOk a) (he1 : ok → e = 1) (he0 : ¬ ok → e = 0)
    (hc : fc P = lb (f_Yr_refusal (f_Ne_isStation 14 x P) e P) (fun y1 => if y1 = (0 : Int32) then bc P else some (y1, P)))
    (hm2 : ∀ P1, MRep P1 a → ¬ (0 ≤ x.toInt ∧ x.toInt < vN (aV a)) → fm P1 = some (-nI 2, u1 P1 109 0 (0 : Int32)))
    (hm3 : ∀ P1, MRep P1 a → ∀ k, k < vN (aV a) → x = nI k → ¬ ok → fm P1 = some (-nI 3, u1 P1 109 0 (0 : Int32)))
    (hm5 : ∀ P1, MRep P1 a → ∀ k, k < vN (aV a) → x = nI k → ok → sW (aS a) = none → fm P1 = some (-nI 5, u1 P1 109 0 (0 : Int32)))
    (hr : ∀ k w, k < vN (aV a) → x = nI k → ok → sW (aS a) = some w → ∃ r, (∃ P1, bc P = some (r, P1) ∧ CRep P1 a ∧ CCa P1 (aV a) ∧ sm cl P P1) ∧ ∀ P1, MRep P1 a → ∃ P2, fm P1 = some (r, P2) ∧ MRep P2 a ∧ sm mo P1 P2) :
    ∃ v P1 P2, fc P = some (v, P1) ∧ fm P1 = some (v, P2) ∧ Inv P2 := by
  have hN := hok.1.1
  rcases i_cases x (vN (aV a)) (by omega) with ⟨k, hk, rfl⟩ | hx
  · by_cases ho : ok
    · cases hw : sW (aS a) with
      | none =>
        refine join (r := -nI 5) (a' := a) hM ⟨P, ?_, hC, hca, sm_refl⟩ (fun P1 hM1 => ⟨u1 P1 109 0 (0 : Int32), hm5 P1 hM1 k hk rfl ho hw, MRep_me hM1 me_th, sm_th⟩) hok
        rw [hc, isStK hC.1 hok.1 hk, he1 ho, rfn_C hC.2.1 hw]
        rfl
      | some w =>
        obtain ⟨_, _, h7⟩ := pl_ok hok.1 hok.2.1 hw
        obtain ⟨r, h1, h2⟩ := hr k w hk rfl ho hw
        refine join (r := r) (a' := a) hM ?_ h2 hok
        rw [hc, isStK hC.1 hok.1 hk, he1 ho, refus_C hC.2.1 hw h7, lb_eq, if_pos rfl]
        exact h1
    · refine join (r := -nI 3) (a' := a) hM ⟨P, ?_, hC, hca, sm_refl⟩ (fun P1 hM1 => ⟨u1 P1 109 0 (0 : Int32), hm3 P1 hM1 k hk rfl ho, MRep_me hM1 me_th, sm_th⟩) hok
      rw [hc, isStK hC.1 hok.1 hk, he0 ho]
      rfl
  · refine join (r := -nI 2) (a' := a) hM ⟨P, ?_, hC, hca, sm_refl⟩ (fun P1 hM1 => ⟨u1 P1 109 0 (0 : Int32), hm2 P1 hM1 hx, MRep_me hM1 me_th, sm_th⟩) hok
    rw [hc, refus_s hC.1 hok.1 hx]
    rfl
abbrev zok (y : Int32) : Prop := 1 ≤ y.toInt ∧ y.toInt ≤ 40
theorem isSz_1 {y : Int32} (h : zok y) (P : PM) : f_Yr_isSize y P = 1 := by rw [isSz_C, if_pos (show 1 ≤ y.toInt ∧ y.toInt ≤ 40 from h)]; rfl
theorem isSz_0 {y : Int32} (h : ¬ zok y) (P : PM) : f_Yr_isSize y P = 0 := by rw [isSz_C, if_neg (show ¬ (1 ≤ y.toInt ∧ y.toInt ≤ 40) from h)]; rfl
theorem zok_n {y : Int32} (h : zok y) : ∃ z, 1 ≤ z ∧ z ≤ 40 ∧ y = nI z := by
  refine ⟨y.toInt.toNat, by unfold zok at h; omega, by unfold zok at h; omega, ?_⟩
  apply Int32.toInt_inj.mp
  unfold zok at h
  rw [nI_ti (by omega)]
  omega
theorem isSzM_1 {y : Int32} (h : zok y) (P : PM) : f_Mo_isSize y.toInt64 P = some (nI 1) := by rw [isSize_M, tl_ti, if_pos h]
theorem isSzM_0 {y : Int32} (h : ¬ zok y) (P : PM) : f_Mo_isSize y.toInt64 P = some (nI 0) := by rw [isSize_M, tl_ti, if_neg h]
theorem noComing_M {P : PM} {a : AS} {k w : Nat} {y : Int32} (hM : MRep P a) (hok : AOk a) (hk : k < vN (aV a)) (hy : zok y) (hw : sW (aS a) = some w) (h7 : w < 7) : f_Mo_noComing (nI k) y P = some (0 : Int32) := by
  unfold f_Mo_noComing
  rw [isSt_Mk hM hok hk, Option.bind_some, if_neg (by decide), isSzM_1 hy, Option.bind_some, if_neg (by decide), m113 hM.2.1, hw, oI_s, if_neg (by simp (disch := omega) only [z_add, z_mul, z_sub, z_subm, z_addm, z_lt_t, z_lt_f, z_le_t, z_le_f, z_eq_t, z_eq_f, z_eqm, z_meq, z_mm, z_ltm, z_mlt, z_lem, z_mle, z_cl, z_ck, u1_1, u1_2, u2_1, u2_2, ↓reduceIte, Option.bind_some, Option.bind_none, bd2_some, lb_eq, and_true, and_false, true_and, false_and, not_true_eq_false, not_false_eq_true, eq_self_iff_true, if_true, if_false, Nat.reduceEqDiff, Nat.reduceAdd, Nat.reduceMul, Nat.reduceSub, Bool.false_eq_true, zl0, zl1, zl2, zl3, zl4, zl5, zl6, zl7, zl8, zl9, zl10, zl11, zl12, zl13, zl14, zl15, zl16, zl17, zl18, zl19, zl20, zl22, zl23, zl24, zl25, zl30, zl31, zl32, zl33, zl34, zl35, zl36, zl37, zl38, zl39, zl40, zl41, zl42, zl43, zl45, zl48, zl49, zl57, zl58, zl59, zl60, zl61, zl62, zl63, zl64, zl91, zl93, zl97, zl98, zl99, zl100, zl113, zl114, zl115, zl116, zl117, zl122, zl124, zl125, zl127, zl128, zl136, zl200, zl201, zl202, zl203, zl204, zl205, zl206, zl207, zl208, zl209, zl210, zl211, zl212, zl213, zl214, zl215, zl216, zl217, zl218, zl219, zl220, zl235, zl236, zl255, zl280, zl287, zl900, zl999, zl1000, zl1001, zl1136, zl1960, zl3000, zl3001, zl3002, zl3003, zl3004, zl3005, zl3006, zl3007, zl3008, zl3009, zl268435456, zl1000000000])]
theorem comes_M {P : PM} {a : AS} {k w z by' : Nat} (hM : MRep P a) (hok : AOk a) (hk : k < vN (aV a)) (hz1 : 1 ≤ z) (hz : z ≤ 40) (hw : sW (aS a) = some w) (hb : by' ≤ 1) :
    ∃ P2, f_Mo_comes (nI k) (nI z) (nI by') P = some ((match dsr (aV a) (aS a) by' k z (pl (aS a) w) with | none => -nI 1 | some c => if by' = 0 then nI c else nI (c / 1000)), P2) ∧ MRep P2 a ∧ sm mo P P2 := by
  have hN := hok.1.1
  obtain ⟨h280, _, h7⟩ := pl_ok hok.1 hok.2.1 hw
  obtain ⟨K, P2, g1, g2, g3, g4, g8, g5, g6⟩ := laysFar_M (by' := by') (st := k) hM hok hw (by omega) hz1 hz hb
  refine ⟨P2, ?_, g5, ly_mo g6⟩
  unfold f_Mo_comes
  rw [noComing_M hM hok hk (by unfold zok; rw [nI_ti (by omega)]; omega) hw h7, Option.bind_some, if_pos rfl, g1, bd2_some]
  cases e : dsr (aV a) (aS a) by' k z (pl (aS a) w) with
  | none => rw [show (none : Option Nat).getD F2 = F2 from rfl, if_pos (by decide)]; rfl
  | some c =>
    have := ds_le9 hok.1 h280 e
    rw [show (some c).getD F2 = c from rfl, if_neg (by simp (disch := omega) only [z_add, z_mul, z_sub, z_subm, z_addm, z_lt_t, z_lt_f, z_le_t, z_le_f, z_eq_t, z_eq_f, z_eqm, z_meq, z_mm, z_ltm, z_mlt, z_lem, z_mle, z_cl, z_ck, u1_1, u1_2, u2_1, u2_2, ↓reduceIte, Option.bind_some, Option.bind_none, bd2_some, lb_eq, and_true, and_false, true_and, false_and, not_true_eq_false, not_false_eq_true, eq_self_iff_true, if_true, if_false, Nat.reduceEqDiff, Nat.reduceAdd, Nat.reduceMul, Nat.reduceSub, Bool.false_eq_true, zl0, zl1, zl2, zl3, zl4, zl5, zl6, zl7, zl8, zl9, zl10, zl11, zl12, zl13, zl14, zl15, zl16, zl17, zl18, zl19, zl20, zl22, zl23, zl24, zl25, zl30, zl31, zl32, zl33, zl34, zl35, zl36, zl37, zl38, zl39, zl40, zl41, zl42, zl43, zl45, zl48, zl49, zl57, zl58, zl59, zl60, zl61, zl62, zl63, zl64, zl91, zl93, zl97, zl98, zl99, zl100, zl113, zl114, zl115, zl116, zl117, zl122, zl124, zl125, zl127, zl128, zl136, zl200, zl201, zl202, zl203, zl204, zl205, zl206, zl207, zl208, zl209, zl210, zl211, zl212, zl213, zl214, zl215, zl216, zl217, zl218, zl219, zl220, zl235, zl236, zl255, zl280, zl287, zl900, zl999, zl1000, zl1001, zl1136, zl1960, zl3000, zl3001, zl3002, zl3003, zl3004, zl3005, zl3006, zl3007, zl3008, zl3009, zl268435456, zl1000000000])]
    rcases (show by' = 0 ∨ by' = 1 by omega) with rfl | rfl
    · rw [if_pos (by decide)]; rfl
    · rw [if_neg (by decide), show (1000 : Int32) = nI 1000 from rfl, pk_div (by omega) (by omega) (by omega)]; rfl
theorem comes_x {a : AS} {x y : Int32} {by' : Nat} (hok : AOk a) (hb : by' ≤ 1) {P1 : PM} (h1 : MRep P1 a) :
    (¬ (0 ≤ x.toInt ∧ x.toInt < vN (aV a)) → f_Mo_comes x y (nI by') P1 = some (-nI 2, P1)) ∧ (∀ k, k < vN (aV a) → x = nI k → ¬ zok y → f_Mo_comes x y (nI by') P1 = some (-nI 3, P1)) ∧ (∀ k, k < vN (aV a) → x = nI k → zok y → sW (aS a) = none → f_Mo_comes x y (nI by') P1 = some (-nI 5, P1)) := by
  refine ⟨fun hx => ?_, fun k hk e hy => ?_, fun k hk e hy hw => ?_⟩
  · unfold f_Mo_comes f_Mo_noComing
    rw [isSt_Mn h1 hok hx]
    rfl
  · subst e
    unfold f_Mo_comes f_Mo_noComing
    rw [isSt_Mk h1 hok hk, Option.bind_some, if_neg (by decide), isSzM_0 hy]
    rfl
  · subst e
    unfold f_Mo_comes f_Mo_noComing
    rw [isSt_Mk h1 hok hk, Option.bind_some, if_neg (by decide), isSzM_1 hy, Option.bind_some, if_neg (by decide), m113 h1.2.1, hw]
    rfl
theorem soonest_ok {P : PM} {a : AS} {x y : Int32} (hC : CRep P a) (hM : MRep P a) (hca : CCa P (aV a)) (hok : AOk a) :
    ∃ v P1 P2, f_Yr_soonest x y P = some (v, P1) ∧ f_Mo_soonest x y P1 = some (v, P2) ∧ Inv P2 := by
  have hN := hok.1.1
  refine ask_ok (x := x) (e := f_Yr_isSize y P) (ok := zok y) (bc := fun P => bd2 (f_Ro_seek x y (1 : Int32) P) (fun v3 P4 => if v3 = (0 : Int32) then (some ((-1 : Int32), P4)) else ((f_Ro_hoursNeeded P4).bind (fun v6 => some (v6, P4))))) hC hM hca hok (fun h => isSz_1 h P) (fun h => isSz_0 h P) rfl ?_ ?_ ?_ ?_
  · intro P1 h1 hx
    unfold f_Mo_soonest
    rw [show (1 : Int32) = nI 1 from rfl, (comes_x hok (by omega) (MRep_me h1 me_th)).1 hx, bd2_some]
  · intro P1 h1 k hk e hy
    unfold f_Mo_soonest
    rw [show (1 : Int32) = nI 1 from rfl, (comes_x hok (by omega) (MRep_me h1 me_th)).2.1 k hk e hy, bd2_some]
  · intro P1 h1 k hk e hy hw
    unfold f_Mo_soonest
    rw [show (1 : Int32) = nI 1 from rfl, (comes_x hok (by omega) (MRep_me h1 me_th)).2.2 k hk e hy hw, bd2_some]
  · rintro k w hk rfl hy hw
    obtain ⟨z, hz1, hz, rfl⟩ := zok_n hy
    obtain ⟨h280, _, h7⟩ := pl_ok hok.1 hok.2.1 hw
    obtain ⟨L, K, P1, g1, g2, g3, g4, g8, g5, g6, g7⟩ := seek_C (st := k) (z := z) (by' := 1) hC hok hca hw (by omega) hz (by omega)
    have hm : pl (aS a) w ∈ L := (g2.2.1.2.1 _).mpr Rch_0
    refine ⟨match dsr (aV a) (aS a) 1 k z (pl (aS a) w) with | none => -nI 1 | some c => nI (c / 1000), ⟨P1, ?_, g5, g6, g7⟩, fun P' h' => ?_⟩
    · show bd2 (f_Ro_seek (nI k) (nI z) (nI 1) P) _ = _
      rw [g1, bd2_some]
      cases e : dsr (aV a) (aS a) 1 k z (pl (aS a) w) with
      | none => rw [if_pos (by rfl)]; rfl
      | some c =>
        have := ds_le9 hok.1 h280 e
        have e2 : K (pl (aS a) w) = c := by rw [g4 _ hm, e]; rfl
        rw [if_neg (show ¬ flg (some c).isSome = (0 : Int32) from (by decide : ¬ flg true = (0 : Int32)))]
        unfold f_Ro_hoursNeeded
        rw [place_C g5.2.1 hok.1 hok.2.1 hw, costOf_C g3 h280, Option.bind_some, Option.bind_some, e2, show (1000 : Int32) = nI 1000 from rfl, pk_div (by omega) (by omega) (by omega)]
    · obtain ⟨P2, k1, k2, k3⟩ := comes_M (by' := 1) (MRep_me h' me_th) hok hk hz1 hz hw (by omega)
      refine ⟨P2, ?_, k2, sm_trans sm_th k3⟩
      unfold f_Mo_soonest
      rw [show (1 : Int32) = nI 1 from rfl, k1, bd2_some]
      rfl
theorem fewest_ok {P : PM} {a : AS} {x y : Int32} (hC : CRep P a) (hM : MRep P a) (hca : CCa P (aV a)) (hok : AOk a) :
    ∃ v P1 P2, f_Yr_fewest x y P = some (v, P1) ∧ f_Mo_fewest x y P1 = some (v, P2) ∧ Inv P2 := by
  have hN := hok.1.1
  refine ask_ok (x := x) (e := f_Yr_isSize y P) (ok := zok y) (bc := fun P => bd2 (f_Ro_seek x y (0 : Int32) P) (fun v3 P4 => if v3 = (0 : Int32) then (some ((-1 : Int32), P4)) else ((f_Ro_passingsNeeded P4).bind (fun v6 => some (v6, P4))))) hC hM hca hok (fun h => isSz_1 h P) (fun h => isSz_0 h P) rfl ?_ ?_ ?_ ?_
  · intro P1 h1 hx
    unfold f_Mo_fewest
    rw [show f_Mo_comes x y (0 : Int32) = f_Mo_comes x y (nI 0) from rfl, (comes_x hok (by omega) (MRep_me h1 me_th)).1 hx, bd2_some]
  · intro P1 h1 k hk e hy
    unfold f_Mo_fewest
    rw [show f_Mo_comes x y (0 : Int32) = f_Mo_comes x y (nI 0) from rfl, (comes_x hok (by omega) (MRep_me h1 me_th)).2.1 k hk e hy, bd2_some]
  · intro P1 h1 k hk e hy hw
    unfold f_Mo_fewest
    rw [show f_Mo_comes x y (0 : Int32) = f_Mo_comes x y (nI 0) from rfl, (comes_x hok (by omega) (MRep_me h1 me_th)).2.2 k hk e hy hw, bd2_some]
  · rintro k w hk rfl hy hw
    obtain ⟨z, hz1, hz, rfl⟩ := zok_n hy
    obtain ⟨h280, _, h7⟩ := pl_ok hok.1 hok.2.1 hw
    obtain ⟨L, K, P1, g1, g2, g3, g4, g8, g5, g6, g7⟩ := seek_C (st := k) (z := z) (by' := 0) hC hok hca hw (by omega) hz (by omega)
    have hm : pl (aS a) w ∈ L := (g2.2.1.2.1 _).mpr Rch_0
    refine ⟨match dsr (aV a) (aS a) 0 k z (pl (aS a) w) with | none => -nI 1 | some c => nI c, ⟨P1, ?_, g5, g6, g7⟩, fun P' h' => ?_⟩
    · show bd2 (f_Ro_seek (nI k) (nI z) (nI 0) P) _ = _
      rw [g1, bd2_some]
      cases e : dsr (aV a) (aS a) 0 k z (pl (aS a) w) with
      | none => rw [if_pos (by rfl)]; rfl
      | some c =>
        have e2 : K (pl (aS a) w) = c := by rw [g4 _ hm, e]; rfl
        have hc : c < 1000 := by
          obtain ⟨Ln, H, k1, k2, k3, _, _⟩ := rst_len (c := ccb 0 (aV a)) (M := 280) (h := hrb 0 (aV a)) (fun p t q _ e => (nxp_in hok.1 e).1) (fun _ _ => rfl) c _ e
          have h3 : rk (ds (nxp (aV a) (aS a) (sA (aS a))) (ccb 0 (aV a)) (glb k z) (vN (aV a))) 280 (pl (aS a) w) < 280 := rk_M h280
          have h4 : Ln ≤ rk (ds (nxp (aV a) (aS a) (sA (aS a))) (ccb 0 (aV a)) (glb k z) (vN (aV a))) 280 (pl (aS a) w) := k1
          have h5 := k3 (fun _ _ => rfl)
          omega
        rw [if_neg (show ¬ flg (some c).isSome = (0 : Int32) from (by decide : ¬ flg true = (0 : Int32)))]
        unfold f_Ro_passingsNeeded
        rw [place_C g5.2.1 hok.1 hok.2.1 hw, costOf_C g3 h280, Option.bind_some, Option.bind_some, e2, show (1000 : Int32) = nI 1000 from rfl, pk_div (by omega) (by omega) (by omega), pk_mul, pk_sub (by omega)]
        exact congrArg (fun x => some (nI x, P1)) (by omega)
    · obtain ⟨P2, k1, k2, k3⟩ := comes_M (by' := 0) (MRep_me h' me_th) hok hk hz1 hz hw (by omega)
      refine ⟨P2, ?_, k2, sm_trans sm_th k3⟩
      unfold f_Mo_fewest
      rw [show f_Mo_comes (nI k) (nI z) (0 : Int32) = f_Mo_comes (nI k) (nI z) (nI 0) from rfl, k1, bd2_some]
      rfl
/-- both that tell a station of the way -/
theorem by_ok {P : PM} {a : AS} {x y i : Int32} {by' : Nat} (hb : by' ≤ 1) (hC : CRep P a) (hM : MRep P a) (hca : CCa P (aV a)) (hok : AOk a) :
    ∃ v P1 P2, f_Yr_routeBy x y i (nI by') P = some (v, P1) ∧ f_Mo_comesBy x y i (nI by') (u1 P1 109 0 (0 : Int32)) = some (v, P2) ∧ Inv P2 := by
  have hN := hok.1.1
  refine ask_ok (x := x) (e := if zok y ∧ 0 ≤ i.toInt then 1 else 0) (ok := zok y ∧ 0 ≤ i.toInt) (fc := f_Yr_routeBy x y i (nI by')) (fm := fun P1 => f_Mo_comesBy x y i (nI by') (u1 P1 109 0 (0 : Int32)))
    (bc := fun P => bd2 (f_Ro_seek x y (nI by') P) (fun v3 P4 => if v3 = (0 : Int32) then (some ((-1 : Int32), P4)) else ((f_Ro_stationAt i P4).bind (fun v6 => some (v6, P4))))) hC hM hca hok (fun h => if_pos h) (fun h => if_neg h) ?_ ?_ ?_ ?_ ?_
  · unfold f_Yr_routeBy j_Yr_routeBy_24 j_Yr_routeBy_25
    by_cases h1 : zok y
    · rw [isSz_1 h1, if_neg (by decide)]
      by_cases h2 : 0 ≤ i.toInt
      · rw [if_neg (show ¬ i < (0 : Int32) by rw [Int32.lt_iff_toInt_lt, show (0 : Int32).toInt = 0 from rfl]; omega), if_pos ⟨h1, h2⟩]
      · rw [if_pos (show i < (0 : Int32) by rw [Int32.lt_iff_toInt_lt, show (0 : Int32).toInt = 0 from rfl]; omega), if_neg (fun h => h2 h.2)]
    · rw [isSz_0 h1, if_pos rfl, if_neg (fun h => h1 h.1)]
  · intro P1 h1 hx
    show f_Mo_comesBy x y i (nI by') _ = _
    unfold f_Mo_comesBy
    rw [isSt_Mn (MRep_me h1 me_th) hok hx]
    rfl
  · rintro P1 h1 k hk rfl hy
    show f_Mo_comesBy (nI k) y i (nI by') _ = _
    unfold f_Mo_comesBy
    rw [isSt_Mk (MRep_me h1 me_th) hok hk, Option.bind_some, if_neg (by decide)]
    by_cases hz : zok y
    · rw [isSzM_1 hz, Option.bind_some, if_neg (by decide), if_neg (show ¬ (0 : Int32) ≤ i by rw [Int32.le_iff_toInt_le, show (0 : Int32).toInt = 0 from rfl]; exact fun h => hy ⟨hz, h⟩)]
      rfl
    · rw [isSzM_0 hz]
      rfl
  · rintro P1 h1 k hk rfl hy hw
    have hM1 : MRep (u1 P1 109 0 (0 : Int32)) a := MRep_me h1 me_th
    show f_Mo_comesBy (nI k) y i (nI by') _ = _
    unfold f_Mo_comesBy
    rw [isSt_Mk hM1 hok hk, Option.bind_some, if_neg (by decide), isSzM_1 hy.1, Option.bind_some, if_neg (by decide), if_pos (show (0 : Int32) ≤ i by rw [Int32.le_iff_toInt_le, show (0 : Int32).toInt = 0 from rfl]; exact hy.2), m113 hM1.2.1, hw]
    rfl
  · rintro k w hk rfl ⟨hy, hi⟩ hw
    obtain ⟨z, hz1, hz, rfl⟩ := zok_n hy
    obtain ⟨h280, _, h7⟩ := pl_ok hok.1 hok.2.1 hw
    have hiN : ∃ j, j < 2147483648 ∧ i = nI j := by
      have := Int32.toInt_lt i
      refine ⟨i.toInt.toNat, by omega, ?_⟩
      apply Int32.toInt_inj.mp
      rw [nI_ti (by omega)]
      omega
    obtain ⟨j, hj, rfl⟩ := hiN
    obtain ⟨L, K, P1, g1, g2, g3, g4, g8, g5, g6, g7⟩ := seek_C (st := k) (z := z) (by' := by') hC hok hca hw (by omega) hz hb
    have hm : pl (aS a) w ∈ L := (g2.2.1.2.1 _).mpr Rch_0
    refine ⟨oI (rsr (aV a) (aS a) by' k z j (pl (aS a) w)), ⟨P1, ?_, g5, g6, g7⟩, fun P' h' => ?_⟩
    · show bd2 (f_Ro_seek (nI k) (nI z) (nI by') P) _ = _
      rw [g1, bd2_some]
      cases e : dsr (aV a) (aS a) by' k z (pl (aS a) w) with
      | none =>
        rw [if_pos (by rfl), show rsr (aV a) (aS a) by' k z j (pl (aS a) w) = none from rst_none (ccb_pos by' _) e j]
        rfl
      | some c =>
        rw [if_neg (show ¬ flg (some c).isSome = (0 : Int32) from (by decide : ¬ flg true = (0 : Int32))), ro_stationAt hok.1 hok.2.1 hw hb g2 g5.2.1 g3 g4 g8 hj]
        rfl
    · have hM1 : MRep (u1 P' 109 0 (0 : Int32)) a := MRep_me h' me_th
      obtain ⟨K2, P2, k1, k2, k3, k4, k5, k6, k7⟩ := laysFar_M (by' := by') (st := k) hM1 hok hw (by omega) hz1 hz hb
      refine ⟨P2, ?_, k6, sm_trans sm_th (ly_mo k7)⟩
      show f_Mo_comesBy (nI k) (nI z) (nI j) (nI by') _ = _
      unfold f_Mo_comesBy
      rw [isSt_Mk hM1 hok hk, Option.bind_some, if_neg (by decide), isSzM_1 hy, Option.bind_some, if_neg (by decide), if_pos (show (0 : Int32) ≤ nI j from (nI_le (by omega) hj : nI 0 ≤ nI j)), m113 hM1.2.1, hw, oI_s, if_neg (by simp (disch := omega) only [z_add, z_mul, z_sub, z_subm, z_addm, z_lt_t, z_lt_f, z_le_t, z_le_f, z_eq_t, z_eq_f, z_eqm, z_meq, z_mm, z_ltm, z_mlt, z_lem, z_mle, z_cl, z_ck, u1_1, u1_2, u2_1, u2_2, ↓reduceIte, Option.bind_some, Option.bind_none, bd2_some, lb_eq, and_true, and_false, true_and, false_and, not_true_eq_false, not_false_eq_true, eq_self_iff_true, if_true, if_false, Nat.reduceEqDiff, Nat.reduceAdd, Nat.reduceMul, Nat.reduceSub, Bool.false_eq_true, zl0, zl1, zl2, zl3, zl4, zl5, zl6, zl7, zl8, zl9, zl10, zl11, zl12, zl13, zl14, zl15, zl16, zl17, zl18, zl19, zl20, zl22, zl23, zl24, zl25, zl30, zl31, zl32, zl33, zl34, zl35, zl36, zl37, zl38, zl39, zl40, zl41, zl42, zl43, zl45, zl48, zl49, zl57, zl58, zl59, zl60, zl61, zl62, zl63, zl64, zl91, zl93, zl97, zl98, zl99, zl100, zl113, zl114, zl115, zl116, zl117, zl122, zl124, zl125, zl127, zl128, zl136, zl200, zl201, zl202, zl203, zl204, zl205, zl206, zl207, zl208, zl209, zl210, zl211, zl212, zl213, zl214, zl215, zl216, zl217, zl218, zl219, zl220, zl235, zl236, zl255, zl280, zl287, zl900, zl999, zl1000, zl1001, zl1136, zl1960, zl3000, zl3001, zl3002, zl3003, zl3004, zl3005, zl3006, zl3007, zl3008, zl3009, zl268435456, zl1000000000]), k1, bd2_some,
        mo_stationAt hok.1 hok.2.1 hw hb k2 (standNow_M k6.2.1 hok.1 hok.2.1 hw) k3 k4 k5 hj]
      rfl
theorem soonBy_ok {P : PM} {a : AS} {x y i : Int32} (hC : CRep P a) (hM : MRep P a) (hca : CCa P (aV a)) (hok : AOk a) :
    ∃ v P1 P2, f_Yr_soonBy x y i P = some (v, P1) ∧ f_Mo_soonBy x y i P1 = some (v, P2) ∧ Inv P2 := by
  obtain ⟨v, P1, P2, h1, h2, h3⟩ := by_ok (x := x) (y := y) (i := i) (by' := 1) (by omega) hC hM hca hok
  refine ⟨v, P1, P2, ?_, ?_, h3⟩
  · unfold f_Yr_soonBy
    rw [show (1 : Int32) = nI 1 from rfl, h1]
    rfl
  · unfold f_Mo_soonBy
    rw [show (1 : Int32) = nI 1 from rfl, h2]
    rfl
theorem fewBy_ok {P : PM} {a : AS} {x y i : Int32} (hC : CRep P a) (hM : MRep P a) (hca : CCa P (aV a)) (hok : AOk a) :
    ∃ v P1 P2, f_Yr_fewBy x y i P = some (v, P1) ∧ f_Mo_fewBy x y i P1 = some (v, P2) ∧ Inv P2 := by
  obtain ⟨v, P1, P2, h1, h2, h3⟩ := by_ok (x := x) (y := y) (i := i) (by' := 0) (by omega) hC hM hca hok
  refine ⟨v, P1, P2, ?_, ?_, h3⟩
  · unfold f_Yr_fewBy
    rw [show f_Yr_routeBy x y i (0 : Int32) P = f_Yr_routeBy x y i (nI 0) P from rfl, h1]
    rfl
  · unfold f_Mo_fewBy
    rw [show f_Mo_comesBy x y i (0 : Int32) (u1 P1 109 0 (0 : Int32)) = f_Mo_comesBy x y i (nI 0) (u1 P1 109 0 (0 : Int32)) from rfl, h2]
    rfl
