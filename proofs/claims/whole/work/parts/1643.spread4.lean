/-! spread, crowd -/
theorem spread_ok {P : PM} {a : AS} {x y : Int32} (hC : CRep P a) (hM : MRep P a) (hca : CCa P (aV a)) (hok : AOk a) :
    ∃ v P1 P2, f_Yr_spread x y P = some (v, P1) ∧ f_Mo_spread x y P1 = some (v, P2) ∧ Inv P2 := by
  have hN := hok.1.1
  have hA := hok.2.1.2.2.2.1
  have h128 := pw_le hok.1.1
  have hwi : ∀ P : PM, f_Mo_within y.toInt64 (0 : Int64) (999 : Int64) P = if 0 ≤ y.toInt ∧ y.toInt ≤ 999 then nI 1 else nI 0 := fun P => by
    rw [within_i, tl_ti]; rfl
  refine ask_ok (x := x) (e := if 0 ≤ y.toInt ∧ y.toInt ≤ 999 then 1 else 0) (ok := 0 ≤ y.toInt ∧ y.toInt ≤ 999) (fc := f_Yr_spread x y) (fm := f_Mo_spread x y)
    (bc := fun P => bd2 (f_Sp_run y P) (fun v3 P4 => (f_Sp_sizeOf x P4).bind (fun v5 => some (v5, P4)))) hC hM hca hok (fun h => if_pos h) (fun h => if_neg h) ?_ ?_ ?_ ?_ ?_
  · have e0 : (y < (0 : Int32)) ↔ y.toInt < 0 := by rw [Int32.lt_iff_toInt_lt]; rfl
    have e9 : ((999 : Int32) < y) ↔ 999 < y.toInt := by rw [Int32.lt_iff_toInt_lt]; rfl
    unfold f_Yr_spread j_Yr_spread_24 j_Yr_spread_25
    by_cases h1 : y.toInt < 0
    · rw [if_pos (e0.mpr h1), if_neg (show ¬ (0 ≤ y.toInt ∧ y.toInt ≤ 999) by omega)]
    · rw [if_neg (fun h => h1 (e0.mp h))]
      by_cases h2 : 999 < y.toInt
      · rw [if_pos (e9.mpr h2), if_neg (show ¬ (0 ≤ y.toInt ∧ y.toInt ≤ 999) by omega)]
      · rw [if_neg (fun h => h2 (e9.mp h)), if_pos (show 0 ≤ y.toInt ∧ y.toInt ≤ 999 by omega)]
  · intro P1 h1 hx
    show f_Mo_spread x y P1 = _
    unfold f_Mo_spread
    rw [isSt_Mn (MRep_me h1 me_th) hok hx]
    rfl
  · rintro P1 h1 k hk rfl hy
    show f_Mo_spread (nI k) y P1 = _
    unfold f_Mo_spread
    rw [isSt_Mk (MRep_me h1 me_th) hok hk, Option.bind_some, if_neg (by decide), hwi, if_neg hy]
    rfl
  · rintro P1 h1 k hk rfl hy hw
    have hM1 : MRep (u1 P1 109 0 (0 : Int32)) a := MRep_me h1 me_th
    show f_Mo_spread (nI k) y P1 = _
    unfold f_Mo_spread
    rw [isSt_Mk hM1 hok hk, Option.bind_some, if_neg (by decide), hwi, if_pos hy, if_neg (by decide), m113 hM1.2.1, hw]
    rfl
  · rintro k w hk rfl hy hw
    obtain ⟨_, _, h7⟩ := pl_ok hok.1 hok.2.1 hw
    have hwN := (hok.2.1.1 w hw).1
    have hZ := hok.2.1.2.2.1
    obtain ⟨j, hj, rfl⟩ : ∃ j, j ≤ 999 ∧ y = nI j := by
      refine ⟨y.toInt.toNat, by omega, ?_⟩
      apply Int32.toInt_inj.mp
      rw [nI_ti (by omega)]
      omega
    obtain ⟨R, hR, hR1, hR2, hR3⟩ := itr_end (s := aS a) (S := fun _ => True) (sl := sA (aS a)) hok.1 hS_T (A0_T hwN hZ)
    refine ⟨nI (itr (aV a) (aS a) (sA (aS a)) (A0 w (sZ (aS a))) j k), ?_, fun P' h' => ?_⟩
    · obtain ⟨P1, g1, g2, g3, g4, g5⟩ := run_C (N := j) hC hok hca hw (by omega) hR1 hR2 hR3
      refine ⟨P1, ?_, g3, g4, g5⟩
      show bd2 (f_Sp_run (nI j) P) _ = _
      rw [g1, bd2_some]
      unfold f_Sp_sizeOf
      rw [if_neg (by simp (disch := omega) only [z_add, z_mul, z_sub, z_subm, z_addm, z_lt_t, z_lt_f, z_le_t, z_le_f, z_eq_t, z_eq_f, z_eqm, z_meq, z_mm, z_ltm, z_mlt, z_lem, z_mle, z_cl, z_ck, u1_1, u1_2, u2_1, u2_2, ↓reduceIte, Option.bind_some, Option.bind_none, bd2_some, lb_eq, and_true, and_false, true_and, false_and, not_true_eq_false, not_false_eq_true, eq_self_iff_true, if_true, if_false, Nat.reduceEqDiff, Nat.reduceAdd, Nat.reduceMul, Nat.reduceSub, Bool.false_eq_true, zl0, zl1, zl2, zl3, zl4, zl5, zl6, zl7, zl8, zl9, zl10, zl11, zl12, zl13, zl14, zl15, zl16, zl17, zl18, zl19, zl20, zl22, zl23, zl24, zl25, zl30, zl31, zl32, zl33, zl34, zl35, zl36, zl37, zl38, zl39, zl40, zl41, zl42, zl43, zl45, zl48, zl49, zl57, zl58, zl59, zl60, zl61, zl62, zl63, zl64, zl91, zl93, zl97, zl98, zl99, zl100, zl113, zl114, zl115, zl116, zl117, zl122, zl124, zl125, zl127, zl128, zl136, zl200, zl201, zl202, zl203, zl204, zl205, zl206, zl207, zl208, zl209, zl210, zl211, zl212, zl213, zl214, zl215, zl216, zl217, zl218, zl219, zl220, zl235, zl236, zl255, zl280, zl287, zl900, zl999, zl1000, zl1001, zl1136, zl1960, zl3000, zl3001, zl3002, zl3003, zl3004, zl3005, zl3006, zl3007, zl3008, zl3009, zl268435456, zl1000000000]), if_neg (by simp (disch := omega) only [z_add, z_mul, z_sub, z_subm, z_addm, z_lt_t, z_lt_f, z_le_t, z_le_f, z_eq_t, z_eq_f, z_eqm, z_meq, z_mm, z_ltm, z_mlt, z_lem, z_mle, z_cl, z_ck, u1_1, u1_2, u2_1, u2_2, ↓reduceIte, Option.bind_some, Option.bind_none, bd2_some, lb_eq, and_true, and_false, true_and, false_and, not_true_eq_false, not_false_eq_true, eq_self_iff_true, if_true, if_false, Nat.reduceEqDiff, Nat.reduceAdd, Nat.reduceMul, Nat.reduceSub, Bool.false_eq_true, zl0, zl1, zl2, zl3, zl4, zl5, zl6, zl7, zl8, zl9, zl10, zl11, zl12, zl13, zl14, zl15, zl16, zl17, zl18, zl19, zl20, zl22, zl23, zl24, zl25, zl30, zl31, zl32, zl33, zl34, zl35, zl36, zl37, zl38, zl39, zl40, zl41, zl42, zl43, zl45, zl48, zl49, zl57, zl58, zl59, zl60, zl61, zl62, zl63, zl64, zl91, zl93, zl97, zl98, zl99, zl100, zl113, zl114, zl115, zl116, zl117, zl122, zl124, zl125, zl127, zl128, zl136, zl200, zl201, zl202, zl203, zl204, zl205, zl206, zl207, zl208, zl209, zl210, zl211, zl212, zl213, zl214, zl215, zl216, zl217, zl218, zl219, zl220, zl235, zl236, zl255, zl280, zl287, zl900, zl999, zl1000, zl1001, zl1136, zl1960, zl3000, zl3001, zl3002, zl3003, zl3004, zl3005, zl3006, zl3007, zl3008, zl3009, zl268435456, zl1000000000]), z_ck (by omega) (by omega), z_cl (by omega), g2 k (by omega)]
      rfl
    · have hM1 : MRep (u1 P' 109 0 (0 : Int32)) a := MRep_me h' me_th
      obtain ⟨P2, g1, g2, g3⟩ := begins_M hM1 hok hw
      have hM3 := MRep_og hM1 g3
      obtain ⟨P3, k1, k2⟩ := spreadM_l (g := k) (N := j) (S := fun _ => True) hok.1 hok.2.1 (A0_T hwN hZ) (by omega) (by omega) hS_T j FU 0 P2 (by omega) (by have := FU_big; omega) (MKn_M hM3) (m116 hM3.2.1) g2
      refine ⟨P3, ?_, MRep_og hM3 k2, sm_trans sm_th (og_mo (sm_trans g3 k2))⟩
      show f_Mo_spread (nI k) (nI j) P' = _
      unfold f_Mo_spread
      rw [isSt_Mk hM1 hok hk, Option.bind_some, if_neg (by decide), hwi, if_pos hy, if_neg (by decide), m113 hM1.2.1, hw, oI_s, if_neg (by simp (disch := omega) only [z_add, z_mul, z_sub, z_subm, z_addm, z_lt_t, z_lt_f, z_le_t, z_le_f, z_eq_t, z_eq_f, z_eqm, z_meq, z_mm, z_ltm, z_mlt, z_lem, z_mle, z_cl, z_ck, u1_1, u1_2, u2_1, u2_2, ↓reduceIte, Option.bind_some, Option.bind_none, bd2_some, lb_eq, and_true, and_false, true_and, false_and, not_true_eq_false, not_false_eq_true, eq_self_iff_true, if_true, if_false, Nat.reduceEqDiff, Nat.reduceAdd, Nat.reduceMul, Nat.reduceSub, Bool.false_eq_true, zl0, zl1, zl2, zl3, zl4, zl5, zl6, zl7, zl8, zl9, zl10, zl11, zl12, zl13, zl14, zl15, zl16, zl17, zl18, zl19, zl20, zl22, zl23, zl24, zl25, zl30, zl31, zl32, zl33, zl34, zl35, zl36, zl37, zl38, zl39, zl40, zl41, zl42, zl43, zl45, zl48, zl49, zl57, zl58, zl59, zl60, zl61, zl62, zl63, zl64, zl91, zl93, zl97, zl98, zl99, zl100, zl113, zl114, zl115, zl116, zl117, zl122, zl124, zl125, zl127, zl128, zl136, zl200, zl201, zl202, zl203, zl204, zl205, zl206, zl207, zl208, zl209, zl210, zl211, zl212, zl213, zl214, zl215, zl216, zl217, zl218, zl219, zl220, zl235, zl236, zl255, zl280, zl287, zl900, zl999, zl1000, zl1001, zl1136, zl1960, zl3000, zl3001, zl3002, zl3003, zl3004, zl3005, zl3006, zl3007, zl3008, zl3009, zl268435456, zl1000000000]), g1, Option.bind_some]
      exact k1
/-- who has it, as bits -/
theorem holders_l {P : PM} {A : Nat → Nat} (hA : GAr P 66 A) (h40 : ∀ j, A j ≤ 40) : ∀ (m n t : Nat), t + m = 7 → m < n → l_Sp_holders_4 n (nI (bo (fun j => decide (0 < A j)) t)) (nI t) P = some (nI (bo (fun j => decide (0 < A j)) 7)) := by
  intro m
  induction m with
  | zero =>
    intro n t ht hn
    obtain ⟨n, rfl⟩ : ∃ r, n = r + 1 := ⟨n - 1, by omega⟩
    obtain rfl : t = 7 := by omega
    rw [l_Sp_holders_4, if_pos (by decide)]
  | succ m ih =>
    intro n t ht hn
    obtain ⟨n, rfl⟩ : ∃ r, n = r + 1 := ⟨n - 1, by omega⟩
    have r := ih n (t + 1) (by omega) (by omega)
    have := h40 t
    rw [bo_s] at r
    rw [l_Sp_holders_4, if_neg (by simp (disch := omega) only [z_add, z_mul, z_sub, z_subm, z_addm, z_lt_t, z_lt_f, z_le_t, z_le_f, z_eq_t, z_eq_f, z_eqm, z_meq, z_mm, z_ltm, z_mlt, z_lem, z_mle, z_cl, z_ck, u1_1, u1_2, u2_1, u2_2, ↓reduceIte, Option.bind_some, Option.bind_none, bd2_some, lb_eq, and_true, and_false, true_and, false_and, not_true_eq_false, not_false_eq_true, eq_self_iff_true, if_true, if_false, Nat.reduceEqDiff, Nat.reduceAdd, Nat.reduceMul, Nat.reduceSub, Bool.false_eq_true, zl0, zl1, zl2, zl3, zl4, zl5, zl6, zl7, zl8, zl9, zl10, zl11, zl12, zl13, zl14, zl15, zl16, zl17, zl18, zl19, zl20, zl22, zl23, zl24, zl25, zl30, zl31, zl32, zl33, zl34, zl35, zl36, zl37, zl38, zl39, zl40, zl41, zl42, zl43, zl45, zl48, zl49, zl57, zl58, zl59, zl60, zl61, zl62, zl63, zl64, zl91, zl93, zl97, zl98, zl99, zl100, zl113, zl114, zl115, zl116, zl117, zl122, zl124, zl125, zl127, zl128, zl136, zl200, zl201, zl202, zl203, zl204, zl205, zl206, zl207, zl208, zl209, zl210, zl211, zl212, zl213, zl214, zl215, zl216, zl217, zl218, zl219, zl220, zl235, zl236, zl255, zl280, zl287, zl900, zl999, zl1000, zl1001, zl1136, zl1960, zl3000, zl3001, zl3002, zl3003, zl3004, zl3005, zl3006, zl3007, zl3008, zl3009, zl268435456, zl1000000000]), z_ck (by omega) (by omega), z_cl (by omega), hA t (by omega)]
    unfold j_Sp_holders_27
    by_cases c : A t = 0
    · rw [if_neg (by simp [c]), Nat.or_zero] at r
      rw [c, if_pos (by decide), lb_eq, show (0 : Int32) = nI 0 from rfl, nx_or, Nat.or_zero, show (1 : Int32) = nI 1 from rfl, nI_add]
      exact r
    · rw [if_pos (by simp; omega)] at r
      rw [if_neg (by simp (disch := omega) only [z_add, z_mul, z_sub, z_subm, z_addm, z_lt_t, z_lt_f, z_le_t, z_le_f, z_eq_t, z_eq_f, z_eqm, z_meq, z_mm, z_ltm, z_mlt, z_lem, z_mle, z_cl, z_ck, u1_1, u1_2, u2_1, u2_2, ↓reduceIte, Option.bind_some, Option.bind_none, bd2_some, lb_eq, and_true, and_false, true_and, false_and, not_true_eq_false, not_false_eq_true, eq_self_iff_true, if_true, if_false, Nat.reduceEqDiff, Nat.reduceAdd, Nat.reduceMul, Nat.reduceSub, Bool.false_eq_true, zl0, zl1, zl2, zl3, zl4, zl5, zl6, zl7, zl8, zl9, zl10, zl11, zl12, zl13, zl14, zl15, zl16, zl17, zl18, zl19, zl20, zl22, zl23, zl24, zl25, zl30, zl31, zl32, zl33, zl34, zl35, zl36, zl37, zl38, zl39, zl40, zl41, zl42, zl43, zl45, zl48, zl49, zl57, zl58, zl59, zl60, zl61, zl62, zl63, zl64, zl91, zl93, zl97, zl98, zl99, zl100, zl113, zl114, zl115, zl116, zl117, zl122, zl124, zl125, zl127, zl128, zl136, zl200, zl201, zl202, zl203, zl204, zl205, zl206, zl207, zl208, zl209, zl210, zl211, zl212, zl213, zl214, zl215, zl216, zl217, zl218, zl219, zl220, zl235, zl236, zl255, zl280, zl287, zl900, zl999, zl1000, zl1001, zl1136, zl1960, zl3000, zl3001, zl3002, zl3003, zl3004, zl3005, zl3006, zl3007, zl3008, zl3009, zl268435456, zl1000000000]), lb_eq, sh_1 t (by omega), nx_or, show (1 : Int32) = nI 1 from rfl, nI_add]
      exact r
theorem holders_C {P : PM} {A : Nat → Nat} (hA : GAr P 66 A) (h40 : ∀ j, A j ≤ 40) : f_Sp_holders P = some (nI (bo (fun j => decide (0 < A j)) 7)) :=
  holders_l hA h40 7 FU 0 (by omega) (by have := FU_big; omega)
theorem crowd_l {P : PM} {A : Nat → Nat} {v : NV} (hA : GAr P 120 A) (h40 : ∀ j, A j ≤ 40 ∧ (0 < A j → j < vN v)) (hX : MNet P 110 0 v) (hN : vN v ≤ 7) : ∀ (m n t : Nat), t + m = vN v → m < n → l_Mo_crowdBy_23 n (nI (bo (fun j => decide (0 < A j)) t)) (nI t) P = some (nI (bo (fun j => decide (0 < A j)) 7), P) := by
  have top : ∀ d, vN v + d ≤ 7 → bo (fun j => decide (0 < A j)) (vN v + d) = bo (fun j => decide (0 < A j)) (vN v) := by
    intro d
    induction d with
    | zero => intro _; rfl
    | succ d ih =>
      intro h
      have h1 := h40 (vN v + d)
      rw [show vN v + (d + 1) = (vN v + d) + 1 from rfl, bo_s, if_neg (by simp; omega), Nat.or_zero, ih (by omega)]
  intro m
  induction m with
  | zero =>
    intro n t ht hn
    obtain ⟨n, rfl⟩ : ∃ r, n = r + 1 := ⟨n - 1, by omega⟩
    obtain rfl : t = vN v := by omega
    have := top (7 - vN v) (by omega)
    rw [show vN v + (7 - vN v) = 7 by omega] at this
    rw [l_Mo_crowdBy_23, show P.1 110 (1 : Int32).toNatClampNeg = nI (vN v) from hX.1, if_pos (nI_le (by omega) (by omega)), this]
  | succ m ih =>
    intro n t ht hn
    obtain ⟨n, rfl⟩ : ∃ r, n = r + 1 := ⟨n - 1, by omega⟩
    have r := ih n (t + 1) (by omega) (by omega)
    have := (h40 t).1
    rw [bo_s] at r
    rw [l_Mo_crowdBy_23, show P.1 110 (1 : Int32).toNatClampNeg = nI (vN v) from hX.1, if_neg (nI_ge (by omega) (by omega)), z_ck (by omega) (by omega), z_cl (by omega), hA t (by omega)]
    unfold j_Mo_crowdBy_50
    by_cases c : A t = 0
    · rw [if_neg (by simp [c]), Nat.or_zero] at r
      rw [c, if_pos (by decide), lb_eq, show (0 : Int32) = nI 0 from rfl, nx_or, Nat.or_zero, show (1 : Int32) = nI 1 from rfl, nI_add]
      exact r
    · rw [if_pos (by simp; omega)] at r
      rw [if_neg (by simp (disch := omega) only [z_add, z_mul, z_sub, z_subm, z_addm, z_lt_t, z_lt_f, z_le_t, z_le_f, z_eq_t, z_eq_f, z_eqm, z_meq, z_mm, z_ltm, z_mlt, z_lem, z_mle, z_cl, z_ck, u1_1, u1_2, u2_1, u2_2, ↓reduceIte, Option.bind_some, Option.bind_none, bd2_some, lb_eq, and_true, and_false, true_and, false_and, not_true_eq_false, not_false_eq_true, eq_self_iff_true, if_true, if_false, Nat.reduceEqDiff, Nat.reduceAdd, Nat.reduceMul, Nat.reduceSub, Bool.false_eq_true, zl0, zl1, zl2, zl3, zl4, zl5, zl6, zl7, zl8, zl9, zl10, zl11, zl12, zl13, zl14, zl15, zl16, zl17, zl18, zl19, zl20, zl22, zl23, zl24, zl25, zl30, zl31, zl32, zl33, zl34, zl35, zl36, zl37, zl38, zl39, zl40, zl41, zl42, zl43, zl45, zl48, zl49, zl57, zl58, zl59, zl60, zl61, zl62, zl63, zl64, zl91, zl93, zl97, zl98, zl99, zl100, zl113, zl114, zl115, zl116, zl117, zl122, zl124, zl125, zl127, zl128, zl136, zl200, zl201, zl202, zl203, zl204, zl205, zl206, zl207, zl208, zl209, zl210, zl211, zl212, zl213, zl214, zl215, zl216, zl217, zl218, zl219, zl220, zl235, zl236, zl255, zl280, zl287, zl900, zl999, zl1000, zl1001, zl1136, zl1960, zl3000, zl3001, zl3002, zl3003, zl3004, zl3005, zl3006, zl3007, zl3008, zl3009, zl268435456, zl1000000000]), lb_eq, sh_1 t (by omega), nx_or, show (1 : Int32) = nI 1 from rfl, nI_add]
      exact r
theorem crowdBy_M {P : PM} {a : AS} {w sl R : Nat} (hM : MRep P a) (hok : AOk a) (hw : sW (aS a) = some w) (hsl : sl < 128)
    (hR1 : ∀ i, i < R → (rd (aV a) (aS a) sl (itr (aV a) (aS a) sl (A0 w (sZ (aS a))) i)).2 = true) (hR2 : (rd (aV a) (aS a) sl (itr (aV a) (aS a) sl (A0 w (sZ (aS a))) R)).2 = false) (hR3 : ∀ n, R ≤ n → itr (aV a) (aS a) sl (A0 w (sZ (aS a))) n = itr (aV a) (aS a) sl (A0 w (sZ (aS a))) R) (hR : R ≤ 280) :
    ∃ P', f_Mo_crowdBy (nI sl) P = some (nI (bo (fun j => decide (0 < itr (aV a) (aS a) sl (A0 w (sZ (aS a))) R j)) 7), P') ∧ MRep P' a ∧ sm ogm P P' := by
  have hwN := (hok.2.1.1 w hw).1
  have hZ := hok.2.1.2.2.1
  obtain ⟨P2, g1, g2, g3⟩ := begins_M hM hok hw
  have hM3 := MRep_og hM g3
  obtain ⟨P3, k1, k2, k3⟩ := roundsM_l (S := fun _ => True) (W := fun n _ P => l_Mo_crowdBy_4 n (nI sl) P) (F := fun _ P => l_Mo_crowdBy_23 FU (0 : Int32) (0 : Int32) P) hok.1 hsl (A0_T hwN hZ) hS_T hR1 hR2 hR3
    (fun n i P _ _ => by
      show l_Mo_crowdBy_4 (n + 1) (nI sl) P = _
      rw [l_Mo_crowdBy_4]) R FU 0 P2 (by omega) (by have := FU_big; omega) (MKn_M hM3) (m116 hM3.2.1) g2
  have hM4 := MRep_og hM3 k3
  have hp := itr_p (s := aS a) (S := fun _ => True) (sl := sl) hok.1 hS_T (A0_T hwN hZ) R
  refine ⟨P3, ?_, hM4, sm_trans g3 k3⟩
  unfold f_Mo_crowdBy
  rw [g1, Option.bind_some]
  show l_Mo_crowdBy_4 FU (nI sl) P2 = _
  have k1' : l_Mo_crowdBy_4 FU (nI sl) P2 = l_Mo_crowdBy_23 FU (0 : Int32) (0 : Int32) P3 := k1
  rw [k1']
  exact crowd_l k2 (fun j => ⟨(hp j).1, fun h => ((hp j).2 h).1⟩) hM4.1 hok.1.1 (vN (aV a)) FU 0 (by omega) (by have := FU_big; have := hok.1.1; omega)
theorem crowd_ok {P : PM} {a : AS} (hC : CRep P a) (hM : MRep P a) (hca : CCa P (aV a)) (hok : AOk a) :
    ∃ v P1 P2, f_Yr_crowd P = some (v, P1) ∧ f_Mo_crowd P1 = some (v, P2) ∧ Inv P2 := by
  have hA := hok.2.1.2.2.2.1
  have h128 := pw_le hok.1.1
  cases hw : sW (aS a) with
  | none =>
    refine join (r := -nI 5) (a' := a) hM ⟨P, ?_, hC, hca, sm_refl⟩ (fun P1 hM1 => ⟨u1 P1 109 0 (0 : Int32), ?_, MRep_me hM1 me_th, sm_th⟩) hok
    · unfold f_Yr_crowd
      rw [rfn_C hC.2.1 hw]
      rfl
    · have hM2 : MRep (u1 P1 109 0 (0 : Int32)) a := MRep_me hM1 me_th
      unfold f_Mo_crowd
      rw [m113 hM2.2.1, hw]
      rfl
  | some w =>
    obtain ⟨_, _, h7⟩ := pl_ok hok.1 hok.2.1 hw
    have hwN := (hok.2.1.1 w hw).1
    have hZ := hok.2.1.2.2.1
    obtain ⟨R, hR, hR1, hR2, hR3⟩ := itr_end (s := aS a) (S := fun _ => True) (sl := sA (aS a)) hok.1 hS_T (A0_T hwN hZ)
    have hp := itr_p (s := aS a) (S := fun _ => True) (sl := sA (aS a)) hok.1 hS_T (A0_T hwN hZ) R
    refine join (r := nI (bo (fun j => decide (0 < itr (aV a) (aS a) (sA (aS a)) (A0 w (sZ (aS a))) R j)) 7)) (a' := a) hM ?_ (fun P1 hM1 => ?_) hok
    · obtain ⟨P1, g1, g2, g3, g4, g5⟩ := run_C (N := 999) hC hok hca hw (by omega) hR1 hR2 hR3
      refine ⟨P1, ?_, g3, g4, g5⟩
      rw [hR3 999 (by omega)] at g2
      unfold f_Yr_crowd
      rw [refus_C hC.2.1 hw h7, lb_eq, if_pos rfl, show (999 : Int32) = nI 999 from rfl, g1, bd2_some, holders_C g2 (fun j => (hp j).1)]
      rfl
    · have hM2 : MRep (u1 P1 109 0 (0 : Int32)) a := MRep_me hM1 me_th
      obtain ⟨P3, k1, k2, k3⟩ := crowdBy_M hM2 hok hw (show sA (aS a) < 128 by omega) hR1 hR2 hR3 hR
      refine ⟨P3, ?_, k2, sm_trans sm_th (og_mo k3)⟩
      unfold f_Mo_crowd
      rw [m113 hM2.2.1, hw, oI_s, if_neg (by simp (disch := omega) only [z_add, z_mul, z_sub, z_subm, z_addm, z_lt_t, z_lt_f, z_le_t, z_le_f, z_eq_t, z_eq_f, z_eqm, z_meq, z_mm, z_ltm, z_mlt, z_lem, z_mle, z_cl, z_ck, u1_1, u1_2, u2_1, u2_2, ↓reduceIte, Option.bind_some, Option.bind_none, bd2_some, lb_eq, and_true, and_false, true_and, false_and, not_true_eq_false, not_false_eq_true, eq_self_iff_true, if_true, if_false, Nat.reduceEqDiff, Nat.reduceAdd, Nat.reduceMul, Nat.reduceSub, Bool.false_eq_true, zl0, zl1, zl2, zl3, zl4, zl5, zl6, zl7, zl8, zl9, zl10, zl11, zl12, zl13, zl14, zl15, zl16, zl17, zl18, zl19, zl20, zl22, zl23, zl24, zl25, zl30, zl31, zl32, zl33, zl34, zl35, zl36, zl37, zl38, zl39, zl40, zl41, zl42, zl43, zl45, zl48, zl49, zl57, zl58, zl59, zl60, zl61, zl62, zl63, zl64, zl91, zl93, zl97, zl98, zl99, zl100, zl113, zl114, zl115, zl116, zl117, zl122, zl124, zl125, zl127, zl128, zl136, zl200, zl201, zl202, zl203, zl204, zl205, zl206, zl207, zl208, zl209, zl210, zl211, zl212, zl213, zl214, zl215, zl216, zl217, zl218, zl219, zl220, zl235, zl236, zl255, zl280, zl287, zl900, zl999, zl1000, zl1001, zl1136, zl1960, zl3000, zl3001, zl3002, zl3003, zl3004, zl3005, zl3006, zl3007, zl3008, zl3009, zl268435456, zl1000000000]), m116 hM2.2.1, k1]
      rfl
