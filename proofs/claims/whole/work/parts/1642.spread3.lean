/-! spread, rounds, crowd -/
theorem hS_T {v : NV} {s : SV} {sl : Nat} : ∀ w z t k, 1 ≤ z → z ≤ 40 → True → gw v s sl w z t = some (k + 1) → True := fun _ _ _ _ _ _ _ _ => trivial
theorem A0_T {v : NV} {w z : Nat} (hw : w < vN v) (hz : z ≤ 40) : Pos (fun _ => True) (vN v) (A0 w z) := by
  intro j
  unfold A0
  by_cases e : j = w
  · rw [if_pos e]; exact ⟨hz, fun _ => ⟨by omega, trivial⟩⟩
  · rw [if_neg e]; exact ⟨by omega, fun h => by omega⟩
theorem A0_L {v : NV} {w z : Nat} {L : List Nat} (hw : w < vN v) (hz : z ≤ 40) (hm : 40 * w + z - 1 ∈ L) : Pos (fun p => p ∈ L) (vN v) (A0 w z) := by
  intro j
  unfold A0
  by_cases e : j = w
  · rw [if_pos e, e]; exact ⟨hz, fun _ => ⟨hw, hm⟩⟩
  · rw [if_neg e]; exact ⟨by omega, fun h => by omega⟩
theorem gw_sl {v : NV} {s : SV} {sl sl' w z t k : Nat} (h : ∀ i, sl.testBit i = true → sl'.testBit i = true) (hg : gw v s sl' w z t = some k) : gw v s sl w z t = some k := by
  unfold gw at *
  by_cases c : sl'.testBit t = true
  · rw [if_pos c] at hg; cases hg
  · rw [if_neg c] at hg
    rw [if_neg (fun q => c (h t q))]
    exact hg
theorem hS_L {v : NV} {s : SV} {sl sl' p0 : Nat} {P : PM} {L : List Nat} (hv : NVok v) (hE : Exp P v s sl p0 L) (h : ∀ i, sl.testBit i = true → sl'.testBit i = true) :
    ∀ w z t k, 1 ≤ z → z ≤ 40 → 40 * w + z - 1 ∈ L → gw v s sl' w z t = some (k + 1) → 40 * t + k ∈ L := by
  intro w z t k h1 h40 hm hg
  have hg2 := gw_sl h hg
  have hN := gw_N hv hg2
  have e1 : (40 * w + z - 1) / 40 = w ∧ (40 * w + z - 1) % 40 + 1 = z := by omega
  have hn : nxp v s sl (40 * w + z - 1) t = some (40 * t + k) := by
    unfold nxp
    rw [e1.1, e1.2, hg2]
  exact (hE.2.1 _).mpr (Rch_s ((hE.2.1 _).mp hm) hN.2.1 hn)
theorem GKn_E {P : PM} {v : NV} {s : SV} {sl sl' p0 : Nat} {L : List Nat} (hn : CNet P 14 v) (hE : Exp P v s sl p0 L) (h : ∀ i, sl.testBit i = true → sl'.testBit i = true) : GKn P v s sl' (fun p => p ∈ L) :=
  ⟨hn, fun p hp => ⟨hE.1.2.2.2.2 p hp, fun t ht e => hE.2.2.2 p hp t ht (fun q => e (h t q))⟩⟩
theorem og_cl {P P' : PM} (g : sm og P P') : sm cl P P' := sm_mono g (fun o q => by simp [cl] at q; simp [og]; omega)
theorem CRep_og {P P' : PM} {a : AS} (h : CRep P a) (g : sm og P P') : CRep P' a := CRep_ce h (ce_sm g (fun o e => by simp [esr] at e; simp [og]; omega) (by rw [g.1 31 rfl]) (by rw [g.1 31 rfl]))
theorem runWith_C {P : PM} {a : AS} {w sl N R : Nat} {L : List Nat} (hC : CRep P a) (hok : AOk a) (hca : CCa P (aV a)) (hw : sW (aS a) = some w) (hN1 : N < 100000) (hE : Exp P (aV a) (aS a) (sA (aS a)) (pl (aS a) w) L) (hsl : sl < 128) (hb : ∀ i, (sA (aS a)).testBit i = true → sl.testBit i = true)
    (hR1 : ∀ i, i < R → (rd (aV a) (aS a) sl (itr (aV a) (aS a) sl (A0 w (sZ (aS a))) i)).2 = true) (hR2 : (rd (aV a) (aS a) sl (itr (aV a) (aS a) sl (A0 w (sZ (aS a))) R)).2 = false) (hR3 : ∀ n, R ≤ n → itr (aV a) (aS a) sl (A0 w (sZ (aS a))) n = itr (aV a) (aS a) sl (A0 w (sZ (aS a))) R) :
    ∃ P', f_Sp_runWith (nI sl) (nI N) P = some (nI (min N R), P') ∧ GAr P' 66 (itr (aV a) (aS a) sl (A0 w (sZ (aS a))) N) ∧ sm og P P' := by
  have hv := hok.1
  have hs := hok.2.1
  obtain ⟨h280, _, h7⟩ := pl_ok hv hs hw
  have hm : pl (aS a) w ∈ L := (hE.2.1 _).mpr Rch_0
  obtain ⟨P1, g1, g2, g3⟩ := begin_C (P := P) (o := 66) (w := w) (z := sZ (aS a)) (Or.inl rfl) h7
  have o1 : sm og P P1 := sm_mono g3 (fun o q => by simp [og] at q; simp; omega)
  obtain ⟨P2, k1, k2, k3⟩ := run_l (S := fun p => p ∈ L) hv hsl (A0_L (hs.1 w hw).1 hs.2.2.1 hm) hN1 (hS_L hv hE hb) hR1 hR2 hR3 N FU 0 0 P1 (by omega) (by have := FU_big; omega) (Or.inl ⟨rfl, Nat.zero_le _⟩) (GKn_og (GKn_E hC.1 hE hb) o1) g2
  refine ⟨P2, ?_, k2, sm_trans o1 k3⟩
  unfold f_Sp_runWith
  rw [hC.2.1.1, hw, oI_s, hC.2.1.2.1, g1, Option.bind_some]
  exact k1
theorem run_C {P : PM} {a : AS} {w N R : Nat} (hC : CRep P a) (hok : AOk a) (hca : CCa P (aV a)) (hw : sW (aS a) = some w) (hN1 : N < 100000)
    (hR1 : ∀ i, i < R → (rd (aV a) (aS a) (sA (aS a)) (itr (aV a) (aS a) (sA (aS a)) (A0 w (sZ (aS a))) i)).2 = true) (hR2 : (rd (aV a) (aS a) (sA (aS a)) (itr (aV a) (aS a) (sA (aS a)) (A0 w (sZ (aS a))) R)).2 = false) (hR3 : ∀ n, R ≤ n → itr (aV a) (aS a) (sA (aS a)) (A0 w (sZ (aS a))) n = itr (aV a) (aS a) (sA (aS a)) (A0 w (sZ (aS a))) R) :
    ∃ P', f_Sp_run (nI N) P = some (nI (min N R), P') ∧ GAr P' 66 (itr (aV a) (aS a) (sA (aS a)) (A0 w (sZ (aS a))) N) ∧ CRep P' a ∧ CCa P' (aV a) ∧ sm cl P P' := by
  have hA := hok.2.1.2.2.2.1
  have h7 := pw_le hok.1.1
  obtain ⟨L, P1, g1, g2, g3, g4, g5⟩ := expl_C hC hok hca hw hA
  obtain ⟨P2, k1, k2, k3⟩ := runWith_C g3 hok g4 hw hN1 g2 (by omega) (fun i h => h) hR1 hR2 hR3
  refine ⟨P2, ?_, k2, CRep_og g3 k3, CCa_ro g4 (k3.1 59 rfl) (k3.1 60 rfl), sm_trans (xr_cl g5) (og_cl k3)⟩
  unfold f_Sp_run
  rw [hC.2.1.2.2.2.1, g1, Option.bind_some, g3.2.1.2.2.2.1, k1]
  rfl
theorem begins_M {P : PM} {a : AS} {w : Nat} (hM : MRep P a) (hok : AOk a) (hw : sW (aS a) = some w) : ∃ P', f_Mo_begins P = some P' ∧ GAr P' 120 (A0 w (sZ (aS a))) ∧ sm ogm P P' := by
  obtain ⟨_, _, h7⟩ := pl_ok hok.1 hok.2.1 hw
  obtain ⟨P1, g1, g2, g3⟩ := isAt_M (P := P) (o := 120) (w := w) (z := sZ (aS a)) h7
  refine ⟨P1, ?_, g2, sm_mono g3 (fun o q => by simp [ogm] at q; simp; omega)⟩
  unfold f_Mo_begins
  rw [m113 hM.2.1, m114 hM.2.1, hw, oI_s, g1]
  rfl
theorem MRep_og {P P' : PM} {a : AS} (h : MRep P a) (g : sm ogm P P') : MRep P' a := MRep_me h (me_sm g (fun o e => by simp [msr] at e; simp [ogm]; omega) rfl)
theorem og_mo {P P' : PM} (g : sm ogm P P') : sm mo P P' := sm_mono g (fun o q => by simp [mo] at q; simp [ogm]; omega)
theorem MKn_M {P : PM} {a : AS} (h : MRep P a) : MKn P (aV a) (aS a) := ⟨h.1, fun j hj => h.2.1.2.2.2.2 j hj⟩
theorem rounds_ok {P : PM} {a : AS} (hC : CRep P a) (hM : MRep P a) (hca : CCa P (aV a)) (hok : AOk a) :
    ∃ v P1 P2, f_Yr_rounds P = some (v, P1) ∧ f_Mo_rounds P1 = some (v, P2) ∧ Inv P2 := by
  have hA := hok.2.1.2.2.2.1
  have h128 := pw_le hok.1.1
  cases hw : sW (aS a) with
  | none =>
    refine join (r := -nI 5) (a' := a) hM ⟨P, ?_, hC, hca, sm_refl⟩ (fun P1 hM1 => ⟨u1 P1 109 0 (0 : Int32), ?_, MRep_me hM1 me_th, sm_th⟩) hok
    · unfold f_Yr_rounds
      rw [rfn_C hC.2.1 hw]
      rfl
    · have hM2 : MRep (u1 P1 109 0 (0 : Int32)) a := MRep_me hM1 me_th
      unfold f_Mo_rounds
      rw [m113 hM2.2.1, hw]
      rfl
  | some w =>
    obtain ⟨_, _, h7⟩ := pl_ok hok.1 hok.2.1 hw
    have hwN := (hok.2.1.1 w hw).1
    have hZ := hok.2.1.2.2.1
    obtain ⟨R, hR, hR1, hR2, hR3⟩ := itr_end (S := fun _ => True) (sl := sA (aS a)) hok.1 hS_T (A0_T hwN hZ)
    refine join (r := nI R) (a' := a) hM ?_ (fun P1 hM1 => ?_) hok
    · obtain ⟨P1, g1, g2, g3, g4, g5⟩ := run_C (N := 999) hC hok hca hw (by omega) hR1 hR2 hR3
      refine ⟨P1, ?_, g3, g4, g5⟩
      unfold f_Yr_rounds
      rw [refus_C hC.2.1 hw h7, lb_eq, if_pos rfl, show (999 : Int32) = nI 999 from rfl, g1, Nat.min_eq_right (by omega)]
      rfl
    · have hM2 : MRep (u1 P1 109 0 (0 : Int32)) a := MRep_me hM1 me_th
      obtain ⟨P2, g1, g2, g3⟩ := begins_M hM2 hok hw
      have hM3 := MRep_og hM2 g3
      obtain ⟨P3, k1, k2, k3⟩ := roundsM_l (S := fun _ => True) (W := fun n i P => l_Mo_rounds_25 n (nI i) P) (F := fun i P => some (nI i, P)) hok.1 (show sA (aS a) < 128 by omega) (A0_T hwN hZ) hS_T hR1 hR2 hR3
        (fun n i P _ h116 => by
          show l_Mo_rounds_25 (n + 1) (nI i) P = _
          rw [l_Mo_rounds_25, show P.1 110 (116 : Int32).toNatClampNeg = nI (sA (aS a)) from h116, show (1 : Int32) = nI 1 from rfl, nI_add]) R FU 0 P2 (by omega) (by have := FU_big; omega) (MKn_M hM3) (m116 hM3.2.1) g2
      refine ⟨P3, ?_, MRep_og hM3 k3, sm_trans sm_th (og_mo (sm_trans g3 k3))⟩
      unfold f_Mo_rounds
      rw [m113 hM2.2.1, hw, oI_s, if_neg (by simp (disch := omega) only [z_add, z_mul, z_sub, z_subm, z_addm, z_lt_t, z_lt_f, z_le_t, z_le_f, z_eq_t, z_eq_f, z_eqm, z_meq, z_mm, z_ltm, z_mlt, z_lem, z_mle, z_cl, z_ck, u1_1, u1_2, u2_1, u2_2, ↓reduceIte, Option.bind_some, Option.bind_none, bd2_some, lb_eq, and_true, and_false, true_and, false_and, not_true_eq_false, not_false_eq_true, eq_self_iff_true, if_true, if_false, Nat.reduceEqDiff, Nat.reduceAdd, Nat.reduceMul, Nat.reduceSub, Bool.false_eq_true, zl0, zl1, zl2, zl3, zl4, zl5, zl6, zl7, zl8, zl9, zl10, zl11, zl12, zl13, zl14, zl15, zl16, zl17, zl18, zl19, zl20, zl22, zl23, zl24, zl25, zl30, zl31, zl32, zl33, zl34, zl35, zl36, zl37, zl38, zl39, zl40, zl41, zl42, zl43, zl45, zl48, zl49, zl57, zl58, zl59, zl60, zl61, zl62, zl63, zl64, zl91, zl93, zl97, zl98, zl99, zl100, zl113, zl114, zl115, zl116, zl117, zl122, zl124, zl125, zl127, zl128, zl136, zl200, zl201, zl202, zl203, zl204, zl205, zl206, zl207, zl208, zl209, zl210, zl211, zl212, zl213, zl214, zl215, zl216, zl217, zl218, zl219, zl220, zl235, zl236, zl255, zl280, zl287, zl900, zl999, zl1000, zl1001, zl1136, zl1960, zl3000, zl3001, zl3002, zl3003, zl3004, zl3005, zl3006, zl3007, zl3008, zl3009, zl268435456, zl1000000000]), g1, Option.bind_some]
      exact k1
