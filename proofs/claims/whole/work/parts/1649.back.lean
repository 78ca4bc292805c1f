/-! back, backBy, surely -/
theorem ask_okG {ρ : Type} {P : PM} {a : AS} {x e : Int32} {ok : Prop} {cv : Int32 → ρ} {bc fc fm : PM → Option (ρ × PM)} (hC : CRep P a) (hM : MRep P a) (hca : CCa P (aV a)) (hok : AOk a) (he1 : ok → e = 1) (he0 : ¬ ok → e = 0)
    (hc : fc P = lb (f_Yr_refusal (f_Ne_isStation 14 x P) e P) (fun y1 => if y1 = (0 : Int32) then bc P else some (cv y1, P)))
    (hm2 : ∀ P1, MRep P1 a → ¬ (0 ≤ x.toInt ∧ x.toInt < vN (aV a)) → fm P1 = some (cv (-nI 2), u1 P1 109 0 (0 : Int32)))
    (hm3 : ∀ P1, MRep P1 a → ∀ k, k < vN (aV a) → x = nI k → ¬ ok → fm P1 = some (cv (-nI 3), u1 P1 109 0 (0 : Int32)))
    (hm5 : ∀ P1, MRep P1 a → ∀ k, k < vN (aV a) → x = nI k → ok → sW (aS a) = none → fm P1 = some (cv (-nI 5), u1 P1 109 0 (0 : Int32)))
    (hr : ∀ k w, k < vN (aV a) → x = nI k → ok → sW (aS a) = some w → ∃ r, (∃ P1, bc P = some (r, P1) ∧ CRep P1 a ∧ CCa P1 (aV a) ∧ sm cl P P1) ∧ ∀ P1, MRep P1 a → ∃ P2, fm P1 = some (r, P2) ∧ MRep P2 a ∧ sm mo P1 P2) :
    ∃ v P1 P2, fc P = some (v, P1) ∧ fm P1 = some (v, P2) ∧ Inv P2 := by
  have hN := hok.1.1
  rcases i_cases x (vN (aV a)) (by omega) with ⟨k, hk, rfl⟩ | hx
  · by_cases ho : ok
    · cases hw : sW (aS a) with
      | none =>
        refine joinG (r := cv (-nI 5)) (a' := a) hM ⟨P, ?_, hC, hca, sm_refl⟩ (fun P1 hM1 => ⟨u1 P1 109 0 (0 : Int32), hm5 P1 hM1 k hk rfl ho hw, MRep_me hM1 me_th, sm_th⟩) hok
        rw [hc, isStK hC.1 hok.1 hk, he1 ho, rfn_C hC.2.1 hw]
        rfl
      | some w =>
        obtain ⟨_, _, h7⟩ := pl_ok hok.1 hok.2.1 hw
        obtain ⟨r, h1, h2⟩ := hr k w hk rfl ho hw
        refine joinG (r := r) (a' := a) hM ?_ h2 hok
        rw [hc, isStK hC.1 hok.1 hk, he1 ho, refus_C hC.2.1 hw h7, lb_eq, if_pos rfl]
        exact h1
    · refine joinG (r := cv (-nI 3)) (a' := a) hM ⟨P, ?_, hC, hca, sm_refl⟩ (fun P1 hM1 => ⟨u1 P1 109 0 (0 : Int32), hm3 P1 hM1 k hk rfl ho, MRep_me hM1 me_th, sm_th⟩) hok
      rw [hc, isStK hC.1 hok.1 hk, he0 ho]
      rfl
  · refine joinG (r := cv (-nI 2)) (a' := a) hM ⟨P, ?_, hC, hca, sm_refl⟩ (fun P1 hM1 => ⟨u1 P1 109 0 (0 : Int32), hm2 P1 hM1 hx, MRep_me hM1 me_th, sm_th⟩) hok
    rw [hc, refus_s hC.1 hok.1 hx]
    rfl
abbrev bok (n z : Int32) : Prop := (1 ≤ n.toInt ∧ n.toInt ≤ 10) ∧ zok z
theorem i_n {x : Int32} {c : Nat} (h : 0 ≤ x.toInt ∧ x.toInt ≤ c) (hc : c < 2147483648) : ∃ k, k ≤ c ∧ x = nI k ∧ (k : Int) = x.toInt := by
  refine ⟨x.toInt.toNat, by omega, ?_, by omega⟩
  apply Int32.toInt_inj.mp
  rw [nI_ti (by omega)]
  omega
theorem isBack_1 {n z : Int32} (h : bok n z) (P : PM) : f_Yr_isBack n z P = 1 := by
  obtain ⟨⟨h1, h2⟩, h3⟩ := h
  unfold f_Yr_isBack
  rw [if_neg (fun q => by have := Int32.lt_iff_toInt_lt.mp q; rw [show (1 : Int32).toInt = 1 from rfl] at this; omega), if_neg (fun q => by have := Int32.lt_iff_toInt_lt.mp q; rw [show (10 : Int32).toInt = 10 from rfl] at this; omega), isSz_1 h3, if_neg (by decide)]
theorem isBack_0 {n z : Int32} (h : ¬ bok n z) (P : PM) : f_Yr_isBack n z P = 0 := by
  unfold f_Yr_isBack j_Yr_isBack_22
  by_cases h1 : n < 1
  · rw [if_pos h1]
  · rw [if_neg h1]
    by_cases h2 : 10 < n
    · rw [if_pos h2]
    · rw [if_neg h2]
      have h1' : ¬ n.toInt < (1 : Int32).toInt := fun q => h1 (Int32.lt_iff_toInt_lt.mpr q)
      have h2' : ¬ (10 : Int32).toInt < n.toInt := fun q => h2 (Int32.lt_iff_toInt_lt.mpr q)
      rw [show (1 : Int32).toInt = 1 from rfl] at h1'
      rw [show (10 : Int32).toInt = 10 from rfl] at h2'
      rw [isSz_0 (fun q => h ⟨⟨by omega, by omega⟩, q⟩), if_pos rfl]
theorem within10 {n : Int32} {P : PM} : f_Mo_within n.toInt64 (1 : Int64) (10 : Int64) P = if 1 ≤ n.toInt ∧ n.toInt ≤ 10 then nI 1 else nI 0 := by
  rw [within_i, tl_ti, show (1 : Int64).toInt = 1 from rfl, show (10 : Int64).toInt = 10 from rfl]
theorem noBack_x {a : AS} {x n z : Int32} (hok : AOk a) {P1 : PM} (h1 : MRep P1 a) :
    (¬ (0 ≤ x.toInt ∧ x.toInt < vN (aV a)) → f_Mo_noBack n x z P1 = some (-nI 2)) ∧ (∀ k, k < vN (aV a) → x = nI k → ¬ bok n z → f_Mo_noBack n x z P1 = some (-nI 3)) ∧
    (∀ k, k < vN (aV a) → x = nI k → bok n z → sW (aS a) = none → f_Mo_noBack n x z P1 = some (-nI 5)) ∧ (∀ k w, k < vN (aV a) → x = nI k → bok n z → sW (aS a) = some w → f_Mo_noBack n x z P1 = some (nI 0)) := by
  refine ⟨fun hx => ?_, fun k hk e hb => ?_, fun k hk e hb hw => ?_, fun k w hk e hb hw => ?_⟩
  · unfold f_Mo_noBack
    rw [isSt_Mn h1 hok hx]
    rfl
  · subst e
    unfold f_Mo_noBack j_Mo_noBack_34
    rw [isSt_Mk h1 hok hk, Option.bind_some, if_neg (by decide), within10]
    by_cases c : 1 ≤ n.toInt ∧ n.toInt ≤ 10
    · rw [if_pos c, if_neg (by decide), isSzM_0 (fun q => hb ⟨c, q⟩)]
      rfl
    · rw [if_neg c, if_pos (by rfl)]
      rfl
  · subst e
    unfold f_Mo_noBack
    rw [isSt_Mk h1 hok hk, Option.bind_some, if_neg (by decide), within10, if_pos hb.1, if_neg (by decide), isSzM_1 hb.2, Option.bind_some, if_neg (by decide), m113 h1.2.1, hw]
    rfl
  · subst e
    obtain ⟨_, _, h7⟩ := pl_ok hok.1 hok.2.1 hw
    unfold f_Mo_noBack
    rw [isSt_Mk h1 hok hk, Option.bind_some, if_neg (by decide), within10, if_pos hb.1, if_neg (by decide), isSzM_1 hb.2, Option.bind_some, if_neg (by decide), m113 h1.2.1, hw, oI_s, if_neg (by simp (disch := omega) only [z_add, z_mul, z_sub, z_subm, z_addm, z_lt_t, z_lt_f, z_le_t, z_le_f, z_eq_t, z_eq_f, z_eqm, z_meq, z_mm, z_ltm, z_mlt, z_lem, z_mle, z_cl, z_ck, u1_1, u1_2, u2_1, u2_2, ↓reduceIte, Option.bind_some, Option.bind_none, bd2_some, lb_eq, and_true, and_false, true_and, false_and, not_true_eq_false, not_false_eq_true, eq_self_iff_true, if_true, if_false, Nat.reduceEqDiff, Nat.reduceAdd, Nat.reduceMul, Nat.reduceSub, Bool.false_eq_true, zl0, zl1, zl2, zl3, zl4, zl5, zl6, zl7, zl8, zl9, zl10, zl11, zl12, zl13, zl14, zl15, zl16, zl17, zl18, zl19, zl20, zl22, zl23, zl24, zl25, zl30, zl31, zl32, zl33, zl34, zl35, zl36, zl37, zl38, zl39, zl40, zl41, zl42, zl43, zl45, zl48, zl49, zl57, zl58, zl59, zl60, zl61, zl62, zl63, zl64, zl91, zl93, zl97, zl98, zl99, zl100, zl113, zl114, zl115, zl116, zl117, zl122, zl124, zl125, zl127, zl128, zl136, zl200, zl201, zl202, zl203, zl204, zl205, zl206, zl207, zl208, zl209, zl210, zl211, zl212, zl213, zl214, zl215, zl216, zl217, zl218, zl219, zl220, zl235, zl236, zl255, zl280, zl287, zl900, zl999, zl1000, zl1001, zl1136, zl1960, zl3000, zl3001, zl3002, zl3003, zl3004, zl3005, zl3006, zl3007, zl3008, zl3009, zl268435456, zl1000000000])]
    rfl
theorem bok_n {n z : Int32} (h : bok n z) : ∃ N k, 1 ≤ N ∧ N ≤ 10 ∧ n = nI N ∧ 1 ≤ k ∧ k ≤ 40 ∧ z = nI k := by
  obtain ⟨k, h1, h2, h3⟩ := zok_n h.2
  obtain ⟨N, h4, h5, h6⟩ := i_n (x := n) (c := 10) (by have := h.1; omega) (by omega)
  have := h.1
  exact ⟨N, k, by omega, h4, h5, h1, h2, h3⟩
theorem tl_n {c : Nat} (h : c < 2147483648) : (nI c).toInt64 = lN c := by
  apply Int64.toInt_inj.mp
  rw [tl_ti, nI_ti h, lN_ti h]
theorem lg_0 {c : Nat} (h : c < 2147483648) : (lg_cmp (lN c) (0 : Int64) = (0 : Int32)) ↔ c = 0 := by
  rw [lgc_eq]
  exact pk_lEQ (a := c) (b := 0) (by omega) (by omega)
theorem back_ok {P : PM} {a : AS} {n x z : Int32} (hC : CRep P a) (hM : MRep P a) (hca : CCa P (aV a)) (hok : AOk a) :
    ∃ v P1 P2, f_Yr_back n x z P = some (v, P1) ∧ f_Mo_back n x z P1 = some (v, P2) ∧ Inv P2 := by
  have hN := hok.1.1
  refine ask_okG (x := x) (e := f_Yr_isBack n z P) (ok := bok n z) (cv := fun y => y.toInt64) (bc := fun P => bd2 (f_St_countBack n (f_Yr_placeOf x z P) P) (fun v3 P4 => some ((v3.toInt64), P4))) hC hM hca hok (fun h => isBack_1 h P) (fun h => isBack_0 h P) rfl ?_ ?_ ?_ ?_
  · intro P1 h1 hx
    unfold f_Mo_back
    rw [(noBack_x hok (MRep_me h1 me_th)).1 hx, Option.bind_some, if_neg (by decide)]
  · intro P1 h1 k hk e hb
    unfold f_Mo_back
    rw [(noBack_x hok (MRep_me h1 me_th)).2.1 k hk e hb, Option.bind_some, if_neg (by decide)]
  · intro P1 h1 k hk e hb hw
    unfold f_Mo_back
    rw [(noBack_x hok (MRep_me h1 me_th)).2.2.1 k hk e hb hw, Option.bind_some, if_neg (by decide)]
  · intro k w hk e hb hw
    obtain ⟨N, q, hN1, hN10, rfl, hq1, hq, rfl⟩ := bok_n hb
    have hz0 := fun P1 (h1 : MRep P1 a) => (noBack_x (n := nI N) (z := nI q) hok (MRep_me (P' := u1 P1 109 0 (0 : Int32)) h1 me_th)).2.2.2 k w hk e hb hw
    subst e
    obtain ⟨L, P1, g1, g2, g3, g4, g5, g6, g7⟩ := countBack_C (N := N) (g := 40 * k + q - 1) hC hok hca hw hN1 hN10 (by omega)
    have hcb := ncb_b (nxs (aV a) (aS a)) (40 * k + q - 1) none hN10 (pl (aS a) w)
    refine ⟨lN (ncb (nxs (aV a) (aS a)) (40 * k + q - 1) none N (pl (aS a) w)), ⟨P1, ?_, g5, g6, g7⟩, fun P' h' => ?_⟩
    · show bd2 (f_St_countBack (nI N) (f_Yr_placeOf (nI k) (nI q) P) P) _ = _
      rw [plOf_n hq1, g1, bd2_some, tl_n (by omega)]
    · obtain ⟨P2, k1, _, _, k2, k3⟩ := laysBack_M (N := N) (h := k) (z := q) (but := none) (MRep_me (P' := u1 P' 109 0 (0 : Int32)) h' me_th) hok hw hN10 hq1 hq (by omega) (fun u h => by cases h)
      refine ⟨P2, ?_, k2, sm_trans sm_th (lyb_mo k3)⟩
      unfold f_Mo_back
      rw [hz0 P' h', Option.bind_some, if_pos (by decide), show (-1 : Int32) = oI none from rfl, k1, bd2_some]
theorem backBy_ok {P : PM} {a : AS} {n x z i : Int32} (hC : CRep P a) (hM : MRep P a) (hca : CCa P (aV a)) (hok : AOk a) :
    ∃ v P1 P2, f_Yr_backBy n x z i P = some (v, P1) ∧ f_Mo_backBy n x z i P1 = some (v, P2) ∧ Inv P2 := by
  have hN := hok.1.1
  refine ask_okG (x := x) (e := f_Yr_isBack n z P) (ok := bok n z) (cv := fun y => y) (bc := fun P => if (0 : Int32) ≤ i then (bd2 (f_St_countBack n (f_Yr_placeOf x z P) P) (fun v4 P5 => if v4 ≤ (0 : Int32) then (some ((-1 : Int32), P5)) else ((f_St_stationBack n i P5).bind (fun v7 => some (v7, P5))))) else (some ((-3 : Int32), P))) hC hM hca hok (fun h => isBack_1 h P) (fun h => isBack_0 h P) rfl ?_ ?_ ?_ ?_
  · intro P1 h1 hx
    unfold f_Mo_backBy
    rw [(noBack_x hok (MRep_me h1 me_th)).1 hx, Option.bind_some, if_neg (by decide)]
  · intro P1 h1 k hk e hb
    unfold f_Mo_backBy
    rw [(noBack_x hok (MRep_me h1 me_th)).2.1 k hk e hb, Option.bind_some, if_neg (by decide)]
  · intro P1 h1 k hk e hb hw
    unfold f_Mo_backBy
    rw [(noBack_x hok (MRep_me h1 me_th)).2.2.1 k hk e hb hw, Option.bind_some, if_neg (by decide)]
  · intro k w hk e hb hw
    obtain ⟨N, q, hN1, hN10, rfl, hq1, hq, rfl⟩ := bok_n hb
    have hz0 := fun P1 (h1 : MRep P1 a) => (noBack_x (n := nI N) (z := nI q) hok (MRep_me (P' := u1 P1 109 0 (0 : Int32)) h1 me_th)).2.2.2 k w hk e hb hw
    obtain ⟨h280, _, h7⟩ := pl_ok hok.1 hok.2.1 hw
    subst e
    by_cases hi0 : (0 : Int32) ≤ i
    · obtain ⟨L, P1, g1, g2, g3, g4, g5, g6, g7⟩ := countBack_C (N := N) (g := 40 * k + q - 1) hC hok hca hw hN1 hN10 (by omega)
      have hcb := ncb_b (nxs (aV a) (aS a)) (40 * k + q - 1) none hN10 (pl (aS a) w)
      have hlay := fun P' (h' : MRep P' a) => laysBack_M (P := u1 P' 109 0 (0 : Int32)) (N := N) (h := k) (z := q) (but := none) (MRep_me (P' := u1 P' 109 0 (0 : Int32)) h' me_th) hok hw hN10 hq1 hq (by omega) (fun u h => by cases h)
      -- the answer
      have fin : ∀ r, ((if nI (ncb (nxs (aV a) (aS a)) (40 * k + q - 1) none N (pl (aS a) w)) ≤ (0 : Int32) then (some ((-1 : Int32), P1)) else ((f_St_stationBack (nI N) i P1).bind (fun v7 => some (v7, P1)))) = some (r, P1)) →
          (∀ P2, TH P2 (aV a) (aS a) (sA (aS a)) → MB P2 (aV a) (aS a) (40 * k + q - 1) none N → MRep P2 a → (if (lg_cmp (lN (ncb (nxs (aV a) (aS a)) (40 * k + q - 1) none N (pl (aS a) w))) (0 : Int64)) = (0 : Int32) then (some ((-1 : Int32), P2)) else (if i < nI N then (lb (f_Mo_standNow P2) (fun y8 => l_Mo_backBy_60 FU (nI N) i y8 (0 : Int32) P2)) else (some ((-1 : Int32), P2)))) = some (r, P2)) →
          ∃ r, (∃ P1, (if (0 : Int32) ≤ i then (bd2 (f_St_countBack (nI N) (f_Yr_placeOf (nI k) (nI q) P) P) (fun v4 P5 => if v4 ≤ (0 : Int32) then (some ((-1 : Int32), P5)) else ((f_St_stationBack (nI N) i P5).bind (fun v7 => some (v7, P5))))) else (some ((-3 : Int32), P))) = some (r, P1) ∧ CRep P1 a ∧ CCa P1 (aV a) ∧ sm cl P P1) ∧ ∀ P1, MRep P1 a → ∃ P2, f_Mo_backBy (nI N) (nI k) (nI q) i P1 = some (r, P2) ∧ MRep P2 a ∧ sm mo P1 P2 := by
        intro r e1 e2
        refine ⟨r, ⟨P1, ?_, g5, g6, g7⟩, fun P' h' => ?_⟩
        · rw [if_pos hi0, plOf_n hq1, g1, bd2_some, e1]
        · obtain ⟨P2, k1, kT, kB, k2, k3⟩ := hlay P' h'
          refine ⟨P2, ?_, k2, sm_trans sm_th (lyb_mo k3)⟩
          unfold f_Mo_backBy
          rw [hz0 P' h', Option.bind_some, if_pos (by decide), if_pos hi0, show (-1 : Int32) = oI none from rfl, k1, bd2_some]
          exact e2 P2 kT kB k2
      by_cases c0 : ncb (nxs (aV a) (aS a)) (40 * k + q - 1) none N (pl (aS a) w) = 0
      · exact fin (-nI 1) (by rw [c0, if_pos (by decide)]; rfl) (fun P2 _ _ _ => by rw [c0, if_pos (by decide)]; rfl)
      · have c1 : ¬ nI (ncb (nxs (aV a) (aS a)) (40 * k + q - 1) none N (pl (aS a) w)) ≤ (0 : Int32) := by simp (disch := omega) only [z_add, z_mul, z_sub, z_subm, z_addm, z_lt_t, z_lt_f, z_le_t, z_le_f, z_eq_t, z_eq_f, z_eqm, z_meq, z_mm, z_ltm, z_mlt, z_lem, z_mle, z_cl, z_ck, u1_1, u1_2, u2_1, u2_2, ↓reduceIte, Option.bind_some, Option.bind_none, bd2_some, lb_eq, and_true, and_false, true_and, false_and, not_true_eq_false, not_false_eq_true, eq_self_iff_true, if_true, if_false, Nat.reduceEqDiff, Nat.reduceAdd, Nat.reduceMul, Nat.reduceSub, Bool.false_eq_true, zl0, zl1, zl2, zl3, zl4, zl5, zl6, zl7, zl8, zl9, zl10, zl11, zl12, zl13, zl14, zl15, zl16, zl17, zl18, zl19, zl20, zl22, zl23, zl24, zl25, zl30, zl31, zl32, zl33, zl34, zl35, zl36, zl37, zl38, zl39, zl40, zl41, zl42, zl43, zl45, zl48, zl49, zl57, zl58, zl59, zl60, zl61, zl62, zl63, zl64, zl91, zl93, zl97, zl98, zl99, zl100, zl113, zl114, zl115, zl116, zl117, zl122, zl124, zl125, zl127, zl128, zl136, zl200, zl201, zl202, zl203, zl204, zl205, zl206, zl207, zl208, zl209, zl210, zl211, zl212, zl213, zl214, zl215, zl216, zl217, zl218, zl219, zl220, zl235, zl236, zl255, zl280, zl287, zl900, zl999, zl1000, zl1001, zl1136, zl1960, zl3000, zl3001, zl3002, zl3003, zl3004, zl3005, zl3006, zl3007, zl3008, zl3009, zl268435456, zl1000000000]
        have c2 : ¬ lg_cmp (lN (ncb (nxs (aV a) (aS a)) (40 * k + q - 1) none N (pl (aS a) w))) (0 : Int64) = (0 : Int32) := fun h => c0 ((lg_0 (by omega)).mp h)
        by_cases hiN : i < nI N
        · obtain ⟨j, hj, rfl, _⟩ := i_n (x := i) (c := N - 1) (by
            have a1 := Int32.lt_iff_toInt_lt.mp hiN
            have a2 := Int32.le_iff_toInt_le.mp hi0
            rw [nI_ti (by omega)] at a1
            rw [show (0 : Int32).toInt = 0 from rfl] at a2
            omega) (by omega)
          refine fin (oI (sbk (nxs (aV a) (aS a)) (40 * k + q - 1) (vN (aV a)) j N (pl (aS a) w))) ?_ (fun P2 hT hB hM2 => ?_)
          · rw [if_neg c1, stationBack_C (p0 := 0) hok.1 hok.2.1 g5.2.1 hw g2 g3 hN1 hN10 (by omega), Option.bind_some]
          · have r := backBy_out (v := aV a) (s := aS a) (g := 40 * k + q - 1) (i := j) hok.1 hT hB hN10 (by omega) j FU 0 (pl (aS a) w) (by omega) (by have := FU_big; omega) h280 (by rw [Nat.sub_zero]; omega)
            rw [Nat.sub_zero, Nat.sub_zero] at r
            rw [if_neg c2, if_pos hiN, standNow_M hM2.2.1 hok.1 hok.2.1 hw, lb_eq]
            exact r
        · refine fin (-nI 1) ?_ (fun P2 hT hB hM2 => ?_)
          · have hle : nI N ≤ i := Int32.not_lt.mp hiN
            have h00 : ¬ i ≤ (0 : Int32) := fun h => by
              have a1 := Int32.le_iff_toInt_le.mp h
              have a2 := Int32.le_iff_toInt_le.mp hle
              rw [nI_ti (by omega)] at a2
              rw [show (0 : Int32).toInt = 0 from rfl] at a1
              omega
            rw [if_neg c1]
            unfold f_St_stationBack j_St_stationBack_23
            obtain ⟨n, hn⟩ : ∃ n, FU = n + 1 := ⟨FU - 1, by have := FU_big; omega⟩
            rw [lb_eq, if_pos hle, hn, l_St_stationBack_28, if_neg h00, if_neg (by decide), if_pos rfl]
            rfl
          · rw [if_neg c2, if_neg hiN]
            rfl
    · refine ⟨-nI 3, ⟨P, ?_, hC, hca, sm_refl⟩, fun P' h' => ⟨u1 P' 109 0 (0 : Int32), ?_, MRep_me h' me_th, sm_th⟩⟩
      · show (if (0 : Int32) ≤ i then _ else _) = _
        rw [if_neg hi0]
        rfl
      · unfold f_Mo_backBy
        rw [hz0 P' h', Option.bind_some, if_pos (by decide), if_neg hi0]
        rfl
noncomputable def sfb (v : NV) (s : SV) (g N w : Nat) : Nat → Bool := fun t => decide (ncb (nxs v s) g (some t) N (pl s w) = 0)
theorem surely_M {a : AS} {w N h z : Nat} (hok : AOk a) (hw : sW (aS a) = some w) (hN : N ≤ 10) (hz1 : 1 ≤ z) (hz : z ≤ 40) (hh : h < 7) :
    ∀ (m n t : Nat) (P : PM), t + m = vN (aV a) → m < n → MRep P a →
    ∃ P', l_Mo_surely_44 n (nI N) (nI h) (nI z) (nI (bo (sfb (aV a) (aS a) (40 * h + z - 1) N w) t)) (nI t) P = some (nI (bo (sfb (aV a) (aS a) (40 * h + z - 1) N w) (vN (aV a))), P') ∧ MRep P' a ∧ sm lyb P P' := by
  have hN7 := hok.1.1
  intro m
  induction m with
  | zero =>
    intro n t P ht hn hM
    obtain ⟨n, rfl⟩ : ∃ r, n = r + 1 := ⟨n - 1, by omega⟩
    obtain rfl : t = vN (aV a) := by omega
    rw [l_Mo_surely_44, show P.1 110 (1 : Int32).toNatClampNeg = nI (vN (aV a)) from hM.1.1, if_pos (nI_le (by omega) (by omega))]
    exact ⟨P, rfl, hM, sm_refl⟩
  | succ m ih =>
    intro n t P ht hn hM
    obtain ⟨n, rfl⟩ : ∃ r, n = r + 1 := ⟨n - 1, by omega⟩
    obtain ⟨P1, k1, _, _, k2, k3⟩ := laysBack_M (N := N) (h := h) (z := z) (but := some t) hM hok hw hN hz1 hz hh (fun u e => by cases e; omega)
    have hcb := ncb_b (nxs (aV a) (aS a)) (40 * h + z - 1) (some t) hN (pl (aS a) w)
    obtain ⟨P2, r1, r2, r3⟩ := ih n (t + 1) P1 (by omega) (by omega) k2
    refine ⟨P2, ?_, r2, sm_trans k3 r3⟩
    rw [bo_s] at r1
    rw [l_Mo_surely_44, show P.1 110 (1 : Int32).toNatClampNeg = nI (vN (aV a)) from hM.1.1, if_neg (nI_ge (by omega) (by omega)), show nI t = oI (some t) from rfl, k1, bd2_some, oI_s]
    unfold j_Mo_surely_79
    by_cases c : ncb (nxs (aV a) (aS a)) (40 * h + z - 1) (some t) N (pl (aS a) w) = 0
    · rw [if_pos (by unfold sfb; rw [decide_eq_true_eq]; exact c)] at r1
      rw [if_pos ((lg_0 (by omega)).mpr c), sh_1 t (by omega), nx_or, lb_eq, show (1 : Int32) = nI 1 from rfl, nI_add]
      exact r1
    · rw [if_neg (by unfold sfb; rw [decide_eq_true_eq]; exact c), Nat.or_zero] at r1
      rw [if_neg (fun q => c ((lg_0 (by omega)).mp q)), show (0 : Int32) = nI 0 from rfl, nx_or, Nat.or_zero, lb_eq, show (1 : Int32) = nI 1 from rfl, nI_add]
      exact r1
theorem bo_up {f : Nat → Bool} {N : Nat} (h : ∀ j, N ≤ j → f j = false) : ∀ {n : Nat}, N ≤ n → bo f n = bo f N := by
  intro n hn
  induction n with
  | zero => rw [show N = 0 by omega]
  | succ n ih =>
    by_cases e : N = n + 1
    · rw [e]
    · rw [bo_s, ih (by omega), h n (by omega), if_neg (by decide), Nat.or_zero]
theorem surely_ok {P : PM} {a : AS} {n x z : Int32} (hC : CRep P a) (hM : MRep P a) (hca : CCa P (aV a)) (hok : AOk a) :
    ∃ v P1 P2, f_Yr_surely n x z P = some (v, P1) ∧ f_Mo_surely n x z P1 = some (v, P2) ∧ Inv P2 := by
  have hN7 := hok.1.1
  refine ask_okG (x := x) (e := f_Yr_isBack n z P) (ok := bok n z) (cv := fun y => y) (bc := fun P => bd2 (f_St_countBack n (f_Yr_placeOf x z P) P) (fun v3 P4 => if v3 ≤ (0 : Int32) then (some ((0 : Int32), P4)) else ((f_St_sureBack n P4).bind (fun v6 => some (v6, P4))))) hC hM hca hok (fun h => isBack_1 h P) (fun h => isBack_0 h P) rfl ?_ ?_ ?_ ?_
  · intro P1 h1 hx
    unfold f_Mo_surely
    rw [(noBack_x hok (MRep_me h1 me_th)).1 hx, Option.bind_some, if_neg (by decide)]
  · intro P1 h1 k hk e hb
    unfold f_Mo_surely
    rw [(noBack_x hok (MRep_me h1 me_th)).2.1 k hk e hb, Option.bind_some, if_neg (by decide)]
  · intro P1 h1 k hk e hb hw
    unfold f_Mo_surely
    rw [(noBack_x hok (MRep_me h1 me_th)).2.2.1 k hk e hb hw, Option.bind_some, if_neg (by decide)]
  · intro k w hk e hb hw
    obtain ⟨N, q, hN1, hN10, rfl, hq1, hq, rfl⟩ := bok_n hb
    have hz0 := fun P1 (h1 : MRep P1 a) => (noBack_x (n := nI N) (z := nI q) hok (MRep_me (P' := u1 P1 109 0 (0 : Int32)) h1 me_th)).2.2.2 k w hk e hb hw
    obtain ⟨h280, _, h7⟩ := pl_ok hok.1 hok.2.1 hw
    subst e
    obtain ⟨L, P1, g1, g2, g3, g4, g5, g6, g7⟩ := countBack_C (N := N) (g := 40 * k + q - 1) hC hok hca hw hN1 hN10 (by omega)
    have hcb := ncb_b (nxs (aV a) (aS a)) (40 * k + q - 1) none hN10 (pl (aS a) w)
    have hlay := fun P' (h' : MRep P' a) => laysBack_M (P := u1 P' 109 0 (0 : Int32)) (N := N) (h := k) (z := q) (but := none) (MRep_me (P' := u1 P' 109 0 (0 : Int32)) h' me_th) hok hw hN10 hq1 hq (by omega) (fun u h => by cases h)
    by_cases c0 : ncb (nxs (aV a) (aS a)) (40 * k + q - 1) none N (pl (aS a) w) = 0
    · refine ⟨nI 0, ⟨P1, ?_, g5, g6, g7⟩, fun P' h' => ?_⟩
      · show bd2 (f_St_countBack (nI N) (f_Yr_placeOf (nI k) (nI q) P) P) _ = _
        rw [plOf_n hq1, g1, bd2_some, c0, if_pos (by decide)]
        rfl
      · obtain ⟨P2, k1, _, _, k2, k3⟩ := hlay P' h'
        refine ⟨P2, ?_, k2, sm_trans sm_th (lyb_mo k3)⟩
        unfold f_Mo_surely
        rw [hz0 P' h', Option.bind_some, if_pos (by decide), show (-1 : Int32) = oI none from rfl, k1, bd2_some, c0, if_pos (by decide)]
        rfl
    · refine ⟨nI (bo (sfb (aV a) (aS a) (40 * k + q - 1) N w) (vN (aV a))), ⟨P1, ?_, g5, g6, g7⟩, fun P' h' => ?_⟩
      · have hm : pl (aS a) w ∈ L := (g2.2.1.2.1 _).mpr Rch_0
        obtain ⟨y, y1, y2, y3⟩ := g4 _ hm (by omega)
        have hy : y = bo (sfb (aV a) (aS a) (40 * k + q - 1) N w) (vN (aV a)) := by
          rw [bo_eq (n := 7) (f := sfb (aV a) (aS a) (40 * k + q - 1) N w) y1 (fun j hj => by
            unfold sfb
            rw [Bool.eq_iff_iff, decide_eq_true_eq]
            exact y3 j hj)]
          refine bo_up (fun j hj => ?_) hN7
          unfold sfb
          rw [decide_eq_false_iff_not, ncb_but (nxs_N hok.1) hj]
          exact c0
        show bd2 (f_St_countBack (nI N) (f_Yr_placeOf (nI k) (nI q) P) P) _ = _
        rw [plOf_n hq1, g1, bd2_some, if_neg (by simp (disch := omega) only [z_add, z_mul, z_sub, z_subm, z_addm, z_lt_t, z_lt_f, z_le_t, z_le_f, z_eq_t, z_eq_f, z_eqm, z_meq, z_mm, z_ltm, z_mlt, z_lem, z_mle, z_cl, z_ck, u1_1, u1_2, u2_1, u2_2, ↓reduceIte, Option.bind_some, Option.bind_none, bd2_some, lb_eq, and_true, and_false, true_and, false_and, not_true_eq_false, not_false_eq_true, eq_self_iff_true, if_true, if_false, Nat.reduceEqDiff, Nat.reduceAdd, Nat.reduceMul, Nat.reduceSub, Bool.false_eq_true, zl0, zl1, zl2, zl3, zl4, zl5, zl6, zl7, zl8, zl9, zl10, zl11, zl12, zl13, zl14, zl15, zl16, zl17, zl18, zl19, zl20, zl22, zl23, zl24, zl25, zl30, zl31, zl32, zl33, zl34, zl35, zl36, zl37, zl38, zl39, zl40, zl41, zl42, zl43, zl45, zl48, zl49, zl57, zl58, zl59, zl60, zl61, zl62, zl63, zl64, zl91, zl93, zl97, zl98, zl99, zl100, zl113, zl114, zl115, zl116, zl117, zl122, zl124, zl125, zl127, zl128, zl136, zl200, zl201, zl202, zl203, zl204, zl205, zl206, zl207, zl208, zl209, zl210, zl211, zl212, zl213, zl214, zl215, zl216, zl217, zl218, zl219, zl220, zl235, zl236, zl255, zl280, zl287, zl900, zl999, zl1000, zl1001, zl1136, zl1960, zl3000, zl3001, zl3002, zl3003, zl3004, zl3005, zl3006, zl3007, zl3008, zl3009, zl268435456, zl1000000000])]
        unfold f_St_sureBack
        rw [place_C g5.2.1 hok.1 hok.2.1 hw, lb_eq, place_n _ (by omega), if_pos h280, if_neg (by decide), and1, z_ck (by omega) (by omega), z_ck h280 (by omega), z_cl (by omega), z_cl (by omega), y2, hy]
        rfl
      · obtain ⟨P2, k1, _, _, k2, k3⟩ := hlay P' h'
        obtain ⟨P3, r1, r2, r3⟩ := surely_M (N := N) (h := k) (z := q) hok hw hN10 hq1 hq (by omega) (vN (aV a)) FU 0 P2 (by omega) (by have := FU_big; omega) k2
        refine ⟨P3, ?_, r2, sm_trans sm_th (lyb_mo (sm_trans k3 r3))⟩
        unfold f_Mo_surely
        rw [hz0 P' h', Option.bind_some, if_pos (by decide), show (-1 : Int32) = oI none from rfl, k1, bd2_some, if_neg (fun q => c0 ((lg_0 (by omega)).mp q))]
        exact r1
