/-! reach, biggest, needed -/
noncomputable def pb (p : Prop) : Bool := @decide p (Classical.propDecidable p)
theorem pb_t {p : Prop} : pb p = true ↔ p := @decide_eq_true_iff p (Classical.propDecidable p)
def pl (s : SV) (w : Nat) : Nat := 40 * w + sZ s - 1
/-- whether some place of a station is come to -/
noncomputable def rS (v : NV) (s : SV) (w sl st : Nat) : Bool := pb (∃ p, Rch (nxp v s sl) (vN v) (pl s w) p ∧ p / 40 = st)
noncomputable def rZ (v : NV) (s : SV) (w sl st z : Nat) : Bool := pb (Rch (nxp v s sl) (vN v) (pl s w) (40 * st + z - 1))
theorem pl_ok {v : NV} {s : SV} {w : Nat} (hv : NVok v) (hs : SVok v s) (hw : sW s = some w) : pl s w < 280 ∧ mp (pl s w) = 41 * w + sZ s ∧ w < 7 := by
  obtain ⟨h1, h2⟩ := hs.1 w hw
  have h3 := hs.2.2.1
  have h4 := hv.1
  unfold pl mp
  omega
theorem Rch_lt {v : NV} {s : SV} {sl p0 p : Nat} (hv : NVok v) (hp : p0 < 280) (h : Rch (nxp v s sl) (vN v) p0 p) : p < 280 :=
  Rch_min (S := fun x => x < 280) hp (fun q t x _ _ e => (nxp_in hv e).1) h
theorem Rch_N {v : NV} {s : SV} {w sl p : Nat} (hv : NVok v) (hs : SVok v s) (hw : sW s = some w) (h : Rch (nxp v s sl) (vN v) (pl s w) p) : p / 40 < vN v :=
  Rch_min (S := fun x => x / 40 < vN v) (by obtain ⟨h1, h2⟩ := hs.1 w hw; have := hs.2.2.1; unfold pl; omega) (fun q t x _ _ e => by
    obtain ⟨_, h2, h3, _⟩ := nxp_in hv e
    omega) h
theorem place_C {P : PM} {v : NV} {s : SV} {w : Nat} (h : CSt P 21 s) (hv : NVok v) (hs : SVok v s) (hw : sW s = some w) : f_Sa_place 21 P = nI (pl s w) := by
  obtain ⟨_, _, h7⟩ := pl_ok hv hs hw
  obtain ⟨_, h1⟩ := hs.1 w hw
  unfold f_Sa_place
  rw [h.1, hw, oI_s, if_neg (by simp (disch := omega) only [z_add, z_mul, z_sub, z_subm, z_addm, z_lt_t, z_lt_f, z_le_t, z_le_f, z_eq_t, z_eq_f, z_eqm, z_meq, z_mm, z_ltm, z_mlt, z_lem, z_mle, z_cl, z_ck, u1_1, u1_2, u2_1, u2_2, ↓reduceIte, Option.bind_some, Option.bind_none, bd2_some, lb_eq, and_true, and_false, true_and, false_and, not_true_eq_false, not_false_eq_true, eq_self_iff_true, if_true, if_false, Nat.reduceEqDiff, Nat.reduceAdd, Nat.reduceMul, Nat.reduceSub, Bool.false_eq_true, zl0, zl1, zl2, zl3, zl4, zl5, zl6, zl7, zl8, zl9, zl10, zl11, zl12, zl13, zl14, zl15, zl16, zl17, zl18, zl19, zl20, zl22, zl23, zl24, zl25, zl30, zl31, zl32, zl33, zl34, zl35, zl36, zl37, zl38, zl39, zl40, zl41, zl42, zl43, zl45, zl48, zl49, zl57, zl58, zl59, zl60, zl61, zl62, zl63, zl64, zl91, zl93, zl97, zl98, zl99, zl100, zl113, zl114, zl115, zl116, zl117, zl122, zl124, zl125, zl127, zl128, zl136, zl200, zl201, zl202, zl203, zl204, zl205, zl206, zl207, zl208, zl209, zl210, zl211, zl212, zl213, zl214, zl215, zl216, zl217, zl218, zl219, zl220, zl235, zl236, zl255, zl280, zl287, zl900, zl999, zl1000, zl1001, zl1136, zl1960, zl3000, zl3001, zl3002, zl3003, zl3004, zl3005, zl3006, zl3007, zl3008, zl3009, zl268435456, zl1000000000]), h.2.1, plOf_n h1]
  rfl
theorem expl_C {P : PM} {a : AS} {w sl : Nat} (hC : CRep P a) (hok : AOk a) (hca : CCa P (aV a)) (hw : sW (aS a) = some w) (hsl : sl < 2 ^ vN (aV a)) :
    ∃ L P', f_Pa_explore (f_Sa_place 21 P) (nI sl) P = some P' ∧ Exp P' (aV a) (aS a) sl (pl (aS a) w) L ∧ CRep P' a ∧ CCa P' (aV a) ∧ sm xr P P' := by
  obtain ⟨h1, _, _⟩ := pl_ok hok.1 hok.2.1 hw
  obtain ⟨L, P', g1, g2, g3⟩ := explore_C (p0 := pl (aS a) w) hC.1 hok.1 hC.2.1 hok.2.1 hca hsl h1
  refine ⟨L, P', by rw [place_C hC.2.1 hok.1 hok.2.1 hw]; exact g1, g2, CRep_ce hC (ce_sm g3 (fun o e => by simp [esr] at e; simp [xr]; omega) (by rw [g3.1 31 rfl]) (by rw [g3.1 31 rfl])), CC1_CCa g2.2.2.1 hok.2.1, g3⟩
theorem xr_cl {P P' : PM} (h : sm xr P P') : sm cl P P' := sm_mono h (fun o q => by simp [cl] at q; simp [xr]; omega)
theorem isR_C {P : PM} {v : NV} {s : SV} {w sl st : Nat} {L : List Nat} (h : Exp P v s sl (pl s w) L) (hst : st < 7) : f_Pa_isReached (nI st) P = some (nI (if rS v s w sl st = true then 1 else 0)) := by
  obtain ⟨m, hm, k1, k2⟩ := h.1.2.2.1 st hst
  have hL := h.1.2.2.2.2
  unfold f_Pa_isReached j_Pa_isReached_25
  rw [if_neg (by simp (disch := omega) only [z_add, z_mul, z_sub, z_subm, z_addm, z_lt_t, z_lt_f, z_le_t, z_le_f, z_eq_t, z_eq_f, z_eqm, z_meq, z_mm, z_ltm, z_mlt, z_lem, z_mle, z_cl, z_ck, u1_1, u1_2, u2_1, u2_2, ↓reduceIte, Option.bind_some, Option.bind_none, bd2_some, lb_eq, and_true, and_false, true_and, false_and, not_true_eq_false, not_false_eq_true, eq_self_iff_true, if_true, if_false, Nat.reduceEqDiff, Nat.reduceAdd, Nat.reduceMul, Nat.reduceSub, Bool.false_eq_true, zl0, zl1, zl2, zl3, zl4, zl5, zl6, zl7, zl8, zl9, zl10, zl11, zl12, zl13, zl14, zl15, zl16, zl17, zl18, zl19, zl20, zl22, zl23, zl24, zl25, zl30, zl31, zl32, zl33, zl34, zl35, zl36, zl37, zl38, zl39, zl40, zl41, zl42, zl43, zl45, zl48, zl49, zl57, zl58, zl59, zl60, zl61, zl62, zl63, zl64, zl91, zl93, zl97, zl98, zl99, zl100, zl113, zl114, zl115, zl116, zl117, zl122, zl124, zl125, zl127, zl128, zl136, zl200, zl201, zl202, zl203, zl204, zl205, zl206, zl207, zl208, zl209, zl210, zl211, zl212, zl213, zl214, zl215, zl216, zl217, zl218, zl219, zl220, zl235, zl236, zl255, zl280, zl287, zl900, zl999, zl1000, zl1001, zl1136, zl1960, zl3000, zl3001, zl3002, zl3003, zl3004, zl3005, zl3006, zl3007, zl3008, zl3009, zl268435456, zl1000000000]), if_neg (by simp (disch := omega) only [z_add, z_mul, z_sub, z_subm, z_addm, z_lt_t, z_lt_f, z_le_t, z_le_f, z_eq_t, z_eq_f, z_eqm, z_meq, z_mm, z_ltm, z_mlt, z_lem, z_mle, z_cl, z_ck, u1_1, u1_2, u2_1, u2_2, ↓reduceIte, Option.bind_some, Option.bind_none, bd2_some, lb_eq, and_true, and_false, true_and, false_and, not_true_eq_false, not_false_eq_true, eq_self_iff_true, if_true, if_false, Nat.reduceEqDiff, Nat.reduceAdd, Nat.reduceMul, Nat.reduceSub, Bool.false_eq_true, zl0, zl1, zl2, zl3, zl4, zl5, zl6, zl7, zl8, zl9, zl10, zl11, zl12, zl13, zl14, zl15, zl16, zl17, zl18, zl19, zl20, zl22, zl23, zl24, zl25, zl30, zl31, zl32, zl33, zl34, zl35, zl36, zl37, zl38, zl39, zl40, zl41, zl42, zl43, zl45, zl48, zl49, zl57, zl58, zl59, zl60, zl61, zl62, zl63, zl64, zl91, zl93, zl97, zl98, zl99, zl100, zl113, zl114, zl115, zl116, zl117, zl122, zl124, zl125, zl127, zl128, zl136, zl200, zl201, zl202, zl203, zl204, zl205, zl206, zl207, zl208, zl209, zl210, zl211, zl212, zl213, zl214, zl215, zl216, zl217, zl218, zl219, zl220, zl235, zl236, zl255, zl280, zl287, zl900, zl999, zl1000, zl1001, zl1136, zl1960, zl3000, zl3001, zl3002, zl3003, zl3004, zl3005, zl3006, zl3007, zl3008, zl3009, zl268435456, zl1000000000]), z_ck hst (by omega), z_cl (by omega), k1]
  by_cases c : m = 0
  · have : ¬ rS v s w sl st = true := by
      unfold rS
      rw [pb_t]
      rintro ⟨p, h1, h2⟩
      have hp := (h.2.1 p).mpr h1
      have := k2 (p % 40 + 1)
      rw [c, Nat.zero_testBit] at this
      have := (decide_eq_false_iff_not.mp this.symm)
      exact this ⟨by omega, by omega, by rw [show 40 * st + (p % 40 + 1) - 1 = p by omega]; exact hp⟩
    rw [if_pos (show lg_cmp (lN m) 0 = 0 by rw [lgc_eq, c]; rfl), if_neg this]
    rfl
  · have hne : ∃ z, m.testBit z = true := by
      apply Classical.byContradiction
      intro hn
      apply c
      apply Nat.eq_of_testBit_eq
      intro i
      rw [Nat.zero_testBit]
      cases e : m.testBit i with
      | false => rfl
      | true => exact absurd ⟨i, e⟩ hn
    obtain ⟨z, hz⟩ := hne
    rw [k2 z, decide_eq_true_eq] at hz
    have : rS v s w sl st = true := by
      unfold rS
      rw [pb_t]
      exact ⟨_, (h.2.1 _).mp hz.2.2, by omega⟩
    have c2 : ¬ lg_cmp (lN m) (0 : Int64) = 0 := fun q => c ((pk_lEQ (by omega) (by omega)).mp (show lN m = lN 0 from (lgc_eq _ _).mp q))
    rw [if_neg c2, if_pos this]
    rfl
theorem stR_C {P : PM} {v : NV} {s : SV} {w sl : Nat} {L : List Nat} (h : Exp P v s sl (pl s w) L) : f_Pa_stationsReached P = some (nI (bo (rS v s w sl) 7)) := by
  have loop : ∀ (m n t : Nat), t + m = 7 → m < n → l_Pa_stationsReached_4 n (nI (bo (rS v s w sl) t)) (nI t) P = some (nI (bo (rS v s w sl) 7)) := by
    intro m
    induction m with
    | zero =>
      intro n t ht hn
      obtain ⟨n, rfl⟩ : ∃ r, n = r + 1 := ⟨n - 1, by omega⟩
      obtain rfl : t = 7 := by omega
      rw [l_Pa_stationsReached_4, if_pos (by decide)]
    | succ m ih =>
      intro n t ht hn
      obtain ⟨n, rfl⟩ : ∃ r, n = r + 1 := ⟨n - 1, by omega⟩
      have r := ih n (t + 1) (by omega) (by omega)
      rw [bo_s] at r
      rw [l_Pa_stationsReached_4, if_neg (by simp (disch := omega) only [z_add, z_mul, z_sub, z_subm, z_addm, z_lt_t, z_lt_f, z_le_t, z_le_f, z_eq_t, z_eq_f, z_eqm, z_meq, z_mm, z_ltm, z_mlt, z_lem, z_mle, z_cl, z_ck, u1_1, u1_2, u2_1, u2_2, ↓reduceIte, Option.bind_some, Option.bind_none, bd2_some, lb_eq, and_true, and_false, true_and, false_and, not_true_eq_false, not_false_eq_true, eq_self_iff_true, if_true, if_false, Nat.reduceEqDiff, Nat.reduceAdd, Nat.reduceMul, Nat.reduceSub, Bool.false_eq_true, zl0, zl1, zl2, zl3, zl4, zl5, zl6, zl7, zl8, zl9, zl10, zl11, zl12, zl13, zl14, zl15, zl16, zl17, zl18, zl19, zl20, zl22, zl23, zl24, zl25, zl30, zl31, zl32, zl33, zl34, zl35, zl36, zl37, zl38, zl39, zl40, zl41, zl42, zl43, zl45, zl48, zl49, zl57, zl58, zl59, zl60, zl61, zl62, zl63, zl64, zl91, zl93, zl97, zl98, zl99, zl100, zl113, zl114, zl115, zl116, zl117, zl122, zl124, zl125, zl127, zl128, zl136, zl200, zl201, zl202, zl203, zl204, zl205, zl206, zl207, zl208, zl209, zl210, zl211, zl212, zl213, zl214, zl215, zl216, zl217, zl218, zl219, zl220, zl235, zl236, zl255, zl280, zl287, zl900, zl999, zl1000, zl1001, zl1136, zl1960, zl3000, zl3001, zl3002, zl3003, zl3004, zl3005, zl3006, zl3007, zl3008, zl3009, zl268435456, zl1000000000]), isR_C h (by omega), Option.bind_some]
      unfold j_Pa_stationsReached_26
      by_cases c : rS v s w sl t = true
      · rw [if_pos c] at r
        rw [if_pos c, if_neg (by decide), lb_eq, sh_1 t (by omega), nx_or, show (1 : Int32) = nI 1 from rfl, nI_add]
        exact r
      · rw [if_neg c, Nat.or_zero] at r
        rw [if_neg c, if_pos (by decide), lb_eq, show (0 : Int32) = nI 0 from rfl, nx_or, Nat.or_zero, show (1 : Int32) = nI 1 from rfl, nI_add]
        exact r
  exact loop 7 FU 0 (by omega) (by have := FU_big; omega)
theorem standNow_M {P : PM} {v : NV} {s : SV} {w : Nat} (h : MSt P 110 113 s) (hv : NVok v) (hs : SVok v s) (hw : sW s = some w) : f_Mo_standNow P = nI (mp (pl s w)) := by
  obtain ⟨_, h2, _⟩ := pl_ok hv hs hw
  unfold f_Mo_standNow f_Mo_standOf
  rw [m113 h, m114 h, hw, oI_s, show (41 : Int32) = nI 41 from rfl, pk_mul, nI_add, h2]
/-- rows that laying changes -/
def lyr (o : Nat) : Bool := o == 114 || o == 115 || o == 117 || o == 118 || o == 119
theorem MRep_ly {P P' : PM} {a : AS} (h : MRep P a) (g : sm lyr P P') : MRep P' a := MRep_me h (me_sm g (fun o e => by simp [msr] at e; simp [lyr]; omega) rfl)
theorem ly_mo {P P' : PM} (g : sm lyr P P') : sm mo P P' := sm_mono g (fun o q => by simp [mo] at q; simp [lyr]; omega)
theorem lays_M {P : PM} {a : AS} {w sl : Nat} (hM : MRep P a) (hok : AOk a) (hw : sW (aS a) = some w) (hsl : sl < 2 ^ vN (aV a)) :
    ∃ P1 P2, f_Mo_laysThen (nI sl) P = some P1 ∧ f_Mo_laysReached P1 = some P2 ∧ Lrd P2 (aV a) (aS a) sl (pl (aS a) w) ∧ TH P2 (aV a) (aS a) sl ∧ MRep P2 a ∧ sm lyr P P2 := by
  obtain ⟨h1, _, _⟩ := pl_ok hok.1 hok.2.1 hw
  obtain ⟨P1, g1, g2, g3⟩ := laysThen_M hok.1 hok.2.1 hsl hM.1 (fun j hj => hM.2.1.2.2.2.2 j hj)
  have s1 : sm lyr P P1 := sm_mono g3 (fun o q => by simp [lyr] at q; simp [thr]; omega)
  have M1 := MRep_ly hM s1
  obtain ⟨P2, k1, k2, k3⟩ := laysReached_M hok.1 h1 g2 (standNow_M M1.2.1 hok.1 hok.2.1 hw) (fun P' hs => by
    unfold f_Mo_standNow
    rw [hs.1 110 rfl]
    rfl)
  have s2 : sm lyr P P2 := sm_trans s1 (sm_mono k3 (fun o q => by simp [lyr] at q; simp; omega))
  exact ⟨P1, P2, g1, k1, k2, fun a b c d => by rw [k3.1 117 rfl]; exact g2 a b c d, MRep_ly hM s2, s2⟩
theorem reachBy_M {P : PM} {a : AS} {w sl : Nat} (hM : MRep P a) (hok : AOk a) (hw : sW (aS a) = some w) (hsl : sl < 2 ^ vN (aV a)) :
    ∃ P', f_Mo_reachBy (nI sl) P = some (nI (bo (rS (aV a) (aS a) w sl) 7), P') ∧ MRep P' a ∧ sm lyr P P' := by
  obtain ⟨P1, P2, g1, g2, ⟨R, r1, r2⟩, g4, g5, g6⟩ := lays_M hM hok hw hsl
  have h280 := (pl_ok hok.1 hok.2.1 hw).1
  have loop : ∀ (m n k x : Nat), k + m = 287 → m < n → x < 128 → (∀ st, st < 7 → (x.testBit st = true ↔ ∃ j, j < k ∧ R j = true ∧ j / 41 = st)) → l_Mo_reachBy_13 n (nI x) (nI k) P2 = some (nI (bo (rS (aV a) (aS a) w sl) 7), P2) := by
    intro m
    induction m with
    | zero =>
      intro n k x hk hn hx h
      obtain ⟨n, rfl⟩ : ∃ r, n = r + 1 := ⟨n - 1, by omega⟩
      rw [l_Mo_reachBy_13, if_pos (show (287 : Int32) ≤ nI k from (nI_le (by omega) (by omega) : nI 287 ≤ nI k))]
      have : x = bo (rS (aV a) (aS a) w sl) 7 := bo_eq hx (fun st hst => by
        rw [Bool.eq_iff_iff, h st hst]
        unfold rS
        rw [pb_t]
        constructor
        · rintro ⟨j, hj, hR, e⟩
          obtain ⟨p, hp, rfl, hr⟩ := (r2 j (by omega)).mp hR
          exact ⟨p, hr, by have := (mp_ds p).1; omega⟩
        · rintro ⟨p, hr, e⟩
          have hp := Rch_lt hok.1 h280 hr
          exact ⟨mp p, by have := mp_lt hp; omega, (r2 (mp p) (mp_lt hp)).mpr ⟨p, hp, rfl, hr⟩, by have := (mp_ds p).1; omega⟩)
      rw [this]
    | succ m ih =>
      intro n k x hk hn hx h
      obtain ⟨n, rfl⟩ : ∃ r, n = r + 1 := ⟨n - 1, by omega⟩
      rw [l_Mo_reachBy_13, if_neg (by simp (disch := omega) only [z_add, z_mul, z_sub, z_subm, z_addm, z_lt_t, z_lt_f, z_le_t, z_le_f, z_eq_t, z_eq_f, z_eqm, z_meq, z_mm, z_ltm, z_mlt, z_lem, z_mle, z_cl, z_ck, u1_1, u1_2, u2_1, u2_2, ↓reduceIte, Option.bind_some, Option.bind_none, bd2_some, lb_eq, and_true, and_false, true_and, false_and, not_true_eq_false, not_false_eq_true, eq_self_iff_true, if_true, if_false, Nat.reduceEqDiff, Nat.reduceAdd, Nat.reduceMul, Nat.reduceSub, Bool.false_eq_true, zl0, zl1, zl2, zl3, zl4, zl5, zl6, zl7, zl8, zl9, zl10, zl11, zl12, zl13, zl14, zl15, zl16, zl17, zl18, zl19, zl20, zl22, zl23, zl24, zl25, zl30, zl31, zl32, zl33, zl34, zl35, zl36, zl37, zl38, zl39, zl40, zl41, zl42, zl43, zl45, zl48, zl49, zl57, zl58, zl59, zl60, zl61, zl62, zl63, zl64, zl91, zl93, zl97, zl98, zl99, zl100, zl113, zl114, zl115, zl116, zl117, zl122, zl124, zl125, zl127, zl128, zl136, zl200, zl201, zl202, zl203, zl204, zl205, zl206, zl207, zl208, zl209, zl210, zl211, zl212, zl213, zl214, zl215, zl216, zl217, zl218, zl219, zl220, zl235, zl236, zl255, zl280, zl287, zl900, zl999, zl1000, zl1001, zl1136, zl1960, zl3000, zl3001, zl3002, zl3003, zl3004, zl3005, zl3006, zl3007, zl3008, zl3009, zl268435456, zl1000000000]), z_ck (by omega) (by omega), z_cl (by omega), r1 k (by omega)]
      unfold j_Mo_reachBy_40
      by_cases c : R k = true
      · have h41 : 2 ^ (k / 41) ≤ 2 ^ 6 := pw_le (by omega)
        rw [if_pos c, if_neg (by decide), lb_eq, show (41 : Int32) = nI 41 from rfl, pk_div (by omega) (by omega) (by omega), sh_1 _ (by omega), nx_or, show (1 : Int32) = nI 1 from rfl, nI_add]
        refine ih n (k + 1) _ (by omega) (by omega) (Nat.or_lt_two_pow (n := 7) hx (by omega)) (fun st hst => ?_)
        rw [Nat.testBit_or, Bool.or_eq_true, h st hst]
        constructor
        · rintro (⟨j, hj, hR, e⟩ | e)
          · exact ⟨j, by omega, hR, e⟩
          · by_cases e2 : st = k / 41
            · exact ⟨k, by omega, c, e2.symm⟩
            · rw [Nat.testBit_two_pow_of_ne (Ne.symm e2)] at e; cases e
        · rintro ⟨j, hj, hR, e⟩
          by_cases e2 : j = k
          · right; rw [← e, e2, Nat.testBit_two_pow_self]
          · exact Or.inl ⟨j, by omega, hR, e⟩
      · rw [if_neg c, if_pos (by decide), lb_eq, show (0 : Int32) = nI 0 from rfl, nx_or, Nat.or_zero, show (1 : Int32) = nI 1 from rfl, nI_add]
        refine ih n (k + 1) x (by omega) (by omega) hx (fun st hst => ?_)
        rw [h st hst]
        constructor
        · rintro ⟨j, hj, hR, e⟩; exact ⟨j, by omega, hR, e⟩
        · rintro ⟨j, hj, hR, e⟩
          by_cases e2 : j = k
          · rw [e2] at hR; exact absurd hR c
          · exact ⟨j, by omega, hR, e⟩
  refine ⟨P2, ?_, g5, g6⟩
  unfold f_Mo_reachBy
  rw [g1, Option.bind_some, g2, Option.bind_some]
  exact loop 287 FU 0 0 (by omega) (by have := FU_big; omega) (by omega) (fun st hst => by
    rw [Nat.zero_testBit]
    exact ⟨(fun h => by cases h), (fun ⟨j, hj, _⟩ => by omega)⟩)
/-- the refusal that most questions share -/
theorem refus_s {P : PM} {v : NV} {x : Int32} {y : Int32} (hn : CNet P 14 v) (hv : NVok v) (hx : ¬ (0 ≤ x.toInt ∧ x.toInt < vN v)) : f_Yr_refusal (f_Ne_isStation 14 x P) y P = -nI 2 := by
  unfold f_Yr_refusal
  rw [isSt_Cn hn hv hx]
  rfl
theorem isStK {P : PM} {v : NV} {k : Nat} (hn : CNet P 14 v) (hv : NVok v) (hk : k < vN v) : f_Ne_isStation 14 (nI k) P = (1 : Int32) := by
  have := hv.1
  rw [isSt_C hn hv (by omega), if_pos hk]
  rfl
theorem isSt_Mk {P : PM} {a : AS} {k : Nat} (hM : MRep P a) (hok : AOk a) (hk : k < vN (aV a)) : f_Mo_isStation (nI k).toInt64 P = some (nI 1) := by
  have := hok.1.1
  rw [isStation_M _ hM.1.1 this, tl_ti, nI_ti (by omega), if_pos (by omega)]
theorem isSt_Mn {P : PM} {a : AS} {x : Int32} (hM : MRep P a) (hok : AOk a) (hx : ¬ (0 ≤ x.toInt ∧ x.toInt < vN (aV a))) : f_Mo_isStation x.toInt64 P = some (nI 0) := by
  rw [isStation_M _ hM.1.1 hok.1.1, tl_ti, if_neg hx]
theorem reach_ok {P : PM} {a : AS} (hC : CRep P a) (hM : MRep P a) (hca : CCa P (aV a)) (hok : AOk a) :
    ∃ v P1 P2, f_Yr_reach P = some (v, P1) ∧ f_Mo_reach P1 = some (v, P2) ∧ Inv P2 := by
  have hA := hok.2.1.2.2.2.1
  cases hw : sW (aS a) with
  | none =>
    refine join (r := -nI 5) (a' := a) hM ⟨P, ?_, hC, hca, sm_refl⟩ (fun P hM => ⟨u1 P 109 0 (0 : Int32), ?_, MRep_me hM me_th, sm_th⟩) hok
    · unfold f_Yr_reach
      rw [rfn_C hC.2.1 hw]
      rfl
    · have hM1 : MRep (u1 P 109 0 (0 : Int32)) a := MRep_me hM me_th
      unfold f_Mo_reach
      rw [m113 hM1.2.1, hw]
      rfl
  | some w =>
    obtain ⟨_, _, h7⟩ := pl_ok hok.1 hok.2.1 hw
    refine join (r := nI (bo (rS (aV a) (aS a) w (sA (aS a))) 7)) (a' := a) hM ?_ (fun P hM => ?_) hok
    · obtain ⟨L, P1, g1, g2, g3, g4, g5⟩ := expl_C hC hok hca hw hA
      refine ⟨P1, ?_, g3, g4, xr_cl g5⟩
      unfold f_Yr_reach
      rw [refus_C hC.2.1 hw h7, lb_eq, if_pos rfl, hC.2.1.2.2.2.1, g1, Option.bind_some, stR_C g2]
      rfl
    · have hM1 : MRep (u1 P 109 0 (0 : Int32)) a := MRep_me hM me_th
      obtain ⟨P1, g1, g2, g3⟩ := reachBy_M hM1 hok hw hA
      refine ⟨P1, ?_, g2, sm_trans sm_th (ly_mo g3)⟩
      unfold f_Mo_reach
      rw [m113 hM1.2.1, hw, oI_s, if_neg (by simp (disch := omega) only [z_add, z_mul, z_sub, z_subm, z_addm, z_lt_t, z_lt_f, z_le_t, z_le_f, z_eq_t, z_eq_f, z_eqm, z_meq, z_mm, z_ltm, z_mlt, z_lem, z_mle, z_cl, z_ck, u1_1, u1_2, u2_1, u2_2, ↓reduceIte, Option.bind_some, Option.bind_none, bd2_some, lb_eq, and_true, and_false, true_and, false_and, not_true_eq_false, not_false_eq_true, eq_self_iff_true, if_true, if_false, Nat.reduceEqDiff, Nat.reduceAdd, Nat.reduceMul, Nat.reduceSub, Bool.false_eq_true, zl0, zl1, zl2, zl3, zl4, zl5, zl6, zl7, zl8, zl9, zl10, zl11, zl12, zl13, zl14, zl15, zl16, zl17, zl18, zl19, zl20, zl22, zl23, zl24, zl25, zl30, zl31, zl32, zl33, zl34, zl35, zl36, zl37, zl38, zl39, zl40, zl41, zl42, zl43, zl45, zl48, zl49, zl57, zl58, zl59, zl60, zl61, zl62, zl63, zl64, zl91, zl93, zl97, zl98, zl99, zl100, zl113, zl114, zl115, zl116, zl117, zl122, zl124, zl125, zl127, zl128, zl136, zl200, zl201, zl202, zl203, zl204, zl205, zl206, zl207, zl208, zl209, zl210, zl211, zl212, zl213, zl214, zl215, zl216, zl217, zl218, zl219, zl220, zl235, zl236, zl255, zl280, zl287, zl900, zl999, zl1000, zl1001, zl1136, zl1960, zl3000, zl3001, zl3002, zl3003, zl3004, zl3005, zl3006, zl3007, zl3008, zl3009, zl268435456, zl1000000000]), m116 hM1.2.1, g1]
      rfl
def gz (f : Nat → Bool) : Nat → Option Nat
  | 0 => none
  | n + 1 => if f (n + 1) = true then some (n + 1) else gz f n
theorem gz_le {f : Nat → Bool} : ∀ {n k : Nat}, gz f n = some k → k ≤ n
  | 0, _, h => by cases h
  | n + 1, k, h => by
    unfold gz at h
    split at h
    · cases h; exact Nat.le_refl _
    · have := gz_le h; omega
theorem lx_ushr {m z : Nat} (hm : m < 2 ^ 63) (hz : z < 63) : (((lN m).toUInt64 >>> ((nI z).toInt64.toUInt64 &&& Int64.toUInt64 63)).toInt64) &&& (1 : Int64) = lN (if m.testBit z = true then 1 else 0) := by
  have hcu : ∀ k, k < 64 → ((nI k).toInt64.toUInt64 &&& Int64.toUInt64 63) = UInt64.ofNat k := by decide +kernel
  have h1 : (UInt64.ofNat z).toNat = z := by
    show (BitVec.ofNat 64 z).toNat = z
    rw [BitVec.toNat_ofNat, Nat.mod_eq_of_lt (by omega)]
  have h2 : (lN m).toUInt64.toNat = m := by
    show (BitVec.ofNat 64 m).toNat = m
    rw [BitVec.toNat_ofNat, Nat.mod_eq_of_lt (by omega)]
  have h3 : ((lN m).toUInt64 >>> UInt64.ofNat z).toInt64 = lN (m / 2 ^ z) := by
    apply Int64.toBitVec_inj.mp
    apply BitVec.eq_of_toNat_eq
    show ((lN m).toUInt64 >>> UInt64.ofNat z).toNat = (BitVec.ofNat 64 _).toNat
    rw [UInt64.toNat_shiftRight, h1, h2, Nat.mod_eq_of_lt (by omega), Nat.shiftRight_eq_div_pow, BitVec.toNat_ofNat, Nat.mod_eq_of_lt (Nat.lt_of_le_of_lt (Nat.div_le_self _ _) (by omega))]
  rw [hcu z (by omega), h3, show (1 : Int64) = lN 1 from rfl, lx_and, Nat.and_one_is_mod, tb_div]
theorem gr_C {P : PM} {v : NV} {s : SV} {w sl st : Nat} {L : List Nat} (h : Exp P v s sl (pl s w) L) (hst : st < 7) : f_Pa_greatestAt (nI st) P = some (oI (gz (rZ v s w sl st) 40)) := by
  obtain ⟨m, hm, k1, k2⟩ := h.1.2.2.1 st hst
  have loop : ∀ (z n : Nat), z ≤ 40 → z < n → l_Pa_greatestAt_3 n (nI st) (nI z) P = some (oI (gz (rZ v s w sl st) z)) := by
    intro z
    induction z with
    | zero =>
      intro n hz hn
      obtain ⟨n, rfl⟩ : ∃ r, n = r + 1 := ⟨n - 1, by omega⟩
      rw [l_Pa_greatestAt_3, if_pos (by decide)]
      rfl
    | succ z ih =>
      intro n hz hn
      obtain ⟨n, rfl⟩ : ∃ r, n = r + 1 := ⟨n - 1, by omega⟩
      have hbit : m.testBit (z + 1) = rZ v s w sl st (z + 1) := by
        rw [k2, Bool.eq_iff_iff, decide_eq_true_eq]
        unfold rZ
        rw [pb_t, ← h.2.1]
        exact ⟨fun q => q.2.2, fun q => ⟨by omega, by omega, q⟩⟩
      rw [l_Pa_greatestAt_3, if_neg (by simp (disch := omega) only [z_add, z_mul, z_sub, z_subm, z_addm, z_lt_t, z_lt_f, z_le_t, z_le_f, z_eq_t, z_eq_f, z_eqm, z_meq, z_mm, z_ltm, z_mlt, z_lem, z_mle, z_cl, z_ck, u1_1, u1_2, u2_1, u2_2, ↓reduceIte, Option.bind_some, Option.bind_none, bd2_some, lb_eq, and_true, and_false, true_and, false_and, not_true_eq_false, not_false_eq_true, eq_self_iff_true, if_true, if_false, Nat.reduceEqDiff, Nat.reduceAdd, Nat.reduceMul, Nat.reduceSub, Bool.false_eq_true, zl0, zl1, zl2, zl3, zl4, zl5, zl6, zl7, zl8, zl9, zl10, zl11, zl12, zl13, zl14, zl15, zl16, zl17, zl18, zl19, zl20, zl22, zl23, zl24, zl25, zl30, zl31, zl32, zl33, zl34, zl35, zl36, zl37, zl38, zl39, zl40, zl41, zl42, zl43, zl45, zl48, zl49, zl57, zl58, zl59, zl60, zl61, zl62, zl63, zl64, zl91, zl93, zl97, zl98, zl99, zl100, zl113, zl114, zl115, zl116, zl117, zl122, zl124, zl125, zl127, zl128, zl136, zl200, zl201, zl202, zl203, zl204, zl205, zl206, zl207, zl208, zl209, zl210, zl211, zl212, zl213, zl214, zl215, zl216, zl217, zl218, zl219, zl220, zl235, zl236, zl255, zl280, zl287, zl900, zl999, zl1000, zl1001, zl1136, zl1960, zl3000, zl3001, zl3002, zl3003, zl3004, zl3005, zl3006, zl3007, zl3008, zl3009, zl268435456, zl1000000000]), isR_C h hst, Option.bind_some, z_ck hst (by omega), z_cl (by omega), k1, lx_ushr (by omega) (by omega), hbit]
      unfold j_Pa_greatestAt_32 gz
      rw [show (-1 : Int32) = -nI 1 from rfl, z_addm (by omega), Nat.add_sub_cancel]
      have r := ih n (by omega) (by omega)
      by_cases c : rZ v s w sl st (z + 1) = true
      · have c1 : rS v s w sl st = true := by
          unfold rS rZ at *
          rw [pb_t] at *
          exact ⟨_, c, by omega⟩
        rw [if_pos c1, if_neg (by decide), if_pos c, if_neg (by decide), if_pos c]
        rfl
      · rw [if_neg c, if_neg c]
        by_cases c1 : rS v s w sl st = true
        · rw [if_pos c1, if_neg (by decide), if_pos (by decide)]; exact r
        · rw [if_neg c1, if_pos (by decide)]; exact r
  exact loop 40 FU (by omega) (by have := FU_big; omega)
theorem biggest_ok {P : PM} {a : AS} {x : Int32} (hC : CRep P a) (hM : MRep P a) (hca : CCa P (aV a)) (hok : AOk a) :
    ∃ v P1 P2, f_Yr_biggest x P = some (v, P1) ∧ f_Mo_biggest x P1 = some (v, P2) ∧ Inv P2 := by
  have hA := hok.2.1.2.2.2.1
  have hN := hok.1.1
  rcases i_cases x (vN (aV a)) (by omega) with ⟨k, hk, rfl⟩ | hx
  · cases hw : sW (aS a) with
    | none =>
      refine join (r := -nI 5) (a' := a) hM ⟨P, ?_, hC, hca, sm_refl⟩ (fun P hM => ⟨u1 P 109 0 (0 : Int32), ?_, MRep_me hM me_th, sm_th⟩) hok
      · unfold f_Yr_biggest
        rw [isStK hC.1 hok.1 hk, rfn_C hC.2.1 hw]
        rfl
      · have hM1 : MRep (u1 P 109 0 (0 : Int32)) a := MRep_me hM me_th
        unfold f_Mo_biggest
        rw [isSt_Mk hM1 hok hk, Option.bind_some, if_neg (by decide), m113 hM1.2.1, hw]
        rfl
    | some w =>
      obtain ⟨h280, _, h7⟩ := pl_ok hok.1 hok.2.1 hw
      refine join (r := oI (gz (rZ (aV a) (aS a) w (sA (aS a)) k) 40)) (a' := a) hM ?_ (fun P hM => ?_) hok
      · obtain ⟨L, P1, g1, g2, g3, g4, g5⟩ := expl_C hC hok hca hw hA
        refine ⟨P1, ?_, g3, g4, xr_cl g5⟩
        unfold f_Yr_biggest
        rw [isStK hC.1 hok.1 hk, refus_C hC.2.1 hw h7, lb_eq, if_pos rfl, hC.2.1.2.2.2.1, g1, Option.bind_some, gr_C g2 (by omega)]
        rfl
      · have hM1 : MRep (u1 P 109 0 (0 : Int32)) a := MRep_me hM me_th
        obtain ⟨P1, P2, g1, g2, ⟨R, r1, r2⟩, g4, g5, g6⟩ := lays_M hM1 hok hw hA
        refine ⟨P2, ?_, g5, sm_trans sm_th (ly_mo g6)⟩
        have hR : ∀ z, 1 ≤ z → z ≤ 40 → (R (41 * k + z) = true ↔ rZ (aV a) (aS a) w (sA (aS a)) k z = true) := by
          intro z h1 h40
          unfold rZ
          rw [pb_t, r2 _ (by omega)]
          have e : 41 * k + z = mp (40 * k + z - 1) := by unfold mp; omega
          constructor
          · rintro ⟨p, hp, e2, hr⟩
            rw [e] at e2
            rw [mp_inj e2]; exact hr
          · intro hr
            exact ⟨_, by omega, e, hr⟩
        have loop : ∀ (m n z : Nat), z + m = 40 → m < n → l_Mo_biggest_50 n (nI k) (oI (gz (rZ (aV a) (aS a) w (sA (aS a)) k) z)) (nI (z + 1)) P2 = some (oI (gz (rZ (aV a) (aS a) w (sA (aS a)) k) 40), P2) := by
          intro m
          induction m with
          | zero =>
            intro n z hz hn
            obtain ⟨n, rfl⟩ : ∃ r, n = r + 1 := ⟨n - 1, by omega⟩
            obtain rfl : z = 40 := by omega
            rw [l_Mo_biggest_50, if_pos (by decide)]
          | succ m ih =>
            intro n z hz hn
            obtain ⟨n, rfl⟩ : ∃ r, n = r + 1 := ⟨n - 1, by omega⟩
            have hst : f_Mo_standOf (nI k) (nI (z + 1)) P2 = nI (41 * k + (z + 1)) := by
              unfold f_Mo_standOf
              rw [show (41 : Int32) = nI 41 from rfl, pk_mul, nI_add]
            have r := ih n (z + 1) (by omega) (by omega)
            unfold gz at r
            rw [l_Mo_biggest_50, if_neg (by simp (disch := omega) only [z_add, z_mul, z_sub, z_subm, z_addm, z_lt_t, z_lt_f, z_le_t, z_le_f, z_eq_t, z_eq_f, z_eqm, z_meq, z_mm, z_ltm, z_mlt, z_lem, z_mle, z_cl, z_ck, u1_1, u1_2, u2_1, u2_2, ↓reduceIte, Option.bind_some, Option.bind_none, bd2_some, lb_eq, and_true, and_false, true_and, false_and, not_true_eq_false, not_false_eq_true, eq_self_iff_true, if_true, if_false, Nat.reduceEqDiff, Nat.reduceAdd, Nat.reduceMul, Nat.reduceSub, Bool.false_eq_true, zl0, zl1, zl2, zl3, zl4, zl5, zl6, zl7, zl8, zl9, zl10, zl11, zl12, zl13, zl14, zl15, zl16, zl17, zl18, zl19, zl20, zl22, zl23, zl24, zl25, zl30, zl31, zl32, zl33, zl34, zl35, zl36, zl37, zl38, zl39, zl40, zl41, zl42, zl43, zl45, zl48, zl49, zl57, zl58, zl59, zl60, zl61, zl62, zl63, zl64, zl91, zl93, zl97, zl98, zl99, zl100, zl113, zl114, zl115, zl116, zl117, zl122, zl124, zl125, zl127, zl128, zl136, zl200, zl201, zl202, zl203, zl204, zl205, zl206, zl207, zl208, zl209, zl210, zl211, zl212, zl213, zl214, zl215, zl216, zl217, zl218, zl219, zl220, zl235, zl236, zl255, zl280, zl287, zl900, zl999, zl1000, zl1001, zl1136, zl1960, zl3000, zl3001, zl3002, zl3003, zl3004, zl3005, zl3006, zl3007, zl3008, zl3009, zl268435456, zl1000000000]), hst, z_ck (by omega) (by omega), z_cl (by omega), r1 _ (by omega)]
            unfold j_Mo_biggest_74
            by_cases c : R (41 * k + (z + 1)) = true
            · rw [if_pos ((hR _ (by omega) (by omega)).mp c)] at r
              rw [if_pos c, if_neg (by decide), show (1 : Int32) = nI 1 from rfl, nI_add]
              exact r
            · rw [if_neg (fun q => c ((hR _ (by omega) (by omega)).mpr q))] at r
              rw [if_neg c, if_pos (by decide), show (1 : Int32) = nI 1 from rfl, nI_add]
              exact r
        unfold f_Mo_biggest
        rw [isSt_Mk hM1 hok hk, Option.bind_some, if_neg (by decide), m113 hM1.2.1, hw, oI_s, if_neg (by simp (disch := omega) only [z_add, z_mul, z_sub, z_subm, z_addm, z_lt_t, z_lt_f, z_le_t, z_le_f, z_eq_t, z_eq_f, z_eqm, z_meq, z_mm, z_ltm, z_mlt, z_lem, z_mle, z_cl, z_ck, u1_1, u1_2, u2_1, u2_2, ↓reduceIte, Option.bind_some, Option.bind_none, bd2_some, lb_eq, and_true, and_false, true_and, false_and, not_true_eq_false, not_false_eq_true, eq_self_iff_true, if_true, if_false, Nat.reduceEqDiff, Nat.reduceAdd, Nat.reduceMul, Nat.reduceSub, Bool.false_eq_true, zl0, zl1, zl2, zl3, zl4, zl5, zl6, zl7, zl8, zl9, zl10, zl11, zl12, zl13, zl14, zl15, zl16, zl17, zl18, zl19, zl20, zl22, zl23, zl24, zl25, zl30, zl31, zl32, zl33, zl34, zl35, zl36, zl37, zl38, zl39, zl40, zl41, zl42, zl43, zl45, zl48, zl49, zl57, zl58, zl59, zl60, zl61, zl62, zl63, zl64, zl91, zl93, zl97, zl98, zl99, zl100, zl113, zl114, zl115, zl116, zl117, zl122, zl124, zl125, zl127, zl128, zl136, zl200, zl201, zl202, zl203, zl204, zl205, zl206, zl207, zl208, zl209, zl210, zl211, zl212, zl213, zl214, zl215, zl216, zl217, zl218, zl219, zl220, zl235, zl236, zl255, zl280, zl287, zl900, zl999, zl1000, zl1001, zl1136, zl1960, zl3000, zl3001, zl3002, zl3003, zl3004, zl3005, zl3006, zl3007, zl3008, zl3009, zl268435456, zl1000000000]), m116 hM1.2.1, g1, Option.bind_some, g2, Option.bind_some]
        exact loop 40 FU 0 (by omega) (by have := FU_big; omega)
  · refine join (r := -nI 2) (a' := a) hM ⟨P, ?_, hC, hca, sm_refl⟩ (fun P hM => ⟨u1 P 109 0 (0 : Int32), ?_, MRep_me hM me_th, sm_th⟩) hok
    · unfold f_Yr_biggest
      rw [refus_s hC.1 hok.1 hx]
      rfl
    · have hM1 : MRep (u1 P 109 0 (0 : Int32)) a := MRep_me hM me_th
      unfold f_Mo_biggest
      rw [isSt_Mn hM1 hok hx]
      rfl
