/-! the reference: a route told -/
theorem fillM {st z : Nat} {by' : Nat} (hst : st < 7) (hz1 : 1 ≤ z) (hz : z ≤ 40) :
    ∀ (m n k : Nat) (P : PM), k + m = 287 → m < n → (∀ j, j < k → P.1 118 j = nI (if j % 41 = 0 then F2 else K0 F2 st z (40 * (j / 41) + j % 41 - 1))) →
    ∃ P', l_Mo_laysFar_14 n (nI st) (nI z) (nI by') (nI k) P = l_Mo_laysFar_63 FU (nI by') (1 : Int32) P' ∧ KM P' (K0 F2 st z) ∧ sm o118 P P' := by
  intro m
  induction m with
  | zero =>
    intro n k P hk hn h
    obtain ⟨n, rfl⟩ : ∃ r, n = r + 1 := ⟨n - 1, by omega⟩
    rw [l_Mo_laysFar_14, if_pos (show (287 : Int32) ≤ nI k from (nI_le (by omega) (by omega) : nI 287 ≤ nI k))]
    refine ⟨P, rfl, ⟨fun p hp => ?_, fun j hj h0 => ?_⟩, sm_refl⟩
    · have h1 := mp_ds p
      have h2 := mp_lt hp
      rw [h (mp p) (by omega), if_neg (by omega), h1.1, h1.2]
      exact congrArg (fun x => nI (K0 F2 st z x)) (by omega)
    · rw [h j (by omega), if_pos h0]
  | succ m ih =>
    intro n k P hk hn h
    obtain ⟨n, rfl⟩ : ∃ r, n = r + 1 := ⟨n - 1, by omega⟩
    have go : ∀ x : Int32, x = nI (if k % 41 = 0 then F2 else K0 F2 st z (40 * (k / 41) + k % 41 - 1)) → ∃ P', j_Mo_laysFar_53 (fun z0 z1 z2 z3 Pz => l_Mo_laysFar_14 n z0 z1 z2 z3 Pz) (nI st) (nI z) (nI by') (nI k) (nI k) x P = l_Mo_laysFar_63 FU (nI by') (1 : Int32) P' ∧ KM P' (K0 F2 st z) ∧ sm o118 P P' := by
      rintro x rfl
      unfold j_Mo_laysFar_53
      rw [z_ck (by omega) (by omega), z_cl (by omega), show (k : Nat) = k from rfl]
      obtain ⟨P', g1, g2, g3⟩ := ih n (k + 1) (u1 P 118 k (nI (if k % 41 = 0 then F2 else K0 F2 st z (40 * (k / 41) + k % 41 - 1)))) (by omega) (by omega) (fun j hj => by
        rw [u1_1]
        by_cases e : j = k
        · rw [if_pos ⟨rfl, e⟩, e]
        · rw [if_neg (fun h => e h.2), h j (by omega)])
      refine ⟨P', ?_, g2, sm_trans (sm_u1 sm_refl rfl) g3⟩
      rw [← g1, ← nI_add]
      rfl
    have hd : (nI k / 41 : Int32) = nI (k / 41) := by rw [show (41 : Int32) = nI 41 from rfl, pk_div (by omega) (by omega) (by omega)]
    have hr : nI k - nI (k / 41) * (41 : Int32) = nI (k % 41) := by
      rw [show (41 : Int32) = nI 41 from rfl, pk_mul, pk_sub (by omega)]
      exact congrArg nI (by omega)
    rw [l_Mo_laysFar_14, if_neg (by simp (disch := omega) only [z_add, z_mul, z_sub, z_subm, z_addm, z_lt_t, z_lt_f, z_le_t, z_le_f, z_eq_t, z_eq_f, z_eqm, z_meq, z_mm, z_ltm, z_mlt, z_lem, z_mle, z_cl, z_ck, u1_1, u1_2, u2_1, u2_2, ↓reduceIte, Option.bind_some, Option.bind_none, bd2_some, lb_eq, and_true, and_false, true_and, false_and, not_true_eq_false, not_false_eq_true, eq_self_iff_true, if_true, if_false, Nat.reduceEqDiff, Nat.reduceAdd, Nat.reduceMul, Nat.reduceSub, Bool.false_eq_true, zl0, zl1, zl2, zl3, zl4, zl5, zl6, zl7, zl8, zl9, zl10, zl11, zl12, zl13, zl14, zl15, zl16, zl17, zl18, zl19, zl20, zl22, zl23, zl24, zl25, zl30, zl31, zl32, zl33, zl34, zl35, zl36, zl37, zl38, zl39, zl40, zl41, zl42, zl43, zl45, zl48, zl49, zl57, zl58, zl59, zl60, zl61, zl62, zl63, zl64, zl91, zl93, zl97, zl98, zl99, zl100, zl113, zl114, zl115, zl116, zl117, zl122, zl124, zl125, zl127, zl128, zl136, zl200, zl201, zl202, zl203, zl204, zl205, zl206, zl207, zl208, zl209, zl210, zl211, zl212, zl213, zl214, zl215, zl216, zl217, zl218, zl219, zl220, zl235, zl236, zl255, zl280, zl287, zl900, zl999, zl1000, zl1001, zl1136, zl1960, zl3000, zl3001, zl3002, zl3003, zl3004, zl3005, zl3006, zl3007, zl3008, zl3009, zl268435456, zl1000000000]), hd, hr]
    unfold j_Mo_laysFar_50
    by_cases c : k / 41 = st
    · rw [if_pos (congrArg nI c)]
      by_cases c2 : z ≤ k % 41
      · rw [if_neg (nI_nlt c2 (by omega))]
        exact go _ (by unfold K0; rw [if_neg (by omega), if_pos (by unfold glb; simp; omega)]; rfl)
      · rw [if_pos (nI_lt (by omega) (by omega))]
        refine go _ ?_
        by_cases c3 : k % 41 = 0
        · rw [if_pos c3]; rfl
        · unfold K0; rw [if_neg c3, if_neg (by unfold glb; simp; omega)]; rfl
    · rw [if_neg (by simp (disch := omega) only [z_add, z_mul, z_sub, z_subm, z_addm, z_lt_t, z_lt_f, z_le_t, z_le_f, z_eq_t, z_eq_f, z_eqm, z_meq, z_mm, z_ltm, z_mlt, z_lem, z_mle, z_cl, z_ck, u1_1, u1_2, u2_1, u2_2, ↓reduceIte, Option.bind_some, Option.bind_none, bd2_some, lb_eq, and_true, and_false, true_and, false_and, not_true_eq_false, not_false_eq_true, eq_self_iff_true, if_true, if_false, Nat.reduceEqDiff, Nat.reduceAdd, Nat.reduceMul, Nat.reduceSub, Bool.false_eq_true, zl0, zl1, zl2, zl3, zl4, zl5, zl6, zl7, zl8, zl9, zl10, zl11, zl12, zl13, zl14, zl15, zl16, zl17, zl18, zl19, zl20, zl22, zl23, zl24, zl25, zl30, zl31, zl32, zl33, zl34, zl35, zl36, zl37, zl38, zl39, zl40, zl41, zl42, zl43, zl45, zl48, zl49, zl57, zl58, zl59, zl60, zl61, zl62, zl63, zl64, zl91, zl93, zl97, zl98, zl99, zl100, zl113, zl114, zl115, zl116, zl117, zl122, zl124, zl125, zl127, zl128, zl136, zl200, zl201, zl202, zl203, zl204, zl205, zl206, zl207, zl208, zl209, zl210, zl211, zl212, zl213, zl214, zl215, zl216, zl217, zl218, zl219, zl220, zl235, zl236, zl255, zl280, zl287, zl900, zl999, zl1000, zl1001, zl1136, zl1960, zl3000, zl3001, zl3002, zl3003, zl3004, zl3005, zl3006, zl3007, zl3008, zl3009, zl268435456, zl1000000000])]
      refine go _ ?_
      by_cases c3 : k % 41 = 0
      · rw [if_pos c3]; rfl
      · unfold K0; rw [if_neg c3, if_neg (by unfold glb; simp; omega)]; rfl
theorem laysFar_M {P : PM} {a : AS} {w st z by' : Nat} (hM : MRep P a) (hok : AOk a) (hw : sW (aS a) = some w) (hst : st < 7) (hz1 : 1 ≤ z) (hz : z ≤ 40) (hb : by' ≤ 1) :
    ∃ K P', f_Mo_laysFar (nI st) (nI z) (nI by') P = some (nI ((dsr (aV a) (aS a) by' st z (pl (aS a) w)).getD F2), P') ∧ MX P' (aV a) (aS a) ∧ KM P' K ∧
      (∀ p, p < 280 → K p = (dsr (aV a) (aS a) by' st z p).getD F2) ∧ (∀ j, K j ≤ F2) ∧ MRep P' a ∧ sm lyr P P' := by
  have hv := hok.1
  have hs := hok.2.1
  obtain ⟨h280, _, _⟩ := pl_ok hv hs hw
  obtain ⟨P1, g1, g2, g3⟩ := laysThen_M hv hs hs.2.2.2.1 hM.1 (fun j hj => hM.2.1.2.2.2.2 j hj)
  have s1 : sm lyr P P1 := sm_mono g3 (fun o q => by simp [lyr] at q; simp [thr]; omega)
  have M1 := MRep_ly hM s1
  obtain ⟨P2, k1, k2, k3⟩ := fillM (by' := by') hst hz1 hz 287 FU 0 P1 (by omega) (by have := FU_big; omega) (fun j hj => by omega)
  have X2 : MX P2 (aV a) (aS a) := MX_118 ⟨g2, M1.1⟩ k3
  have s2 : sm lyr P P2 := sm_trans s1 (sm_mono k3 (fun o q => by simp [lyr] at q; simp [o118]; omega))
  obtain ⟨K', P3, r1, r2, r3, r5, r4⟩ := rounds_M (s := aS a) (st := st) (z := z) hv hb h280 281 FU 0 (K0 F2 st z) true P2 (by omega) (by have := FU_big; omega) (fun _ => by omega) X2 k2 (fun P' h => by
      have s3 : sm lyr P P' := sm_trans s2 (sm_mono h (fun o q => by simp [lyr] at q; simp [o118]; omega))
      exact standNow_M (MRep_ly hM s3).2.1 hv hs hw) K0_J (fun p hp _ => if_pos hp)
    (Qk_1 (fun p t q _ e => (nxp_in hv e).1) (ccb_pos by' _) (fun p hp _ => if_pos hp)) (fun h => by cases h)
  have s3 : sm lyr P P3 := sm_trans s2 (sm_mono r4 (fun o q => by simp [lyr] at q; simp [o118]; omega))
  refine ⟨K', P3, ?_, MX_118 X2 r4, r2, r3, r5, MRep_ly hM s3, s3⟩
  unfold f_Mo_laysFar
  rw [m116 hM.2.1, g1, Option.bind_some, show (0 : Int32) = nI 0 from rfl, k1]
  show l_Mo_laysFar_63 FU (nI by') (flg true) P2 = _
  rw [r1, r3 _ h280]
theorem bp_om {v : NV} {s : SV} {by' st z p t : Nat} {K : Nat → Nat} (hv : NVok v) (hd : ∀ p, p < 280 → K p = (dsr v s by' st z p).getD F2) (hp : p < 280) {a : Nat} (ha : dsr v s by' st z p = some a) : bp v s by' st z p t = true ↔ om v s by' K p t = K p := by
  have hF : F2 = 268435456 := rfl
  have h9 : K p = a := by rw [hd p hp, ha]; rfl
  have ha1 := ds_le9 hv hp ha
  cases e : nxp v s (sA s) p t with
  | none =>
    have e1 : om v s by' K p t = F2 := by unfold om; rw [e]
    have e2 : bp v s by' st z p t = false := by unfold bp; rw [e]
    rw [e1, e2]
    exact ⟨(fun h => by cases h), (fun h => by omega)⟩
  | some q =>
    have hq280 := (nxp_in hv e).1
    have e1 : om v s by' K p t = if K q = F2 then F2 else K q + ccb by' v p t := by unfold om; rw [e]
    have hq9 := hd q hq280
    cases eq : dsr v s by' st z q with
    | none =>
      have e2 : bp v s by' st z p t = false := by unfold bp; rw [e]; simp only [eq]
      rw [eq] at hq9
      have hq9 : K q = F2 := hq9
      rw [hq9, if_pos rfl] at e1
      rw [e1, e2]
      exact ⟨(fun h => by cases h), (fun h => by omega)⟩
    | some b =>
      have e2 : bp v s by' st z p t = decide (dsr v s by' st z p = some (ccb by' v p t + b)) := by unfold bp; rw [e]; simp only [eq]
      rw [eq] at hq9
      have hq9 : K q = b := hq9
      have hb1 := ds_le9 hv hq280 eq
      rw [hq9, if_neg (by omega)] at e1
      rw [e1, e2, decide_eq_true_eq, h9, ha]
      exact ⟨fun h => by have := Option.some.inj h; omega, fun h => by rw [← h, Nat.add_comm]⟩
theorem mo_stationAt {P : PM} {v : NV} {s : SV} {by' st z w i : Nat} {K : Nat → Nat} (hv : NVok v) (hs : SVok v s) (hw : sW s = some w) (hb : by' ≤ 1) (hX : MX P v s) (hst : f_Mo_standNow P = nI (mp (pl s w))) (hK : KM P K)
    (hd : ∀ p, p < 280 → K p = (dsr v s by' st z p).getD F2) (hF : ∀ j, K j ≤ F2) (hi : i < 2147483648) : f_Mo_stationAt (nI i) (nI by') P = some (oI (rsr v s by' st z i (pl s w))) := by
  have h280 := (pl_ok hv hs hw).1
  have hN := hv.1
  have inner : ∀ (k22 : Int32 → Int32 → Int32 → Int32 → Option Int32) (p a t1 j : Nat), p < 280 → dsr v s by' st z p = some a → ∀ (m n t : Nat), t + m = vN v → m < n → ff (bp v s by' st z p) m t = some t1 →
      l_Mo_stationAt_34 k22 n (nI i) (nI by') (nI (mp p)) (nI j) (nI t) P = if nI j = nI i then some (nI t1) else (f_Mo_routed (nI (mp p)) (nI t1) P).bind (fun v5 => k22 (nI i) (nI by') v5 (nI j + (1 : Int32))) := by
    intro k22 p a t1 j hp ha m
    have hmp := mp_lt hp
    induction m with
    | zero => intro n t ht hn h; cases h
    | succ m ih =>
      intro n t ht hn h
      obtain ⟨n, rfl⟩ : ∃ r, n = r + 1 := ⟨n - 1, by omega⟩
      have hff : ff (bp v s by' st z p) (m + 1) t = if bp v s by' st z p t = true then some t else ff (bp v s by' st z p) m (t + 1) := rfl
      rw [hff] at h
      have hk := bp_om (t := t) hv hd hp ha
      have ho := om_le (s := s) (by' := by') (p := p) (t := t) hv hF
      have hKp : K p ≤ 268435456 := hF p
      rw [l_Mo_stationAt_34, farBy_M hv hX hb hK hF hp (by omega), Option.bind_some, z_ck hmp (by omega), z_cl (by omega), hK.1 p hp]
      by_cases c : bp v s by' st z p t = true
      · rw [if_pos c] at h
        cases h
        rw [if_pos (congrArg nI (hk.mp c))]
      · rw [if_neg c] at h
        rw [if_neg (fun e => c (hk.mpr ((nI_eq (by omega) (by omega)).mp e))), show (1 : Int32) = nI 1 from rfl, nI_add]
        exact ih n (t + 1) (by omega) (by omega) h
  have outer : ∀ (n p j a : Nat), p < 280 → dsr v s by' st z p = some a → rk (dsr v s by' st z) 280 p < n → j ≤ i → l_Mo_stationAt_22 n (nI i) (nI by') (nI (mp p)) (nI j) P = some (oI (rsr v s by' st z (i - j) p)) := by
    intro n
    induction n with
    | zero => intro p j a hp ha hr hj; omega
    | succ n ih =>
      intro p j a hp ha hr hj
      have hmp := mp_lt hp
      have hKp : K p = a := by rw [hd p hp, ha]; rfl
      have ha1 := ds_le9 hv hp ha
      rw [l_Mo_stationAt_22, z_ck hmp (by omega), z_cl (by omega), hK.1 p hp, hKp]
      by_cases c : a = 0
      · have hb0 : bsr v s by' st z p = none := bs_0 (ccb_pos by' v) (Or.inl (by rw [← c]; exact ha))
        have hr0 : rsr v s by' st z (i - j) p = none := by
          cases i - j with
          | zero => exact hb0
          | succ x => show rst _ _ _ _ (x + 1) p = none; unfold rst; rw [show bs (nxp v s (sA s)) (ccb by' v) (glb st z) (vN v) p = none from hb0]
        rw [c, if_pos (by decide), hr0]
        rfl
      · obtain ⟨t1, ht1⟩ := bs_ex ha c
        obtain ⟨htN, q, b, e1, e2, e3⟩ := bs_some ht1
        rw [if_neg (by simp (disch := omega) only [z_add, z_mul, z_sub, z_subm, z_addm, z_lt_t, z_lt_f, z_le_t, z_le_f, z_eq_t, z_eq_f, z_eqm, z_meq, z_mm, z_ltm, z_mlt, z_lem, z_mle, z_cl, z_ck, u1_1, u1_2, u2_1, u2_2, ↓reduceIte, Option.bind_some, Option.bind_none, bd2_some, lb_eq, and_true, and_false, true_and, false_and, not_true_eq_false, not_false_eq_true, eq_self_iff_true, if_true, if_false, Nat.reduceEqDiff, Nat.reduceAdd, Nat.reduceMul, Nat.reduceSub, Bool.false_eq_true, zl0, zl1, zl2, zl3, zl4, zl5, zl6, zl7, zl8, zl9, zl10, zl11, zl12, zl13, zl14, zl15, zl16, zl17, zl18, zl19, zl20, zl22, zl23, zl24, zl25, zl30, zl31, zl32, zl33, zl34, zl35, zl36, zl37, zl38, zl39, zl40, zl41, zl42, zl43, zl45, zl48, zl49, zl57, zl58, zl59, zl60, zl61, zl62, zl63, zl64, zl91, zl93, zl97, zl98, zl99, zl100, zl113, zl114, zl115, zl116, zl117, zl122, zl124, zl125, zl127, zl128, zl136, zl200, zl201, zl202, zl203, zl204, zl205, zl206, zl207, zl208, zl209, zl210, zl211, zl212, zl213, zl214, zl215, zl216, zl217, zl218, zl219, zl220, zl235, zl236, zl255, zl280, zl287, zl900, zl999, zl1000, zl1001, zl1136, zl1960, zl3000, zl3001, zl3002, zl3003, zl3004, zl3005, zl3006, zl3007, zl3008, zl3009, zl268435456, zl1000000000])]
        have hin := inner (fun z0 z1 z2 z3 => l_Mo_stationAt_22 n z0 z1 z2 z3 P) p a t1 j hp ha (vN v) FU 0 (by omega) (by have := FU_big; omega) ht1
        rw [show (0 : Int32) = nI 0 from rfl, hin]
        by_cases cj : j = i
        · rw [if_pos (congrArg nI cj), cj, Nat.sub_self]
          show _ = some (oI (bsr v s by' st z p))
          rw [show bsr v s by' st z p = some t1 from ht1]
          rfl
        · have hq := (nxp_in hv e1).1
          have hc := ccb_pos by' v p t1
          have hab : a = ccb by' v p t1 + b := Option.some.inj (ha.symm.trans e3)
          have hrk : rk (dsr v s by' st z) 280 q < rk (dsr v s by' st z) 280 p := rk_lt hq ha e2 (by omega)
          have hrs : rsr v s by' st z (i - j) p = rsr v s by' st z (i - (j + 1)) q := by
            rw [show i - j = (i - (j + 1)) + 1 by omega]
            show rst _ _ _ _ ((i - (j + 1)) + 1) p = _
            rw [rst]
            rw [show bs (nxp v s (sA s)) (ccb by' v) (glb st z) (vN v) p = some t1 from ht1]
            show (match nxp v s (sA s) p t1 with | none => none | some q => rsr v s by' st z (i - (j + 1)) q) = _
            rw [e1]
          rw [if_neg (fun h => cj ((nI_eq (by omega) (by omega)).mp h)), routed_M hX.1 hmp (by omega), rtd_mp, e1, Option.bind_some, hrs]
          show l_Mo_stationAt_22 n (nI i) (nI by') (nI (mp q)) (nI j + 1) P = _
          rw [show (1 : Int32) = nI 1 from rfl, nI_add]
          exact ih q (j + 1) b hq e2 (by omega) (by omega)
  unfold f_Mo_stationAt
  rw [lb_eq, hst, z_ck (mp_lt h280) (by have := mp_lt h280; omega), z_cl (by have := mp_lt h280; omega), hK.1 _ h280]
  cases e : dsr v s by' st z (pl s w) with
  | none =>
    have hn : K (pl s w) = F2 := by rw [hd _ h280, e]; rfl
    rw [hn, if_pos (by decide), show rsr v s by' st z i (pl s w) = none from rst_none (ccb_pos by' v) e i]
    rfl
  | some a =>
    have ha1 := ds_le9 hv h280 e
    have hn : K (pl s w) = a := by rw [hd _ h280, e]; rfl
    rw [hn, if_neg (by simp (disch := omega) only [z_add, z_mul, z_sub, z_subm, z_addm, z_lt_t, z_lt_f, z_le_t, z_le_f, z_eq_t, z_eq_f, z_eqm, z_meq, z_mm, z_ltm, z_mlt, z_lem, z_mle, z_cl, z_ck, u1_1, u1_2, u2_1, u2_2, ↓reduceIte, Option.bind_some, Option.bind_none, bd2_some, lb_eq, and_true, and_false, true_and, false_and, not_true_eq_false, not_false_eq_true, eq_self_iff_true, if_true, if_false, Nat.reduceEqDiff, Nat.reduceAdd, Nat.reduceMul, Nat.reduceSub, Bool.false_eq_true, zl0, zl1, zl2, zl3, zl4, zl5, zl6, zl7, zl8, zl9, zl10, zl11, zl12, zl13, zl14, zl15, zl16, zl17, zl18, zl19, zl20, zl22, zl23, zl24, zl25, zl30, zl31, zl32, zl33, zl34, zl35, zl36, zl37, zl38, zl39, zl40, zl41, zl42, zl43, zl45, zl48, zl49, zl57, zl58, zl59, zl60, zl61, zl62, zl63, zl64, zl91, zl93, zl97, zl98, zl99, zl100, zl113, zl114, zl115, zl116, zl117, zl122, zl124, zl125, zl127, zl128, zl136, zl200, zl201, zl202, zl203, zl204, zl205, zl206, zl207, zl208, zl209, zl210, zl211, zl212, zl213, zl214, zl215, zl216, zl217, zl218, zl219, zl220, zl235, zl236, zl255, zl280, zl287, zl900, zl999, zl1000, zl1001, zl1136, zl1960, zl3000, zl3001, zl3002, zl3003, zl3004, zl3005, zl3006, zl3007, zl3008, zl3009, zl268435456, zl1000000000])]
    have h3 : rk (dsr v s by' st z) 280 (pl s w) < 280 := rk_M h280
    exact outer FU (pl s w) 0 a h280 e (by have := FU_big; omega) (Nat.zero_le _)
