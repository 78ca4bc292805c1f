theorem fillB_l {k n : Nat} {v : Int32} {b : Nat} (hb : b ≤ n) (hn : n < 2147483648) : ∀ (m q i : Nat) (P : PM), i + m = b → m < q → l_Ja_fill_ABIIB_10 k n q (nI b) v (nI i) P = some (rowI P k i b (vp_nar .byte v)) := by
  intro m
  induction m with
  | zero =>
    intro q i P hi hq
    obtain ⟨q, rfl⟩ : ∃ r, q = r + 1 := ⟨q - 1, by omega⟩
    rw [l_Ja_fill_ABIIB_10, if_pos (nI_le (by omega) (by omega)), rowI_nil (by omega)]
  | succ m ih =>
    intro q i P hi hq
    obtain ⟨q, rfl⟩ : ∃ r, q = r + 1 := ⟨q - 1, by omega⟩
    rw [l_Ja_fill_ABIIB_10, if_neg (nI_ge (by omega) (by omega)), z_ck (by omega) (by omega), z_cl (by omega), show (1 : Int32) = nI 1 from rfl, nI_add, ih q (i + 1) _ (by omega) (by omega), rowI_u1 (by omega)]
theorem fillB {k n a b : Nat} {v : Int32} {P : PM} (ha : a ≤ b) (hb : b ≤ n) (hn : n < 1000000) : f_Ja_fill_ABIIB k n (nI a) (nI b) v P = some (rowI P k a b (vp_nar .byte v)) := by
  unfold f_Ja_fill_ABIIB f_Ja_rangeCheck
  rw [if_pos (nI_le ha (by omega)), if_pos (show (0 : Int32) ≤ nI a from (nI_le (Nat.zero_le _) (by omega) : nI 0 ≤ nI a)), if_pos (show nI b ≤ Int32.ofNat n from (nI_le hb (by omega) : nI b ≤ nI n)), Option.bind_some]
  exact fillB_l hb (by omega) (b - a) FU a P (by omega) (by have := FU_big; omega)
theorem refresh_l {v : NV} {s : SV} (hs : SVok v s) : ∀ (m q i : Nat) (P : PM), i + m = 7 → m < q → CSt P 21 s →
    (∀ t, t < 7 → ∃ d, d ≤ 9 ∧ P.1 60 t = nI d ∧ (t < i → d = sD s t) ∧ ∀ p, p < 280 → P.1 59 (280 * t + p) = -nI 2 ∨ P.1 59 (280 * t + p) = oI (car v (p / 40) (p % 40 + 1) t d)) →
    ∃ P', l_Pa_refresh_2 q (nI i) P = some P' ∧ CC1 P' v s ∧ sm (fun o => o == 59 || o == 60) P P' := by
  intro m
  induction m with
  | zero =>
    intro q i P hi hq h1 h2
    obtain ⟨q, rfl⟩ : ∃ r, q = r + 1 := ⟨q - 1, by omega⟩
    rw [l_Pa_refresh_2, if_pos (show (7 : Int32) ≤ nI i from (nI_le (by omega) (by omega) : nI 7 ≤ nI i))]
    refine ⟨P, rfl, fun t ht => ?_, sm_refl⟩
    obtain ⟨d, k1, k2, k3, k4⟩ := h2 t ht
    obtain rfl := k3 (by omega)
    exact ⟨k2, k4⟩
  | succ m ih =>
    intro q i P hi hq h1 h2
    obtain ⟨q, rfl⟩ : ∃ r, q = r + 1 := ⟨q - 1, by omega⟩
    obtain ⟨d, k1, k2, k3, k4⟩ := h2 i (by omega)
    have h9 := hs.2.2.2.2 i
    rw [l_Pa_refresh_2, if_neg (by simp (disch := omega) only [z_add, z_mul, z_sub, z_subm, z_addm, z_lt_t, z_lt_f, z_le_t, z_le_f, z_eq_t, z_eq_f, z_eqm, z_meq, z_mm, z_ltm, z_mlt, z_lem, z_mle, z_cl, z_ck, u1_1, u1_2, u2_1, u2_2, ↓reduceIte, Option.bind_some, Option.bind_none, bd2_some, lb_eq, and_true, and_false, true_and, false_and, not_true_eq_false, not_false_eq_true, eq_self_iff_true, if_true, if_false, Nat.reduceEqDiff, Nat.reduceAdd, Nat.reduceMul, Nat.reduceSub, Bool.false_eq_true, zl0, zl1, zl2, zl3, zl4, zl5, zl6, zl7, zl8, zl9, zl10, zl11, zl12, zl13, zl14, zl15, zl16, zl17, zl18, zl19, zl20, zl22, zl23, zl24, zl25, zl30, zl31, zl32, zl33, zl34, zl35, zl36, zl37, zl38, zl39, zl40, zl41, zl42, zl43, zl45, zl48, zl49, zl57, zl58, zl59, zl60, zl61, zl62, zl63, zl64, zl91, zl93, zl97, zl98, zl99, zl100, zl113, zl114, zl115, zl116, zl117, zl122, zl124, zl125, zl127, zl128, zl136, zl200, zl201, zl202, zl203, zl204, zl205, zl206, zl207, zl208, zl209, zl210, zl211, zl212, zl213, zl214, zl215, zl216, zl217, zl218, zl219, zl220, zl235, zl236, zl255, zl280, zl287, zl900, zl999, zl1000, zl1001, zl1136, zl1960, zl3000, zl3001, zl3002, zl3003, zl3004, zl3005, zl3006, zl3007, zl3008, zl3009, zl268435456, zl1000000000]), z_ck (by omega) (by omega), z_cl (by omega), dullOf_C h1 (by omega), Option.bind_some, k2]
    unfold j_Pa_refresh_60
    by_cases c : d = sD s i
    · rw [if_pos (by rw [c]), show (1 : Int32) = nI 1 from rfl, nI_add]
      refine ih q (i + 1) P (by omega) (by omega) h1 (fun t ht => ?_)
      obtain ⟨d', e1, e2, e3, e4⟩ := h2 t ht
      refine ⟨d', e1, e2, fun hlt => ?_, e4⟩
      by_cases e : t = i
      · subst e
        have : d' = d := by
          rw [k2] at e2
          exact ((nI_eq (by omega) (by omega)).mp e2).symm
        rw [this, c]
      · exact e3 (by omega)
    · have e1 : f_Ja_fill_ABIIB 59 1960 (nI i * (280 : Int32)) ((nI i + (1 : Int32)) * (280 : Int32)) (-2) (u1 P 60 i (nI (sD s i))) = some (rowI (u1 P 60 i (nI (sD s i))) 59 (280 * i) (280 * (i + 1)) (-nI 2)) := by
        rw [show (280 : Int32) = nI 280 from rfl, pk_mul, show (1 : Int32) = nI 1 from rfl, nI_add, pk_mul, fillB (by omega) (by omega) (by omega), Nat.mul_comm i 280, Nat.mul_comm (i + 1) 280]
        rfl
      rw [if_neg (by simp (disch := omega) only [z_add, z_mul, z_sub, z_subm, z_addm, z_lt_t, z_lt_f, z_le_t, z_le_f, z_eq_t, z_eq_f, z_eqm, z_meq, z_mm, z_ltm, z_mlt, z_lem, z_mle, z_cl, z_ck, u1_1, u1_2, u2_1, u2_2, ↓reduceIte, Option.bind_some, Option.bind_none, bd2_some, lb_eq, and_true, and_false, true_and, false_and, not_true_eq_false, not_false_eq_true, eq_self_iff_true, if_true, if_false, Nat.reduceEqDiff, Nat.reduceAdd, Nat.reduceMul, Nat.reduceSub, Bool.false_eq_true, zl0, zl1, zl2, zl3, zl4, zl5, zl6, zl7, zl8, zl9, zl10, zl11, zl12, zl13, zl14, zl15, zl16, zl17, zl18, zl19, zl20, zl22, zl23, zl24, zl25, zl30, zl31, zl32, zl33, zl34, zl35, zl36, zl37, zl38, zl39, zl40, zl41, zl42, zl43, zl45, zl48, zl49, zl57, zl58, zl59, zl60, zl61, zl62, zl63, zl64, zl91, zl93, zl97, zl98, zl99, zl100, zl113, zl114, zl115, zl116, zl117, zl122, zl124, zl125, zl127, zl128, zl136, zl200, zl201, zl202, zl203, zl204, zl205, zl206, zl207, zl208, zl209, zl210, zl211, zl212, zl213, zl214, zl215, zl216, zl217, zl218, zl219, zl220, zl235, zl236, zl255, zl280, zl287, zl900, zl999, zl1000, zl1001, zl1136, zl1960, zl3000, zl3001, zl3002, zl3003, zl3004, zl3005, zl3006, zl3007, zl3008, zl3009, zl268435456, zl1000000000]), Option.bind_some, z_ck (by omega) (by omega), e1, Option.bind_some, show (1 : Int32) = nI 1 from rfl, nI_add]
      have s1 : sm (fun o => o == 59 || o == 60) P (rowI (u1 P 60 i (nI (sD s i))) 59 (280 * i) (280 * (i + 1)) (-nI 2)) := sm_rowI (sm_u1 sm_refl rfl) rfl
      obtain ⟨P2, r1, r2, r3⟩ := ih q (i + 1) (rowI (u1 P 60 i (nI (sD s i))) 59 (280 * i) (280 * (i + 1)) (-nI 2)) (by omega) (by omega) (CSt_sm h1 s1 rfl rfl) (fun t ht => by
        by_cases e : t = i
        · subst e
          refine ⟨sD s t, h9, ?_, fun _ => rfl, fun p hp => Or.inl ?_⟩
          · rw [rowI_1, if_neg (by omega), u1_1, if_pos ⟨rfl, rfl⟩]
          · rw [rowI_1, if_pos (by omega)]
        · obtain ⟨d', f1, f2, f3, f4⟩ := h2 t ht
          refine ⟨d', f1, ?_, fun hlt => f3 (by omega), fun p hp => ?_⟩
          · rw [rowI_1, if_neg (by omega), u1_1, if_neg (fun q => e q.2)]; exact f2
          · rw [rowI_1, if_neg (by omega), u1_1, if_neg (by omega)]; exact f4 p hp)
      exact ⟨P2, r1, r2, sm_trans s1 r3⟩
theorem refresh_C {P : PM} {v : NV} {s : SV} (hs : SVok v s) (h1 : CSt P 21 s) (hc : CCa P v) : ∃ P', f_Pa_refresh P = some P' ∧ CC1 P' v s ∧ sm (fun o => o == 59 || o == 60) P P' :=
  refresh_l hs 7 FU 0 P (by omega) (by have := FU_big; omega) h1 (fun t ht => by
    obtain ⟨d, k1, k2, k3⟩ := hc t ht
    exact ⟨d, k1, k2, fun h => by omega, k3⟩)
/-- rows that exploring changes -/
def xr (o : Nat) : Bool := o == 19 || o == 20 || (58 ≤ o && o ≤ 62)
theorem fnd_xr {P P' : PM} (h : sm fnd P P') : sm xr P P' := sm_mono h (fun o q => by simp [xr] at q; simp [fnd]; omega)
theorem wkr_xr {P P' : PM} (h : sm wkr P P') : sm xr P P' := sm_mono h (fun o q => by simp [xr] at q; simp [wkr]; omega)
theorem addp_mem {L : List Nat} {p x : Nat} : x ∈ addp L p ↔ x ∈ L ∨ x = p := by
  unfold addp
  split
  · rename_i h
    exact ⟨Or.inl, fun q => q.elim id (fun e => e ▸ h)⟩
  · simp
theorem addp_pre {L : List Nat} {p : Nat} : L <+: addp L p := by
  unfold addp
  split
  · exact List.prefix_refl L
  · exact List.prefix_append L [p]
theorem FS_ro {P P' : PM} {L : List Nat} (h : FS P L) (h1 : P'.1 58 = P.1 58) (h2 : P'.1 62 = P.1 62) (h3 : P'.2 61 = P.2 61) : FS P' L := by
  unfold FS at *
  rw [h1, h2, h3]
  exact h
/-- the inner loop of explore: one place, all stations -/
theorem xin_l {v : NV} {s : SV} {sl i : Nat} {k24 : Int32 → Int32 → PM → Option PM} (hv : NVok v) (hs : SVok v s) (hsl : sl < 2 ^ vN v) (q : Nat) (hq : q < 280) :
    ∀ (m n t : Nat) (L : List Nat) (P : PM), t + m = vN v → m < n → CNet P 14 v → CC1 P v s → FS P L → i < L.length → L.getD i 0 = q →
    ∃ L' P', l_Pa_explore_42 k24 n (nI sl) (nI i) (nI t) P = k24 (nI sl) (nI (i + 1)) P' ∧ CC1 P' v s ∧ FS P' L' ∧ L <+: L' ∧ (∀ x, x ∈ L' → x ∈ L ∨ ∃ r, r < vN v ∧ nxp v s sl q r = some x) ∧
      (∀ r x, t ≤ r → r < vN v → nxp v s sl q r = some x → x ∈ L') ∧ (∀ r, t ≤ r → r < vN v → ¬ sl.testBit r = true → known P' v s q r) ∧ (∀ x r, known P v s x r → known P' v s x r) ∧ sm xr P P' := by
  have hN := hv.1
  have h7 := pw_le hN
  intro m
  induction m with
  | zero =>
    intro n t L P ht hn h1 h2 h3 h4 h5
    obtain ⟨n, rfl⟩ : ∃ r, n = r + 1 := ⟨n - 1, by omega⟩
    rw [l_Pa_explore_42, h1.1, if_pos (nI_le (by omega) (by omega)), show (1 : Int32) = nI 1 from rfl, nI_add]
    exact ⟨L, P, rfl, h2, h3, List.prefix_refl L, fun x h => Or.inl h, fun r x a b => by omega, fun r a b => by omega, fun _ _ h => h, sm_refl⟩
  | succ m ih =>
    intro n t L P ht hn h1 h2 h3 h4 h5
    obtain ⟨n, rfl⟩ : ∃ r, n = r + 1 := ⟨n - 1, by omega⟩
    have hl := nodup_len h3.2.2.2.1 h3.2.2.2.2
    have e62 : P.1 62 i = nI q := by rw [h3.2.1 i h4, h5]
    rw [l_Pa_explore_42, h1.1, if_neg (nI_ge (by omega) (by omega)), has_n (by omega) (by omega)]
    unfold j_Pa_explore_79 j_Pa_explore_98
    rw [show (1 : Int32) = nI 1 from rfl, nI_add]
    have pre : ∀ (L1 : List Nat), L <+: L1 → i < L1.length ∧ L1.getD i 0 = q := by
      rintro L1 ⟨L2, rfl⟩
      refine ⟨by rw [List.length_append]; omega, ?_⟩
      rw [← h5]
      simp only [List.getD_eq_getElem?_getD]
      rw [List.getElem?_append_left h4]
    by_cases c : sl.testBit t = true
    · have hnx : nxp v s sl q t = none := by unfold nxp gw; rw [if_pos c]
      rw [if_pos c, if_neg (by decide), if_pos (by decide), find_m, Option.bind_some]
      obtain ⟨L', P', r1, r2, r3, r4, r5, r6, r7, r8, r9⟩ := ih n (t + 1) L P (by omega) (by omega) h1 h2 h3 h4 h5
      refine ⟨L', P', r1, r2, r3, r4, r5, fun r x a b e => ?_, fun r a b e => ?_, r8, r9⟩
      · by_cases er : r = t
        · subst er; rw [hnx] at e; cases e
        · exact r6 r x (by omega) b e
      · by_cases er : r = t
        · subst er; exact absurd c e
        · exact r7 r (by omega) b e
    · obtain ⟨P1, g1, g2, g3, g4, g5⟩ := workOut_C h1 hv h2 hq (show t < vN v by omega)
      have f1 : FS P1 L := FS_ro h3 (g5.1 58 rfl) (g5.1 62 rfl) (g5.2 61 rfl)
      have n1 : CNet P1 14 v := CNet_sm h1 g5 rfl rfl rfl rfl rfl
      have hgw : gw v s sl (q / 40) (q % 40 + 1) t = car v (q / 40) (q % 40 + 1) t (sD s t) := by unfold gw; rw [if_neg c]
      rw [if_neg c, if_pos (by decide), z_ck (by omega) (by omega), z_cl (by omega), e62, g1, bd2_some]
      have hnx0 : (∀ z, car v (q / 40) (q % 40 + 1) t (sD s t) ≠ some (z + 1)) → nxp v s sl q t = none := by
        intro h
        unfold nxp
        rw [hgw]
        cases ec : car v (q / 40) (q % 40 + 1) t (sD s t) with
        | none => rfl
        | some z =>
          cases z with
          | zero => rfl
          | succ z => exact absurd ec (h z)
      have noadd : (∀ z, car v (q / 40) (q % 40 + 1) t (sD s t) ≠ some (z + 1)) → ∃ L' P', l_Pa_explore_42 k24 n (nI sl) (nI i) (nI (t + 1)) P1 = k24 (nI sl) (nI (i + 1)) P' ∧ CC1 P' v s ∧ FS P' L' ∧ L <+: L' ∧ (∀ x, x ∈ L' → x ∈ L ∨ ∃ r, r < vN v ∧ nxp v s sl q r = some x) ∧
          (∀ r x, t ≤ r → r < vN v → nxp v s sl q r = some x → x ∈ L') ∧ (∀ r, t ≤ r → r < vN v → ¬ sl.testBit r = true → known P' v s q r) ∧ (∀ x r, known P v s x r → known P' v s x r) ∧ sm xr P P' := by
        intro h
        have hnx := hnx0 h
        obtain ⟨L', P', r1, r2, r3, r4, r5, r6, r7, r8, r9⟩ := ih n (t + 1) L P1 (by omega) (by omega) n1 g2 f1 h4 h5
        refine ⟨L', P', r1, r2, r3, r4, r5, fun r x a b e => ?_, fun r a b e => ?_, fun x r h => r8 x r (g4 x r h), sm_trans (wkr_xr g5) r9⟩
        · by_cases er : r = t
          · subst er; rw [hnx] at e; cases e
          · exact r6 r x (by omega) b e
        · by_cases er : r = t
          · subst er; exact r8 q r g3
          · exact r7 r (by omega) b e
      cases ec : car v (q / 40) (q % 40 + 1) t (sD s t) with
      | none =>
        rw [oI_n, if_pos (by decide), find_m, Option.bind_some]
        exact noadd (fun z e => by rw [ec] at e; cases e)
      | some z =>
        cases z with
        | zero =>
          rw [oI_s, if_pos (by decide), find_m, Option.bind_some]
          exact noadd (fun z e => by rw [ec] at e; cases e)
        | succ z =>
          have h40 := car_le (show q % 40 + 1 ≤ 40 by omega) ec
          have hnx : nxp v s sl q t = some (40 * t + z) := by unfold nxp; rw [hgw, ec]
          obtain ⟨P2, k1, k2, k3⟩ := find_C f1 (show 40 * t + z < 280 by omega)
          obtain ⟨p1, p2⟩ := pre _ (addp_pre (L := L) (p := 40 * t + z))
          rw [oI_s, if_neg (by simp (disch := omega) only [z_add, z_mul, z_sub, z_subm, z_addm, z_lt_t, z_lt_f, z_le_t, z_le_f, z_eq_t, z_eq_f, z_eqm, z_meq, z_mm, z_ltm, z_mlt, z_lem, z_mle, z_cl, z_ck, u1_1, u1_2, u2_1, u2_2, ↓reduceIte, Option.bind_some, Option.bind_none, bd2_some, lb_eq, and_true, and_false, true_and, false_and, not_true_eq_false, not_false_eq_true, eq_self_iff_true, if_true, if_false, Nat.reduceEqDiff, Nat.reduceAdd, Nat.reduceMul, Nat.reduceSub, Bool.false_eq_true, zl0, zl1, zl2, zl3, zl4, zl5, zl6, zl7, zl8, zl9, zl10, zl11, zl12, zl13, zl14, zl15, zl16, zl17, zl18, zl19, zl20, zl22, zl23, zl24, zl25, zl30, zl31, zl32, zl33, zl34, zl35, zl36, zl37, zl38, zl39, zl40, zl41, zl42, zl43, zl45, zl48, zl49, zl57, zl58, zl59, zl60, zl61, zl62, zl63, zl64, zl91, zl93, zl97, zl98, zl99, zl100, zl113, zl114, zl115, zl116, zl117, zl122, zl124, zl125, zl127, zl128, zl136, zl200, zl201, zl202, zl203, zl204, zl205, zl206, zl207, zl208, zl209, zl210, zl211, zl212, zl213, zl214, zl215, zl216, zl217, zl218, zl219, zl220, zl235, zl236, zl255, zl280, zl287, zl900, zl999, zl1000, zl1001, zl1136, zl1960, zl3000, zl3001, zl3002, zl3003, zl3004, zl3005, zl3006, zl3007, zl3008, zl3009, zl268435456, zl1000000000]), plOf_n (by omega), show 40 * t + (z + 1) - 1 = 40 * t + z by omega, k1, Option.bind_some]
          obtain ⟨L', P', r1, r2, r3, r4, r5, r6, r7, r8, r9⟩ := ih n (t + 1) _ P2 (by omega) (by omega) (CNet_sm n1 k3 rfl rfl rfl rfl rfl) (CC1_ro g2 (k3.1 59 rfl) (k3.1 60 rfl)) k2 p1 p2
          have kk : ∀ x r, known P1 v s x r → known P2 v s x r := fun x r h => by
            unfold known at *
            rw [k3.1 59 rfl]; exact h
          refine ⟨L', P', r1, r2, r3, List.IsPrefix.trans addp_pre r4, fun x h => ?_, fun r x a b e => ?_, fun r a b e => ?_, fun x r h => r8 x r (kk x r (g4 x r h)), sm_trans (wkr_xr g5) (sm_trans (fnd_xr k3) r9)⟩
          · rcases r5 x h with h | h
            · rcases addp_mem.mp h with h | h
              · exact Or.inl h
              · exact Or.inr ⟨t, by omega, by rw [hnx, h]⟩
            · exact Or.inr h
          · by_cases er : r = t
            · subst er
              rw [hnx] at e
              cases e
              exact r4.subset (addp_mem.mpr (Or.inr rfl))
            · exact r6 r x (by omega) b e
          · by_cases er : r = t
            · subst er; exact r8 q r (kk q r g3)
            · exact r7 r (by omega) b e
/-- what exploring lays -/
def Exp (P : PM) (v : NV) (s : SV) (sl p0 : Nat) (L : List Nat) : Prop :=
  FS P L ∧ (∀ p, p ∈ L ↔ Rch (nxp v s sl) (vN v) p0 p) ∧ CC1 P v s ∧ ∀ p, p ∈ L → ∀ t, t < vN v → ¬ sl.testBit t = true → known P v s p t
theorem xout_l {v : NV} {s : SV} {sl p0 : Nat} (hv : NVok v) (hs : SVok v s) (hsl : sl < 2 ^ vN v) :
    ∀ (m n i : Nat) (L : List Nat) (P : PM), i + m = 280 → m < n → CNet P 14 v → CC1 P v s → FS P L → i ≤ L.length → p0 ∈ L → (∀ x, x ∈ L → Rch (nxp v s sl) (vN v) p0 x) →
    (∀ j, j < i → ∀ t, t < vN v → (∀ x, nxp v s sl (L.getD j 0) t = some x → x ∈ L) ∧ (¬ sl.testBit t = true → known P v s (L.getD j 0) t)) →
    ∃ L' P', l_Pa_explore_24 n (nI sl) (nI i) P = some P' ∧ Exp P' v s sl p0 L' ∧ sm xr P P' := by
  intro m
  have fin : ∀ (L : List Nat) (P : PM), CC1 P v s → FS P L → p0 ∈ L → (∀ x, x ∈ L → Rch (nxp v s sl) (vN v) p0 x) →
      (∀ j, j < L.length → ∀ t, t < vN v → (∀ x, nxp v s sl (L.getD j 0) t = some x → x ∈ L) ∧ (¬ sl.testBit t = true → known P v s (L.getD j 0) t)) → Exp P v s sl p0 L := by
    intro L P h2 h3 h5 h6 h7
    have ix : ∀ x, x ∈ L → ∃ j, j < L.length ∧ L.getD j 0 = x := fun x hx => by
      obtain ⟨j, hj, e⟩ := List.getElem_of_mem hx
      exact ⟨j, hj, by rw [List.getD_eq_getElem?_getD, List.getElem?_eq_getElem hj]; exact e⟩
    refine ⟨h3, fun p => ⟨h6 p, fun h => ?_⟩, h2, fun p hp t ht e => ?_⟩
    · refine Rch_min (S := fun x => x ∈ L) h5 (fun q t x hq ht e => ?_) h
      obtain ⟨j, hj, rfl⟩ := ix q hq
      exact (h7 j hj t ht).1 x e
    · obtain ⟨j, hj, rfl⟩ := ix p hp
      exact (h7 j hj t ht).2 e
  induction m with
  | zero =>
    intro n i L P hi hn h1 h2 h3 h4 h5 h6 h7
    obtain ⟨n, rfl⟩ : ∃ r, n = r + 1 := ⟨n - 1, by omega⟩
    have hl := nodup_len h3.2.2.2.1 h3.2.2.2.2
    rw [l_Pa_explore_24, if_pos (show (280 : Int32) ≤ nI i from (nI_le (by omega) (by omega) : nI 280 ≤ nI i))]
    exact ⟨L, P, rfl, fin L P h2 h3 h5 h6 (fun j hj => h7 j (by omega)), sm_refl⟩
  | succ m ih =>
    intro n i L P hi hn h1 h2 h3 h4 h5 h6 h7
    obtain ⟨n, rfl⟩ : ∃ r, n = r + 1 := ⟨n - 1, by omega⟩
    have hl := nodup_len h3.2.2.2.1 h3.2.2.2.2
    rw [l_Pa_explore_24, if_neg (by simp (disch := omega) only [z_add, z_mul, z_sub, z_subm, z_addm, z_lt_t, z_lt_f, z_le_t, z_le_f, z_eq_t, z_eq_f, z_eqm, z_meq, z_mm, z_ltm, z_mlt, z_lem, z_mle, z_cl, z_ck, u1_1, u1_2, u2_1, u2_2, ↓reduceIte, Option.bind_some, Option.bind_none, bd2_some, lb_eq, and_true, and_false, true_and, false_and, not_true_eq_false, not_false_eq_true, eq_self_iff_true, if_true, if_false, Nat.reduceEqDiff, Nat.reduceAdd, Nat.reduceMul, Nat.reduceSub, Bool.false_eq_true, zl0, zl1, zl2, zl3, zl4, zl5, zl6, zl7, zl8, zl9, zl10, zl11, zl12, zl13, zl14, zl15, zl16, zl17, zl18, zl19, zl20, zl22, zl23, zl24, zl25, zl30, zl31, zl32, zl33, zl34, zl35, zl36, zl37, zl38, zl39, zl40, zl41, zl42, zl43, zl45, zl48, zl49, zl57, zl58, zl59, zl60, zl61, zl62, zl63, zl64, zl91, zl93, zl97, zl98, zl99, zl100, zl113, zl114, zl115, zl116, zl117, zl122, zl124, zl125, zl127, zl128, zl136, zl200, zl201, zl202, zl203, zl204, zl205, zl206, zl207, zl208, zl209, zl210, zl211, zl212, zl213, zl214, zl215, zl216, zl217, zl218, zl219, zl220, zl235, zl236, zl255, zl280, zl287, zl900, zl999, zl1000, zl1001, zl1136, zl1960, zl3000, zl3001, zl3002, zl3003, zl3004, zl3005, zl3006, zl3007, zl3008, zl3009, zl268435456, zl1000000000]), h3.1]
    by_cases c : i = L.length
    · rw [if_pos (nI_le (by omega) (by omega))]
      exact ⟨L, P, rfl, fin L P h2 h3 h5 h6 (fun j hj => h7 j (by omega)), sm_refl⟩
    · have hq : L.getD i 0 ∈ L := by
        rw [List.getD_eq_getElem?_getD, List.getElem?_eq_getElem (show i < L.length by omega)]
        exact List.getElem_mem _
      rw [if_neg (nI_ge (by omega) (by omega))]
      obtain ⟨L', P', r1, r2, r3, r4, r5, r6, r7, r8, r9⟩ := xin_l (k24 := fun z0 z1 Pz => l_Pa_explore_24 n z0 z1 Pz) (i := i) hv hs hsl (L.getD i 0) (h3.2.2.2.2 _ hq) (vN v) FU 0 L P (by omega) (by have := FU_big; have := hv.1; omega) h1 h2 h3 (by omega) rfl
      obtain ⟨L2, hL2⟩ := r4
      have gd : ∀ j, j < L.length → L'.getD j 0 = L.getD j 0 := fun j hj => by
        rw [← hL2]
        simp only [List.getD_eq_getElem?_getD]
        rw [List.getElem?_append_left hj]
      have hlen : L.length ≤ L'.length := by rw [← hL2, List.length_append]; omega
      obtain ⟨L3, P3, q1, q2, q3⟩ := ih n (i + 1) L' P' (by omega) (by omega) (CNet_sm h1 r9 rfl rfl rfl rfl rfl) r2 r3 (by omega) (by rw [← hL2]; simp [h5]) (fun x hx => by
        rcases r5 x hx with h | ⟨r, hr, e⟩
        · exact h6 x h
        · exact Rch_s (h6 _ hq) hr e) (fun j hj t ht => by
        by_cases e : j = i
        · subst e
          rw [gd j (by omega)]
          exact ⟨fun x e2 => r6 t x (by omega) ht e2, fun e2 => r7 t (by omega) ht e2⟩
        · rw [gd j (by omega)]
          obtain ⟨e1, e2⟩ := h7 j (by omega) t ht
          exact ⟨fun x e3 => by rw [← hL2]; simp [e1 x e3], fun e3 => r8 _ _ (e2 e3)⟩)
      exact ⟨L3, P3, by rw [show (0 : Int32) = nI 0 from rfl, r1]; exact q1, q2, sm_trans r9 q3⟩
theorem explore_C {P : PM} {v : NV} {s : SV} {sl p0 : Nat} (hn : CNet P 14 v) (hv : NVok v) (h1 : CSt P 21 s) (hs : SVok v s) (hc : CCa P v) (hsl : sl < 2 ^ vN v) (hp : p0 < 280) :
    ∃ L P', f_Pa_explore (nI p0) (nI sl) P = some P' ∧ Exp P' v s sl p0 L ∧ sm xr P P' := by
  obtain ⟨P1, g1, g2, g3⟩ := refresh_C hs h1 hc
  obtain ⟨P2, hP2⟩ : ∃ P2, P2 = u1 (rowL P1 61 0 7 0) 58 6 (0 : Int32) := ⟨_, rfl⟩
  have s2 : sm xr P P2 := by
    rw [hP2]
    exact sm_u1 (sm_rowL (sm_mono g3 (fun o q => by simp [xr] at q; simp; omega)) rfl) rfl
  have f2 : FS P2 [] := by
    rw [hP2]
    refine ⟨by rw [u1_1, if_pos ⟨rfl, rfl⟩]; rfl, (fun i hi => by cases hi), fun st hst => ⟨0, by decide, ?_, fun z => by simp⟩, List.nodup_nil, (fun p hp => by cases hp)⟩
    rw [u1_2, rowL_2, if_pos ⟨rfl, by omega, hst⟩]
    rfl
  obtain ⟨P3, k1, k2, k3⟩ := find_C f2 hp
  have c2 : CC1 P2 v s := CC1_ro g2 (by rw [hP2]; funext j; rw [u1_1, if_neg (by omega), rowL_1]) (by rw [hP2]; funext j; rw [u1_1, if_neg (by omega), rowL_1])
  have s3 : sm xr P P3 := sm_trans s2 (fnd_xr k3)
  have ea : addp [] p0 = [p0] := by unfold addp; simp
  rw [ea] at k2
  obtain ⟨L, P4, r1, r2, r3⟩ := xout_l (p0 := p0) hv hs hsl 280 FU 0 [p0] P3 (by omega) (by have := FU_big; omega) (CNet_sm hn s3 rfl rfl rfl rfl rfl) (CC1_ro c2 (k3.1 59 rfl) (k3.1 60 rfl)) k2 (by simp) (by simp) (fun x hx => by simp at hx; subst hx; exact Rch_0) (fun j hj => by omega)
  refine ⟨L, P4, ?_, r2, sm_trans s3 r3⟩
  unfold f_Pa_explore
  rw [g1, Option.bind_some, fillAJJ (by omega), Option.bind_some, ← hP2, k1, Option.bind_some]
  exact r1
