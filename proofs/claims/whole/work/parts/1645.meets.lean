/-! meets: where two that are let off meet -/
/-- nothing is forgotten where all was as it is -/
theorem refresh_k {P : PM} {v : NV} {s : SV} (h1 : CSt P 21 s) (hc : CC1 P v s) : f_Pa_refresh P = some P := by
  have loop : ∀ (m n i : Nat), i + m = 7 → m < n → l_Pa_refresh_2 n (nI i) P = some P := by
    intro m
    induction m with
    | zero =>
      intro n i hi hn
      obtain ⟨n, rfl⟩ : ∃ r, n = r + 1 := ⟨n - 1, by omega⟩
      rw [l_Pa_refresh_2, if_pos (show (7 : Int32) ≤ nI i from (nI_le (by omega) (by omega) : nI 7 ≤ nI i))]
    | succ m ih =>
      intro n i hi hn
      obtain ⟨n, rfl⟩ : ∃ r, n = r + 1 := ⟨n - 1, by omega⟩
      rw [l_Pa_refresh_2, if_neg (by simp (disch := omega) only [z_add, z_mul, z_sub, z_subm, z_addm, z_lt_t, z_lt_f, z_le_t, z_le_f, z_eq_t, z_eq_f, z_eqm, z_meq, z_mm, z_ltm, z_mlt, z_lem, z_mle, z_cl, z_ck, u1_1, u1_2, u2_1, u2_2, ↓reduceIte, Option.bind_some, Option.bind_none, bd2_some, lb_eq, and_true, and_false, true_and, false_and, not_true_eq_false, not_false_eq_true, eq_self_iff_true, if_true, if_false, Nat.reduceEqDiff, Nat.reduceAdd, Nat.reduceMul, Nat.reduceSub, Bool.false_eq_true, zl0, zl1, zl2, zl3, zl4, zl5, zl6, zl7, zl8, zl9, zl10, zl11, zl12, zl13, zl14, zl15, zl16, zl17, zl18, zl19, zl20, zl22, zl23, zl24, zl25, zl30, zl31, zl32, zl33, zl34, zl35, zl36, zl37, zl38, zl39, zl40, zl41, zl42, zl43, zl45, zl48, zl49, zl57, zl58, zl59, zl60, zl61, zl62, zl63, zl64, zl91, zl93, zl97, zl98, zl99, zl100, zl113, zl114, zl115, zl116, zl117, zl122, zl124, zl125, zl127, zl128, zl136, zl200, zl201, zl202, zl203, zl204, zl205, zl206, zl207, zl208, zl209, zl210, zl211, zl212, zl213, zl214, zl215, zl216, zl217, zl218, zl219, zl220, zl235, zl236, zl255, zl280, zl287, zl900, zl999, zl1000, zl1001, zl1136, zl1960, zl3000, zl3001, zl3002, zl3003, zl3004, zl3005, zl3006, zl3007, zl3008, zl3009, zl268435456, zl1000000000]), z_ck (by omega) (by omega), dullOf_C h1 (by omega), Option.bind_some, z_cl (by omega), (hc i (by omega)).1, if_pos rfl]
      unfold j_Pa_refresh_60
      rw [show (1 : Int32) = nI 1 from rfl, nI_add]
      exact ih n (i + 1) (by omega) (by omega)
  exact loop 7 FU 0 (by omega) (by have := FU_big; omega)
theorem xout_k {v : NV} {s : SV} {sl p0 : Nat} (hv : NVok v) (hs : SVok v s) (hsl : sl < 2 ^ vN v) :
    ∀ (m n i : Nat) (L : List Nat) (P : PM), i + m = 280 → m < n → CNet P 14 v → CC1 P v s → FS P L → i ≤ L.length → p0 ∈ L → (∀ x, x ∈ L → Rch (nxp v s sl) (vN v) p0 x) →
    (∀ j, j < i → ∀ t, t < vN v → (∀ x, nxp v s sl (L.getD j 0) t = some x → x ∈ L) ∧ (¬ sl.testBit t = true → known P v s (L.getD j 0) t)) →
    ∃ L' P', l_Pa_explore_24 n (nI sl) (nI i) P = some P' ∧ Exp P' v s sl p0 L' ∧ (∀ x r, known P v s x r → known P' v s x r) ∧ sm xr P P' := by
  intro m
  have fin : ∀ (L : List Nat) (P : PM), CC1 P v s → FS P L → p0 ∈ L → (∀ x, x ∈ L → Rch (nxp v s sl) (vN v) p0 x) →
      (∀ j, j < L.length → ∀ t, t < vN v → (∀ x, nxp v s sl (L.getD j 0) t = some x → x ∈ L) ∧ (¬ sl.testBit t = true → known P v s (L.getD j 0) t)) → Exp P v s sl p0 L := by
    intro L P h2 h3 h5 h6 h7
    have ix : ∀ x, x ∈ L → ∃ j, j < L.length ∧ L.getD j 0 = x := fun x hx => by
      obtain ⟨j, hj, e⟩ := List.getElem_of_mem hx
      exact ⟨j, hj, by rw [List.getD_eq_getElem?_getD, List.getElem?_eq_getElem hj]; exact e⟩
    refine ⟨h3, fun p => ⟨h6 p, fun h => ?_⟩, h2, fun p hp t ht e => ?_⟩
    · refine Rch_min (S := fun x => x ∈ L) h5 (fun q t x hq ht e => ?_) h
      obtain ⟨j, hj, rfl⟩ := ix q hq
      exact (h7 j hj t ht).1 x e
    · obtain ⟨j, hj, rfl⟩ := ix p hp
      exact (h7 j hj t ht).2 e
  induction m with
  | zero =>
    intro n i L P hi hn h1 h2 h3 h4 h5 h6 h7
    obtain ⟨n, rfl⟩ : ∃ r, n = r + 1 := ⟨n - 1, by omega⟩
    have hl := nodup_len h3.2.2.2.1 h3.2.2.2.2
    rw [l_Pa_explore_24, if_pos (show (280 : Int32) ≤ nI i from (nI_le (by omega) (by omega) : nI 280 ≤ nI i))]
    exact ⟨L, P, rfl, fin L P h2 h3 h5 h6 (fun j hj => h7 j (by omega)), fun _ _ h => h, sm_refl⟩
  | succ m ih =>
    intro n i L P hi hn h1 h2 h3 h4 h5 h6 h7
    obtain ⟨n, rfl⟩ : ∃ r, n = r + 1 := ⟨n - 1, by omega⟩
    have hl := nodup_len h3.2.2.2.1 h3.2.2.2.2
    rw [l_Pa_explore_24, if_neg (by simp (disch := omega) only [z_add, z_mul, z_sub, z_subm, z_addm, z_lt_t, z_lt_f, z_le_t, z_le_f, z_eq_t, z_eq_f, z_eqm, z_meq, z_mm, z_ltm, z_mlt, z_lem, z_mle, z_cl, z_ck, u1_1, u1_2, u2_1, u2_2, ↓reduceIte, Option.bind_some, Option.bind_none, bd2_some, lb_eq, and_true, and_false, true_and, false_and, not_true_eq_false, not_false_eq_true, eq_self_iff_true, if_true, if_false, Nat.reduceEqDiff, Nat.reduceAdd, Nat.reduceMul, Nat.reduceSub, Bool.false_eq_true, zl0, zl1, zl2, zl3, zl4, zl5, zl6, zl7, zl8, zl9, zl10, zl11, zl12, zl13, zl14, zl15, zl16, zl17, zl18, zl19, zl20, zl22, zl23, zl24, zl25, zl30, zl31, zl32, zl33, zl34, zl35, zl36, zl37, zl38, zl39, zl40, zl41, zl42, zl43, zl45, zl48, zl49, zl57, zl58, zl59, zl60, zl61, zl62, zl63, zl64, zl91, zl93, zl97, zl98, zl99, zl100, zl113, zl114, zl115, zl116, zl117, zl122, zl124, zl125, zl127, zl128, zl136, zl200, zl201, zl202, zl203, zl204, zl205, zl206, zl207, zl208, zl209, zl210, zl211, zl212, zl213, zl214, zl215, zl216, zl217, zl218, zl219, zl220, zl235, zl236, zl255, zl280, zl287, zl900, zl999, zl1000, zl1001, zl1136, zl1960, zl3000, zl3001, zl3002, zl3003, zl3004, zl3005, zl3006, zl3007, zl3008, zl3009, zl268435456, zl1000000000]), h3.1]
    by_cases c : i = L.length
    · rw [if_pos (nI_le (by omega) (by omega))]
      exact ⟨L, P, rfl, fin L P h2 h3 h5 h6 (fun j hj => h7 j (by omega)), fun _ _ h => h, sm_refl⟩
    · have hq : L.getD i 0 ∈ L := by
        rw [List.getD_eq_getElem?_getD, List.getElem?_eq_getElem (show i < L.length by omega)]
        exact List.getElem_mem _
      rw [if_neg (nI_ge (by omega) (by omega))]
      obtain ⟨L', P', r1, r2, r3, r4, r5, r6, r7, r8, r9⟩ := xin_l (k24 := fun z0 z1 Pz => l_Pa_explore_24 n z0 z1 Pz) (i := i) hv hs hsl (L.getD i 0) (h3.2.2.2.2 _ hq) (vN v) FU 0 L P (by omega) (by have := FU_big; have := hv.1; omega) h1 h2 h3 (by omega) rfl
      obtain ⟨L2, hL2⟩ := r4
      have gd : ∀ j, j < L.length → L'.getD j 0 = L.getD j 0 := fun j hj => by
        rw [← hL2]
        simp only [List.getD_eq_getElem?_getD]
        rw [List.getElem?_append_left hj]
      have hlen : L.length ≤ L'.length := by rw [← hL2, List.length_append]; omega
      obtain ⟨L3, P3, q1, q2, q4, q3⟩ := ih n (i + 1) L' P' (by omega) (by omega) (CNet_sm h1 r9 rfl rfl rfl rfl rfl) r2 r3 (by omega) (by rw [← hL2]; simp [h5]) (fun x hx => by
        rcases r5 x hx with h | ⟨r, hr, e⟩
        · exact h6 x h
        · exact Rch_s (h6 _ hq) hr e) (fun j hj t ht => by
        by_cases e : j = i
        · subst e
          rw [gd j (by omega)]
          exact ⟨fun x e2 => r6 t x (by omega) ht e2, fun e2 => r7 t (by omega) ht e2⟩
        · rw [gd j (by omega)]
          obtain ⟨e1, e2⟩ := h7 j (by omega) t ht
          exact ⟨fun x e3 => by rw [← hL2]; simp [e1 x e3], fun e3 => r8 _ _ (e2 e3)⟩)
      exact ⟨L3, P3, by rw [show (0 : Int32) = nI 0 from rfl, r1]; exact q1, q2, fun x r h => q4 x r (r8 x r h), sm_trans r9 q3⟩
theorem explore_K {P : PM} {v : NV} {s : SV} {sl p0 : Nat} (hn : CNet P 14 v) (hv : NVok v) (h1 : CSt P 21 s) (hs : SVok v s) (hc : CC1 P v s) (hsl : sl < 2 ^ vN v) (hp : p0 < 280) :
    ∃ L P', f_Pa_explore (nI p0) (nI sl) P = some P' ∧ Exp P' v s sl p0 L ∧ (∀ x r, known P v s x r → known P' v s x r) ∧ sm xr P P' := by
  have g1 := refresh_k h1 hc
  obtain ⟨P2, hP2⟩ : ∃ P2, P2 = u1 (rowL P 61 0 7 0) 58 6 (0 : Int32) := ⟨_, rfl⟩
  have s2 : sm xr P P2 := by
    rw [hP2]
    exact sm_u1 (sm_rowL sm_refl rfl) rfl
  have f2 : FS P2 [] := by
    rw [hP2]
    refine ⟨by rw [u1_1, if_pos ⟨rfl, rfl⟩]; rfl, (fun i hi => by cases hi), fun st hst => ⟨0, by decide, ?_, fun z => by simp⟩, List.nodup_nil, (fun p hp => by cases hp)⟩
    rw [u1_2, rowL_2, if_pos ⟨rfl, by omega, hst⟩]
    rfl
  obtain ⟨P3, k1, k2, k3⟩ := find_C f2 hp
  have c2 : CC1 P2 v s := CC1_ro hc (by rw [hP2]; funext j; rw [u1_1, if_neg (by omega), rowL_1]) (by rw [hP2]; funext j; rw [u1_1, if_neg (by omega), rowL_1])
  have s3 : sm xr P P3 := sm_trans s2 (fnd_xr k3)
  have ea : addp [] p0 = [p0] := by unfold addp; simp
  rw [ea] at k2
  obtain ⟨L, P4, r1, r2, r4, r3⟩ := xout_k (p0 := p0) hv hs hsl 280 FU 0 [p0] P3 (by omega) (by have := FU_big; omega) (CNet_sm hn s3 rfl rfl rfl rfl rfl) (CC1_ro c2 (k3.1 59 rfl) (k3.1 60 rfl)) k2 (by simp) (by simp) (fun x hx => by simp at hx; subst hx; exact Rch_0) (fun j hj => by omega)
  have kk : ∀ x r, known P v s x r → known P3 v s x r := fun x r h => by
    have e59 : P3.1 59 = P.1 59 := by rw [k3.1 59 rfl, hP2]; funext j; rw [u1_1, if_neg (by omega), rowL_1]
    unfold known at *
    rw [e59]; exact h
  refine ⟨L, P4, ?_, r2, fun x r h => r4 x r (kk x r h), sm_trans s3 r3⟩
  unfold f_Pa_explore
  rw [g1, Option.bind_some, fillAJJ (by omega), Option.bind_some, ← hP2, k1, Option.bind_some]
  exact r1
theorem ff_at {f : Nat → Bool} {k : Nat} : ∀ {n i : Nat}, (∀ j, i ≤ j → j < k → f j = false) → f k = true → i ≤ k → k < i + n → ff f n i = some k
  | 0, i, _, _, h1, h2 => by omega
  | n + 1, i, h, hk, h1, h2 => by
    unfold ff
    by_cases e : i = k
    · rw [if_pos (by rw [e]; exact hk), e]
    · rw [if_neg (by rw [h i (Nat.le_refl _) (by omega)]; decide)]
      exact ff_at (fun j a b => h j (by omega) b) hk (by omega) (by omega)
theorem ff_no {f : Nat → Bool} : ∀ {n i : Nat}, (∀ j, i ≤ j → j < i + n → f j = false) → ff f n i = none
  | 0, _, _ => rfl
  | n + 1, i, h => by
    unfold ff
    rw [if_neg (by rw [h i (Nat.le_refl _) (by omega)]; decide)]
    exact ff_no (fun j a b => h j (by omega) (by omega))
noncomputable def mtb (A B : Nat → Nat) : Bool := pb (∃ j, j < 7 ∧ 0 < A j ∧ 0 < B j)
theorem mtb_f {A B : Nat → Nat} (h : ∀ j, j < 7 → ¬ (0 < A j ∧ 0 < B j)) : mtb A B = false := Bool.eq_false_iff.mpr (fun q => by
  unfold mtb at q
  obtain ⟨j, hj, e⟩ := pb_t.mp q
  exact h j hj e)
theorem mtb_y {A B : Nat → Nat} {j : Nat} (hj : j < 7) (h1 : 0 < A j) (h2 : 0 < B j) : mtb A B = true := pb_t.mpr ⟨j, hj, h1, h2⟩
theorem isMet_C {P : PM} {A B : Nat → Nat} (hA : GAr P 66 A) (hB : GAr P 67 B) (h1 : ∀ j, A j ≤ 40) (h2 : ∀ j, B j ≤ 40) : f_Sp_isMet P = some (flg (mtb A B)) := by
  have loop : ∀ (m n i : Nat), i + m = 7 → m < n → (∀ j, j < i → ¬ (0 < A j ∧ 0 < B j)) → l_Sp_isMet_2 n (nI i) P = some (flg (mtb A B)) := by
    intro m
    induction m with
    | zero =>
      intro n i hi hn h
      obtain ⟨n, rfl⟩ : ∃ r, n = r + 1 := ⟨n - 1, by omega⟩
      rw [l_Sp_isMet_2, if_pos (show (7 : Int32) ≤ nI i from (nI_le (by omega) (by omega) : nI 7 ≤ nI i)), mtb_f (fun j hj => h j (by omega))]
      rfl
    | succ m ih =>
      intro n i hi hn h
      obtain ⟨n, rfl⟩ : ∃ r, n = r + 1 := ⟨n - 1, by omega⟩
      have a1 := h1 i
      have b1 := h2 i
      rw [l_Sp_isMet_2, if_neg (by simp (disch := omega) only [z_add, z_mul, z_sub, z_subm, z_addm, z_lt_t, z_lt_f, z_le_t, z_le_f, z_eq_t, z_eq_f, z_eqm, z_meq, z_mm, z_ltm, z_mlt, z_lem, z_mle, z_cl, z_ck, u1_1, u1_2, u2_1, u2_2, ↓reduceIte, Option.bind_some, Option.bind_none, bd2_some, lb_eq, and_true, and_false, true_and, false_and, not_true_eq_false, not_false_eq_true, eq_self_iff_true, if_true, if_false, Nat.reduceEqDiff, Nat.reduceAdd, Nat.reduceMul, Nat.reduceSub, Bool.false_eq_true, zl0, zl1, zl2, zl3, zl4, zl5, zl6, zl7, zl8, zl9, zl10, zl11, zl12, zl13, zl14, zl15, zl16, zl17, zl18, zl19, zl20, zl22, zl23, zl24, zl25, zl30, zl31, zl32, zl33, zl34, zl35, zl36, zl37, zl38, zl39, zl40, zl41, zl42, zl43, zl45, zl48, zl49, zl57, zl58, zl59, zl60, zl61, zl62, zl63, zl64, zl91, zl93, zl97, zl98, zl99, zl100, zl113, zl114, zl115, zl116, zl117, zl122, zl124, zl125, zl127, zl128, zl136, zl200, zl201, zl202, zl203, zl204, zl205, zl206, zl207, zl208, zl209, zl210, zl211, zl212, zl213, zl214, zl215, zl216, zl217, zl218, zl219, zl220, zl235, zl236, zl255, zl280, zl287, zl900, zl999, zl1000, zl1001, zl1136, zl1960, zl3000, zl3001, zl3002, zl3003, zl3004, zl3005, zl3006, zl3007, zl3008, zl3009, zl268435456, zl1000000000]), z_ck (by omega) (by omega), z_cl (by omega), hA i (by omega)]
      unfold j_Sp_isMet_28
      rw [show (1 : Int32) = nI 1 from rfl, nI_add]
      by_cases c : A i = 0
      · rw [c, if_pos (by decide)]
        exact ih n (i + 1) (by omega) (by omega) (fun j hj => by
          by_cases e : j = i
          · subst e; omega
          · exact h j (by omega))
      · rw [if_neg (by simp (disch := omega) only [z_add, z_mul, z_sub, z_subm, z_addm, z_lt_t, z_lt_f, z_le_t, z_le_f, z_eq_t, z_eq_f, z_eqm, z_meq, z_mm, z_ltm, z_mlt, z_lem, z_mle, z_cl, z_ck, u1_1, u1_2, u2_1, u2_2, ↓reduceIte, Option.bind_some, Option.bind_none, bd2_some, lb_eq, and_true, and_false, true_and, false_and, not_true_eq_false, not_false_eq_true, eq_self_iff_true, if_true, if_false, Nat.reduceEqDiff, Nat.reduceAdd, Nat.reduceMul, Nat.reduceSub, Bool.false_eq_true, zl0, zl1, zl2, zl3, zl4, zl5, zl6, zl7, zl8, zl9, zl10, zl11, zl12, zl13, zl14, zl15, zl16, zl17, zl18, zl19, zl20, zl22, zl23, zl24, zl25, zl30, zl31, zl32, zl33, zl34, zl35, zl36, zl37, zl38, zl39, zl40, zl41, zl42, zl43, zl45, zl48, zl49, zl57, zl58, zl59, zl60, zl61, zl62, zl63, zl64, zl91, zl93, zl97, zl98, zl99, zl100, zl113, zl114, zl115, zl116, zl117, zl122, zl124, zl125, zl127, zl128, zl136, zl200, zl201, zl202, zl203, zl204, zl205, zl206, zl207, zl208, zl209, zl210, zl211, zl212, zl213, zl214, zl215, zl216, zl217, zl218, zl219, zl220, zl235, zl236, zl255, zl280, zl287, zl900, zl999, zl1000, zl1001, zl1136, zl1960, zl3000, zl3001, zl3002, zl3003, zl3004, zl3005, zl3006, zl3007, zl3008, zl3009, zl268435456, zl1000000000]), z_ck (by omega) (by omega), hB i (by omega)]
        by_cases c2 : B i = 0
        · rw [c2, if_pos (by decide)]
          exact ih n (i + 1) (by omega) (by omega) (fun j hj => by
            by_cases e : j = i
            · subst e; omega
            · exact h j (by omega))
        · rw [if_neg (by simp (disch := omega) only [z_add, z_mul, z_sub, z_subm, z_addm, z_lt_t, z_lt_f, z_le_t, z_le_f, z_eq_t, z_eq_f, z_eqm, z_meq, z_mm, z_ltm, z_mlt, z_lem, z_mle, z_cl, z_ck, u1_1, u1_2, u2_1, u2_2, ↓reduceIte, Option.bind_some, Option.bind_none, bd2_some, lb_eq, and_true, and_false, true_and, false_and, not_true_eq_false, not_false_eq_true, eq_self_iff_true, if_true, if_false, Nat.reduceEqDiff, Nat.reduceAdd, Nat.reduceMul, Nat.reduceSub, Bool.false_eq_true, zl0, zl1, zl2, zl3, zl4, zl5, zl6, zl7, zl8, zl9, zl10, zl11, zl12, zl13, zl14, zl15, zl16, zl17, zl18, zl19, zl20, zl22, zl23, zl24, zl25, zl30, zl31, zl32, zl33, zl34, zl35, zl36, zl37, zl38, zl39, zl40, zl41, zl42, zl43, zl45, zl48, zl49, zl57, zl58, zl59, zl60, zl61, zl62, zl63, zl64, zl91, zl93, zl97, zl98, zl99, zl100, zl113, zl114, zl115, zl116, zl117, zl122, zl124, zl125, zl127, zl128, zl136, zl200, zl201, zl202, zl203, zl204, zl205, zl206, zl207, zl208, zl209, zl210, zl211, zl212, zl213, zl214, zl215, zl216, zl217, zl218, zl219, zl220, zl235, zl236, zl255, zl280, zl287, zl900, zl999, zl1000, zl1001, zl1136, zl1960, zl3000, zl3001, zl3002, zl3003, zl3004, zl3005, zl3006, zl3007, zl3008, zl3009, zl268435456, zl1000000000]), mtb_y (j := i) (by omega) (by omega) (by omega)]
          rfl
  exact loop 7 FU 0 (by omega) (by have := FU_big; omega) (fun j hj => by omega)
theorem haveBoth_M {P : PM} {v : NV} {s : SV} {S1 S2 : Nat → Prop} {A B : Nat → Nat} (hv : NVok v) (hX : MKn P v s) (hA : GAr P 120 A) (hB : GAr P 122 B) (h1 : Pos S1 (vN v) A) (h2 : Pos S2 (vN v) B) : f_Mo_haveBoth P = some (flg (mtb A B)) := by
  have hN := hv.1
  have loop : ∀ (m n i : Nat), i + m = vN v → m < n → (∀ j, j < i → ¬ (0 < A j ∧ 0 < B j)) → l_Mo_haveBoth_2 n (nI i) P = some (flg (mtb A B)) := by
    intro m
    induction m with
    | zero =>
      intro n i hi hn h
      obtain ⟨n, rfl⟩ : ∃ r, n = r + 1 := ⟨n - 1, by omega⟩
      rw [l_Mo_haveBoth_2, show P.1 110 (1 : Int32).toNatClampNeg = nI (vN v) from hX.1.1, if_pos (nI_le (by omega) (by omega)), mtb_f (fun j hj q => by
        have := ((h1 j).2 q.1).1
        exact h j (by omega) q)]
      rfl
    | succ m ih =>
      intro n i hi hn h
      obtain ⟨n, rfl⟩ : ∃ r, n = r + 1 := ⟨n - 1, by omega⟩
      have a1 := (h1 i).1
      have b1 := (h2 i).1
      rw [l_Mo_haveBoth_2, show P.1 110 (1 : Int32).toNatClampNeg = nI (vN v) from hX.1.1, if_neg (nI_ge (by omega) (by omega)), z_ck (by omega) (by omega), z_cl (by omega), hA i (by omega)]
      unfold j_Mo_haveBoth_32
      rw [show (1 : Int32) = nI 1 from rfl, nI_add]
      by_cases c : A i = 0
      · rw [c, if_pos (by decide)]
        exact ih n (i + 1) (by omega) (by omega) (fun j hj => by
          by_cases e : j = i
          · subst e; omega
          · exact h j (by omega))
      · rw [if_neg (by simp (disch := omega) only [z_add, z_mul, z_sub, z_subm, z_addm, z_lt_t, z_lt_f, z_le_t, z_le_f, z_eq_t, z_eq_f, z_eqm, z_meq, z_mm, z_ltm, z_mlt, z_lem, z_mle, z_cl, z_ck, u1_1, u1_2, u2_1, u2_2, ↓reduceIte, Option.bind_some, Option.bind_none, bd2_some, lb_eq, and_true, and_false, true_and, false_and, not_true_eq_false, not_false_eq_true, eq_self_iff_true, if_true, if_false, Nat.reduceEqDiff, Nat.reduceAdd, Nat.reduceMul, Nat.reduceSub, Bool.false_eq_true, zl0, zl1, zl2, zl3, zl4, zl5, zl6, zl7, zl8, zl9, zl10, zl11, zl12, zl13, zl14, zl15, zl16, zl17, zl18, zl19, zl20, zl22, zl23, zl24, zl25, zl30, zl31, zl32, zl33, zl34, zl35, zl36, zl37, zl38, zl39, zl40, zl41, zl42, zl43, zl45, zl48, zl49, zl57, zl58, zl59, zl60, zl61, zl62, zl63, zl64, zl91, zl93, zl97, zl98, zl99, zl100, zl113, zl114, zl115, zl116, zl117, zl122, zl124, zl125, zl127, zl128, zl136, zl200, zl201, zl202, zl203, zl204, zl205, zl206, zl207, zl208, zl209, zl210, zl211, zl212, zl213, zl214, zl215, zl216, zl217, zl218, zl219, zl220, zl235, zl236, zl255, zl280, zl287, zl900, zl999, zl1000, zl1001, zl1136, zl1960, zl3000, zl3001, zl3002, zl3003, zl3004, zl3005, zl3006, zl3007, zl3008, zl3009, zl268435456, zl1000000000]), z_ck (by omega) (by omega), hB i (by omega)]
        by_cases c2 : B i = 0
        · rw [c2, if_pos (by decide)]
          exact ih n (i + 1) (by omega) (by omega) (fun j hj => by
            by_cases e : j = i
            · subst e; omega
            · exact h j (by omega))
        · rw [if_neg (by simp (disch := omega) only [z_add, z_mul, z_sub, z_subm, z_addm, z_lt_t, z_lt_f, z_le_t, z_le_f, z_eq_t, z_eq_f, z_eqm, z_meq, z_mm, z_ltm, z_mlt, z_lem, z_mle, z_cl, z_ck, u1_1, u1_2, u2_1, u2_2, ↓reduceIte, Option.bind_some, Option.bind_none, bd2_some, lb_eq, and_true, and_false, true_and, false_and, not_true_eq_false, not_false_eq_true, eq_self_iff_true, if_true, if_false, Nat.reduceEqDiff, Nat.reduceAdd, Nat.reduceMul, Nat.reduceSub, Bool.false_eq_true, zl0, zl1, zl2, zl3, zl4, zl5, zl6, zl7, zl8, zl9, zl10, zl11, zl12, zl13, zl14, zl15, zl16, zl17, zl18, zl19, zl20, zl22, zl23, zl24, zl25, zl30, zl31, zl32, zl33, zl34, zl35, zl36, zl37, zl38, zl39, zl40, zl41, zl42, zl43, zl45, zl48, zl49, zl57, zl58, zl59, zl60, zl61, zl62, zl63, zl64, zl91, zl93, zl97, zl98, zl99, zl100, zl113, zl114, zl115, zl116, zl117, zl122, zl124, zl125, zl127, zl128, zl136, zl200, zl201, zl202, zl203, zl204, zl205, zl206, zl207, zl208, zl209, zl210, zl211, zl212, zl213, zl214, zl215, zl216, zl217, zl218, zl219, zl220, zl235, zl236, zl255, zl280, zl287, zl900, zl999, zl1000, zl1001, zl1136, zl1960, zl3000, zl3001, zl3002, zl3003, zl3004, zl3005, zl3006, zl3007, zl3008, zl3009, zl268435456, zl1000000000]), mtb_y (j := i) (by omega) (by omega) (by omega)]
          rfl
  exact loop (vN v) FU 0 (by omega) (by have := FU_big; omega) (fun j hj => by omega)
theorem meet_l {v : NV} {s : SV} {sl R : Nat} {S1 S2 : Nat → Prop} {A B : Nat → Nat} {f : Nat → Bool} (hv : NVok v) (hsl : sl < 128) (hA : Pos S1 (vN v) A) (hB : Pos S2 (vN v) B) (hR : R ≤ 280)
    (hS1 : ∀ w z t k, 1 ≤ z → z ≤ 40 → S1 (40 * w + z - 1) → gw v s sl w z t = some (k + 1) → S1 (40 * t + k))
    (hS2 : ∀ w z t k, 1 ≤ z → z ≤ 40 → S2 (40 * w + z - 1) → gw v s sl w z t = some (k + 1) → S2 (40 * t + k))
    (hR1 : ∀ i, i < R → (rd v s sl (itr v s sl A i)).2 = true ∨ (rd v s sl (itr v s sl B i)).2 = true) (hR2 : (rd v s sl (itr v s sl A R)).2 = false ∧ (rd v s sl (itr v s sl B R)).2 = false)
    (hf : ∀ i, f i = mtb (itr v s sl A i) (itr v s sl B i)) :
    ∀ (m n i : Nat) (P : PM), i + m = R + 1 → m < n → (∀ j, j ≤ i → f j = false) → GKn P v s sl S1 → GKn P v s sl S2 → P.1 21 3 = nI sl → GAr P 66 (itr v s sl A i) → GAr P 67 (itr v s sl B i) →
    ∃ P', l_Sp_meeting_62 n (nI (if i ≤ R then 1 else 0)) (nI (i + 1)) P = some (oI (ff f (R + 1) 0), P') ∧ sm og P P' := by
  intro m
  induction m with
  | zero =>
    intro n i P hi hn h0 hX1 hX2 h21 h66 h67
    obtain ⟨n, rfl⟩ : ∃ r, n = r + 1 := ⟨n - 1, by omega⟩
    rw [l_Sp_meeting_62, if_neg (show ¬ (999 : Int32) < nI (i + 1) by simp (disch := omega) only [z_add, z_mul, z_sub, z_subm, z_addm, z_lt_t, z_lt_f, z_le_t, z_le_f, z_eq_t, z_eq_f, z_eqm, z_meq, z_mm, z_ltm, z_mlt, z_lem, z_mle, z_cl, z_ck, u1_1, u1_2, u2_1, u2_2, ↓reduceIte, Option.bind_some, Option.bind_none, bd2_some, lb_eq, and_true, and_false, true_and, false_and, not_true_eq_false, not_false_eq_true, eq_self_iff_true, if_true, if_false, Nat.reduceEqDiff, Nat.reduceAdd, Nat.reduceMul, Nat.reduceSub, Bool.false_eq_true, zl0, zl1, zl2, zl3, zl4, zl5, zl6, zl7, zl8, zl9, zl10, zl11, zl12, zl13, zl14, zl15, zl16, zl17, zl18, zl19, zl20, zl22, zl23, zl24, zl25, zl30, zl31, zl32, zl33, zl34, zl35, zl36, zl37, zl38, zl39, zl40, zl41, zl42, zl43, zl45, zl48, zl49, zl57, zl58, zl59, zl60, zl61, zl62, zl63, zl64, zl91, zl93, zl97, zl98, zl99, zl100, zl113, zl114, zl115, zl116, zl117, zl122, zl124, zl125, zl127, zl128, zl136, zl200, zl201, zl202, zl203, zl204, zl205, zl206, zl207, zl208, zl209, zl210, zl211, zl212, zl213, zl214, zl215, zl216, zl217, zl218, zl219, zl220, zl235, zl236, zl255, zl280, zl287, zl900, zl999, zl1000, zl1001, zl1136, zl1960, zl3000, zl3001, zl3002, zl3003, zl3004, zl3005, zl3006, zl3007, zl3008, zl3009, zl268435456, zl1000000000]), if_neg (show ¬ i ≤ R by omega), if_pos (by decide), ff_no (fun j _ hj => h0 j (by omega))]
    exact ⟨P, rfl, sm_refl⟩
  | succ m ih =>
    intro n i P hi hn h0 hX1 hX2 h21 h66 h67
    obtain ⟨n, rfl⟩ : ∃ r, n = r + 1 := ⟨n - 1, by omega⟩
    obtain ⟨P1, g1, g2, g3⟩ := goesOn_C (a1 := 66) hv hsl (Or.inl rfl) (itr_p hv hS1 hA i) hS1 hX1 h66
    have o1 : sm og P P1 := sm_mono g3 (fun o q => by simp [og] at q; simp; omega)
    have h67' : GAr P1 67 (itr v s sl B i) := fun j hj => by rw [g3.1 67 rfl]; exact h67 j hj
    obtain ⟨P2, k1, k2, k3⟩ := goesOn_C (a1 := 67) hv hsl (Or.inr rfl) (itr_p hv hS2 hB i) hS2 (GKn_og hX2 o1) h67'
    have o2 : sm og P P2 := sm_trans o1 (sm_mono k3 (fun o q => by simp [og] at q; simp; omega))
    have m66 : GAr P2 66 (itr v s sl A (i + 1)) := fun j hj => by rw [k3.1 66 rfl]; exact g2 j hj
    have m67 : GAr P2 67 (itr v s sl B (i + 1)) := k2
    have hmet := isMet_C m66 m67 (fun j => (itr_p hv hS1 hA (i + 1) j).1) (fun j => (itr_p hv hS2 hB (i + 1) j).1)
    rw [← hf] at hmet
    have e21 : P1.1 21 3 = nI sl := by rw [o1.1 21 rfl]; exact h21
    rw [l_Sp_meeting_62, if_neg (show ¬ (999 : Int32) < nI (i + 1) by simp (disch := omega) only [z_add, z_mul, z_sub, z_subm, z_addm, z_lt_t, z_lt_f, z_le_t, z_le_f, z_eq_t, z_eq_f, z_eqm, z_meq, z_mm, z_ltm, z_mlt, z_lem, z_mle, z_cl, z_ck, u1_1, u1_2, u2_1, u2_2, ↓reduceIte, Option.bind_some, Option.bind_none, bd2_some, lb_eq, and_true, and_false, true_and, false_and, not_true_eq_false, not_false_eq_true, eq_self_iff_true, if_true, if_false, Nat.reduceEqDiff, Nat.reduceAdd, Nat.reduceMul, Nat.reduceSub, Bool.false_eq_true, zl0, zl1, zl2, zl3, zl4, zl5, zl6, zl7, zl8, zl9, zl10, zl11, zl12, zl13, zl14, zl15, zl16, zl17, zl18, zl19, zl20, zl22, zl23, zl24, zl25, zl30, zl31, zl32, zl33, zl34, zl35, zl36, zl37, zl38, zl39, zl40, zl41, zl42, zl43, zl45, zl48, zl49, zl57, zl58, zl59, zl60, zl61, zl62, zl63, zl64, zl91, zl93, zl97, zl98, zl99, zl100, zl113, zl114, zl115, zl116, zl117, zl122, zl124, zl125, zl127, zl128, zl136, zl200, zl201, zl202, zl203, zl204, zl205, zl206, zl207, zl208, zl209, zl210, zl211, zl212, zl213, zl214, zl215, zl216, zl217, zl218, zl219, zl220, zl235, zl236, zl255, zl280, zl287, zl900, zl999, zl1000, zl1001, zl1136, zl1960, zl3000, zl3001, zl3002, zl3003, zl3004, zl3005, zl3006, zl3007, zl3008, zl3009, zl268435456, zl1000000000]), if_pos (show i ≤ R by omega), if_neg (by decide), h21, g1, bd2_some, e21, k1, bd2_some]
    have fin : ∀ c : Int32, c = nI (if i + 1 ≤ R then 1 else 0) → ∃ P', j_Sp_meeting_124 (fun z0 z1 Pz => l_Sp_meeting_62 n z0 z1 Pz) (nI (i + 1)) c P2 = some (oI (ff f (R + 1) 0), P') ∧ sm og P P' := by
      rintro c rfl
      unfold j_Sp_meeting_124
      rw [hmet, Option.bind_some]
      cases e : f (i + 1) with
      | false =>
        rw [if_pos (by decide), show (1 : Int32) = nI 1 from rfl, nI_add]
        obtain ⟨P3, r1, r2⟩ := ih n (i + 1) P2 (by omega) (by omega) (fun j hj => by
          by_cases ej : j = i + 1
          · rw [ej]; exact e
          · exact h0 j (by omega)) (GKn_og hX1 o2) (GKn_og hX2 o2) (by rw [o2.1 21 rfl]; exact h21) m66 m67
        exact ⟨P3, r1, sm_trans o2 r2⟩
      | true =>
        have hlt : i < R := by
          apply Classical.byContradiction
          intro hn
          obtain rfl : i = R := by omega
          have e1 := (rd_p hv hS1 (itr_p hv hS1 hA i)).2.1 hR2.1
          have e2 := (rd_p hv hS2 (itr_p hv hS2 hB i)).2.1 hR2.2
          have e3 := h0 i (Nat.le_refl _)
          rw [hf] at e e3
          have e1 : itr v s sl A (i + 1) = itr v s sl A i := e1
          have e2 : itr v s sl B (i + 1) = itr v s sl B i := e2
          rw [e1, e2, e3] at e
          cases e
        rw [if_neg (by decide), ff_at (k := i + 1) (fun j _ hj => h0 j (by omega)) e (by omega) (by omega)]
        exact ⟨P2, rfl, o2⟩
    unfold j_Sp_meeting_119
    by_cases e : i = R
    · subst e
      rw [hR2.1, hR2.2, if_pos (by decide), if_pos (by decide)]
      exact fin _ (by rw [if_neg (by omega)]; rfl)
    · rcases hR1 i (by omega) with h | h
      · rw [h, if_neg (by decide)]
        exact fin _ (by rw [if_pos (by omega)]; rfl)
      · rw [h]
        have hcl : (if flg true = (0 : Int32) then j_Sp_meeting_124 (fun z0 z1 Pz => l_Sp_meeting_62 n z0 z1 Pz) (nI (i + 1)) 0 P2 else j_Sp_meeting_124 (fun z0 z1 Pz => l_Sp_meeting_62 n z0 z1 Pz) (nI (i + 1)) 1 P2) = j_Sp_meeting_124 (fun z0 z1 Pz => l_Sp_meeting_62 n z0 z1 Pz) (nI (i + 1)) 1 P2 := if_neg (by decide)
        rw [hcl, ite_self]
        exact fin _ (by rw [if_pos (by omega)]; rfl)
theorem meetM_l {v : NV} {s : SV} {R : Nat} {A B : Nat → Nat} {f : Nat → Bool} (hv : NVok v) (hsl : sA s < 128) (hA : Pos (fun _ => True) (vN v) A) (hB : Pos (fun _ => True) (vN v) B) (hR : R ≤ 280)
    (hR1 : ∀ i, i < R → (rd v s (sA s) (itr v s (sA s) A i)).2 = true ∨ (rd v s (sA s) (itr v s (sA s) B i)).2 = true) (hR2 : (rd v s (sA s) (itr v s (sA s) A R)).2 = false ∧ (rd v s (sA s) (itr v s (sA s) B R)).2 = false)
    (hf : ∀ i, f i = mtb (itr v s (sA s) A i) (itr v s (sA s) B i)) :
    ∀ (m n i : Nat) (P : PM), i + m = R → m < n → (∀ j, j < i → f j = false) → MKn P v s → P.1 110 116 = nI (sA s) → GAr P 120 (itr v s (sA s) A i) → GAr P 122 (itr v s (sA s) B i) →
    ∃ P', l_Mo_meets_58 n (nI i) P = some (oI (ff f (R + 1) 0), P') ∧ sm ogm P P' := by
  intro m
  have step : ∀ (n i : Nat) (P : PM), (∀ j, j < i → f j = false) → i ≤ R → MKn P v s → P.1 110 116 = nI (sA s) → GAr P 120 (itr v s (sA s) A i) → GAr P 122 (itr v s (sA s) B i) →
      (i = R ∨ ∀ P2, f i = false → MKn P2 v s → P2.1 110 116 = nI (sA s) → GAr P2 120 (itr v s (sA s) A (i + 1)) → GAr P2 122 (itr v s (sA s) B (i + 1)) → ∃ P', l_Mo_meets_58 n (nI (i + 1)) P2 = some (oI (ff f (R + 1) 0), P') ∧ sm ogm P2 P') →
      ∃ P', l_Mo_meets_58 (n + 1) (nI i) P = some (oI (ff f (R + 1) 0), P') ∧ sm ogm P P' := by
    intro n i P h0 hiR hX h116 h120 h122 hnext
    have hmet := haveBoth_M hv hX h120 h122 (itr_p hv hS_T hA i) (itr_p hv hS_T hB i)
    rw [← hf] at hmet
    rw [l_Mo_meets_58, hmet, Option.bind_some]
    cases e : f i with
    | true =>
      rw [if_neg (by decide), ff_at (k := i) (fun j _ hj => h0 j (by omega)) e (by omega) (by omega)]
      exact ⟨P, rfl, sm_refl⟩
    | false =>
      obtain ⟨P1, g1, g2, g3⟩ := spreads_M (a1 := 120) hv hsl (Or.inl rfl) (itr_p hv hS_T hA i) hS_T hX h120
      have o1 : sm ogm P P1 := sm_mono g3 (fun o q => by simp [ogm] at q; simp; omega)
      have h122' : GAr P1 122 (itr v s (sA s) B i) := fun j hj => by rw [g3.1 122 rfl]; exact h122 j hj
      obtain ⟨P2, k1, k2, k3⟩ := spreads_M (a1 := 122) hv hsl (Or.inr rfl) (itr_p hv hS_T hB i) hS_T (MKn_og hX o1) h122'
      have o2 : sm ogm P P2 := sm_trans o1 (sm_mono k3 (fun o q => by simp [ogm] at q; simp; omega))
      have e116 : P1.1 110 116 = nI (sA s) := by rw [o1.1 110 rfl]; exact h116
      rw [if_pos (by decide), show P.1 110 (116 : Int32).toNatClampNeg = nI (sA s) from h116, g1, bd2_some, show P1.1 110 (116 : Int32).toNatClampNeg = nI (sA s) from e116, k1, bd2_some]
      unfold j_Mo_meets_114
      rw [show (1 : Int32) = nI 1 from rfl, nI_add]
      by_cases eR : i = R
      · subst eR
        rw [hR2.1, hR2.2, if_pos (by decide), if_pos (by decide), ff_no (fun j _ hj => by
          by_cases ej : j = i
          · rw [ej]; exact e
          · exact h0 j (by omega))]
        exact ⟨P2, rfl, o2⟩
      · obtain ⟨P3, r1, r2⟩ := hnext.resolve_left eR P2 e (MKn_og hX o2) (by rw [o2.1 110 rfl]; exact h116) (fun j hj => by rw [k3.1 120 rfl]; exact g2 j hj) k2
        rcases hR1 i (by omega) with h | h
        · rw [h, if_neg (by decide)]
          exact ⟨P3, r1, sm_trans o2 r2⟩
        · rw [h]
          refine ⟨P3, ?_, sm_trans o2 r2⟩
          split
          · exact r1
          · exact r1
  induction m with
  | zero =>
    intro n i P hi hn h0 hX h116 h120 h122
    obtain ⟨n, rfl⟩ : ∃ r, n = r + 1 := ⟨n - 1, by omega⟩
    exact step n i P h0 (by omega) hX h116 h120 h122 (Or.inl (by omega))
  | succ m ih =>
    intro n i P hi hn h0 hX h116 h120 h122
    obtain ⟨n, rfl⟩ : ∃ r, n = r + 1 := ⟨n - 1, by omega⟩
    exact step n i P h0 (by omega) hX h116 h120 h122 (Or.inr (fun P2 e a b c d => ih n (i + 1) P2 (by omega) (by omega) (fun j hj => by
      by_cases ej : j = i
      · rw [ej]; exact e
      · exact h0 j (by omega)) a b c d))
theorem itr_both {v : NV} {s : SV} {sl : Nat} {A B : Nat → Nat} (hv : NVok v) (hA : Pos (fun _ => True) (vN v) A) (hB : Pos (fun _ => True) (vN v) B) :
    ∃ R, R ≤ 280 ∧ (∀ i, i < R → (rd v s sl (itr v s sl A i)).2 = true ∨ (rd v s sl (itr v s sl B i)).2 = true) ∧ (rd v s sl (itr v s sl A R)).2 = false ∧ (rd v s sl (itr v s sl B R)).2 = false := by
  obtain ⟨R1, a1, a2, a3, a4⟩ := itr_end (sl := sl) hv hS_T hA
  obtain ⟨R2, b1, b2, b3, b4⟩ := itr_end (sl := sl) hv hS_T hB
  refine ⟨max R1 R2, by omega, fun i hi => ?_, ?_, ?_⟩
  · by_cases c : i < R1
    · exact Or.inl (a2 i c)
    · exact Or.inr (b2 i (by omega))
  · rw [a4 _ (by omega)]; exact a3
  · rw [b4 _ (by omega)]; exact b3
theorem CRep_xr {P P' : PM} {a : AS} (hC : CRep P a) (g3 : sm xr P P') : CRep P' a := CRep_ce hC (ce_sm g3 (fun o e => by simp [esr] at e; simp [xr]; omega) (by rw [g3.1 31 rfl]) (by rw [g3.1 31 rfl]))
theorem meets_in {P : PM} {a : AS} {g h z : Nat} (hC : CRep P a) (hok : AOk a) (hca : CCa P (aV a)) (hg : g < vN (aV a)) (hh : h < vN (aV a)) (hgh : g ≠ h) (hz1 : 1 ≤ z) (hz : z ≤ 40) :
    ∃ r, (∃ P1, f_Sp_meeting (nI g) (nI h) (nI z) P = some (r, P1) ∧ CRep P1 a ∧ CCa P1 (aV a) ∧ sm cl P P1) ∧
      ∀ P1, MRep P1 a → ∃ P2, (f_Mo_isAt 120 7 (nI g) (nI z) P1).bind (fun P7 => (f_Mo_isAt 122 7 (nI h) (nI z) P7).bind (fun P8 => l_Mo_meets_58 FU (0 : Int32) P8)) = some (r, P2) ∧ MRep P2 a ∧ sm mo P1 P2 := by
  have hv := hok.1
  have hs := hok.2.1
  have hA := hs.2.2.2.1
  have hN := hv.1
  have h128 := pw_le hN
  have hsl : sA (aS a) < 128 := by omega
  obtain ⟨R, hR, hR1, hR2⟩ := itr_both (s := aS a) (sl := sA (aS a)) hv (A0_T hg hz) (A0_T hh hz)
  refine ⟨oI (ff (fun i => mtb (itr (aV a) (aS a) (sA (aS a)) (A0 g z) i) (itr (aV a) (aS a) (sA (aS a)) (A0 h z) i)) (R + 1) 0), ?_, fun P1 hM => ?_⟩
  · obtain ⟨L1, P1, g1, g2, g3⟩ := explore_C (p0 := 40 * g + z - 1) hC.1 hv hC.2.1 hs hca hA (by omega)
    have C1 := CRep_xr hC g3
    obtain ⟨L2, P2, k1, k2, k4, k3⟩ := explore_K (p0 := 40 * h + z - 1) C1.1 hv C1.2.1 hs g2.2.2.1 hA (by omega)
    have C2 := CRep_xr C1 k3
    obtain ⟨P3, b1, b2, b3⟩ := begin_C (P := P2) (o := 66) (w := g) (z := z) (Or.inl rfl) (by omega)
    have o3 : sm og P2 P3 := sm_mono b3 (fun o q => by simp [og] at q; simp; omega)
    obtain ⟨P4, d1, d2, d3⟩ := begin_C (P := P3) (o := 67) (w := h) (z := z) (Or.inr rfl) (by omega)
    have o4 : sm og P2 P4 := sm_trans o3 (sm_mono d3 (fun o q => by simp [og] at q; simp; omega))
    have X1 : GKn P2 (aV a) (aS a) (sA (aS a)) (fun p => p ∈ L1) := ⟨C2.1, fun p hp => ⟨g2.1.2.2.2.2 p hp, fun t ht e => k4 p t (g2.2.2.2 p hp t ht e)⟩⟩
    have X2 : GKn P2 (aV a) (aS a) (sA (aS a)) (fun p => p ∈ L2) := GKn_E C2.1 k2 (fun _ q => q)
    obtain ⟨P5, r1, r2⟩ := meet_l (sl := sA (aS a)) (A := A0 g z) (B := A0 h z) hv hsl (A0_L hg hz ((g2.2.1 _).mpr Rch_0)) (A0_L hh hz ((k2.2.1 _).mpr Rch_0)) hR (hS_L (P := P1) hv g2 (fun _ q => q)) (hS_L (P := P2) hv k2 (fun _ q => q)) hR1 hR2 (fun _ => rfl) (R + 1) FU 0 P4 (by omega) (by have := FU_big; omega) (fun j hj => mtb_f (fun j' _ q => by
      obtain rfl : j = 0 := by omega
      have q : 0 < A0 g z j' ∧ 0 < A0 h z j' := q
      unfold A0 at q
      obtain ⟨q1, q2⟩ := q
      by_cases e1 : j' = g
      · rw [if_neg (by omega)] at q2; omega
      · rw [if_neg e1] at q1; omega)) (GKn_og X1 o4) (GKn_og X2 o4) (by rw [o4.1 21 rfl]; exact C2.2.1.2.2.2.1) (fun j hj => by rw [d3.1 66 rfl]; exact b2 j hj) d2
    have C5 := CRep_og C2 (sm_trans o4 r2)
    refine ⟨P5, ?_, C5, CCa_ro (CC1_CCa k2.2.2.1 hs) ((sm_trans o4 r2).1 59 rfl) ((sm_trans o4 r2).1 60 rfl), sm_trans (xr_cl g3) (sm_trans (xr_cl k3) (og_cl (sm_trans o4 r2)))⟩
    unfold f_Sp_meeting
    rw [plOf_n hz1, hC.2.1.2.2.2.1, g1, Option.bind_some, plOf_n hz1, C1.2.1.2.2.2.1, k1, Option.bind_some, b1, Option.bind_some, d1, Option.bind_some]
    exact r1
  · obtain ⟨P3, b1, b2, b3⟩ := isAt_M (P := P1) (o := 120) (w := g) (z := z) (by omega)
    have o3 : sm ogm P1 P3 := sm_mono b3 (fun o q => by simp [ogm] at q; simp; omega)
    obtain ⟨P4, d1, d2, d3⟩ := isAt_M (P := P3) (o := 122) (w := h) (z := z) (by omega)
    have o4 : sm ogm P1 P4 := sm_trans o3 (sm_mono d3 (fun o q => by simp [ogm] at q; simp; omega))
    have M4 := MRep_og hM o4
    obtain ⟨P5, r1, r2⟩ := meetM_l (s := aS a) (A := A0 g z) (B := A0 h z) hv hsl (A0_T hg hz) (A0_T hh hz) hR hR1 hR2 (fun _ => rfl) R FU 0 P4 (by omega) (by have := FU_big; omega) (fun j hj => by omega) (MKn_M M4) (m116 M4.2.1) (fun j hj => by rw [d3.1 120 rfl]; exact b2 j hj) d2
    refine ⟨P5, ?_, MRep_og M4 r2, og_mo (sm_trans o4 r2)⟩
    rw [b1, Option.bind_some, d1, Option.bind_some]
    exact r1
theorem meets_ok {P : PM} {a : AS} {x y z : Int32} (hC : CRep P a) (hM : MRep P a) (hca : CCa P (aV a)) (hok : AOk a) :
    ∃ v P1 P2, f_Yr_meets x y z P = some (v, P1) ∧ f_Mo_meets x y z P1 = some (v, P2) ∧ Inv P2 := by
  have hN := hok.1.1
  have no : ∀ r : Int32, f_Yr_meets x y z P = some (r, P) → (∀ P1, MRep P1 a → f_Mo_meets x y z P1 = some (r, u1 P1 109 0 (0 : Int32))) → ∃ v P1 P2, f_Yr_meets x y z P = some (v, P1) ∧ f_Mo_meets x y z P1 = some (v, P2) ∧ Inv P2 := fun r h1 h2 =>
    join (r := r) (a' := a) hM ⟨P, h1, hC, hca, sm_refl⟩ (fun P1 hM1 => ⟨_, h2 P1 hM1, MRep_me hM1 me_th, sm_th⟩) hok
  rcases i_cases x (vN (aV a)) (by omega) with ⟨g, hg, rfl⟩ | hx
  · rcases i_cases y (vN (aV a)) (by omega) with ⟨h, hh, rfl⟩ | hy
    · by_cases hz : zok z
      · obtain ⟨k, hk1, hk, rfl⟩ := zok_n hz
        by_cases e : g = h
        · subst e
          refine join (r := nI 0) (a' := a) hM ⟨P, ?_, hC, hca, sm_refl⟩ (fun P1 hM1 => ?_) hok
          · unfold f_Yr_meets
            rw [isStK hC.1 hok.1 hg, if_neg (by decide), if_neg (by decide), isSz_1 hz, if_neg (by decide), if_pos rfl]
            rfl
          · have hM2 : MRep (u1 P1 109 0 (0 : Int32)) a := MRep_me hM1 me_th
            obtain ⟨P3, b1, b2, b3⟩ := isAt_M (P := u1 P1 109 0 (0 : Int32)) (o := 120) (w := g) (z := k) (by omega)
            have o3 : sm ogm (u1 P1 109 0 (0 : Int32)) P3 := sm_mono b3 (fun o q => by simp [ogm] at q; simp; omega)
            obtain ⟨P4, d1, d2, d3⟩ := isAt_M (P := P3) (o := 122) (w := g) (z := k) (by omega)
            have o4 : sm ogm (u1 P1 109 0 (0 : Int32)) P4 := sm_trans o3 (sm_mono d3 (fun o q => by simp [ogm] at q; simp; omega))
            have M4 := MRep_og hM2 o4
            have hb := haveBoth_M (A := A0 g k) (B := A0 g k) hok.1 (MKn_M M4) (fun j hj => by rw [d3.1 120 rfl]; exact b2 j hj) d2 (A0_T hg hk) (A0_T hg hk)
            have e0 : 0 < A0 g k g := by unfold A0; rw [if_pos rfl]; omega
            rw [mtb_y (j := g) (by omega) e0 e0] at hb
            refine ⟨P4, ?_, M4, sm_trans sm_th (og_mo o4)⟩
            unfold f_Mo_meets
            rw [isSt_Mk hM2 hok hg, Option.bind_some, if_neg (by decide), Option.bind_some, if_neg (by decide), isSzM_1 hz, Option.bind_some, if_neg (by decide), b1, Option.bind_some, d1, Option.bind_some]
            obtain ⟨n, hn⟩ : ∃ n, FU = n + 1 := ⟨FU - 1, by have := FU_big; omega⟩
            rw [hn, l_Mo_meets_58, hb, Option.bind_some, if_neg (by decide)]
            rfl
        · obtain ⟨r, h1, h2⟩ := meets_in (z := k) hC hok hca hg hh e hk1 hk
          refine join (r := r) (a' := a) hM ?_ (fun P1 hM1 => ?_) hok
          · obtain ⟨P1, g1, g2⟩ := h1
            refine ⟨P1, ?_, g2⟩
            unfold f_Yr_meets
            rw [isStK hC.1 hok.1 hg, if_neg (by decide), isStK hC.1 hok.1 hh, if_neg (by decide), isSz_1 hz, if_neg (by decide), if_neg (fun q => e ((nI_eq (by omega) (by omega)).mp q)), g1, bd2_some]
          · have hM2 : MRep (u1 P1 109 0 (0 : Int32)) a := MRep_me hM1 me_th
            obtain ⟨P2, g1, g2, g3⟩ := h2 _ hM2
            refine ⟨P2, ?_, g2, sm_trans sm_th g3⟩
            unfold f_Mo_meets
            rw [isSt_Mk hM2 hok hg, Option.bind_some, if_neg (by decide), isSt_Mk hM2 hok hh, Option.bind_some, if_neg (by decide), isSzM_1 hz, Option.bind_some, if_neg (by decide)]
            exact g1
      · refine no (-nI 3) ?_ (fun P1 hM1 => ?_)
        · unfold f_Yr_meets
          rw [isStK hC.1 hok.1 hg, if_neg (by decide), isStK hC.1 hok.1 hh, if_neg (by decide), isSz_0 hz, if_pos rfl]
          rfl
        · have hM2 : MRep (u1 P1 109 0 (0 : Int32)) a := MRep_me hM1 me_th
          unfold f_Mo_meets
          rw [isSt_Mk hM2 hok hg, Option.bind_some, if_neg (by decide), isSt_Mk hM2 hok hh, Option.bind_some, if_neg (by decide), isSzM_0 hz]
          rfl
    · refine no (-nI 2) ?_ (fun P1 hM1 => ?_)
      · unfold f_Yr_meets
        rw [isStK hC.1 hok.1 hg, if_neg (by decide), isSt_Cn hC.1 hok.1 hy]
        rfl
      · have hM2 : MRep (u1 P1 109 0 (0 : Int32)) a := MRep_me hM1 me_th
        unfold f_Mo_meets
        rw [isSt_Mk hM2 hok hg, Option.bind_some, if_neg (by decide), isSt_Mn hM2 hok hy]
        rfl
  · refine no (-nI 2) ?_ (fun P1 hM1 => ?_)
    · unfold f_Yr_meets
      rw [isSt_Cn hC.1 hok.1 hx]
      rfl
    · have hM2 : MRep (u1 P1 109 0 (0 : Int32)) a := MRep_me hM1 me_th
      unfold f_Mo_meets
      rw [isSt_Mn hM2 hok hx]
      rfl
