/-! back: the class -/
def stk (o : Nat) : Bool := 71 ≤ o && o ≤ 84
theorem routesFrom_n {P : PM} {k p : Nat} (hk : k ≤ 10) (hp : p < 280) : f_St_routesFrom (nI k) (nI p) P = some (P.1 (71 + k) p) := by
  unfold f_St_routesFrom
  rw [if_neg (show ¬ nI k < (0 : Int32) by simp (disch := omega) only [z_add, z_mul, z_sub, z_subm, z_addm, z_lt_t, z_lt_f, z_le_t, z_le_f, z_eq_t, z_eq_f, z_eqm, z_meq, z_mm, z_ltm, z_mlt, z_lem, z_mle, z_cl, z_ck, u1_1, u1_2, u2_1, u2_2, ↓reduceIte, Option.bind_some, Option.bind_none, bd2_some, lb_eq, and_true, and_false, true_and, false_and, not_true_eq_false, not_false_eq_true, eq_self_iff_true, if_true, if_false, Nat.reduceEqDiff, Nat.reduceAdd, Nat.reduceMul, Nat.reduceSub, Bool.false_eq_true, zl0, zl1, zl2, zl3, zl4, zl5, zl6, zl7, zl8, zl9, zl10, zl11, zl12, zl13, zl14, zl15, zl16, zl17, zl18, zl19, zl20, zl22, zl23, zl24, zl25, zl30, zl31, zl32, zl33, zl34, zl35, zl36, zl37, zl38, zl39, zl40, zl41, zl42, zl43, zl45, zl48, zl49, zl57, zl58, zl59, zl60, zl61, zl62, zl63, zl64, zl91, zl93, zl97, zl98, zl99, zl100, zl113, zl114, zl115, zl116, zl117, zl122, zl124, zl125, zl127, zl128, zl136, zl200, zl201, zl202, zl203, zl204, zl205, zl206, zl207, zl208, zl209, zl210, zl211, zl212, zl213, zl214, zl215, zl216, zl217, zl218, zl219, zl220, zl235, zl236, zl255, zl280, zl287, zl900, zl999, zl1000, zl1001, zl1136, zl1960, zl3000, zl3001, zl3002, zl3003, zl3004, zl3005, zl3006, zl3007, zl3008, zl3009, zl268435456, zl1000000000]), if_neg (show ¬ (10 : Int32) < nI k by simp (disch := omega) only [z_add, z_mul, z_sub, z_subm, z_addm, z_lt_t, z_lt_f, z_le_t, z_le_f, z_eq_t, z_eq_f, z_eqm, z_meq, z_mm, z_ltm, z_mlt, z_lem, z_mle, z_cl, z_ck, u1_1, u1_2, u2_1, u2_2, ↓reduceIte, Option.bind_some, Option.bind_none, bd2_some, lb_eq, and_true, and_false, true_and, false_and, not_true_eq_false, not_false_eq_true, eq_self_iff_true, if_true, if_false, Nat.reduceEqDiff, Nat.reduceAdd, Nat.reduceMul, Nat.reduceSub, Bool.false_eq_true, zl0, zl1, zl2, zl3, zl4, zl5, zl6, zl7, zl8, zl9, zl10, zl11, zl12, zl13, zl14, zl15, zl16, zl17, zl18, zl19, zl20, zl22, zl23, zl24, zl25, zl30, zl31, zl32, zl33, zl34, zl35, zl36, zl37, zl38, zl39, zl40, zl41, zl42, zl43, zl45, zl48, zl49, zl57, zl58, zl59, zl60, zl61, zl62, zl63, zl64, zl91, zl93, zl97, zl98, zl99, zl100, zl113, zl114, zl115, zl116, zl117, zl122, zl124, zl125, zl127, zl128, zl136, zl200, zl201, zl202, zl203, zl204, zl205, zl206, zl207, zl208, zl209, zl210, zl211, zl212, zl213, zl214, zl215, zl216, zl217, zl218, zl219, zl220, zl235, zl236, zl255, zl280, zl287, zl900, zl999, zl1000, zl1001, zl1136, zl1960, zl3000, zl3001, zl3002, zl3003, zl3004, zl3005, zl3006, zl3007, zl3008, zl3009, zl268435456, zl1000000000]), place_n p (by omega), if_pos hp, if_neg (by decide), z_ck (by omega) (by omega), z_ck hp (by omega), z_cl (by omega), z_cl (by omega)]
theorem routesFrom_m {P : PM} {k : Nat} (hk : k ≤ 10) : f_St_routesFrom (nI k) (-nI 1) P = some (nI 0) := by
  unfold f_St_routesFrom
  rw [if_neg (show ¬ nI k < (0 : Int32) by simp (disch := omega) only [z_add, z_mul, z_sub, z_subm, z_addm, z_lt_t, z_lt_f, z_le_t, z_le_f, z_eq_t, z_eq_f, z_eqm, z_meq, z_mm, z_ltm, z_mlt, z_lem, z_mle, z_cl, z_ck, u1_1, u1_2, u2_1, u2_2, ↓reduceIte, Option.bind_some, Option.bind_none, bd2_some, lb_eq, and_true, and_false, true_and, false_and, not_true_eq_false, not_false_eq_true, eq_self_iff_true, if_true, if_false, Nat.reduceEqDiff, Nat.reduceAdd, Nat.reduceMul, Nat.reduceSub, Bool.false_eq_true, zl0, zl1, zl2, zl3, zl4, zl5, zl6, zl7, zl8, zl9, zl10, zl11, zl12, zl13, zl14, zl15, zl16, zl17, zl18, zl19, zl20, zl22, zl23, zl24, zl25, zl30, zl31, zl32, zl33, zl34, zl35, zl36, zl37, zl38, zl39, zl40, zl41, zl42, zl43, zl45, zl48, zl49, zl57, zl58, zl59, zl60, zl61, zl62, zl63, zl64, zl91, zl93, zl97, zl98, zl99, zl100, zl113, zl114, zl115, zl116, zl117, zl122, zl124, zl125, zl127, zl128, zl136, zl200, zl201, zl202, zl203, zl204, zl205, zl206, zl207, zl208, zl209, zl210, zl211, zl212, zl213, zl214, zl215, zl216, zl217, zl218, zl219, zl220, zl235, zl236, zl255, zl280, zl287, zl900, zl999, zl1000, zl1001, zl1136, zl1960, zl3000, zl3001, zl3002, zl3003, zl3004, zl3005, zl3006, zl3007, zl3008, zl3009, zl268435456, zl1000000000]), if_neg (show ¬ (10 : Int32) < nI k by simp (disch := omega) only [z_add, z_mul, z_sub, z_subm, z_addm, z_lt_t, z_lt_f, z_le_t, z_le_f, z_eq_t, z_eq_f, z_eqm, z_meq, z_mm, z_ltm, z_mlt, z_lem, z_mle, z_cl, z_ck, u1_1, u1_2, u2_1, u2_2, ↓reduceIte, Option.bind_some, Option.bind_none, bd2_some, lb_eq, and_true, and_false, true_and, false_and, not_true_eq_false, not_false_eq_true, eq_self_iff_true, if_true, if_false, Nat.reduceEqDiff, Nat.reduceAdd, Nat.reduceMul, Nat.reduceSub, Bool.false_eq_true, zl0, zl1, zl2, zl3, zl4, zl5, zl6, zl7, zl8, zl9, zl10, zl11, zl12, zl13, zl14, zl15, zl16, zl17, zl18, zl19, zl20, zl22, zl23, zl24, zl25, zl30, zl31, zl32, zl33, zl34, zl35, zl36, zl37, zl38, zl39, zl40, zl41, zl42, zl43, zl45, zl48, zl49, zl57, zl58, zl59, zl60, zl61, zl62, zl63, zl64, zl91, zl93, zl97, zl98, zl99, zl100, zl113, zl114, zl115, zl116, zl117, zl122, zl124, zl125, zl127, zl128, zl136, zl200, zl201, zl202, zl203, zl204, zl205, zl206, zl207, zl208, zl209, zl210, zl211, zl212, zl213, zl214, zl215, zl216, zl217, zl218, zl219, zl220, zl235, zl236, zl255, zl280, zl287, zl900, zl999, zl1000, zl1001, zl1136, zl1960, zl3000, zl3001, zl3002, zl3003, zl3004, zl3005, zl3006, zl3007, zl3008, zl3009, zl268435456, zl1000000000]), place_m]
  rfl
noncomputable def nxs (v : NV) (s : SV) : Nat → Nat → Option Nat := nxp v s (sA s)
theorem nxs_N {v : NV} {s : SV} (hv : NVok v) : ∀ p t q, nxs v s p t = some q → t < vN v := fun _ _ _ h => (nxp_in hv h).2.2.1
def KA (P : PM) (v : NV) (s : SV) (L : List Nat) (g k : Nat) : Prop := ∀ j, j ≤ k → ∀ p, p ∈ L → P.1 (71 + j) p = nI (ncb (nxs v s) g none j p)
def KSp (P : PM) (v : NV) (s : SV) (g k p : Nat) : Prop := ∃ x, x < 128 ∧ P.1 (83 + k % 2) p = nI x ∧ ∀ j, j < 7 → (x.testBit j = true ↔ ncb (nxs v s) g (some j) k p = 0)
def KS (P : PM) (v : NV) (s : SV) (L : List Nat) (g k : Nat) : Prop := ∀ p, p ∈ L → 0 < ncb (nxs v s) g none k p → KSp P v s g k p
def CB (P : PM) (v : NV) (s : SV) (p0 : Nat) (L : List Nat) : Prop := CNet P 14 v ∧ Exp P v s (sA s) p0 L ∧ P.1 21 3 = nI (sA s)
theorem Exp_sm {S : Nat → Bool} {P P' : PM} {v : NV} {s : SV} {sl p0 : Nat} {L : List Nat} (h : Exp P v s sl p0 L) (g : sm S P P') (h1 : S 58 = false) (h2 : S 59 = false) (h3 : S 60 = false) (h4 : S 61 = false) (h5 : S 62 = false) : Exp P' v s sl p0 L :=
  ⟨FS_ro h.1 (g.1 58 h1) (g.1 62 h5) (g.2 61 h4), h.2.1, CC1_ro h.2.2.1 (g.1 59 h2) (g.1 60 h3), fun p hp t ht e => by unfold known; rw [g.1 59 h2]; exact h.2.2.2 p hp t ht e⟩
theorem CB_st {P P' : PM} {v : NV} {s : SV} {p0 : Nat} {L : List Nat} (h : CB P v s p0 L) (g : sm stk P P') : CB P' v s p0 L :=
  ⟨CNet_sm h.1 g rfl rfl rfl rfl rfl, Exp_sm h.2.1 g rfl rfl rfl rfl rfl, by rw [g.1 21 rfl]; exact h.2.2⟩
theorem nx_L {P : PM} {v : NV} {s : SV} {sl p0 p t q : Nat} {L : List Nat} (hv : NVok v) (hE : Exp P v s sl p0 L) (hp : p ∈ L) (h : nxp v s sl p t = some q) : q ∈ L := (hE.2.1 _).mpr (Rch_s ((hE.2.1 _).mp hp) (nxp_in hv h).2.2.1 h)
theorem tb127 : ∀ j, j < 7 → (127 : Nat).testBit j = true := by decide
theorem and1 (k : Nat) : nI k &&& (1 : Int32) = nI (k % 2) := by rw [show (1 : Int32) = nI 1 from rfl, nx_and, Nat.and_one_is_mod]
theorem countFrom_C {P : PM} {v : NV} {s : SV} {p0 g k p : Nat} {L : List Nat} (hv : NVok v) (hs : SVok v s) (hX : CB P v s p0 L) (hk : k < 10) (hA : KA P v s L g k) (hS : KS P v s L g k) (hp : p ∈ L) :
    ∃ x, f_St_countFrom (nI (k + 1)) (nI p) P = some (u1 (u1 P (71 + (k + 1)) p (nI (ncb (nxs v s) g none (k + 1) p))) (83 + (k + 1) % 2) p (nI x)) ∧ x < 128 ∧ ∀ j, j < 7 → (x.testBit j = true ↔ ncb (nxs v s) g (some j) (k + 1) p = 0) := by
  have hN := hv.1
  have h280 := hX.2.1.1.2.2.2.2 p hp
  have key : ∀ (m n t y : Nat), t + m = vN v → m < n → y < 128 → (∀ j, j < 7 → (y.testBit j = true ↔ ∀ t', t' < t → t' ≠ j → ∀ q, nxs v s p t' = some q → ncb (nxs v s) g (some j) k q = 0)) →
      ∃ x, l_St_countFrom_9 n (nI (k + 1)) (nI p) (nI (sumA (ncs (nxs v s) none (ncb (nxs v s) g none k) p) t)) (nI y) (nI t) P = some (u1 (u1 P (71 + (k + 1)) p (nI (ncb (nxs v s) g none (k + 1) p))) (83 + (k + 1) % 2) p (nI x)) ∧ x < 128 ∧ ∀ j, j < 7 → (x.testBit j = true ↔ ncb (nxs v s) g (some j) (k + 1) p = 0) := by
    intro m
    induction m with
    | zero =>
      intro n t y ht hn hy hb
      obtain ⟨n, rfl⟩ : ∃ r, n = r + 1 := ⟨n - 1, by omega⟩
      obtain rfl : t = vN v := by omega
      refine ⟨y, ?_, hy, fun j hj => by rw [hb j hj, ncb_s (nxs_N hv) hN]⟩
      rw [l_St_countFrom_9, hX.1.1, if_pos (nI_le (by omega) (by omega)), and1, z_ck (by omega) (by omega), z_ck h280 (by omega), z_ck (by omega) (by omega), z_ck h280 (by omega), z_cl (by omega), z_cl (by omega), z_cl (by omega), ncb_N (nxs_N hv) hN]
    | succ m ih =>
      intro n t y ht hn hy hb
      obtain ⟨n, rfl⟩ : ∃ r, n = r + 1 := ⟨n - 1, by omega⟩
      have e1 : nI (k + 1) - (1 : Int32) = nI k := by rw [show (1 : Int32) = nI 1 from rfl, pk_sub (by omega), Nat.add_sub_cancel]
      have hnx := next_C (t := t) hX.1 hv hX.2.1 hs.2.2.2.1 hp (by omega)
      rw [l_St_countFrom_9, hX.1.1, if_neg (nI_ge (by omega) (by omega)), hX.2.2, hnx, Option.bind_some, e1]
      unfold j_St_countFrom_84
      rw [show (1 : Int32) = nI 1 from rfl, nI_add]
      have skip : ncs (nxs v s) none (ncb (nxs v s) g none k) p t = 0 → (∀ q, nxs v s p t = some q → ncb (nxs v s) g none k q = 0) →
          ∃ x, l_St_countFrom_9 n (nI (k + 1)) (nI p) (nI (sumA (ncs (nxs v s) none (ncb (nxs v s) g none k) p) t)) (nI y) (nI (t + 1)) P = some (u1 (u1 P (71 + (k + 1)) p (nI (ncb (nxs v s) g none (k + 1) p))) (83 + (k + 1) % 2) p (nI x)) ∧ x < 128 ∧ ∀ j, j < 7 → (x.testBit j = true ↔ ncb (nxs v s) g (some j) (k + 1) p = 0) := by
        intro h0 h1
        have r := ih n (t + 1) y (by omega) (by omega) hy (fun j hj => by
          rw [hb j hj]
          refine ⟨fun h t' ht' hj' q hq => ?_, fun h t' ht' => h t' (by omega)⟩
          by_cases e : t' = t
          · subst e
            have a1 := h1 q hq
            have a2 := ncb_mono (nxs v s) g j k q
            omega
          · exact h t' (by omega) hj' q hq)
        rw [show sumA (ncs (nxs v s) none (ncb (nxs v s) g none k) p) (t + 1) = sumA (ncs (nxs v s) none (ncb (nxs v s) g none k) p) t + ncs (nxs v s) none (ncb (nxs v s) g none k) p t from rfl, h0, Nat.add_zero] at r
        exact r
      cases e : nxp v s (sA s) p t with
      | none =>
        have e' : nxs v s p t = none := e
        rw [oI_n, routesFrom_m (by omega), Option.bind_some, if_pos (by decide)]
        exact skip (ncs_none e') (fun q hq => by rw [e'] at hq; cases hq)
      | some q =>
        have e' : nxs v s p t = some q := e
        have hqL := nx_L hv hX.2.1 hp e
        have hq := hX.2.1.1.2.2.2.2 q hqL
        have hcb := ncb_b (nxs v s) g none (show k ≤ 10 by omega) q
        rw [oI_s, routesFrom_n (by omega) hq, Option.bind_some, hA k (Nat.le_refl _) q hqL]
        by_cases c : ncb (nxs v s) g none k q = 0
        · rw [c, if_pos (by decide)]
          exact skip (by rw [ncs_some (fun e => by cases e) e']; exact c) (fun q' hq' => by rw [e'] at hq'; cases hq'; exact c)
        · obtain ⟨x, hx, hxr, hxb⟩ := hS q hqL (by omega)
          have h2t : 2 ^ t < 128 := by
            have : 2 ^ t ≤ 2 ^ 6 := Nat.pow_le_pow_right (by decide) (by omega)
            omega
          rw [if_neg (by simp (disch := omega) only [z_add, z_mul, z_sub, z_subm, z_addm, z_lt_t, z_lt_f, z_le_t, z_le_f, z_eq_t, z_eq_f, z_eqm, z_meq, z_mm, z_ltm, z_mlt, z_lem, z_mle, z_cl, z_ck, u1_1, u1_2, u2_1, u2_2, ↓reduceIte, Option.bind_some, Option.bind_none, bd2_some, lb_eq, and_true, and_false, true_and, false_and, not_true_eq_false, not_false_eq_true, eq_self_iff_true, if_true, if_false, Nat.reduceEqDiff, Nat.reduceAdd, Nat.reduceMul, Nat.reduceSub, Bool.false_eq_true, zl0, zl1, zl2, zl3, zl4, zl5, zl6, zl7, zl8, zl9, zl10, zl11, zl12, zl13, zl14, zl15, zl16, zl17, zl18, zl19, zl20, zl22, zl23, zl24, zl25, zl30, zl31, zl32, zl33, zl34, zl35, zl36, zl37, zl38, zl39, zl40, zl41, zl42, zl43, zl45, zl48, zl49, zl57, zl58, zl59, zl60, zl61, zl62, zl63, zl64, zl91, zl93, zl97, zl98, zl99, zl100, zl113, zl114, zl115, zl116, zl117, zl122, zl124, zl125, zl127, zl128, zl136, zl200, zl201, zl202, zl203, zl204, zl205, zl206, zl207, zl208, zl209, zl210, zl211, zl212, zl213, zl214, zl215, zl216, zl217, zl218, zl219, zl220, zl235, zl236, zl255, zl280, zl287, zl900, zl999, zl1000, zl1001, zl1136, zl1960, zl3000, zl3001, zl3002, zl3003, zl3004, zl3005, zl3006, zl3007, zl3008, zl3009, zl268435456, zl1000000000]), lb_eq, nI_add, show nI 1 = (1 : Int32) from rfl, and1, z_ck (by omega) (by omega), z_ck hq (by omega), z_cl (by omega), z_cl (by omega), hxr, sh_1 t (by omega), nx_or, nx_and, lb_eq]
          have hy2 : y &&& (x ||| 2 ^ t) < 128 := Nat.lt_of_le_of_lt Nat.and_le_left hy
          have r := ih n (t + 1) (y &&& (x ||| 2 ^ t)) (by omega) (by omega) hy2 (fun j hj => by
            rw [Nat.testBit_and, Nat.testBit_or, Bool.and_eq_true, Bool.or_eq_true, hb j hj, hxb j hj]
            refine ⟨fun h t' ht' hj' q' hq' => ?_, fun h => ⟨fun t' ht' => h t' (by omega), ?_⟩⟩
            · by_cases et : t' = t
              · subst et
                rw [e'] at hq'
                cases hq'
                rcases h.2 with h2 | h2
                · exact h2
                · rw [Nat.testBit_two_pow_of_ne hj'] at h2; cases h2
              · exact h.1 t' (by omega) hj' q' hq'
            · by_cases et : t = j
              · exact Or.inr (by rw [et]; exact Nat.testBit_two_pow_self)
              · exact Or.inl (h t (by omega) et q e'))
          rw [show sumA (ncs (nxs v s) none (ncb (nxs v s) g none k) p) (t + 1) = sumA (ncs (nxs v s) none (ncb (nxs v s) g none k) p) t + ncs (nxs v s) none (ncb (nxs v s) g none k) p t from rfl, ncs_some (fun e => by cases e) e'] at r
          exact r
  unfold f_St_countFrom
  exact key (vN v) FU 0 127 (by omega) (by have := FU_big; omega) (by omega) (fun j hj => ⟨fun _ t' ht' => by omega, fun _ => tb127 j hj⟩)
/-- of a level, those that are done -/
def KD (P : PM) (v : NV) (s : SV) (g k p : Nat) : Prop := P.1 (71 + (k + 1)) p = nI (ncb (nxs v s) g none (k + 1) p) ∧ KSp P v s g (k + 1) p
theorem countRow_C {v : NV} {s : SV} {p0 g k N : Nat} {L : List Nat} {k58 : Int32 → Int32 → PM → Option (Int32 × PM)} (hv : NVok v) (hs : SVok v s) (hk : k < 10) :
    ∀ (m n i : Nat) (P : PM), i + m = L.length → m < n → CB P v s p0 L → KA P v s L g k → KS P v s L g k → (∀ j, j < i → KD P v s g k (L.getD j 0)) →
    ∃ P', l_St_countBack_72 k58 n (nI N) (nI (k + 1)) (nI i) P = k58 (nI N) (nI (k + 1 + 1)) P' ∧ KA P' v s L g (k + 1) ∧ KS P' v s L g (k + 1) ∧ sm stk P P' := by
  intro m
  induction m with
  | zero =>
    intro n i P hi hn hX hA hS hD
    obtain ⟨n, rfl⟩ : ∃ r, n = r + 1 := ⟨n - 1, by omega⟩
    have hl := nodup_len hX.2.1.1.2.2.2.1 hX.2.1.1.2.2.2.2
    have ix : ∀ x, x ∈ L → KD P v s g k x := fun x hx => by
      obtain ⟨j, hj, e⟩ := List.getElem_of_mem hx
      have := hD j (by omega)
      rwa [List.getD_eq_getElem?_getD, List.getElem?_eq_getElem hj, Option.getD_some, e] at this
    rw [l_St_countBack_72, hX.2.1.1.1, if_pos (nI_le (by omega) (by omega))]
    unfold j_St_countBack_113
    rw [show (1 : Int32) = nI 1 from rfl, nI_add]
    refine ⟨P, rfl, fun j hj p hp => ?_, fun p hp _ => (ix p hp).2, sm_refl⟩
    by_cases e : j = k + 1
    · rw [e]; exact (ix p hp).1
    · exact hA j (by omega) p hp
  | succ m ih =>
    intro n i P hi hn hX hA hS hD
    obtain ⟨n, rfl⟩ : ∃ r, n = r + 1 := ⟨n - 1, by omega⟩
    have hl := nodup_len hX.2.1.1.2.2.2.1 hX.2.1.1.2.2.2.2
    have hq : L.getD i 0 ∈ L := by
      rw [List.getD_eq_getElem?_getD, List.getElem?_eq_getElem (show i < L.length by omega)]
      exact List.getElem_mem _
    have h280 := hX.2.1.1.2.2.2.2 _ hq
    obtain ⟨x, r1, r2, r3⟩ := countFrom_C hv hs hX hk hA hS hq
    rw [l_St_countBack_72, hX.2.1.1.1, if_neg (nI_ge (by omega) (by omega)), if_neg (show ¬ (280 : Int32) ≤ nI i by simp (disch := omega) only [z_add, z_mul, z_sub, z_subm, z_addm, z_lt_t, z_lt_f, z_le_t, z_le_f, z_eq_t, z_eq_f, z_eqm, z_meq, z_mm, z_ltm, z_mlt, z_lem, z_mle, z_cl, z_ck, u1_1, u1_2, u2_1, u2_2, ↓reduceIte, Option.bind_some, Option.bind_none, bd2_some, lb_eq, and_true, and_false, true_and, false_and, not_true_eq_false, not_false_eq_true, eq_self_iff_true, if_true, if_false, Nat.reduceEqDiff, Nat.reduceAdd, Nat.reduceMul, Nat.reduceSub, Bool.false_eq_true, zl0, zl1, zl2, zl3, zl4, zl5, zl6, zl7, zl8, zl9, zl10, zl11, zl12, zl13, zl14, zl15, zl16, zl17, zl18, zl19, zl20, zl22, zl23, zl24, zl25, zl30, zl31, zl32, zl33, zl34, zl35, zl36, zl37, zl38, zl39, zl40, zl41, zl42, zl43, zl45, zl48, zl49, zl57, zl58, zl59, zl60, zl61, zl62, zl63, zl64, zl91, zl93, zl97, zl98, zl99, zl100, zl113, zl114, zl115, zl116, zl117, zl122, zl124, zl125, zl127, zl128, zl136, zl200, zl201, zl202, zl203, zl204, zl205, zl206, zl207, zl208, zl209, zl210, zl211, zl212, zl213, zl214, zl215, zl216, zl217, zl218, zl219, zl220, zl235, zl236, zl255, zl280, zl287, zl900, zl999, zl1000, zl1001, zl1136, zl1960, zl3000, zl3001, zl3002, zl3003, zl3004, zl3005, zl3006, zl3007, zl3008, zl3009, zl268435456, zl1000000000]), z_ck (by omega) (by omega), z_cl (by omega), hX.2.1.1.2.1 i (by omega), r1, Option.bind_some, show (1 : Int32) = nI 1 from rfl, nI_add]
    have s1 : sm stk P (u1 (u1 P (71 + (k + 1)) (L.getD i 0) (nI (ncb (nxs v s) g none (k + 1) (L.getD i 0)))) (83 + (k + 1) % 2) (L.getD i 0) (nI x)) := sm_u1 (sm_u1 sm_refl (by simp [stk]; omega)) (by simp [stk]; omega)
    obtain ⟨P', g1, g2, g3, g4⟩ := ih n (i + 1) _ (by omega) (by omega) (CB_st hX s1) (fun j hj p hp => by
      rw [u1_1, if_neg (by omega), u1_1, if_neg (by omega)]; exact hA j hj p hp) (fun p hp h0 => by
      obtain ⟨y, y1, y2, y3⟩ := hS p hp h0
      refine ⟨y, y1, ?_, y3⟩
      rw [u1_1, if_neg (by omega), u1_1, if_neg (by omega)]; exact y2) (fun j hj => by
      by_cases e : L.getD j 0 = L.getD i 0
      · rw [e]
        refine ⟨?_, x, r2, ?_, r3⟩
        · rw [u1_1, if_neg (by omega), u1_1, if_pos ⟨rfl, rfl⟩]
        · rw [u1_1, if_pos ⟨rfl, rfl⟩]
      · have hj' : j < i := by
          apply Classical.byContradiction
          intro hn
          obtain rfl : j = i := by omega
          exact e rfl
        obtain ⟨a1, y, y1, y2, y3⟩ := hD j hj'
        refine ⟨?_, y, y1, ?_, y3⟩
        · rw [u1_1, if_neg (by omega), u1_1, if_neg (fun q => e q.2)]; exact a1
        · rw [u1_1, if_neg (fun q => e q.2), u1_1, if_neg (by omega)]; exact y2)
    exact ⟨P', g1, g2, g3, sm_trans s1 g4⟩
theorem countLev_C {v : NV} {s : SV} {p0 g N w : Nat} {L : List Nat} (hv : NVok v) (hs : SVok v s) (hw : sW s = some w) (hp0 : p0 = pl s w) (hN : N ≤ 10) :
    ∀ (m n k : Nat) (P : PM), k + m = N → m < n → CSt P 21 s → CB P v s p0 L → KA P v s L g k → KS P v s L g k →
    ∃ P', l_St_countBack_58 n (nI N) (nI (k + 1)) P = some (nI (ncb (nxs v s) g none N p0), P') ∧ KA P' v s L g N ∧ KS P' v s L g N ∧ sm stk P P' := by
  obtain ⟨h280, _, h7⟩ := pl_ok hv hs hw
  intro m
  induction m with
  | zero =>
    intro n k P hk hn h21 hX hA hS
    obtain ⟨n, rfl⟩ : ∃ r, n = r + 1 := ⟨n - 1, by omega⟩
    obtain rfl : k = N := by omega
    have hm : pl s w ∈ L := hp0 ▸ (hX.2.1.2.1 _).mpr Rch_0
    rw [l_St_countBack_58, if_pos (nI_lt (by omega) (by omega))]
    unfold j_St_countBack_119
    rw [place_C h21 hv hs hw, routesFrom_n hN h280, Option.bind_some, hA k (Nat.le_refl _) _ hm, hp0]
    exact ⟨P, rfl, hA, hS, sm_refl⟩
  | succ m ih =>
    intro n k P hk hn h21 hX hA hS
    obtain ⟨n, rfl⟩ : ∃ r, n = r + 1 := ⟨n - 1, by omega⟩
    rw [l_St_countBack_58, if_neg (nI_nlt (by omega) (by omega)), if_neg (show ¬ (10 : Int32) < nI (k + 1) by simp (disch := omega) only [z_add, z_mul, z_sub, z_subm, z_addm, z_lt_t, z_lt_f, z_le_t, z_le_f, z_eq_t, z_eq_f, z_eqm, z_meq, z_mm, z_ltm, z_mlt, z_lem, z_mle, z_cl, z_ck, u1_1, u1_2, u2_1, u2_2, ↓reduceIte, Option.bind_some, Option.bind_none, bd2_some, lb_eq, and_true, and_false, true_and, false_and, not_true_eq_false, not_false_eq_true, eq_self_iff_true, if_true, if_false, Nat.reduceEqDiff, Nat.reduceAdd, Nat.reduceMul, Nat.reduceSub, Bool.false_eq_true, zl0, zl1, zl2, zl3, zl4, zl5, zl6, zl7, zl8, zl9, zl10, zl11, zl12, zl13, zl14, zl15, zl16, zl17, zl18, zl19, zl20, zl22, zl23, zl24, zl25, zl30, zl31, zl32, zl33, zl34, zl35, zl36, zl37, zl38, zl39, zl40, zl41, zl42, zl43, zl45, zl48, zl49, zl57, zl58, zl59, zl60, zl61, zl62, zl63, zl64, zl91, zl93, zl97, zl98, zl99, zl100, zl113, zl114, zl115, zl116, zl117, zl122, zl124, zl125, zl127, zl128, zl136, zl200, zl201, zl202, zl203, zl204, zl205, zl206, zl207, zl208, zl209, zl210, zl211, zl212, zl213, zl214, zl215, zl216, zl217, zl218, zl219, zl220, zl235, zl236, zl255, zl280, zl287, zl900, zl999, zl1000, zl1001, zl1136, zl1960, zl3000, zl3001, zl3002, zl3003, zl3004, zl3005, zl3006, zl3007, zl3008, zl3009, zl268435456, zl1000000000])]
    have hl := nodup_len hX.2.1.1.2.2.2.1 hX.2.1.1.2.2.2.2
    obtain ⟨P1, g1, g2, g3, g4⟩ := countRow_C (k58 := fun z0 z1 Pz => l_St_countBack_58 n z0 z1 Pz) (N := N) hv hs (show k < 10 by omega) L.length FU 0 P (by omega) (by have := FU_big; omega) hX hA hS (fun j hj => by omega)
    obtain ⟨P2, r1, r2, r3, r4⟩ := ih n (k + 1) P1 (by omega) (by omega) (CSt_sm h21 g4 rfl rfl) (CB_st hX g4) g2 g3
    exact ⟨P2, by rw [show (0 : Int32) = nI 0 from rfl, g1]; exact r1, r2, r3, sm_trans g4 r4⟩
theorem CRep_st {P P' : PM} {a : AS} (h : CRep P a) (g : sm stk P P') : CRep P' a := CRep_ce h (ce_sm g (fun o e => by simp [esr] at e; simp [stk]; omega) (by rw [g.1 31 rfl]) (by rw [g.1 31 rfl]))
theorem countBack_C {P : PM} {a : AS} {w N g : Nat} (hC : CRep P a) (hok : AOk a) (hca : CCa P (aV a)) (hw : sW (aS a) = some w) (hN1 : 1 ≤ N) (hN : N ≤ 10) (hg : g < 280) :
    ∃ L P', f_St_countBack (nI N) (nI g) P = some (nI (ncb (nxs (aV a) (aS a)) g none N (pl (aS a) w)), P') ∧ CB P' (aV a) (aS a) (pl (aS a) w) L ∧ KA P' (aV a) (aS a) L g N ∧ KS P' (aV a) (aS a) L g N ∧ CRep P' a ∧ CCa P' (aV a) ∧ sm cl P P' := by
  have hv := hok.1
  have hs := hok.2.1
  obtain ⟨L, P1, g1, g2, g3, g4, g5⟩ := expl_C hC hok hca hw hs.2.2.2.1
  obtain ⟨P2, hP2⟩ : ∃ P2, P2 = u1 (u1 (rowI P1 71 0 280 (0 : Int32)) 71 g (1 : Int32)) 83 g (0 : Int32) := ⟨_, rfl⟩
  have s2 : sm stk P1 P2 := by
    rw [hP2]
    exact sm_u1 (sm_u1 (sm_rowI sm_refl rfl) rfl) rfl
  have hX : CB P2 (aV a) (aS a) (pl (aS a) w) L := CB_st ⟨g3.1, g2, g3.2.1.2.2.2.1⟩ s2
  obtain ⟨P3, r1, r2, r3, r4⟩ := countLev_C (g := g) hv hs hw rfl hN N FU 0 P2 (by omega) (by have := FU_big; omega) (CSt_sm g3.2.1 s2 rfl rfl) hX (fun j hj p hp => by
      obtain rfl : j = 0 := by omega
      have h280 := g2.1.2.2.2.2 p hp
      rw [hP2, u1_1, if_neg (by omega), u1_1]
      show (if 71 + 0 = 71 ∧ p = g then _ else _) = nI (if p = g then 1 else 0)
      by_cases e : p = g
      · rw [if_pos ⟨rfl, e⟩, if_pos e]; rfl
      · rw [if_neg (fun q => e q.2), if_neg e, rowI_1, if_pos (by omega)]; rfl) (fun p hp h0 => by
      have e : p = g := by
        apply Classical.byContradiction
        intro hn
        have h0 : 0 < (if p = g then 1 else 0) := h0
        rw [if_neg hn] at h0
        omega
      subst e
      refine ⟨0, by omega, ?_, fun j hj => ?_⟩
      · rw [hP2, u1_1, if_pos ⟨rfl, rfl⟩]; rfl
      · rw [Nat.zero_testBit]
        show false = true ↔ (if p = p then 1 else 0) = 0
        rw [if_pos rfl]
        exact ⟨(fun h => by cases h), (fun h => by omega)⟩)
  have s3 : sm stk P1 P3 := sm_trans s2 r4
  refine ⟨L, P3, ?_, CB_st hX r4, r2, r3, CRep_st g3 s3, CCa_ro g4 (s3.1 59 rfl) (s3.1 60 rfl), sm_trans (xr_cl g5) (sm_mono s3 (fun o q => by simp [cl] at q; simp [stk]; omega))⟩
  unfold f_St_countBack
  rw [hC.2.1.2.2.2.1, g1, Option.bind_some, fillAII (by omega), Option.bind_some, place_n g (by omega), if_pos hg, if_neg (by decide), z_ck hg (by omega), z_ck hg (by omega), z_cl (by omega), ← hP2]
  exact r1
theorem firstBack_C {P : PM} {v : NV} {s : SV} {p0 g k N p : Nat} {L : List Nat} (hv : NVok v) (hs : SVok v s) (hX : CB P v s p0 L) (hA : KA P v s L g N) (hk : k + 1 ≤ N) (hN : N ≤ 10) (hp : p ∈ L) :
    f_St_firstBack (nI (k + 1)) (nI p) P = some (oI (fbk (nxs v s) g (vN v) (k + 1) p)) := by
  have hN7 := hv.1
  have loop : ∀ (m n t : Nat), t + m = vN v → m < n → l_St_firstBack_2 n (nI (k + 1)) (nI p) (nI t) P = some (oI (ff (fbq (nxs v s) (ncb (nxs v s) g none k) p) m t)) := by
    intro m
    induction m with
    | zero =>
      intro n t ht hn
      obtain ⟨n, rfl⟩ : ∃ r, n = r + 1 := ⟨n - 1, by omega⟩
      rw [l_St_firstBack_2, hX.1.1, if_pos (nI_le (by omega) (by omega))]
      rfl
    | succ m ih =>
      intro n t ht hn
      obtain ⟨n, rfl⟩ : ∃ r, n = r + 1 := ⟨n - 1, by omega⟩
      have e1 : nI (k + 1) - (1 : Int32) = nI k := by rw [show (1 : Int32) = nI 1 from rfl, pk_sub (by omega), Nat.add_sub_cancel]
      rw [l_St_firstBack_2, hX.1.1, if_neg (nI_ge (by omega) (by omega)), hX.2.2, next_C (t := t) hX.1 hv hX.2.1 hs.2.2.2.1 hp (by omega), Option.bind_some, e1, show (1 : Int32) = nI 1 from rfl, nI_add]
      show _ = some (oI (if fbq (nxs v s) (ncb (nxs v s) g none k) p t = true then some t else ff (fbq (nxs v s) (ncb (nxs v s) g none k) p) m (t + 1)))
      cases e : nxp v s (sA s) p t with
      | none =>
        have : fbq (nxs v s) (ncb (nxs v s) g none k) p t = false := by unfold fbq; rw [show nxs v s p t = none from e]
        rw [oI_n, routesFrom_m (by omega), Option.bind_some, if_pos (by decide), this, if_neg (by decide)]
        exact ih n (t + 1) (by omega) (by omega)
      | some q =>
        have hqL := nx_L hv hX.2.1 hp e
        have hq := hX.2.1.1.2.2.2.2 q hqL
        have hcb := ncb_b (nxs v s) g none (show k ≤ 10 by omega) q
        have hf : fbq (nxs v s) (ncb (nxs v s) g none k) p t = decide (0 < ncb (nxs v s) g none k q) := by unfold fbq; rw [show nxs v s p t = some q from e]
        rw [oI_s, routesFrom_n (by omega) hq, Option.bind_some, hA k (by omega) q hqL, hf]
        by_cases c : ncb (nxs v s) g none k q = 0
        · rw [c, if_pos (by decide), if_neg (by decide)]
          exact ih n (t + 1) (by omega) (by omega)
        · rw [if_neg (by simp (disch := omega) only [z_add, z_mul, z_sub, z_subm, z_addm, z_lt_t, z_lt_f, z_le_t, z_le_f, z_eq_t, z_eq_f, z_eqm, z_meq, z_mm, z_ltm, z_mlt, z_lem, z_mle, z_cl, z_ck, u1_1, u1_2, u2_1, u2_2, ↓reduceIte, Option.bind_some, Option.bind_none, bd2_some, lb_eq, and_true, and_false, true_and, false_and, not_true_eq_false, not_false_eq_true, eq_self_iff_true, if_true, if_false, Nat.reduceEqDiff, Nat.reduceAdd, Nat.reduceMul, Nat.reduceSub, Bool.false_eq_true, zl0, zl1, zl2, zl3, zl4, zl5, zl6, zl7, zl8, zl9, zl10, zl11, zl12, zl13, zl14, zl15, zl16, zl17, zl18, zl19, zl20, zl22, zl23, zl24, zl25, zl30, zl31, zl32, zl33, zl34, zl35, zl36, zl37, zl38, zl39, zl40, zl41, zl42, zl43, zl45, zl48, zl49, zl57, zl58, zl59, zl60, zl61, zl62, zl63, zl64, zl91, zl93, zl97, zl98, zl99, zl100, zl113, zl114, zl115, zl116, zl117, zl122, zl124, zl125, zl127, zl128, zl136, zl200, zl201, zl202, zl203, zl204, zl205, zl206, zl207, zl208, zl209, zl210, zl211, zl212, zl213, zl214, zl215, zl216, zl217, zl218, zl219, zl220, zl235, zl236, zl255, zl280, zl287, zl900, zl999, zl1000, zl1001, zl1136, zl1960, zl3000, zl3001, zl3002, zl3003, zl3004, zl3005, zl3006, zl3007, zl3008, zl3009, zl268435456, zl1000000000]), if_pos (by rw [decide_eq_true_eq]; omega)]
          rfl
  exact loop (vN v) FU 0 (by omega) (by have := FU_big; omega)
theorem stationBack_C {P : PM} {v : NV} {s : SV} {p0 g N i w : Nat} {L : List Nat} (hv : NVok v) (hs : SVok v s) (h21 : CSt P 21 s) (hw : sW s = some w) (hX : CB P v s (pl s w) L) (hA : KA P v s L g N) (hN1 : 1 ≤ N) (hN : N ≤ 10) (hi : i < N) :
    f_St_stationBack (nI N) (nI i) P = some (oI (sbk (nxs v s) g (vN v) i N (pl s w))) := by
  have hN7 := hv.1
  have loop : ∀ (m n c p : Nat), c + m = i → m < n → p ∈ L → l_St_stationBack_28 n (nI N) (nI i) (nI p) (oI (fbk (nxs v s) g (vN v) (N - c) p)) (nI c) P = some (oI (sbk (nxs v s) g (vN v) (i - c) (N - c) p)) := by
    intro m
    induction m with
    | zero =>
      intro n c p hc hn hp
      obtain ⟨n, rfl⟩ : ∃ r, n = r + 1 := ⟨n - 1, by omega⟩
      obtain rfl : c = i := by omega
      rw [l_St_stationBack_28, if_pos (nI_le (by omega) (by omega)), Nat.sub_self]
      rfl
    | succ m ih =>
      intro n c p hc hn hp
      obtain ⟨n, rfl⟩ : ∃ r, n = r + 1 := ⟨n - 1, by omega⟩
      obtain ⟨d, hd⟩ : ∃ d, i - c = d + 1 := ⟨i - c - 1, by omega⟩
      obtain ⟨k, hk⟩ : ∃ k, N - c = k + 1 := ⟨N - c - 1, by omega⟩
      rw [l_St_stationBack_28, if_neg (nI_ge (by omega) (by omega)), if_neg (show ¬ (10 : Int32) ≤ nI c by simp (disch := omega) only [z_add, z_mul, z_sub, z_subm, z_addm, z_lt_t, z_lt_f, z_le_t, z_le_f, z_eq_t, z_eq_f, z_eqm, z_meq, z_mm, z_ltm, z_mlt, z_lem, z_mle, z_cl, z_ck, u1_1, u1_2, u2_1, u2_2, ↓reduceIte, Option.bind_some, Option.bind_none, bd2_some, lb_eq, and_true, and_false, true_and, false_and, not_true_eq_false, not_false_eq_true, eq_self_iff_true, if_true, if_false, Nat.reduceEqDiff, Nat.reduceAdd, Nat.reduceMul, Nat.reduceSub, Bool.false_eq_true, zl0, zl1, zl2, zl3, zl4, zl5, zl6, zl7, zl8, zl9, zl10, zl11, zl12, zl13, zl14, zl15, zl16, zl17, zl18, zl19, zl20, zl22, zl23, zl24, zl25, zl30, zl31, zl32, zl33, zl34, zl35, zl36, zl37, zl38, zl39, zl40, zl41, zl42, zl43, zl45, zl48, zl49, zl57, zl58, zl59, zl60, zl61, zl62, zl63, zl64, zl91, zl93, zl97, zl98, zl99, zl100, zl113, zl114, zl115, zl116, zl117, zl122, zl124, zl125, zl127, zl128, zl136, zl200, zl201, zl202, zl203, zl204, zl205, zl206, zl207, zl208, zl209, zl210, zl211, zl212, zl213, zl214, zl215, zl216, zl217, zl218, zl219, zl220, zl235, zl236, zl255, zl280, zl287, zl900, zl999, zl1000, zl1001, zl1136, zl1960, zl3000, zl3001, zl3002, zl3003, zl3004, zl3005, zl3006, zl3007, zl3008, zl3009, zl268435456, zl1000000000]), hd, hk]
      show _ = some (oI (match fbk (nxs v s) g (vN v) (k + 1) p with | none => none | some t => match nxs v s p t with | none => none | some q => sbk (nxs v s) g (vN v) d (k + 1 - 1) q))
      cases e : fbk (nxs v s) g (vN v) (k + 1) p with
      | none => rw [oI_n, if_pos (by decide)]
      | some t =>
        obtain ⟨htN, q, hq, hc0⟩ := fbk_some e
        have hq' : nxp v s (sA s) p t = some q := hq
        have hqL := nx_L hv hX.2.1 hp hq'
        obtain ⟨k', hk'⟩ : ∃ k', k = k' + 1 := ⟨k - 1, by omega⟩
        rw [oI_s, if_neg (by simp (disch := omega) only [z_add, z_mul, z_sub, z_subm, z_addm, z_lt_t, z_lt_f, z_le_t, z_le_f, z_eq_t, z_eq_f, z_eqm, z_meq, z_mm, z_ltm, z_mlt, z_lem, z_mle, z_cl, z_ck, u1_1, u1_2, u2_1, u2_2, ↓reduceIte, Option.bind_some, Option.bind_none, bd2_some, lb_eq, and_true, and_false, true_and, false_and, not_true_eq_false, not_false_eq_true, eq_self_iff_true, if_true, if_false, Nat.reduceEqDiff, Nat.reduceAdd, Nat.reduceMul, Nat.reduceSub, Bool.false_eq_true, zl0, zl1, zl2, zl3, zl4, zl5, zl6, zl7, zl8, zl9, zl10, zl11, zl12, zl13, zl14, zl15, zl16, zl17, zl18, zl19, zl20, zl22, zl23, zl24, zl25, zl30, zl31, zl32, zl33, zl34, zl35, zl36, zl37, zl38, zl39, zl40, zl41, zl42, zl43, zl45, zl48, zl49, zl57, zl58, zl59, zl60, zl61, zl62, zl63, zl64, zl91, zl93, zl97, zl98, zl99, zl100, zl113, zl114, zl115, zl116, zl117, zl122, zl124, zl125, zl127, zl128, zl136, zl200, zl201, zl202, zl203, zl204, zl205, zl206, zl207, zl208, zl209, zl210, zl211, zl212, zl213, zl214, zl215, zl216, zl217, zl218, zl219, zl220, zl235, zl236, zl255, zl280, zl287, zl900, zl999, zl1000, zl1001, zl1136, zl1960, zl3000, zl3001, zl3002, zl3003, zl3004, zl3005, zl3006, zl3007, zl3008, zl3009, zl268435456, zl1000000000]), hX.2.2, next_C hX.1 hv hX.2.1 hs.2.2.2.1 hp htN, Option.bind_some, hq', oI_s, show (1 : Int32) = nI 1 from rfl, pk_sub (show c ≤ N by omega), pk_sub (show 1 ≤ N - c by omega), show N - c - 1 = k' + 1 by omega, firstBack_C hv hs hX hA (by omega) hN hqL, Option.bind_some, nI_add]
        have r := ih n (c + 1) q (by omega) (by omega) hqL
        rw [show N - (c + 1) = k' + 1 by omega, show i - (c + 1) = d by omega] at r
        rw [r]
        show _ = some (oI (match nxs v s p t with | none => none | some q => sbk (nxs v s) g (vN v) d (k + 1 - 1) q))
        rw [hq, Nat.add_sub_cancel, hk']
  have hm : pl s w ∈ L := (hX.2.1.2.1 _).mpr Rch_0
  obtain ⟨k, hk⟩ : ∃ k, N = k + 1 := ⟨N - 1, by omega⟩
  unfold f_St_stationBack j_St_stationBack_23
  have r := loop i FU 0 (pl s w) (by omega) (by have := FU_big; omega) hm
  rw [Nat.sub_zero, Nat.sub_zero] at r
  rw [place_C h21 hv hs hw, lb_eq, if_neg (nI_ge hi (by omega)), show f_St_firstBack (nI N) (nI (pl s w)) P = some (oI (fbk (nxs v s) g (vN v) N (pl s w))) by rw [hk]; exact firstBack_C hv hs hX (hk ▸ hA) (by omega) (by omega) hm, Option.bind_some]
  exact r
