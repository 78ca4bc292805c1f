/-! the reference's deeds -/
/-- places j + x up to j + e of row k are those of row a from b + x on -/
def cpy (P : PM) (a b k j x e : Nat) : PM := (fun u v => if u = k ∧ j + x ≤ v ∧ v < j + e then P.1 a (b + (v - j)) else P.1 u v, P.2)
theorem cpy_1 (P : PM) (a b k j x e u v : Nat) : (cpy P a b k j x e).1 u v = if u = k ∧ j + x ≤ v ∧ v < j + e then P.1 a (b + (v - j)) else P.1 u v := rfl
theorem cpy_nil {P : PM} {a b k j x e : Nat} (h : e ≤ x) : cpy P a b k j x e = P := PM_ext (fun u v => if_neg (by omega)) (fun _ _ => rfl)
theorem cpy_s {P : PM} {a b k j x e : Nat} (h : x < e) (hd : a ≠ k ∨ j ≤ b ∨ b + e ≤ j) : cpy (u1 P k (j + x) (P.1 a (b + x))) a b k j (x + 1) e = cpy P a b k j x e := by
  refine PM_ext (fun u v => ?_) (fun _ _ => rfl)
  rw [cpy_1, cpy_1, u1_1, u1_1]
  by_cases h1 : u = k ∧ j + (x + 1) ≤ v ∧ v < j + e
  · rw [if_pos h1, if_neg (by omega), if_pos (by omega)]
  · rw [if_neg h1]
    by_cases h2 : u = k ∧ v = j + x
    · rw [if_pos h2, if_pos (by omega), h2.2, show j + x - j = x by omega]
    · rw [if_neg h2, if_neg (by omega)]
theorem cpy_sm {P : PM} {a b k j x e : Nat} : sm (fun o => o == k) P (cpy P a b k j x e) := by
  refine ⟨fun o h => ?_, fun _ _ => rfl⟩
  funext v
  rw [cpy_1, if_neg]
  rintro ⟨rfl, _⟩
  simp at h
theorem within_i (a b c : Int64) (P : PM) : f_Mo_within a b c P = if b.toInt ≤ a.toInt ∧ a.toInt ≤ c.toInt then nI 1 else nI 0 := by
  unfold f_Mo_within j_Mo_within_17
  by_cases h1 : lg_cmp a b < 0
  · have := (lgc_lt a b).mp h1
    rw [if_pos h1, if_neg (by omega)]; rfl
  · have h1' : ¬ a.toInt < b.toInt := fun q => h1 ((lgc_lt a b).mpr q)
    rw [if_neg h1]
    by_cases h2 : 0 < lg_cmp a c
    · have := (lgc_gt a c).mp h2
      rw [if_pos h2, if_neg (by omega)]; rfl
    · have h2' : ¬ c.toInt < a.toInt := fun q => h2 ((lgc_gt a c).mpr q)
      rw [if_neg h2, if_pos (by omega)]; rfl
theorem isz_n (c : Prop) [Decidable c] : isz (if c then nI 1 else nI 0) = true := by
  split <;> decide
theorem isStation_M {P : PM} {N : Nat} (a : Int64) (h : P.1 110 1 = nI N) (hN : N ≤ 7) : f_Mo_isStation a P = some (if 0 ≤ a.toInt ∧ a.toInt < N then nI 1 else nI 0) := by
  have e : f_Mo_within a (0 : Int64) (((P.1 110 (1 : Int32).toNatClampNeg) - (1 : Int32)).toInt64) P = if 0 ≤ a.toInt ∧ a.toInt < N then nI 1 else nI 0 := by
    rw [within_i, show P.1 110 (1 : Int32).toNatClampNeg = nI N from h, tl_ti, show (1 : Int32) = nI 1 from rfl, pk_sub_toInt (by omega) (by omega)]
    have : (0 : Int64).toInt = 0 := rfl
    rw [this]
    by_cases c : 0 ≤ a.toInt ∧ a.toInt < N
    · rw [if_pos c, if_pos (by omega)]
    · rw [if_neg c, if_neg (by omega)]
  unfold f_Mo_isStation
  rw [e, ck_t (isz_n _)]
theorem isSize_M {P : PM} (a : Int64) : f_Mo_isSize a P = some (if 1 ≤ a.toInt ∧ a.toInt ≤ 40 then nI 1 else nI 0) := by
  unfold f_Mo_isSize
  rw [within_i, show (1 : Int64).toInt = 1 from rfl, show (40 : Int64).toInt = 40 from rfl, ck_t (isz_n _)]
/-- the reference's row but for what a deed changes -/
def mj (P P' : PM) : Prop := sm (fun o => o == 110 || o == 114 || o == 115) P P' ∧ ∀ j, j < 113 ∨ 124 ≤ j → P'.1 110 j = P.1 110 j
theorem mj_refl {P : PM} : mj P P := ⟨sm_refl, fun _ _ => rfl⟩
theorem mj_trans {P P' P'' : PM} (h : mj P P') (g : mj P' P'') : mj P P'' := ⟨sm_trans h.1 g.1, fun j q => (g.2 j q).trans (h.2 j q)⟩
theorem mj_sm {P P' : PM} (h : sm (fun o => o == 114 || o == 115) P P') : mj P P' := ⟨sm_mono h (fun o q => by simp at q ⊢; exact ⟨q.1.2, q.2⟩), fun j _ => by rw [h.1 110 rfl]⟩
theorem mj_u1 {P P' : PM} {i : Nat} {x : Int32} (h : mj P P') (hi : 113 ≤ i ∧ i < 124) : mj P (u1 P' 110 i x) := ⟨sm_u1 h.1 rfl, fun j q => by rw [u1_1, if_neg (by omega)]; exact h.2 j q⟩
theorem MNet_ix {P P' : PM} {o f : Nat} {v : NV} (h : MNet P o f v) (hj : ∀ j, j < 113 ∨ 236 ≤ j → P'.1 o (f + j) = P.1 o (f + j)) : MNet P' o f v := by
  have g : ∀ k j, k = f + j → (j < 113 ∨ 236 ≤ j) → P'.1 o k = P.1 o k := fun k j e q => by rw [e]; exact hj j q
  obtain ⟨h1, h2, h3, h4, h5, h6, h7⟩ := h
  have gl : ∀ q es, q < 2 → MLw P o f q es → MLw P' o f q es := by
    intro q es hq hl
    refine ⟨(g _ (2 + q) (by omega) (by omega)).trans hl.1, fun he => ?_⟩
    obtain ⟨fr, k1, k2, k3, k4⟩ := hl.2 he
    exact ⟨fr, (g _ (4 + q) (by omega) (by omega)).trans k1, (g _ (6 + q) (by omega) (by omega)).trans k2, k3, fun j hj => (g _ (236 + fr + j) (by omega) (by omega)).trans (k4 j hj)⟩
  exact ⟨(g _ 1 rfl (by omega)).trans h1, (g _ 0 rfl (by omega)).trans h2, fun i hi => (g _ (8 + i) (by omega) (by omega)).trans (h3 i hi),
    fun s t hs ht => (g _ (15 + (7 * s + t)) (by omega) (by omega)).trans (h4 s t hs ht), fun s t hs ht => (g _ (64 + (7 * s + t)) (by omega) (by omega)).trans (h5 s t hs ht), gl 0 _ (by omega) h6, gl 1 _ (by omega) h7⟩
theorem MNet_mj {P P' : PM} {v : NV} (h : MNet P 110 0 v) (g : mj P P') : MNet P' 110 0 v := MNet_ix h (fun j q => g.2 (0 + j) (by omega))
theorem whyPass_M {P : PM} {v : NV} {s : SV} {t : Nat} (hn : MNet P 110 0 v) (hv : NVok v) (h : MSt P 110 113 s) (hs : SVok v s) (ht : t < 100) :
    ∃ P', f_Mo_whyPass (lN t) P = some (nI (aps v s t).1, P') ∧ sm (fun o => o == 114 || o == 115) P P' := by
  have hN := hv.1
  have h7 := pw_le hv.1
  unfold f_Mo_whyPass
  rw [isStation_M (lN t) hn.1 hN, lN_ti (by omega)]
  by_cases c : t < vN v
  · rw [if_pos (by omega)]
    rw [Option.bind_some, if_neg (by decide), show P.1 110 (113 : Int32).toNatClampNeg = oI (sW s) from h.1, lN_i, show P.1 110 (114 : Int32).toNatClampNeg = nI (sZ s) from h.2.1, show P.1 110 (116 : Int32).toNatClampNeg = nI (sA s) from h.2.2.2.1]
    have hap : (aps v s t).1 = whyP v s t := by unfold aps; rw [if_pos c]
    rw [hap]
    unfold whyP
    cases hw : sW s with
    | none => exact ⟨P, rfl, sm_refl⟩
    | some w =>
      obtain ⟨hwN, hz1⟩ := hs.1 w hw
      have hd : P.1 110 (117 + t) = nI (sD s t) := h.2.2.2.2 t (by omega)
      obtain ⟨P1, g1, g2⟩ := whyBy_M (z := sZ s) (sl := sA s) hn hv (show w < 7 by omega) (show t < 7 by omega) hd (by have := hs.2.2.2.1; omega)
      rw [oI_s, if_neg (by simp (disch := omega) only [z_add, z_mul, z_sub, z_subm, z_addm, z_lt_t, z_lt_f, z_le_t, z_le_f, z_eq_t, z_eq_f, z_eqm, z_meq, z_mm, z_ltm, z_mlt, z_lem, z_mle, z_cl, z_ck, u1_1, u1_2, u2_1, u2_2, ↓reduceIte, Option.bind_some, Option.bind_none, bd2_some, lb_eq, and_true, and_false, true_and, false_and, not_true_eq_false, not_false_eq_true, eq_self_iff_true, if_true, if_false, Nat.reduceEqDiff, Nat.reduceAdd, Nat.reduceMul, Nat.reduceSub, Bool.false_eq_true, zl0, zl1, zl2, zl3, zl4, zl5, zl6, zl7, zl8, zl9, zl10, zl11, zl12, zl13, zl14, zl15, zl16, zl17, zl18, zl19, zl20, zl22, zl23, zl24, zl25, zl30, zl31, zl32, zl33, zl34, zl35, zl36, zl37, zl38, zl39, zl40, zl41, zl42, zl43, zl45, zl48, zl49, zl57, zl58, zl59, zl60, zl61, zl62, zl63, zl64, zl91, zl93, zl97, zl98, zl99, zl100, zl113, zl114, zl115, zl116, zl117, zl122, zl124, zl125, zl127, zl128, zl136, zl200, zl201, zl202, zl203, zl204, zl205, zl206, zl207, zl208, zl209, zl210, zl211, zl212, zl213, zl214, zl215, zl216, zl217, zl218, zl219, zl220, zl235, zl236, zl255, zl280, zl287, zl900, zl999, zl1000, zl1001, zl1136, zl1960, zl3000, zl3001, zl3002, zl3003, zl3004, zl3005, zl3006, zl3007, zl3008, zl3009, zl268435456, zl1000000000]), g1]
      exact ⟨P1, rfl, g2⟩
  · rw [if_neg (by omega)]
    have hap : (aps v s t).1 = 1 := by unfold aps; rw [if_neg c]
    rw [hap]
    exact ⟨P, rfl, sm_refl⟩
theorem goes_M {P : PM} {v : NV} {s : SV} {t : Nat} (hn : MNet P 110 0 v) (hv : NVok v) (h : MSt P 110 113 s) (hs : SVok v s) (ht : t < vN v) (hw0 : whyP v s t = 0) :
    ∃ P', f_Mo_goes (nI t) P = some P' ∧ MSt P' 110 113 (goP v s t) ∧ mj P P' := by
  have hN := hv.1
  unfold f_Mo_goes
  cases hw : sW s with
  | none => unfold whyP at hw0; rw [hw] at hw0; cases hw0
  | some w =>
    obtain ⟨hwN, hz1⟩ := hs.1 w hw
    have hd : P.1 110 (117 + t) = nI (sD s t) := h.2.2.2.2 t (by omega)
    obtain ⟨P1, g1, g2⟩ := passedTo_M (z := sZ s) hn hv (show w < 7 by omega) (show t < 7 by omega) hs.2.2.1 hd
    rw [show P.1 110 (113 : Int32).toNatClampNeg = nI w by rw [show P.1 110 (113 : Int32).toNatClampNeg = P.1 110 113 from rfl, h.1, hw]; rfl, show P.1 110 (114 : Int32).toNatClampNeg = nI (sZ s) from h.2.1, g1, bd2_some]
    have hn1 : MNet P1 110 0 v := MNet_sm hn g2 rfl
    have h1 : MSt P1 110 113 s := MSt_sm h g2 rfl
    have hp := pss_le (v := v) (s := w) (t := t) (d := sD s t) hs.2.2.1
    have hsz : szP v s t = pss v w (sZ s) t (sD s t) := by unfold szP; rw [hw]
    rw [show P1.1 110 (113 : Int32).toNatClampNeg = nI w by rw [show P1.1 110 (113 : Int32).toNatClampNeg = P1.1 110 113 from rfl, h1.1, hw]; rfl, hours_M hn1 (by omega) (by omega), Option.bind_some]
    have hfin : ∀ x : Int32, x = oI (if szP v s t = 0 then none else some t) → ∃ P', j_Mo_goes_57 (nI (pss v w (sZ s) t (sD s t))) (113 : Int32) x (u1 P1 110 (115 : Int32).toNatClampNeg ((P1.1 110 (115 : Int32).toNatClampNeg) + nI (vH v w t))) = some P' ∧ MSt P' 110 113 (goP v s t) ∧ mj P P' := by
      intro x hx
      unfold j_Mo_goes_57
      simp (disch := omega) only [z_add, z_mul, z_sub, z_subm, z_addm, z_lt_t, z_lt_f, z_le_t, z_le_f, z_eq_t, z_eq_f, z_eqm, z_meq, z_mm, z_ltm, z_mlt, z_lem, z_mle, z_cl, z_ck, u1_1, u1_2, u2_1, u2_2, ↓reduceIte, Option.bind_some, Option.bind_none, bd2_some, lb_eq, and_true, and_false, true_and, false_and, not_true_eq_false, not_false_eq_true, eq_self_iff_true, if_true, if_false, Nat.reduceEqDiff, Nat.reduceAdd, Nat.reduceMul, Nat.reduceSub, Bool.false_eq_true, zl0, zl1, zl2, zl3, zl4, zl5, zl6, zl7, zl8, zl9, zl10, zl11, zl12, zl13, zl14, zl15, zl16, zl17, zl18, zl19, zl20, zl22, zl23, zl24, zl25, zl30, zl31, zl32, zl33, zl34, zl35, zl36, zl37, zl38, zl39, zl40, zl41, zl42, zl43, zl45, zl48, zl49, zl57, zl58, zl59, zl60, zl61, zl62, zl63, zl64, zl91, zl93, zl97, zl98, zl99, zl100, zl113, zl114, zl115, zl116, zl117, zl122, zl124, zl125, zl127, zl128, zl136, zl200, zl201, zl202, zl203, zl204, zl205, zl206, zl207, zl208, zl209, zl210, zl211, zl212, zl213, zl214, zl215, zl216, zl217, zl218, zl219, zl220, zl235, zl236, zl255, zl280, zl287, zl900, zl999, zl1000, zl1001, zl1136, zl1960, zl3000, zl3001, zl3002, zl3003, zl3004, zl3005, zl3006, zl3007, zl3008, zl3009, zl268435456, zl1000000000]
      refine ⟨_, rfl, ⟨?_, ?_, ?_, ?_, fun i hi => ?_⟩, mj_u1 (mj_u1 (mj_u1 (mj_sm g2) (by omega)) (by omega)) (by omega)⟩
      · simp (disch := omega) only [z_add, z_mul, z_sub, z_subm, z_addm, z_lt_t, z_lt_f, z_le_t, z_le_f, z_eq_t, z_eq_f, z_eqm, z_meq, z_mm, z_ltm, z_mlt, z_lem, z_mle, z_cl, z_ck, u1_1, u1_2, u2_1, u2_2, ↓reduceIte, Option.bind_some, Option.bind_none, bd2_some, lb_eq, and_true, and_false, true_and, false_and, not_true_eq_false, not_false_eq_true, eq_self_iff_true, if_true, if_false, Nat.reduceEqDiff, Nat.reduceAdd, Nat.reduceMul, Nat.reduceSub, Bool.false_eq_true, zl0, zl1, zl2, zl3, zl4, zl5, zl6, zl7, zl8, zl9, zl10, zl11, zl12, zl13, zl14, zl15, zl16, zl17, zl18, zl19, zl20, zl22, zl23, zl24, zl25, zl30, zl31, zl32, zl33, zl34, zl35, zl36, zl37, zl38, zl39, zl40, zl41, zl42, zl43, zl45, zl48, zl49, zl57, zl58, zl59, zl60, zl61, zl62, zl63, zl64, zl91, zl93, zl97, zl98, zl99, zl100, zl113, zl114, zl115, zl116, zl117, zl122, zl124, zl125, zl127, zl128, zl136, zl200, zl201, zl202, zl203, zl204, zl205, zl206, zl207, zl208, zl209, zl210, zl211, zl212, zl213, zl214, zl215, zl216, zl217, zl218, zl219, zl220, zl235, zl236, zl255, zl280, zl287, zl900, zl999, zl1000, zl1001, zl1136, zl1960, zl3000, zl3001, zl3002, zl3003, zl3004, zl3005, zl3006, zl3007, zl3008, zl3009, zl268435456, zl1000000000]
        exact hx
      · simp (disch := omega) only [z_add, z_mul, z_sub, z_subm, z_addm, z_lt_t, z_lt_f, z_le_t, z_le_f, z_eq_t, z_eq_f, z_eqm, z_meq, z_mm, z_ltm, z_mlt, z_lem, z_mle, z_cl, z_ck, u1_1, u1_2, u2_1, u2_2, ↓reduceIte, Option.bind_some, Option.bind_none, bd2_some, lb_eq, and_true, and_false, true_and, false_and, not_true_eq_false, not_false_eq_true, eq_self_iff_true, if_true, if_false, Nat.reduceEqDiff, Nat.reduceAdd, Nat.reduceMul, Nat.reduceSub, Bool.false_eq_true, zl0, zl1, zl2, zl3, zl4, zl5, zl6, zl7, zl8, zl9, zl10, zl11, zl12, zl13, zl14, zl15, zl16, zl17, zl18, zl19, zl20, zl22, zl23, zl24, zl25, zl30, zl31, zl32, zl33, zl34, zl35, zl36, zl37, zl38, zl39, zl40, zl41, zl42, zl43, zl45, zl48, zl49, zl57, zl58, zl59, zl60, zl61, zl62, zl63, zl64, zl91, zl93, zl97, zl98, zl99, zl100, zl113, zl114, zl115, zl116, zl117, zl122, zl124, zl125, zl127, zl128, zl136, zl200, zl201, zl202, zl203, zl204, zl205, zl206, zl207, zl208, zl209, zl210, zl211, zl212, zl213, zl214, zl215, zl216, zl217, zl218, zl219, zl220, zl235, zl236, zl255, zl280, zl287, zl900, zl999, zl1000, zl1001, zl1136, zl1960, zl3000, zl3001, zl3002, zl3003, zl3004, zl3005, zl3006, zl3007, zl3008, zl3009, zl268435456, zl1000000000]
        rw [← hsz]; rfl
      · simp (disch := omega) only [z_add, z_mul, z_sub, z_subm, z_addm, z_lt_t, z_lt_f, z_le_t, z_le_f, z_eq_t, z_eq_f, z_eqm, z_meq, z_mm, z_ltm, z_mlt, z_lem, z_mle, z_cl, z_ck, u1_1, u1_2, u2_1, u2_2, ↓reduceIte, Option.bind_some, Option.bind_none, bd2_some, lb_eq, and_true, and_false, true_and, false_and, not_true_eq_false, not_false_eq_true, eq_self_iff_true, if_true, if_false, Nat.reduceEqDiff, Nat.reduceAdd, Nat.reduceMul, Nat.reduceSub, Bool.false_eq_true, zl0, zl1, zl2, zl3, zl4, zl5, zl6, zl7, zl8, zl9, zl10, zl11, zl12, zl13, zl14, zl15, zl16, zl17, zl18, zl19, zl20, zl22, zl23, zl24, zl25, zl30, zl31, zl32, zl33, zl34, zl35, zl36, zl37, zl38, zl39, zl40, zl41, zl42, zl43, zl45, zl48, zl49, zl57, zl58, zl59, zl60, zl61, zl62, zl63, zl64, zl91, zl93, zl97, zl98, zl99, zl100, zl113, zl114, zl115, zl116, zl117, zl122, zl124, zl125, zl127, zl128, zl136, zl200, zl201, zl202, zl203, zl204, zl205, zl206, zl207, zl208, zl209, zl210, zl211, zl212, zl213, zl214, zl215, zl216, zl217, zl218, zl219, zl220, zl235, zl236, zl255, zl280, zl287, zl900, zl999, zl1000, zl1001, zl1136, zl1960, zl3000, zl3001, zl3002, zl3003, zl3004, zl3005, zl3006, zl3007, zl3008, zl3009, zl268435456, zl1000000000]
        rw [show P1.1 110 115 = sH s from h1.2.2.1]
        unfold goP
        rw [hw]
        rfl
      · simp (disch := omega) only [z_add, z_mul, z_sub, z_subm, z_addm, z_lt_t, z_lt_f, z_le_t, z_le_f, z_eq_t, z_eq_f, z_eqm, z_meq, z_mm, z_ltm, z_mlt, z_lem, z_mle, z_cl, z_ck, u1_1, u1_2, u2_1, u2_2, ↓reduceIte, Option.bind_some, Option.bind_none, bd2_some, lb_eq, and_true, and_false, true_and, false_and, not_true_eq_false, not_false_eq_true, eq_self_iff_true, if_true, if_false, Nat.reduceEqDiff, Nat.reduceAdd, Nat.reduceMul, Nat.reduceSub, Bool.false_eq_true, zl0, zl1, zl2, zl3, zl4, zl5, zl6, zl7, zl8, zl9, zl10, zl11, zl12, zl13, zl14, zl15, zl16, zl17, zl18, zl19, zl20, zl22, zl23, zl24, zl25, zl30, zl31, zl32, zl33, zl34, zl35, zl36, zl37, zl38, zl39, zl40, zl41, zl42, zl43, zl45, zl48, zl49, zl57, zl58, zl59, zl60, zl61, zl62, zl63, zl64, zl91, zl93, zl97, zl98, zl99, zl100, zl113, zl114, zl115, zl116, zl117, zl122, zl124, zl125, zl127, zl128, zl136, zl200, zl201, zl202, zl203, zl204, zl205, zl206, zl207, zl208, zl209, zl210, zl211, zl212, zl213, zl214, zl215, zl216, zl217, zl218, zl219, zl220, zl235, zl236, zl255, zl280, zl287, zl900, zl999, zl1000, zl1001, zl1136, zl1960, zl3000, zl3001, zl3002, zl3003, zl3004, zl3005, zl3006, zl3007, zl3008, zl3009, zl268435456, zl1000000000]
        exact h1.2.2.2.1
      · have := h1.2.2.2.2 i hi
        rw [u1_1, if_neg (by omega), u1_1, if_neg (by omega), u1_1, if_neg (by omega)]
        exact this
    by_cases c3 : pss v w (sZ s) t (sD s t) = 0
    · rw [if_pos (by rw [c3]; rfl)]
      exact hfin _ (by rw [hsz, if_pos c3]; rfl)
    · rw [if_neg (by simp (disch := omega) only [z_add, z_mul, z_sub, z_subm, z_addm, z_lt_t, z_lt_f, z_le_t, z_le_f, z_eq_t, z_eq_f, z_eqm, z_meq, z_mm, z_ltm, z_mlt, z_lem, z_mle, z_cl, z_ck, u1_1, u1_2, u2_1, u2_2, ↓reduceIte, Option.bind_some, Option.bind_none, bd2_some, lb_eq, and_true, and_false, true_and, false_and, not_true_eq_false, not_false_eq_true, eq_self_iff_true, if_true, if_false, Nat.reduceEqDiff, Nat.reduceAdd, Nat.reduceMul, Nat.reduceSub, Bool.false_eq_true, zl0, zl1, zl2, zl3, zl4, zl5, zl6, zl7, zl8, zl9, zl10, zl11, zl12, zl13, zl14, zl15, zl16, zl17, zl18, zl19, zl20, zl22, zl23, zl24, zl25, zl30, zl31, zl32, zl33, zl34, zl35, zl36, zl37, zl38, zl39, zl40, zl41, zl42, zl43, zl45, zl48, zl49, zl57, zl58, zl59, zl60, zl61, zl62, zl63, zl64, zl91, zl93, zl97, zl98, zl99, zl100, zl113, zl114, zl115, zl116, zl117, zl122, zl124, zl125, zl127, zl128, zl136, zl200, zl201, zl202, zl203, zl204, zl205, zl206, zl207, zl208, zl209, zl210, zl211, zl212, zl213, zl214, zl215, zl216, zl217, zl218, zl219, zl220, zl235, zl236, zl255, zl280, zl287, zl900, zl999, zl1000, zl1001, zl1136, zl1960, zl3000, zl3001, zl3002, zl3003, zl3004, zl3005, zl3006, zl3007, zl3008, zl3009, zl268435456, zl1000000000])]
      exact hfin _ (by rw [hsz, if_neg c3]; rfl)
theorem keeps_l : ∀ (n x : Nat) (P : PM), x ≤ 11 → 11 - x < n → l_Mo_keeps_2 n (nI x) P = some (cpy P 110 113 116 0 x 11) := by
  intro n
  induction n with
  | zero => intro x P _ h; omega
  | succ n ih =>
    intro x P hx hn
    rw [l_Mo_keeps_2]
    by_cases h : x = 11
    · subst h
      rw [if_pos (by decide), cpy_nil (by omega)]
    · simp (disch := omega) only [z_add, z_mul, z_sub, z_subm, z_addm, z_lt_t, z_lt_f, z_le_t, z_le_f, z_eq_t, z_eq_f, z_eqm, z_meq, z_mm, z_ltm, z_mlt, z_lem, z_mle, z_cl, z_ck, u1_1, u1_2, u2_1, u2_2, ↓reduceIte, Option.bind_some, Option.bind_none, bd2_some, lb_eq, and_true, and_false, true_and, false_and, not_true_eq_false, not_false_eq_true, eq_self_iff_true, if_true, if_false, Nat.reduceEqDiff, Nat.reduceAdd, Nat.reduceMul, Nat.reduceSub, Bool.false_eq_true, zl0, zl1, zl2, zl3, zl4, zl5, zl6, zl7, zl8, zl9, zl10, zl11, zl12, zl13, zl14, zl15, zl16, zl17, zl18, zl19, zl20, zl22, zl23, zl24, zl25, zl30, zl31, zl32, zl33, zl34, zl35, zl36, zl37, zl38, zl39, zl40, zl41, zl42, zl43, zl45, zl48, zl49, zl57, zl58, zl59, zl60, zl61, zl62, zl63, zl64, zl91, zl93, zl97, zl98, zl99, zl100, zl113, zl114, zl115, zl116, zl117, zl122, zl124, zl125, zl127, zl128, zl136, zl200, zl201, zl202, zl203, zl204, zl205, zl206, zl207, zl208, zl209, zl210, zl211, zl212, zl213, zl214, zl215, zl216, zl217, zl218, zl219, zl220, zl235, zl236, zl255, zl280, zl287, zl900, zl999, zl1000, zl1001, zl1136, zl1960, zl3000, zl3001, zl3002, zl3003, zl3004, zl3005, zl3006, zl3007, zl3008, zl3009, zl268435456, zl1000000000]
      have := ih (x + 1) (u1 P 116 x (P.1 110 (113 + x))) (by omega) (by omega)
      rw [this, ← cpy_s (show x < 11 by omega) (Or.inl (by omega)), Nat.zero_add]
theorem keeps_M (P : PM) : f_Mo_keeps P = some (cpy P 110 113 116 0 0 11) := keeps_l FU 0 P (by omega) (by have := FU_big; omega)
theorem isAgain_l : ∀ (n x : Nat) (P : PM), x ≤ 11 → 11 - x < n → l_Mo_isAgain_2 n (nI x) P = some (cpy P 116 0 110 113 x 11) := by
  intro n
  induction n with
  | zero => intro x P _ h; omega
  | succ n ih =>
    intro x P hx hn
    rw [l_Mo_isAgain_2]
    by_cases h : x = 11
    · subst h
      rw [if_pos (by decide), cpy_nil (by omega)]
    · simp (disch := omega) only [z_add, z_mul, z_sub, z_subm, z_addm, z_lt_t, z_lt_f, z_le_t, z_le_f, z_eq_t, z_eq_f, z_eqm, z_meq, z_mm, z_ltm, z_mlt, z_lem, z_mle, z_cl, z_ck, u1_1, u1_2, u2_1, u2_2, ↓reduceIte, Option.bind_some, Option.bind_none, bd2_some, lb_eq, and_true, and_false, true_and, false_and, not_true_eq_false, not_false_eq_true, eq_self_iff_true, if_true, if_false, Nat.reduceEqDiff, Nat.reduceAdd, Nat.reduceMul, Nat.reduceSub, Bool.false_eq_true, zl0, zl1, zl2, zl3, zl4, zl5, zl6, zl7, zl8, zl9, zl10, zl11, zl12, zl13, zl14, zl15, zl16, zl17, zl18, zl19, zl20, zl22, zl23, zl24, zl25, zl30, zl31, zl32, zl33, zl34, zl35, zl36, zl37, zl38, zl39, zl40, zl41, zl42, zl43, zl45, zl48, zl49, zl57, zl58, zl59, zl60, zl61, zl62, zl63, zl64, zl91, zl93, zl97, zl98, zl99, zl100, zl113, zl114, zl115, zl116, zl117, zl122, zl124, zl125, zl127, zl128, zl136, zl200, zl201, zl202, zl203, zl204, zl205, zl206, zl207, zl208, zl209, zl210, zl211, zl212, zl213, zl214, zl215, zl216, zl217, zl218, zl219, zl220, zl235, zl236, zl255, zl280, zl287, zl900, zl999, zl1000, zl1001, zl1136, zl1960, zl3000, zl3001, zl3002, zl3003, zl3004, zl3005, zl3006, zl3007, zl3008, zl3009, zl268435456, zl1000000000]
      have := ih (x + 1) (u1 P 110 (113 + x) (P.1 116 x)) (by omega) (by omega)
      rw [this, ← cpy_s (show x < 11 by omega) (Or.inl (by omega)), Nat.zero_add]
theorem isAgain_M (P : PM) : f_Mo_isAgain P = some (cpy P 116 0 110 113 0 11) := isAgain_l FU 0 P (by omega) (by have := FU_big; omega)
