/-! station, way, count -/
/-- a set as bits -/
def bo (f : Nat → Bool) : Nat → Nat
  | 0 => 0
  | n + 1 => bo f n ||| (if f n = true then 2 ^ n else 0)
theorem bo_s (f : Nat → Bool) (n : Nat) : bo f (n + 1) = bo f n ||| (if f n = true then 2 ^ n else 0) := rfl
theorem bo_lt (f : Nat → Bool) : ∀ n, bo f n < 2 ^ n
  | 0 => by show (0 : Nat) < 2 ^ 0; decide
  | n + 1 => by
    have h := bo_lt f n
    have h2 : 2 ^ n < 2 ^ (n + 1) := Nat.pow_lt_pow_right (by decide) (by omega)
    unfold bo
    refine Nat.or_lt_two_pow (by omega) ?_
    split
    · exact h2
    · exact Nat.two_pow_pos _
theorem bo_tb (f : Nat → Bool) (i : Nat) : ∀ n, (bo f n).testBit i = (decide (i < n) && f i)
  | 0 => by simp [bo]
  | n + 1 => by
    unfold bo
    rw [Nat.testBit_or, bo_tb f i n]
    by_cases e : i = n
    · subst e
      cases h : f i <;> simp [Nat.testBit_two_pow_self]
    · have : (if f n = true then 2 ^ n else 0).testBit i = false := by
        split
        · exact Nat.testBit_two_pow_of_ne (Ne.symm e)
        · exact Nat.zero_testBit i
      rw [this, Bool.or_false]
      by_cases c : i < n
      · simp [c, show i < n + 1 by omega]
      · simp [c, show ¬ i < n + 1 by omega]
theorem bo_eq {x : Nat} {f : Nat → Bool} {n : Nat} (hx : x < 2 ^ n) (h : ∀ i, i < n → x.testBit i = f i) : x = bo f n := by
  apply Nat.eq_of_testBit_eq
  intro i
  rw [bo_tb]
  by_cases c : i < n
  · simp [c, h i c]
  · simp only [c, decide_false, Bool.false_and]
    exact Nat.testBit_lt_two_pow (Nat.lt_of_lt_of_le hx (Nat.pow_le_pow_right (by decide) (by omega)))
theorem bo_congr {f g : Nat → Bool} : ∀ {n : Nat}, (∀ i, i < n → f i = g i) → bo f n = bo g n
  | 0, _ => rfl
  | n + 1, h => by unfold bo; rw [bo_congr (fun i hi => h i (by omega)), h n (by omega)]
theorem pc_d : ∀ n, n < 7 → ∀ x, x < 128 → x < 2 ^ n → pc 7 (x ||| 2 ^ n) = pc 7 x + 1 := by decide +kernel
theorem pc_bo (f : Nat → Bool) : ∀ n, n ≤ 7 → pc 7 (bo f n) = cnt f n
  | 0, _ => by show pc 7 0 = 0; decide
  | n + 1, h => by
    have h1 := bo_lt f n
    have h2 : 2 ^ n ≤ 2 ^ 7 := Nat.pow_le_pow_right (by decide) (by omega)
    unfold bo cnt
    by_cases c : f n = true
    · rw [if_pos c, if_pos c, pc_d n (by omega) _ (by omega) h1, pc_bo f n (by omega)]
    · rw [if_neg c, if_neg c, Nat.or_zero, pc_bo f n (by omega)]; rfl
def hw (v : NV) (s : Nat) : Nat → Bool := fun t => decide (0 < vH v s t)
theorem wf_l {P : PM} {b : Nat} {v : NV} {s : Nat} (h : CNet P b v) (hv : NVok v) (hs : s < 7) : ∀ (n t : Nat), t ≤ vN v → vN v - t < n → l_Ne_waysFrom_4 b n (nI s) (nI (bo (hw v s) t)) (nI t) P = some (nI (bo (hw v s) (vN v))) := by
  have hN := hv.1
  intro n
  induction n with
  | zero => intro t _ q; omega
  | succ n ih =>
    intro t ht hn
    rw [l_Ne_waysFrom_4, h.1]
    by_cases c : t = vN v
    · rw [if_pos (by rw [c]; exact nI_le (Nat.le_refl _) (by omega)), c]
    · have h9 := (hv.2.1 s t).1
      have hlt := bo_lt (hw v s) t
      rw [if_neg (nI_ge (by omega) (by omega)), hours_C h hv hs (by omega), Option.bind_some]
      have := ih (t + 1) (by omega) (by omega)
      rw [bo_s] at this
      unfold j_Ne_waysFrom_29
      by_cases c2 : vH v s t = 0
      · rw [if_pos (by rw [c2]; decide)]
        rw [if_neg (by simp [hw, c2]), Nat.or_zero] at this
        rw [lb_eq, show (0 : Int32) = nI 0 from rfl, nx_or, Nat.or_zero, show (1 : Int32) = nI 1 from rfl, nI_add]
        exact this
      · rw [if_neg (by simp (disch := omega) only [z_add, z_mul, z_sub, z_subm, z_addm, z_lt_t, z_lt_f, z_le_t, z_le_f, z_eq_t, z_eq_f, z_eqm, z_meq, z_mm, z_ltm, z_mlt, z_lem, z_mle, z_cl, z_ck, u1_1, u1_2, u2_1, u2_2, ↓reduceIte, Option.bind_some, Option.bind_none, bd2_some, lb_eq, and_true, and_false, true_and, false_and, not_true_eq_false, not_false_eq_true, eq_self_iff_true, if_true, if_false, Nat.reduceEqDiff, Nat.reduceAdd, Nat.reduceMul, Nat.reduceSub, Bool.false_eq_true, zl0, zl1, zl2, zl3, zl4, zl5, zl6, zl7, zl8, zl9, zl10, zl11, zl12, zl13, zl14, zl15, zl16, zl17, zl18, zl19, zl20, zl22, zl23, zl24, zl25, zl30, zl31, zl32, zl33, zl34, zl35, zl36, zl37, zl38, zl39, zl40, zl41, zl42, zl43, zl45, zl48, zl49, zl57, zl58, zl59, zl60, zl61, zl62, zl63, zl64, zl91, zl93, zl97, zl98, zl99, zl100, zl113, zl114, zl115, zl116, zl117, zl122, zl124, zl125, zl127, zl128, zl136, zl200, zl201, zl202, zl203, zl204, zl205, zl206, zl207, zl208, zl209, zl210, zl211, zl212, zl213, zl214, zl215, zl216, zl217, zl218, zl219, zl220, zl235, zl236, zl255, zl280, zl287, zl900, zl999, zl1000, zl1001, zl1136, zl1960, zl3000, zl3001, zl3002, zl3003, zl3004, zl3005, zl3006, zl3007, zl3008, zl3009, zl268435456, zl1000000000])]
        rw [if_pos (by simp [hw]; omega)] at this
        rw [lb_eq, sh_1 t (by omega), nx_or, show (1 : Int32) = nI 1 from rfl, nI_add]
        exact this
theorem waysFrom_C {P : PM} {b : Nat} {v : NV} {s : Nat} (h : CNet P b v) (hv : NVok v) (hs : s < 7) : f_Ne_waysFrom b (nI s) P = some (nI (bo (hw v s) (vN v))) := wf_l h hv hs FU 0 (by omega) (by have := hv.1; have := FU_big; omega)
theorem ws_l {P : PM} {v : NV} {s : Nat} (h : MNet P 110 0 v) (hv : NVok v) (hs : s < 7) : ∀ (n t : Nat), t ≤ vN v → vN v - t < n → l_Mo_station_27 n (nI s) (nI (bo (hw v s) t)) (nI t) P = some (nI (bo (hw v s) (vN v)), P) := by
  have hN := hv.1
  intro n
  induction n with
  | zero => intro t _ q; omega
  | succ n ih =>
    intro t ht hn
    rw [l_Mo_station_27, show P.1 110 (1 : Int32).toNatClampNeg = nI (vN v) from h.1]
    by_cases c : t = vN v
    · rw [if_pos (by rw [c]; exact nI_le (Nat.le_refl _) (by omega)), c]
    · have h9 := (hv.2.1 s t).1
      rw [if_neg (nI_ge (by omega) (by omega)), hours_M h hs (by omega), Option.bind_some]
      have := ih (t + 1) (by omega) (by omega)
      rw [bo_s] at this
      unfold j_Mo_station_57
      by_cases c2 : vH v s t = 0
      · rw [if_pos (by rw [c2]; decide)]
        rw [if_neg (by simp [hw, c2]), Nat.or_zero] at this
        rw [lb_eq, show (0 : Int32) = nI 0 from rfl, nx_or, Nat.or_zero, show (1 : Int32) = nI 1 from rfl, nI_add]
        exact this
      · rw [if_neg (by simp (disch := omega) only [z_add, z_mul, z_sub, z_subm, z_addm, z_lt_t, z_lt_f, z_le_t, z_le_f, z_eq_t, z_eq_f, z_eqm, z_meq, z_mm, z_ltm, z_mlt, z_lem, z_mle, z_cl, z_ck, u1_1, u1_2, u2_1, u2_2, ↓reduceIte, Option.bind_some, Option.bind_none, bd2_some, lb_eq, and_true, and_false, true_and, false_and, not_true_eq_false, not_false_eq_true, eq_self_iff_true, if_true, if_false, Nat.reduceEqDiff, Nat.reduceAdd, Nat.reduceMul, Nat.reduceSub, Bool.false_eq_true, zl0, zl1, zl2, zl3, zl4, zl5, zl6, zl7, zl8, zl9, zl10, zl11, zl12, zl13, zl14, zl15, zl16, zl17, zl18, zl19, zl20, zl22, zl23, zl24, zl25, zl30, zl31, zl32, zl33, zl34, zl35, zl36, zl37, zl38, zl39, zl40, zl41, zl42, zl43, zl45, zl48, zl49, zl57, zl58, zl59, zl60, zl61, zl62, zl63, zl64, zl91, zl93, zl97, zl98, zl99, zl100, zl113, zl114, zl115, zl116, zl117, zl122, zl124, zl125, zl127, zl128, zl136, zl200, zl201, zl202, zl203, zl204, zl205, zl206, zl207, zl208, zl209, zl210, zl211, zl212, zl213, zl214, zl215, zl216, zl217, zl218, zl219, zl220, zl235, zl236, zl255, zl280, zl287, zl900, zl999, zl1000, zl1001, zl1136, zl1960, zl3000, zl3001, zl3002, zl3003, zl3004, zl3005, zl3006, zl3007, zl3008, zl3009, zl268435456, zl1000000000])]
        rw [if_pos (by simp [hw]; omega)] at this
        rw [lb_eq, sh_1 t (by omega), nx_or, show (1 : Int32) = nI 1 from rfl, nI_add]
        exact this
theorem station_ok {P : PM} {a : AS} {t w : Int32} (hC : CRep P a) (hM : MRep P a) (hca : CCa P (aV a)) (hok : AOk a) :
    ∃ v P2, f_Yr_station t w P = some v ∧ f_Mo_station t w P = some (v, P2) ∧ Inv P2 := by
  have hN := hok.1.1
  have h7 := pw_le hN
  have hA := hok.2.1.2.2.2.1
  rcases i_cases t (vN (aV a)) (by omega) with ⟨k, hk, rfl⟩ | hx
  · refine join0 (a := a) (a' := a) (r := if w = 0 then nI (sD (aS a) k) else if w = 1 then vK (aV a) k else if w = 2 then nI (if (sA (aS a)).testBit k = true then 1 else 0) else if w = 3 then nI (bo (hw (aV a) k) (vN (aV a))) else if w = 4 then (if oI (sW (aS a)) = nI k then 1 else 0) else -nI 2) hM ⟨?_, hC, hca⟩ (fun P hM => ⟨u1 P 109 0 (0 : Int32), ?_, MRep_me hM me_th, sm_th⟩) hok
    · unfold f_Yr_station
      rw [isSt_C hC.1 hok.1 (by omega), if_pos hk, if_neg (by decide)]
      by_cases c0 : w = 0
      · rw [if_pos c0, if_pos c0, dullOf_C hC.2.1 (by omega)]; rfl
      rw [if_neg c0, if_neg c0]
      by_cases c1 : w = 1
      · rw [if_pos c1, if_pos c1, z_ck (by omega) (by omega), z_cl (by omega), hC.1.2.2.1 k (by omega)]
      rw [if_neg c1, if_neg c1]
      by_cases c2 : w = 2
      · rw [if_pos c2, if_pos c2, asleep_C hC.2.1 hok.1 hok.2.1 (by omega)]
        by_cases c : (sA (aS a)).testBit k = true
        · rw [if_pos c, if_neg (by decide)]; rfl
        · rw [if_neg c, if_pos (by decide)]; rfl
      rw [if_neg c2, if_neg c2]
      by_cases c3 : w = 3
      · rw [if_pos c3, if_pos c3, waysFrom_C hC.1 hok.1 (by omega)]; rfl
      rw [if_neg c3, if_neg c3]
      by_cases c4 : w = 4
      · rw [if_pos c4, if_pos c4, hC.2.1.1]
        split <;> rfl
      rw [if_neg c4, if_neg c4]
      rfl
    · have hM1 : MRep (u1 P 109 0 (0 : Int32)) a := MRep_me hM me_th
      unfold f_Mo_station
      rw [isStation_M _ hM1.1.1 hN, tl_ti, nI_ti (by omega), if_pos (by omega), Option.bind_some, if_neg (by decide), m113 hM1.2.1, m116 hM1.2.1]
      by_cases c3 : w = 3
      · rw [if_pos c3, c3, if_neg (by decide), if_neg (by decide), if_neg (by decide), if_pos rfl]
        exact ws_l hM1.1 hok.1 (by omega) FU 0 (by omega) (by have := FU_big; omega)
      rw [if_neg c3]
      by_cases c0 : w = 0
      · have := hM1.2.1.2.2.2.2 k (by omega)
        rw [if_pos c0, if_pos c0, show (117 : Int32) = nI 117 from rfl, nI_add, z_ck (by omega) (by omega), z_cl (by omega), this]
      rw [if_neg c0, if_neg c0]
      by_cases c1 : w = 1
      · have := hM1.1.2.2.1 k (by omega)
        rw [Nat.zero_add] at this
        rw [if_pos c1, if_pos c1, show (8 : Int32) = nI 8 from rfl, nI_add, z_ck (by omega) (by omega), z_cl (by omega), this]
      rw [if_neg c1, if_neg c1]
      by_cases c2 : w = 2
      · rw [if_pos c2, if_pos c2, show (1 : Int32) = nI 1 from rfl, sar_n (by omega) (by omega)]
      rw [if_neg c2, if_neg c2, if_neg c3]
      by_cases c4 : w = 4
      · rw [if_pos c4, if_pos c4]
        split <;> rfl
      rw [if_neg c4, if_neg c4]
      rfl
  · refine join0 (a := a) (a' := a) (r := -nI 2) hM ⟨?_, hC, hca⟩ (fun P hM => ⟨u1 P 109 0 (0 : Int32), ?_, MRep_me hM me_th, sm_th⟩) hok
    · unfold f_Yr_station
      rw [isSt_Cn hC.1 hok.1 hx]; rfl
    · have hM1 : MRep (u1 P 109 0 (0 : Int32)) a := MRep_me hM me_th
      unfold f_Mo_station
      rw [isStation_M _ hM1.1.1 hN, tl_ti, if_neg hx]; rfl
theorem way_ok {P : PM} {a : AS} {t u w : Int32} (hC : CRep P a) (hM : MRep P a) (hca : CCa P (aV a)) (hok : AOk a) :
    ∃ v P2, f_Yr_way t u w P = some v ∧ f_Mo_way t u w P = some (v, P2) ∧ Inv P2 := by
  have hN := hok.1.1
  by_cases hx : (0 ≤ t.toInt ∧ t.toInt < vN (aV a)) ∧ (0 ≤ u.toInt ∧ u.toInt < vN (aV a)) ∧ t ≠ u ∧ 0 ≤ w.toInt ∧ w.toInt ≤ 1
  · obtain ⟨h1, h2, h3, h4⟩ := hx
    obtain ⟨k, hk, rfl⟩ : ∃ k, k < vN (aV a) ∧ t = nI k := (i_cases t (vN (aV a)) (by omega)).resolve_right (fun q => q h1)
    obtain ⟨j, hj, rfl⟩ : ∃ k, k < vN (aV a) ∧ u = nI k := (i_cases u (vN (aV a)) (by omega)).resolve_right (fun q => q h2)
    obtain ⟨y, hy, rfl⟩ : ∃ k, k < 2 ∧ w = nI k := (i_cases w 2 (by omega)).resolve_right (fun q => q (by omega))
    have h9 := (hok.1.2.1 k j).1
    refine join0 (a := a) (a' := a) (r := if vH (aV a) k j = 0 then -nI 1 else if y = 0 then nI (vH (aV a) k j) else nI (vO (aV a) k j)) hM ⟨?_, hC, hca⟩ (fun P hM => ⟨u1 P 109 0 (0 : Int32), ?_, MRep_me hM me_th, sm_th⟩) hok
    · unfold f_Yr_way
      rw [isSt_C hC.1 hok.1 (by omega), if_pos hk, if_neg (by decide), isSt_C hC.1 hok.1 (by omega), if_pos hj, if_neg (by decide), if_neg h3, hours_C hC.1 hok.1 (by omega) (by omega), odds_C hC.1 hok.1 (by omega) (by omega)]
      by_cases c : vH (aV a) k j = 0
      · simp (disch := omega) only [z_add, z_mul, z_sub, z_subm, z_addm, z_lt_t, z_lt_f, z_le_t, z_le_f, z_eq_t, z_eq_f, z_eqm, z_meq, z_mm, z_ltm, z_mlt, z_lem, z_mle, z_cl, z_ck, u1_1, u1_2, u2_1, u2_2, ↓reduceIte, Option.bind_some, Option.bind_none, bd2_some, lb_eq, and_true, and_false, true_and, false_and, not_true_eq_false, not_false_eq_true, eq_self_iff_true, if_true, if_false, Nat.reduceEqDiff, Nat.reduceAdd, Nat.reduceMul, Nat.reduceSub, Bool.false_eq_true, zl0, zl1, zl2, zl3, zl4, zl5, zl6, zl7, zl8, zl9, zl10, zl11, zl12, zl13, zl14, zl15, zl16, zl17, zl18, zl19, zl20, zl22, zl23, zl24, zl25, zl30, zl31, zl32, zl33, zl34, zl35, zl36, zl37, zl38, zl39, zl40, zl41, zl42, zl43, zl45, zl48, zl49, zl57, zl58, zl59, zl60, zl61, zl62, zl63, zl64, zl91, zl93, zl97, zl98, zl99, zl100, zl113, zl114, zl115, zl116, zl117, zl122, zl124, zl125, zl127, zl128, zl136, zl200, zl201, zl202, zl203, zl204, zl205, zl206, zl207, zl208, zl209, zl210, zl211, zl212, zl213, zl214, zl215, zl216, zl217, zl218, zl219, zl220, zl235, zl236, zl255, zl280, zl287, zl900, zl999, zl1000, zl1001, zl1136, zl1960, zl3000, zl3001, zl3002, zl3003, zl3004, zl3005, zl3006, zl3007, zl3008, zl3009, zl268435456, zl1000000000, c]
      · by_cases c2 : y = 0
        · subst c2; simp (disch := omega) only [z_add, z_mul, z_sub, z_subm, z_addm, z_lt_t, z_lt_f, z_le_t, z_le_f, z_eq_t, z_eq_f, z_eqm, z_meq, z_mm, z_ltm, z_mlt, z_lem, z_mle, z_cl, z_ck, u1_1, u1_2, u2_1, u2_2, ↓reduceIte, Option.bind_some, Option.bind_none, bd2_some, lb_eq, and_true, and_false, true_and, false_and, not_true_eq_false, not_false_eq_true, eq_self_iff_true, if_true, if_false, Nat.reduceEqDiff, Nat.reduceAdd, Nat.reduceMul, Nat.reduceSub, Bool.false_eq_true, zl0, zl1, zl2, zl3, zl4, zl5, zl6, zl7, zl8, zl9, zl10, zl11, zl12, zl13, zl14, zl15, zl16, zl17, zl18, zl19, zl20, zl22, zl23, zl24, zl25, zl30, zl31, zl32, zl33, zl34, zl35, zl36, zl37, zl38, zl39, zl40, zl41, zl42, zl43, zl45, zl48, zl49, zl57, zl58, zl59, zl60, zl61, zl62, zl63, zl64, zl91, zl93, zl97, zl98, zl99, zl100, zl113, zl114, zl115, zl116, zl117, zl122, zl124, zl125, zl127, zl128, zl136, zl200, zl201, zl202, zl203, zl204, zl205, zl206, zl207, zl208, zl209, zl210, zl211, zl212, zl213, zl214, zl215, zl216, zl217, zl218, zl219, zl220, zl235, zl236, zl255, zl280, zl287, zl900, zl999, zl1000, zl1001, zl1136, zl1960, zl3000, zl3001, zl3002, zl3003, zl3004, zl3005, zl3006, zl3007, zl3008, zl3009, zl268435456, zl1000000000, c]
        · simp (disch := omega) only [z_add, z_mul, z_sub, z_subm, z_addm, z_lt_t, z_lt_f, z_le_t, z_le_f, z_eq_t, z_eq_f, z_eqm, z_meq, z_mm, z_ltm, z_mlt, z_lem, z_mle, z_cl, z_ck, u1_1, u1_2, u2_1, u2_2, ↓reduceIte, Option.bind_some, Option.bind_none, bd2_some, lb_eq, and_true, and_false, true_and, false_and, not_true_eq_false, not_false_eq_true, eq_self_iff_true, if_true, if_false, Nat.reduceEqDiff, Nat.reduceAdd, Nat.reduceMul, Nat.reduceSub, Bool.false_eq_true, zl0, zl1, zl2, zl3, zl4, zl5, zl6, zl7, zl8, zl9, zl10, zl11, zl12, zl13, zl14, zl15, zl16, zl17, zl18, zl19, zl20, zl22, zl23, zl24, zl25, zl30, zl31, zl32, zl33, zl34, zl35, zl36, zl37, zl38, zl39, zl40, zl41, zl42, zl43, zl45, zl48, zl49, zl57, zl58, zl59, zl60, zl61, zl62, zl63, zl64, zl91, zl93, zl97, zl98, zl99, zl100, zl113, zl114, zl115, zl116, zl117, zl122, zl124, zl125, zl127, zl128, zl136, zl200, zl201, zl202, zl203, zl204, zl205, zl206, zl207, zl208, zl209, zl210, zl211, zl212, zl213, zl214, zl215, zl216, zl217, zl218, zl219, zl220, zl235, zl236, zl255, zl280, zl287, zl900, zl999, zl1000, zl1001, zl1136, zl1960, zl3000, zl3001, zl3002, zl3003, zl3004, zl3005, zl3006, zl3007, zl3008, zl3009, zl268435456, zl1000000000, c, c2]
    · have hM1 : MRep (u1 P 109 0 (0 : Int32)) a := MRep_me hM me_th
      have ho := hM1.1.2.2.2.2.1 k j (by omega) (by omega)
      have hwi : f_Mo_within (nI y).toInt64 (0 : Int64) (1 : Int64) (u1 P 109 0 (0 : Int32)) = nI 1 := by
        rw [within_i, tl_ti]
        exact if_pos h4
      unfold f_Mo_way
      rw [isStation_M _ hM1.1.1 hN, tl_ti, if_pos h1, Option.bind_some, if_neg (by decide), isStation_M _ hM1.1.1 hN, tl_ti, if_pos h2, Option.bind_some, if_neg (by decide), if_neg h3, hwi, if_neg (by decide), hours_M hM1.1 (by omega) (by omega)]
      by_cases c : vH (aV a) k j = 0
      · simp (disch := omega) only [z_add, z_mul, z_sub, z_subm, z_addm, z_lt_t, z_lt_f, z_le_t, z_le_f, z_eq_t, z_eq_f, z_eqm, z_meq, z_mm, z_ltm, z_mlt, z_lem, z_mle, z_cl, z_ck, u1_1, u1_2, u2_1, u2_2, ↓reduceIte, Option.bind_some, Option.bind_none, bd2_some, lb_eq, and_true, and_false, true_and, false_and, not_true_eq_false, not_false_eq_true, eq_self_iff_true, if_true, if_false, Nat.reduceEqDiff, Nat.reduceAdd, Nat.reduceMul, Nat.reduceSub, Bool.false_eq_true, zl0, zl1, zl2, zl3, zl4, zl5, zl6, zl7, zl8, zl9, zl10, zl11, zl12, zl13, zl14, zl15, zl16, zl17, zl18, zl19, zl20, zl22, zl23, zl24, zl25, zl30, zl31, zl32, zl33, zl34, zl35, zl36, zl37, zl38, zl39, zl40, zl41, zl42, zl43, zl45, zl48, zl49, zl57, zl58, zl59, zl60, zl61, zl62, zl63, zl64, zl91, zl93, zl97, zl98, zl99, zl100, zl113, zl114, zl115, zl116, zl117, zl122, zl124, zl125, zl127, zl128, zl136, zl200, zl201, zl202, zl203, zl204, zl205, zl206, zl207, zl208, zl209, zl210, zl211, zl212, zl213, zl214, zl215, zl216, zl217, zl218, zl219, zl220, zl235, zl236, zl255, zl280, zl287, zl900, zl999, zl1000, zl1001, zl1136, zl1960, zl3000, zl3001, zl3002, zl3003, zl3004, zl3005, zl3006, zl3007, zl3008, zl3009, zl268435456, zl1000000000, c]
      · by_cases c2 : y = 0
        · subst c2; simp (disch := omega) only [z_add, z_mul, z_sub, z_subm, z_addm, z_lt_t, z_lt_f, z_le_t, z_le_f, z_eq_t, z_eq_f, z_eqm, z_meq, z_mm, z_ltm, z_mlt, z_lem, z_mle, z_cl, z_ck, u1_1, u1_2, u2_1, u2_2, ↓reduceIte, Option.bind_some, Option.bind_none, bd2_some, lb_eq, and_true, and_false, true_and, false_and, not_true_eq_false, not_false_eq_true, eq_self_iff_true, if_true, if_false, Nat.reduceEqDiff, Nat.reduceAdd, Nat.reduceMul, Nat.reduceSub, Bool.false_eq_true, zl0, zl1, zl2, zl3, zl4, zl5, zl6, zl7, zl8, zl9, zl10, zl11, zl12, zl13, zl14, zl15, zl16, zl17, zl18, zl19, zl20, zl22, zl23, zl24, zl25, zl30, zl31, zl32, zl33, zl34, zl35, zl36, zl37, zl38, zl39, zl40, zl41, zl42, zl43, zl45, zl48, zl49, zl57, zl58, zl59, zl60, zl61, zl62, zl63, zl64, zl91, zl93, zl97, zl98, zl99, zl100, zl113, zl114, zl115, zl116, zl117, zl122, zl124, zl125, zl127, zl128, zl136, zl200, zl201, zl202, zl203, zl204, zl205, zl206, zl207, zl208, zl209, zl210, zl211, zl212, zl213, zl214, zl215, zl216, zl217, zl218, zl219, zl220, zl235, zl236, zl255, zl280, zl287, zl900, zl999, zl1000, zl1001, zl1136, zl1960, zl3000, zl3001, zl3002, zl3003, zl3004, zl3005, zl3006, zl3007, zl3008, zl3009, zl268435456, zl1000000000, c]
        · rw [Option.bind_some, if_neg (by simp (disch := omega) only [z_add, z_mul, z_sub, z_subm, z_addm, z_lt_t, z_lt_f, z_le_t, z_le_f, z_eq_t, z_eq_f, z_eqm, z_meq, z_mm, z_ltm, z_mlt, z_lem, z_mle, z_cl, z_ck, u1_1, u1_2, u2_1, u2_2, ↓reduceIte, Option.bind_some, Option.bind_none, bd2_some, lb_eq, and_true, and_false, true_and, false_and, not_true_eq_false, not_false_eq_true, eq_self_iff_true, if_true, if_false, Nat.reduceEqDiff, Nat.reduceAdd, Nat.reduceMul, Nat.reduceSub, Bool.false_eq_true, zl0, zl1, zl2, zl3, zl4, zl5, zl6, zl7, zl8, zl9, zl10, zl11, zl12, zl13, zl14, zl15, zl16, zl17, zl18, zl19, zl20, zl22, zl23, zl24, zl25, zl30, zl31, zl32, zl33, zl34, zl35, zl36, zl37, zl38, zl39, zl40, zl41, zl42, zl43, zl45, zl48, zl49, zl57, zl58, zl59, zl60, zl61, zl62, zl63, zl64, zl91, zl93, zl97, zl98, zl99, zl100, zl113, zl114, zl115, zl116, zl117, zl122, zl124, zl125, zl127, zl128, zl136, zl200, zl201, zl202, zl203, zl204, zl205, zl206, zl207, zl208, zl209, zl210, zl211, zl212, zl213, zl214, zl215, zl216, zl217, zl218, zl219, zl220, zl235, zl236, zl255, zl280, zl287, zl900, zl999, zl1000, zl1001, zl1136, zl1960, zl3000, zl3001, zl3002, zl3003, zl3004, zl3005, zl3006, zl3007, zl3008, zl3009, zl268435456, zl1000000000]), if_neg c, if_neg (by simp (disch := omega) only [z_add, z_mul, z_sub, z_subm, z_addm, z_lt_t, z_lt_f, z_le_t, z_le_f, z_eq_t, z_eq_f, z_eqm, z_meq, z_mm, z_ltm, z_mlt, z_lem, z_mle, z_cl, z_ck, u1_1, u1_2, u2_1, u2_2, ↓reduceIte, Option.bind_some, Option.bind_none, bd2_some, lb_eq, and_true, and_false, true_and, false_and, not_true_eq_false, not_false_eq_true, eq_self_iff_true, if_true, if_false, Nat.reduceEqDiff, Nat.reduceAdd, Nat.reduceMul, Nat.reduceSub, Bool.false_eq_true, zl0, zl1, zl2, zl3, zl4, zl5, zl6, zl7, zl8, zl9, zl10, zl11, zl12, zl13, zl14, zl15, zl16, zl17, zl18, zl19, zl20, zl22, zl23, zl24, zl25, zl30, zl31, zl32, zl33, zl34, zl35, zl36, zl37, zl38, zl39, zl40, zl41, zl42, zl43, zl45, zl48, zl49, zl57, zl58, zl59, zl60, zl61, zl62, zl63, zl64, zl91, zl93, zl97, zl98, zl99, zl100, zl113, zl114, zl115, zl116, zl117, zl122, zl124, zl125, zl127, zl128, zl136, zl200, zl201, zl202, zl203, zl204, zl205, zl206, zl207, zl208, zl209, zl210, zl211, zl212, zl213, zl214, zl215, zl216, zl217, zl218, zl219, zl220, zl235, zl236, zl255, zl280, zl287, zl900, zl999, zl1000, zl1001, zl1136, zl1960, zl3000, zl3001, zl3002, zl3003, zl3004, zl3005, zl3006, zl3007, zl3008, zl3009, zl268435456, zl1000000000]), if_neg c2, show (64 : Int32) = nI 64 from rfl, show (7 : Int32) = nI 7 from rfl, pk_mul, nI_add, nI_add, z_ck (by omega) (by omega), z_cl (by omega), show 64 + 7 * k + j = 0 + 64 + (7 * k + j) by omega, ho]
  · refine join0 (a := a) (a' := a) (r := -nI 2) hM ⟨?_, hC, hca⟩ (fun P hM => ⟨u1 P 109 0 (0 : Int32), ?_, MRep_me hM me_th, sm_th⟩) hok
    · unfold f_Yr_way
      rcases i_cases t (vN (aV a)) (by omega) with ⟨k, hk, rfl⟩ | hy
      · rw [isSt_C hC.1 hok.1 (by omega), if_pos hk, if_neg (by decide)]
        rcases i_cases u (vN (aV a)) (by omega) with ⟨j, hj, rfl⟩ | hy
        · rw [isSt_C hC.1 hok.1 (by omega), if_pos hj, if_neg (by decide)]
          by_cases c : nI k = nI j
          · rw [if_pos c]; rfl
          · rw [if_neg c]
            by_cases c2 : w < 0
            · rw [if_pos c2]; rfl
            · have c3 : ¬ w.toInt < 0 := fun q => c2 (Int32.lt_iff_toInt_lt.mpr q)
              rw [if_neg c2, if_neg]
              · rfl
              · intro q
                have := Int32.le_iff_toInt_le.mp q
                have e1 : (1 : Int32).toInt = 1 := rfl
                exact hx ⟨by rw [nI_ti (by omega)]; omega, by rw [nI_ti (by omega)]; omega, c, by omega, by omega⟩
        · rw [isSt_Cn hC.1 hok.1 hy]; rfl
      · rw [isSt_Cn hC.1 hok.1 hy]; rfl
    · have hM1 : MRep (u1 P 109 0 (0 : Int32)) a := MRep_me hM me_th
      unfold f_Mo_way
      rw [isStation_M _ hM1.1.1 hN, tl_ti]
      by_cases c1 : 0 ≤ t.toInt ∧ t.toInt < vN (aV a)
      · rw [if_pos c1, Option.bind_some, if_neg (by decide), isStation_M _ hM1.1.1 hN, tl_ti]
        by_cases c2 : 0 ≤ u.toInt ∧ u.toInt < vN (aV a)
        · rw [if_pos c2, Option.bind_some, if_neg (by decide)]
          by_cases c3 : t = u
          · rw [if_pos c3]; rfl
          · have hwi : f_Mo_within w.toInt64 (0 : Int64) (1 : Int64) (u1 P 109 0 (0 : Int32)) = nI 0 := by
              rw [within_i, tl_ti, if_neg]
              exact fun q => hx ⟨c1, c2, c3, q⟩
            rw [if_neg c3, hwi]; rfl
        · rw [if_neg c2]; rfl
      · rw [if_neg c1]; rfl
/-! how many ways -/
theorem cnt_s (f : Nat → Bool) (n : Nat) : cnt f (n + 1) = cnt f n + (if f n = true then 1 else 0) := rfl
theorem cnt_shift (f : Nat → Bool) (m : Nat) : ∀ n, cnt f (m + n) = cnt f m + cnt (fun t => f (m + t)) n
  | 0 => rfl
  | n + 1 => by
    rw [← Nat.add_assoc, cnt_s, cnt_s, cnt_shift f m n]
    omega
theorem cnt_ext {f : Nat → Bool} {n : Nat} : ∀ k, (∀ i, n ≤ i → f i = false) → cnt f (n + k) = cnt f n
  | 0, _ => rfl
  | k + 1, h => by
    rw [← Nat.add_assoc, cnt_s, cnt_ext k h, h (n + k) (by omega)]
    simp
def wsum (v : NV) : Nat → Nat
  | 0 => 0
  | n + 1 => wsum v n + cnt (hw v n) (vN v)
theorem wsum_s (v : NV) (n : Nat) : wsum v (n + 1) = wsum v n + cnt (hw v n) (vN v) := rfl
theorem wsum_le {v : NV} (hv : NVok v) : ∀ n, wsum v n ≤ 7 * n
  | 0 => Nat.le_refl _
  | n + 1 => by
    have h1 := wsum_le hv n
    have h2 := cnt_le (hw v n) (vN v)
    have := hv.1
    unfold wsum
    omega
theorem wall_l {P : PM} {b : Nat} {v : NV} (h : CNet P b v) (hv : NVok v) : ∀ (n t : Nat), t ≤ vN v → vN v - t < n → l_Ne_waysInAll_4 b n (nI (wsum v t)) (nI t) P = some (nI (wsum v (vN v))) := by
  have hN := hv.1
  intro n
  induction n with
  | zero => intro t _ q; omega
  | succ n ih =>
    intro t ht hn
    rw [l_Ne_waysInAll_4, h.1]
    by_cases c : t = vN v
    · rw [if_pos (by rw [c]; exact nI_le (Nat.le_refl _) (by omega)), c]
    · have hlt := bo_lt (hw v t) (vN v)
      have h7 := pw_le hN
      rw [if_neg (nI_ge (by omega) (by omega)), waysFrom_C h hv (by omega), Option.bind_some, bitCount_n (by omega), pc_bo _ _ hN, lb_eq, nI_add, show (1 : Int32) = nI 1 from rfl, nI_add]
      exact ih (t + 1) (by omega) (by omega)
def hk49 (v : NV) : Nat → Bool := fun k => decide (0 < vH v (k / 7) (k % 7))
theorem cnt49 {v : NV} (hv : NVok v) : ∀ s, cnt (hk49 v) (7 * s) = wsum v s
  | 0 => rfl
  | s + 1 => by
    have hN := hv.1
    rw [show 7 * (s + 1) = 7 * s + 7 by omega, cnt_shift, cnt49 hv s, wsum_s]
    have e1 : cnt (fun t => hk49 v (7 * s + t)) 7 = cnt (hw v s) 7 := cnt_congr 7 (fun t ht => by
      unfold hk49 hw
      rw [show (7 * s + t) / 7 = s by omega, show (7 * s + t) % 7 = t by omega])
    rw [e1]
    have e2 := cnt_ext (f := hw v s) (n := vN v) (7 - vN v) (fun i hi => by
      unfold hw
      have := (hv.2.1 s i).2.2.1
      simp only [decide_eq_false_iff_not]
      intro q
      have := (this (by omega)).2.1
      omega)
    rw [show vN v + (7 - vN v) = 7 by omega] at e2
    rw [e2]
theorem wsum_7 {v : NV} (hv : NVok v) : ∀ k, wsum v (vN v + k) = wsum v (vN v)
  | 0 => rfl
  | k + 1 => by
    show wsum v (vN v + k) + cnt (hw v (vN v + k)) (vN v) = _
    rw [wsum_7 hv k]
    have : cnt (hw v (vN v + k)) (vN v) = cnt (fun _ => false) (vN v) := cnt_congr _ (fun i hi => by
      unfold hw
      have := (hv.2.1 (vN v + k) i).2.2.1
      simp only [decide_eq_false_iff_not]
      intro q
      have := (this (by omega)).1
      omega)
    have e0 : ∀ n, cnt (fun _ => false) n = 0 := fun n => by
      induction n with
      | zero => rfl
      | succ n ih => show cnt (fun _ => false) n + _ = 0; rw [ih]; rfl
    rw [this, e0]
    rfl
theorem wm_l {P : PM} {v : NV} (h : MNet P 110 0 v) (hv : NVok v) : ∀ (n k : Nat), k ≤ 49 → 49 - k < n → l_Mo_waysAll_4 n (nI (cnt (hk49 v) k)) (nI k) P = some (nI (cnt (hk49 v) 49)) := by
  intro n
  induction n with
  | zero => intro t _ q; omega
  | succ n ih =>
    intro k hk hn
    rw [l_Mo_waysAll_4]
    by_cases c : k = 49
    · rw [if_pos (by rw [c]; decide), c]
    · have h9 := (hv.2.1 (k / 7) (k % 7)).1
      have hc := cnt_le (hk49 v) k
      have := h.2.2.2.1 (k / 7) (k % 7) (by omega) (by omega)
      have e1 : P.1 110 (15 + k) = nI (vH v (k / 7) (k % 7)) := by
        rw [← this]
        exact congrArg (P.1 110) (by omega)
      have ih' := ih (k + 1) (by omega) (by omega)
      have es : cnt (hk49 v) (k + 1) = cnt (hk49 v) k + (if hk49 v k = true then 1 else 0) := rfl
      rw [es] at ih'
      rw [show (49 : Int32) = nI 49 from rfl, if_neg (nI_ge (by omega) (by omega)), show (15 : Int32) = nI 15 from rfl, nI_add, z_ck (by omega) (by omega), z_cl (by omega), e1]
      unfold j_Mo_waysAll_28
      by_cases c2 : vH v (k / 7) (k % 7) = 0
      · rw [if_neg (by simp [hk49, c2])] at ih'
        rw [if_pos (by rw [c2]; decide), lb_eq, show (0 : Int32) = nI 0 from rfl, nI_add, show (1 : Int32) = nI 1 from rfl, nI_add]
        exact ih'
      · rw [if_pos (by simp [hk49]; omega)] at ih'
        rw [if_neg (by simp (disch := omega) only [z_add, z_mul, z_sub, z_subm, z_addm, z_lt_t, z_lt_f, z_le_t, z_le_f, z_eq_t, z_eq_f, z_eqm, z_meq, z_mm, z_ltm, z_mlt, z_lem, z_mle, z_cl, z_ck, u1_1, u1_2, u2_1, u2_2, ↓reduceIte, Option.bind_some, Option.bind_none, bd2_some, lb_eq, and_true, and_false, true_and, false_and, not_true_eq_false, not_false_eq_true, eq_self_iff_true, if_true, if_false, Nat.reduceEqDiff, Nat.reduceAdd, Nat.reduceMul, Nat.reduceSub, Bool.false_eq_true, zl0, zl1, zl2, zl3, zl4, zl5, zl6, zl7, zl8, zl9, zl10, zl11, zl12, zl13, zl14, zl15, zl16, zl17, zl18, zl19, zl20, zl22, zl23, zl24, zl25, zl30, zl31, zl32, zl33, zl34, zl35, zl36, zl37, zl38, zl39, zl40, zl41, zl42, zl43, zl45, zl48, zl49, zl57, zl58, zl59, zl60, zl61, zl62, zl63, zl64, zl91, zl93, zl97, zl98, zl99, zl100, zl113, zl114, zl115, zl116, zl117, zl122, zl124, zl125, zl127, zl128, zl136, zl200, zl201, zl202, zl203, zl204, zl205, zl206, zl207, zl208, zl209, zl210, zl211, zl212, zl213, zl214, zl215, zl216, zl217, zl218, zl219, zl220, zl235, zl236, zl255, zl280, zl287, zl900, zl999, zl1000, zl1001, zl1136, zl1960, zl3000, zl3001, zl3002, zl3003, zl3004, zl3005, zl3006, zl3007, zl3008, zl3009, zl268435456, zl1000000000]), lb_eq, show (1 : Int32) = nI 1 from rfl, nI_add, nI_add]
        exact ih'
theorem count_ok {P : PM} {a : AS} {w : Int32} (hC : CRep P a) (hM : MRep P a) (hca : CCa P (aV a)) (hok : AOk a) :
    ∃ v P2, f_Yr_count w P = some v ∧ f_Mo_count w P = some (v, P2) ∧ Inv P2 := by
  have hN := hok.1.1
  have hk5 : P.1 31 5 = nI (aP a).length := by obtain ⟨hd, _, _, h, _⟩ := hC.2.2.1; exact h
  have hw49 : cnt (hk49 (aV a)) 49 = wsum (aV a) (vN (aV a)) := by
    have := cnt49 hok.1 7
    rw [show 7 * 7 = 49 from rfl] at this
    rw [this, ← wsum_7 hok.1 (7 - vN (aV a)), show vN (aV a) + (7 - vN (aV a)) = 7 by omega]
  refine join0 (a := a) (a' := a) (r := if w = 0 then nI (vN (aV a)) else if w = 1 then nI (wsum (aV a) (vN (aV a))) else if w = 2 then oI (sW (aS a)) else if w = 3 then nI (sZ (aS a)) else if w = 4 then nI (sA (aS a)) else if w = 5 then sH (aS a) else if w = 6 then nI (aP a).length else if w = 7 then nI (aF a) else if w = 8 then vL (aV a) else -nI 1) hM ⟨?_, hC, hca⟩ (fun P hM => ⟨u1 P 109 0 (0 : Int32), ?_, MRep_me hM me_th, sm_th⟩) hok
  · unfold f_Yr_count
    rw [hC.1.1, hC.1.2.1, hC.2.1.1, hC.2.1.2.1, hC.2.1.2.2.1, hC.2.1.2.2.2.1, hk5, hC.2.2.2.2.2.1, show f_Ne_waysInAll 14 P = some (nI (wsum (aV a) (vN (aV a)))) from wall_l hC.1 hok.1 FU 0 (by omega) (by have := FU_big; omega)]
    by_cases c0 : w = 0
    · rw [if_pos c0, if_pos c0]
    rw [if_neg c0, if_neg c0]
    by_cases c1 : w = 1
    · rw [if_pos c1, if_pos c1]; rfl
    rw [if_neg c1, if_neg c1]
    by_cases c2 : w = 2
    · rw [if_pos c2, if_pos c2]
    rw [if_neg c2, if_neg c2]
    by_cases c3 : w = 3
    · rw [if_pos c3, if_pos c3]
    rw [if_neg c3, if_neg c3]
    by_cases c4 : w = 4
    · rw [if_pos c4, if_pos c4]
    rw [if_neg c4, if_neg c4]
    by_cases c5 : w = 5
    · rw [if_pos c5, if_pos c5]
    rw [if_neg c5, if_neg c5]
    by_cases c6 : w = 6
    · rw [if_pos c6, if_pos c6]
    rw [if_neg c6, if_neg c6]
    by_cases c7 : w = 7
    · rw [if_pos c7, if_pos c7]
    rw [if_neg c7, if_neg c7]
    by_cases c8 : w = 8
    · rw [if_pos c8, if_pos c8]
    rw [if_neg c8, if_neg c8]
    rfl
  · have hM1 : MRep (u1 P 109 0 (0 : Int32)) a := MRep_me hM me_th
    have e0 : (u1 P 109 0 (0 : Int32)).1 110 (0 : Int32).toNatClampNeg = vL (aV a) := hM1.1.2.1
    have e1 : (u1 P 109 0 (0 : Int32)).1 110 (1 : Int32).toNatClampNeg = nI (vN (aV a)) := hM1.1.1
    have e6 : (u1 P 109 0 (0 : Int32)).1 110 (124 : Int32).toNatClampNeg = nI (aP a).length := hM1.2.2.1.1
    have e7 : (u1 P 109 0 (0 : Int32)).1 109 5 = nI (aF a) := hM1.2.2.2.2.2.1
    have e8 := wm_l hM1.1 hok.1 FU 0 (by omega) (by have := FU_big; omega)
    rw [hw49] at e8
    unfold f_Mo_count
    rw [e0, e1, m113 hM1.2.1, m114 hM1.2.1, m115 hM1.2.1, m116 hM1.2.1, e6, e7, show f_Mo_waysAll (u1 P 109 0 (0 : Int32)) = some (nI (wsum (aV a) (vN (aV a)))) from e8]
    by_cases c0 : w = 0
    · rw [if_pos c0, if_pos c0]
    rw [if_neg c0, if_neg c0]
    by_cases c1 : w = 1
    · rw [if_pos c1, if_pos c1]; rfl
    rw [if_neg c1, if_neg c1]
    by_cases c2 : w = 2
    · rw [if_pos c2, if_pos c2]
    rw [if_neg c2, if_neg c2]
    by_cases c3 : w = 3
    · rw [if_pos c3, if_pos c3]
    rw [if_neg c3, if_neg c3]
    by_cases c4 : w = 4
    · rw [if_pos c4, if_pos c4]
    rw [if_neg c4, if_neg c4]
    by_cases c5 : w = 5
    · rw [if_pos c5, if_pos c5]
    rw [if_neg c5, if_neg c5]
    by_cases c6 : w = 6
    · rw [if_pos c6, if_pos c6]
    rw [if_neg c6, if_neg c6]
    by_cases c7 : w = 7
    · rw [if_pos c7, if_pos c7]
    rw [if_neg c7, if_neg c7]
    by_cases c8 : w = 8
    · rw [if_pos c8, if_pos c8]
    rw [if_neg c8, if_neg c8]
    rfl
