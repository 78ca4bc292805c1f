/-! exploring: the class -/
noncomputable def gw (v : NV) (s : SV) (sl w z t : Nat) : Option Nat := if sl.testBit t = true then none else car v w z t (sD s t)
/-- the next place; a place is 40 * station + size - 1 -/
noncomputable def nxp (v : NV) (s : SV) (sl p t : Nat) : Option Nat := match gw v s sl (p / 40) (p % 40 + 1) t with | some (z + 1) => some (40 * t + z) | _ => none
theorem gw_le {v : NV} {s : SV} {sl w z t k : Nat} (hz : z ≤ 40) (h : gw v s sl w z t = some k) : k ≤ 40 := by
  unfold gw at h
  split at h
  · cases h
  · exact car_le hz h
theorem car_N {v : NV} {w z t d k : Nat} (hv : NVok v) (h : car v w z t d = some k) : w < vN v ∧ t < vN v ∧ w ≠ t := by
  unfold car at h
  split at h
  · cases h
  · rename_i c
    exact (hv.2.1 w t).2.2.1 c
theorem gw_N {v : NV} {s : SV} {sl w z t k : Nat} (hv : NVok v) (h : gw v s sl w z t = some k) : w < vN v ∧ t < vN v ∧ w ≠ t := by
  unfold gw at h
  split at h
  · cases h
  · exact car_N hv h
theorem nxp_in {v : NV} {s : SV} {sl p t q : Nat} (hv : NVok v) (h : nxp v s sl p t = some q) : q < 280 ∧ q / 40 = t ∧ t < vN v ∧ p / 40 < vN v ∧ ∃ z, gw v s sl (p / 40) (p % 40 + 1) t = some (z + 1) ∧ q = 40 * t + z ∧ z < 40 := by
  unfold nxp at h
  split at h
  · rename_i z e
    have h1 := gw_le (by omega) e
    have h2 := gw_N hv e
    have h3 := hv.1
    cases h
    refine ⟨by omega, by omega, h2.2.1, h2.1, z, e, rfl, by omega⟩
  · cases h
theorem lx_and (a b : Nat) : lN a &&& lN b = lN (a &&& b) := by
  apply Int64.toBitVec_inj.1
  show BitVec.ofNat 64 a &&& BitVec.ofNat 64 b = BitVec.ofNat 64 (a &&& b)
  apply BitVec.eq_of_getLsbD_eq
  intro i hi
  simp [hi]
theorem lx_or (a b : Nat) : lN a ||| lN b = lN (a ||| b) := by
  apply Int64.toBitVec_inj.1
  show BitVec.ofNat 64 a ||| BitVec.ofNat 64 b = BitVec.ofNat 64 (a ||| b)
  apply BitVec.eq_of_getLsbD_eq
  intro i hi
  simp [hi]
theorem lx_1 : ∀ k, k < 63 → (1 : Int64) <<< ((nI k).toInt64 &&& 63) = lN (2 ^ k) := by decide +kernel
theorem and_pw (m k : Nat) : m &&& 2 ^ k = if m.testBit k = true then 2 ^ k else 0 := by
  apply Nat.eq_of_testBit_eq
  intro i
  rw [Nat.testBit_and]
  by_cases e : i = k
  · subst e
    cases h : m.testBit i <;> simp [Nat.testBit_two_pow_self]
  · rw [Nat.testBit_two_pow_of_ne (Ne.symm e)]
    split
    · rw [Nat.testBit_two_pow_of_ne (Ne.symm e)]; simp
    · simp
theorem mem_cnt : ∀ {L : List Nat} {n : Nat}, L.Nodup → (∀ x ∈ L, x < n) → cnt (fun i => decide (i ∈ L)) n = L.length
  | [], n, _, _ => by
    have : cnt (fun i => decide (i ∈ ([] : List Nat))) n = cnt (fun _ => false) n := cnt_congr n (fun _ _ => by simp)
    rw [this]
    induction n with
    | zero => rfl
    | succ n ih => rw [cnt_s, ih (fun x hx => by cases hx) (cnt_congr n (fun _ _ => by simp))]; rfl
  | x :: L, n, h, hn => by
    rw [List.nodup_cons] at h
    rw [cnt_add (f := fun i => decide (i ∈ L)) (i := x) n (hn x (by simp)) (decide_eq_false h.1) (by simp) (fun j hj => by simp [hj]), mem_cnt h.2 (fun y hy => hn y (by simp [hy]))]
    rfl
theorem nodup_len {L : List Nat} {n : Nat} (h : L.Nodup) (hn : ∀ x ∈ L, x < n) : L.length ≤ n := by
  rw [← mem_cnt h hn]
  exact cnt_le _ n
theorem nodup_room {L : List Nat} {n p : Nat} (h : L.Nodup) (hn : ∀ x ∈ L, x < n) (hp : p < n) (hL : p ∉ L) : L.length < n := by
  rw [← mem_cnt h hn]
  exact cnt_room hp (decide_eq_false hL)
/-- what was found, in its order -/
def FS (P : PM) (L : List Nat) : Prop :=
  P.1 58 6 = nI L.length ∧ (∀ i, i < L.length → P.1 62 i = nI (L.getD i 0)) ∧
  (∀ st, st < 7 → ∃ m, m < 2 ^ 41 ∧ P.2 61 st = lN m ∧ ∀ z, m.testBit z = decide (1 ≤ z ∧ z ≤ 40 ∧ 40 * st + z - 1 ∈ L)) ∧ L.Nodup ∧ ∀ p ∈ L, p < 280
def fnd (o : Nat) : Bool := o == 58 || o == 61 || o == 62
theorem place_n (p : Nat) (hp : p < 2147483648) (P : PM) : f_Yr_isPlace (nI p) P = if p < 280 then nI 1 else nI 0 := by
  unfold f_Yr_isPlace j_Yr_isPlace_15
  by_cases c : p < 280
  · rw [if_neg (by simp (disch := omega) only [z_add, z_mul, z_sub, z_subm, z_addm, z_lt_t, z_lt_f, z_le_t, z_le_f, z_eq_t, z_eq_f, z_eqm, z_meq, z_mm, z_ltm, z_mlt, z_lem, z_mle, z_cl, z_ck, u1_1, u1_2, u2_1, u2_2, ↓reduceIte, Option.bind_some, Option.bind_none, bd2_some, lb_eq, and_true, and_false, true_and, false_and, not_true_eq_false, not_false_eq_true, eq_self_iff_true, if_true, if_false, Nat.reduceEqDiff, Nat.reduceAdd, Nat.reduceMul, Nat.reduceSub, Bool.false_eq_true, zl0, zl1, zl2, zl3, zl4, zl5, zl6, zl7, zl8, zl9, zl10, zl11, zl12, zl13, zl14, zl15, zl16, zl17, zl18, zl19, zl20, zl22, zl23, zl24, zl25, zl30, zl31, zl32, zl33, zl34, zl35, zl36, zl37, zl38, zl39, zl40, zl41, zl42, zl43, zl45, zl48, zl49, zl57, zl58, zl59, zl60, zl61, zl62, zl63, zl64, zl91, zl93, zl97, zl98, zl99, zl100, zl113, zl114, zl115, zl116, zl117, zl122, zl124, zl125, zl127, zl128, zl136, zl200, zl201, zl202, zl203, zl204, zl205, zl206, zl207, zl208, zl209, zl210, zl211, zl212, zl213, zl214, zl215, zl216, zl217, zl218, zl219, zl220, zl235, zl236, zl255, zl280, zl287, zl900, zl999, zl1000, zl1001, zl1136, zl1960, zl3000, zl3001, zl3002, zl3003, zl3004, zl3005, zl3006, zl3007, zl3008, zl3009, zl268435456, zl1000000000]), if_neg (by simp (disch := omega) only [z_add, z_mul, z_sub, z_subm, z_addm, z_lt_t, z_lt_f, z_le_t, z_le_f, z_eq_t, z_eq_f, z_eqm, z_meq, z_mm, z_ltm, z_mlt, z_lem, z_mle, z_cl, z_ck, u1_1, u1_2, u2_1, u2_2, ↓reduceIte, Option.bind_some, Option.bind_none, bd2_some, lb_eq, and_true, and_false, true_and, false_and, not_true_eq_false, not_false_eq_true, eq_self_iff_true, if_true, if_false, Nat.reduceEqDiff, Nat.reduceAdd, Nat.reduceMul, Nat.reduceSub, Bool.false_eq_true, zl0, zl1, zl2, zl3, zl4, zl5, zl6, zl7, zl8, zl9, zl10, zl11, zl12, zl13, zl14, zl15, zl16, zl17, zl18, zl19, zl20, zl22, zl23, zl24, zl25, zl30, zl31, zl32, zl33, zl34, zl35, zl36, zl37, zl38, zl39, zl40, zl41, zl42, zl43, zl45, zl48, zl49, zl57, zl58, zl59, zl60, zl61, zl62, zl63, zl64, zl91, zl93, zl97, zl98, zl99, zl100, zl113, zl114, zl115, zl116, zl117, zl122, zl124, zl125, zl127, zl128, zl136, zl200, zl201, zl202, zl203, zl204, zl205, zl206, zl207, zl208, zl209, zl210, zl211, zl212, zl213, zl214, zl215, zl216, zl217, zl218, zl219, zl220, zl235, zl236, zl255, zl280, zl287, zl900, zl999, zl1000, zl1001, zl1136, zl1960, zl3000, zl3001, zl3002, zl3003, zl3004, zl3005, zl3006, zl3007, zl3008, zl3009, zl268435456, zl1000000000]), if_pos c]; rfl
  · rw [if_neg (by simp (disch := omega) only [z_add, z_mul, z_sub, z_subm, z_addm, z_lt_t, z_lt_f, z_le_t, z_le_f, z_eq_t, z_eq_f, z_eqm, z_meq, z_mm, z_ltm, z_mlt, z_lem, z_mle, z_cl, z_ck, u1_1, u1_2, u2_1, u2_2, ↓reduceIte, Option.bind_some, Option.bind_none, bd2_some, lb_eq, and_true, and_false, true_and, false_and, not_true_eq_false, not_false_eq_true, eq_self_iff_true, if_true, if_false, Nat.reduceEqDiff, Nat.reduceAdd, Nat.reduceMul, Nat.reduceSub, Bool.false_eq_true, zl0, zl1, zl2, zl3, zl4, zl5, zl6, zl7, zl8, zl9, zl10, zl11, zl12, zl13, zl14, zl15, zl16, zl17, zl18, zl19, zl20, zl22, zl23, zl24, zl25, zl30, zl31, zl32, zl33, zl34, zl35, zl36, zl37, zl38, zl39, zl40, zl41, zl42, zl43, zl45, zl48, zl49, zl57, zl58, zl59, zl60, zl61, zl62, zl63, zl64, zl91, zl93, zl97, zl98, zl99, zl100, zl113, zl114, zl115, zl116, zl117, zl122, zl124, zl125, zl127, zl128, zl136, zl200, zl201, zl202, zl203, zl204, zl205, zl206, zl207, zl208, zl209, zl210, zl211, zl212, zl213, zl214, zl215, zl216, zl217, zl218, zl219, zl220, zl235, zl236, zl255, zl280, zl287, zl900, zl999, zl1000, zl1001, zl1136, zl1960, zl3000, zl3001, zl3002, zl3003, zl3004, zl3005, zl3006, zl3007, zl3008, zl3009, zl268435456, zl1000000000]), if_pos (by simp (disch := omega) only [z_add, z_mul, z_sub, z_subm, z_addm, z_lt_t, z_lt_f, z_le_t, z_le_f, z_eq_t, z_eq_f, z_eqm, z_meq, z_mm, z_ltm, z_mlt, z_lem, z_mle, z_cl, z_ck, u1_1, u1_2, u2_1, u2_2, ↓reduceIte, Option.bind_some, Option.bind_none, bd2_some, lb_eq, and_true, and_false, true_and, false_and, not_true_eq_false, not_false_eq_true, eq_self_iff_true, if_true, if_false, Nat.reduceEqDiff, Nat.reduceAdd, Nat.reduceMul, Nat.reduceSub, Bool.false_eq_true, zl0, zl1, zl2, zl3, zl4, zl5, zl6, zl7, zl8, zl9, zl10, zl11, zl12, zl13, zl14, zl15, zl16, zl17, zl18, zl19, zl20, zl22, zl23, zl24, zl25, zl30, zl31, zl32, zl33, zl34, zl35, zl36, zl37, zl38, zl39, zl40, zl41, zl42, zl43, zl45, zl48, zl49, zl57, zl58, zl59, zl60, zl61, zl62, zl63, zl64, zl91, zl93, zl97, zl98, zl99, zl100, zl113, zl114, zl115, zl116, zl117, zl122, zl124, zl125, zl127, zl128, zl136, zl200, zl201, zl202, zl203, zl204, zl205, zl206, zl207, zl208, zl209, zl210, zl211, zl212, zl213, zl214, zl215, zl216, zl217, zl218, zl219, zl220, zl235, zl236, zl255, zl280, zl287, zl900, zl999, zl1000, zl1001, zl1136, zl1960, zl3000, zl3001, zl3002, zl3003, zl3004, zl3005, zl3006, zl3007, zl3008, zl3009, zl268435456, zl1000000000]), if_neg c]; rfl
theorem place_m (P : PM) : f_Yr_isPlace (-nI 1) P = nI 0 := rfl
theorem stIn_n {p : Nat} (hp : p < 2147483648) (P : PM) : f_Yr_stationIn (nI p) P = nI (p / 40) := by
  unfold f_Yr_stationIn
  rw [show (40 : Int32) = nI 40 from rfl, pk_div (by omega) (by omega) (by omega)]
theorem szIn_n {p : Nat} (hp : p < 2147483648) (P : PM) : f_Yr_sizeIn (nI p) P = nI (p % 40 + 1) := by
  unfold f_Yr_sizeIn
  rw [show (40 : Int32) = nI 40 from rfl, pk_rem (by omega) (by omega) (by omega), show (1 : Int32) = nI 1 from rfl, nI_add]
theorem plOf_n {t z : Nat} (hz : 1 ≤ z) (P : PM) : f_Yr_placeOf (nI t) (nI z) P = nI (40 * t + z - 1) := by
  unfold f_Yr_placeOf
  rw [show (40 : Int32) = nI 40 from rfl, pk_mul, nI_add, show (1 : Int32) = nI 1 from rfl, z_sub (by omega), Nat.mul_comm]
def addp (L : List Nat) (p : Nat) : List Nat := if p ∈ L then L else L ++ [p]
theorem find_C {P : PM} {L : List Nat} {p : Nat} (h : FS P L) (hp : p < 280) : ∃ P', f_Pa_find (nI p) P = some P' ∧ FS P' (addp L p) ∧ sm fnd P P' := by
  obtain ⟨h1, h2, h3, h4, h5⟩ := h
  have hlen := nodup_len h4 h5
  unfold f_Pa_find addp
  rw [place_n p (by omega), if_pos hp, if_neg (by decide), h1]
  by_cases c0 : L.length = 280
  · have hin : p ∈ L := by
      apply Classical.byContradiction
      intro hL
      have := nodup_room h4 h5 hp hL
      omega
    rw [if_neg (by simp (disch := omega) only [z_add, z_mul, z_sub, z_subm, z_addm, z_lt_t, z_lt_f, z_le_t, z_le_f, z_eq_t, z_eq_f, z_eqm, z_meq, z_mm, z_ltm, z_mlt, z_lem, z_mle, z_cl, z_ck, u1_1, u1_2, u2_1, u2_2, ↓reduceIte, Option.bind_some, Option.bind_none, bd2_some, lb_eq, and_true, and_false, true_and, false_and, not_true_eq_false, not_false_eq_true, eq_self_iff_true, if_true, if_false, Nat.reduceEqDiff, Nat.reduceAdd, Nat.reduceMul, Nat.reduceSub, Bool.false_eq_true, zl0, zl1, zl2, zl3, zl4, zl5, zl6, zl7, zl8, zl9, zl10, zl11, zl12, zl13, zl14, zl15, zl16, zl17, zl18, zl19, zl20, zl22, zl23, zl24, zl25, zl30, zl31, zl32, zl33, zl34, zl35, zl36, zl37, zl38, zl39, zl40, zl41, zl42, zl43, zl45, zl48, zl49, zl57, zl58, zl59, zl60, zl61, zl62, zl63, zl64, zl91, zl93, zl97, zl98, zl99, zl100, zl113, zl114, zl115, zl116, zl117, zl122, zl124, zl125, zl127, zl128, zl136, zl200, zl201, zl202, zl203, zl204, zl205, zl206, zl207, zl208, zl209, zl210, zl211, zl212, zl213, zl214, zl215, zl216, zl217, zl218, zl219, zl220, zl235, zl236, zl255, zl280, zl287, zl900, zl999, zl1000, zl1001, zl1136, zl1960, zl3000, zl3001, zl3002, zl3003, zl3004, zl3005, zl3006, zl3007, zl3008, zl3009, zl268435456, zl1000000000]), if_pos hin]
    exact ⟨P, rfl, ⟨h1, h2, h3, h4, h5⟩, sm_refl⟩
  · obtain ⟨m, hm, m1, m2⟩ := h3 (p / 40) (by omega)
    have hb := m2 (p % 40 + 1)
    have e0 : 40 * (p / 40) + (p % 40 + 1) - 1 = p := by omega
    rw [e0] at hb
    rw [if_pos (by simp (disch := omega) only [z_add, z_mul, z_sub, z_subm, z_addm, z_lt_t, z_lt_f, z_le_t, z_le_f, z_eq_t, z_eq_f, z_eqm, z_meq, z_mm, z_ltm, z_mlt, z_lem, z_mle, z_cl, z_ck, u1_1, u1_2, u2_1, u2_2, ↓reduceIte, Option.bind_some, Option.bind_none, bd2_some, lb_eq, and_true, and_false, true_and, false_and, not_true_eq_false, not_false_eq_true, eq_self_iff_true, if_true, if_false, Nat.reduceEqDiff, Nat.reduceAdd, Nat.reduceMul, Nat.reduceSub, Bool.false_eq_true, zl0, zl1, zl2, zl3, zl4, zl5, zl6, zl7, zl8, zl9, zl10, zl11, zl12, zl13, zl14, zl15, zl16, zl17, zl18, zl19, zl20, zl22, zl23, zl24, zl25, zl30, zl31, zl32, zl33, zl34, zl35, zl36, zl37, zl38, zl39, zl40, zl41, zl42, zl43, zl45, zl48, zl49, zl57, zl58, zl59, zl60, zl61, zl62, zl63, zl64, zl91, zl93, zl97, zl98, zl99, zl100, zl113, zl114, zl115, zl116, zl117, zl122, zl124, zl125, zl127, zl128, zl136, zl200, zl201, zl202, zl203, zl204, zl205, zl206, zl207, zl208, zl209, zl210, zl211, zl212, zl213, zl214, zl215, zl216, zl217, zl218, zl219, zl220, zl235, zl236, zl255, zl280, zl287, zl900, zl999, zl1000, zl1001, zl1136, zl1960, zl3000, zl3001, zl3002, zl3003, zl3004, zl3005, zl3006, zl3007, zl3008, zl3009, zl268435456, zl1000000000]), stIn_n (by omega), lb_eq, szIn_n (by omega), lx_1 _ (by omega), lb_eq, z_ck (by omega) (by omega), z_cl (by omega), m1, lx_and, and_pw]
    by_cases c : p ∈ L
    · have hb1 : m.testBit (p % 40 + 1) = true := by rw [hb]; exact decide_eq_true ⟨by omega, by omega, c⟩
      have : ¬ lg_cmp (lN (2 ^ (p % 40 + 1))) 0 = 0 := by
        rw [lgc_eq]
        have h41 : 2 ^ (p % 40 + 1) ≤ 2 ^ 40 := pw_le (by omega)
        have h0 := Nat.two_pow_pos (p % 40 + 1)
        show ¬ lN _ = lN 0
        rw [pk_lEQ (by omega) (by omega)]
        omega
      rw [if_pos hb1, if_neg this, if_pos c]
      exact ⟨P, rfl, ⟨h1, h2, h3, h4, h5⟩, sm_refl⟩
    · have hb0 : ¬ m.testBit (p % 40 + 1) = true := by rw [hb, decide_eq_true_eq]; exact fun q => c q.2.2
      rw [if_neg hb0, if_pos (by decide), if_neg c, z_ck (by omega) (by omega), z_ck (by omega) (by omega), lx_or]
      obtain ⟨P1, hP1⟩ : ∃ P1, P1 = u2 P 61 (p / 40) (lN (m ||| 2 ^ (p % 40 + 1))) := ⟨_, rfl⟩
      rw [← hP1]
      have e6 : P1.1 58 6 = nI L.length := by rw [hP1]; exact h1
      rw [e6, z_ck (by omega) (by omega), z_cl (by omega), u1_1, if_neg (by omega), e6, show (1 : Int32) = nI 1 from rfl, nI_add]
      refine ⟨_, rfl, ⟨?_, fun i hi => ?_, fun st hst => ?_, ?_, fun x hx => ?_⟩, ?_⟩
      · rw [u1_1, if_pos ⟨rfl, rfl⟩, List.length_append]; rfl
      · rw [List.length_append] at hi
        simp only [List.length_cons, List.length_nil] at hi
        rw [u1_1, if_neg (by omega), u1_1]
        by_cases e : i = L.length
        · rw [if_pos ⟨rfl, e⟩, e]
          simp
        · rw [if_neg (fun q => e q.2), hP1]
          show P.1 62 i = _
          rw [h2 i (by omega)]
          simp only [List.getD_eq_getElem?_getD]
          rw [List.getElem?_append_left (by omega)]
      · by_cases e : st = p / 40
        · subst e
          have h41 : 2 ^ (p % 40 + 1) < 2 ^ 41 := Nat.pow_lt_pow_right (by decide) (by omega)
          refine ⟨m ||| 2 ^ (p % 40 + 1), Nat.or_lt_two_pow hm h41, ?_, fun z => ?_⟩
          · rw [u1_2, u1_2, hP1, u2_2, if_pos ⟨rfl, rfl⟩]
          · rw [Nat.testBit_or, m2 z]
            by_cases e2 : z = p % 40 + 1
            · subst e2
              rw [Nat.testBit_two_pow_self, Bool.or_true]
              symm
              rw [decide_eq_true_eq]
              exact ⟨by omega, by omega, by rw [e0]; simp⟩
            · rw [Nat.testBit_two_pow_of_ne (Ne.symm e2), Bool.or_false]
              apply decide_eq_decide.mpr
              constructor
              · rintro ⟨q1, q2, q3⟩; exact ⟨q1, q2, by simp [q3]⟩
              · rintro ⟨q1, q2, q3⟩
                refine ⟨q1, q2, ?_⟩
                rw [List.mem_append] at q3
                rcases q3 with q3 | q3
                · exact q3
                · simp at q3; omega
        · obtain ⟨m', hm', k1, k2⟩ := h3 st hst
          refine ⟨m', hm', ?_, fun z => ?_⟩
          · rw [u1_2, u1_2, hP1, u2_2, if_neg (fun q => e q.2)]; exact k1
          · rw [k2 z]
            apply decide_eq_decide.mpr
            constructor
            · rintro ⟨q1, q2, q3⟩; exact ⟨q1, q2, by simp [q3]⟩
            · rintro ⟨q1, q2, q3⟩
              refine ⟨q1, q2, ?_⟩
              rw [List.mem_append] at q3
              rcases q3 with q3 | q3
              · exact q3
              · simp at q3; omega
      · rw [List.nodup_append]
        exact ⟨h4, by simp, fun x hx y hy => by simp at hy; subst hy; exact fun e => c (e ▸ hx)⟩
      · rw [List.mem_append] at hx
        rcases hx with hx | hx
        · exact h5 x hx
        · simp at hx; omega
      · rw [hP1]
        exact sm_u1 (sm_u1 (sm_u2 sm_refl rfl) rfl) rfl
theorem find_m {P : PM} : f_Pa_find (-nI 1) P = some P := rfl
def known (P : PM) (v : NV) (s : SV) (p t : Nat) : Prop := P.1 59 (280 * t + p) = oI (car v (p / 40) (p % 40 + 1) t (sD s t))
/-- what is kept of passings is of the dullness now -/
def CC1 (P : PM) (v : NV) (s : SV) : Prop := ∀ t, t < 7 → P.1 60 t = nI (sD s t) ∧ ∀ p, p < 280 → P.1 59 (280 * t + p) = -nI 2 ∨ known P v s p t
theorem CC1_CCa {P : PM} {v : NV} {s : SV} (h : CC1 P v s) (hs : SVok v s) : CCa P v := fun t ht => ⟨sD s t, hs.2.2.2.2 t, (h t ht).1, (h t ht).2⟩
theorem CC1_ro {P P' : PM} {v : NV} {s : SV} (h : CC1 P v s) (h1 : P'.1 59 = P.1 59) (h2 : P'.1 60 = P.1 60) : CC1 P' v s := by
  unfold CC1 known at *
  rw [h1, h2]
  exact h
theorem nar_b {k : Nat} (h : k ≤ 40) : vp_nar .byte ((oI (some k)).toInt8.toInt32) = oI (some k) := by
  have : ∀ k, k < 41 → vp_nar .byte ((nI k).toInt8.toInt32) = nI k := by decide +kernel
  exact this k (by omega)
theorem nar_m : vp_nar .byte ((oI none).toInt8.toInt32) = oI none := by decide
theorem nar_o {o : Option Nat} (h : ∀ k, o = some k → k ≤ 40) : vp_nar .byte ((oI o).toInt8.toInt32) = oI o := by
  cases o with
  | none => exact nar_m
  | some k => exact nar_b (h k rfl)
def wkr (o : Nat) : Bool := o == 19 || o == 20 || o == 59
theorem oI_ne2 {o : Option Nat} (h : ∀ k, o = some k → k ≤ 40) : ¬ oI o = -nI 2 := by
  cases o with
  | none => decide
  | some k => have := h k rfl; rw [oI_s]; simp (disch := omega) only [z_add, z_mul, z_sub, z_subm, z_addm, z_lt_t, z_lt_f, z_le_t, z_le_f, z_eq_t, z_eq_f, z_eqm, z_meq, z_mm, z_ltm, z_mlt, z_lem, z_mle, z_cl, z_ck, u1_1, u1_2, u2_1, u2_2, ↓reduceIte, Option.bind_some, Option.bind_none, bd2_some, lb_eq, and_true, and_false, true_and, false_and, not_true_eq_false, not_false_eq_true, eq_self_iff_true, if_true, if_false, Nat.reduceEqDiff, Nat.reduceAdd, Nat.reduceMul, Nat.reduceSub, Bool.false_eq_true, zl0, zl1, zl2, zl3, zl4, zl5, zl6, zl7, zl8, zl9, zl10, zl11, zl12, zl13, zl14, zl15, zl16, zl17, zl18, zl19, zl20, zl22, zl23, zl24, zl25, zl30, zl31, zl32, zl33, zl34, zl35, zl36, zl37, zl38, zl39, zl40, zl41, zl42, zl43, zl45, zl48, zl49, zl57, zl58, zl59, zl60, zl61, zl62, zl63, zl64, zl91, zl93, zl97, zl98, zl99, zl100, zl113, zl114, zl115, zl116, zl117, zl122, zl124, zl125, zl127, zl128, zl136, zl200, zl201, zl202, zl203, zl204, zl205, zl206, zl207, zl208, zl209, zl210, zl211, zl212, zl213, zl214, zl215, zl216, zl217, zl218, zl219, zl220, zl235, zl236, zl255, zl280, zl287, zl900, zl999, zl1000, zl1001, zl1136, zl1960, zl3000, zl3001, zl3002, zl3003, zl3004, zl3005, zl3006, zl3007, zl3008, zl3009, zl268435456, zl1000000000]
theorem workOut_C {P : PM} {v : NV} {s : SV} {p t : Nat} (hn : CNet P 14 v) (hv : NVok v) (hc : CC1 P v s) (hp : p < 280) (ht : t < vN v) :
    ∃ P', f_Pa_workOut (nI p) (nI t) P = some (oI (car v (p / 40) (p % 40 + 1) t (sD s t)), P') ∧ CC1 P' v s ∧ known P' v s p t ∧ (∀ q r, known P v s q r → known P' v s q r) ∧ sm wkr P P' := by
  have hN := hv.1
  obtain ⟨d1, d2⟩ := hc t (by omega)
  have hle : ∀ k, car v (p / 40) (p % 40 + 1) t (sD s t) = some k → k ≤ 40 := fun k h => car_le (by omega) h
  unfold f_Pa_workOut
  rw [show (280 : Int32) = nI 280 from rfl, pk_mul, nI_add, lb_eq, if_neg (by simp (disch := omega) only [z_add, z_mul, z_sub, z_subm, z_addm, z_lt_t, z_lt_f, z_le_t, z_le_f, z_eq_t, z_eq_f, z_eqm, z_meq, z_mm, z_ltm, z_mlt, z_lem, z_mle, z_cl, z_ck, u1_1, u1_2, u2_1, u2_2, ↓reduceIte, Option.bind_some, Option.bind_none, bd2_some, lb_eq, and_true, and_false, true_and, false_and, not_true_eq_false, not_false_eq_true, eq_self_iff_true, if_true, if_false, Nat.reduceEqDiff, Nat.reduceAdd, Nat.reduceMul, Nat.reduceSub, Bool.false_eq_true, zl0, zl1, zl2, zl3, zl4, zl5, zl6, zl7, zl8, zl9, zl10, zl11, zl12, zl13, zl14, zl15, zl16, zl17, zl18, zl19, zl20, zl22, zl23, zl24, zl25, zl30, zl31, zl32, zl33, zl34, zl35, zl36, zl37, zl38, zl39, zl40, zl41, zl42, zl43, zl45, zl48, zl49, zl57, zl58, zl59, zl60, zl61, zl62, zl63, zl64, zl91, zl93, zl97, zl98, zl99, zl100, zl113, zl114, zl115, zl116, zl117, zl122, zl124, zl125, zl127, zl128, zl136, zl200, zl201, zl202, zl203, zl204, zl205, zl206, zl207, zl208, zl209, zl210, zl211, zl212, zl213, zl214, zl215, zl216, zl217, zl218, zl219, zl220, zl235, zl236, zl255, zl280, zl287, zl900, zl999, zl1000, zl1001, zl1136, zl1960, zl3000, zl3001, zl3002, zl3003, zl3004, zl3005, zl3006, zl3007, zl3008, zl3009, zl268435456, zl1000000000]), if_pos (by simp (disch := omega) only [z_add, z_mul, z_sub, z_subm, z_addm, z_lt_t, z_lt_f, z_le_t, z_le_f, z_eq_t, z_eq_f, z_eqm, z_meq, z_mm, z_ltm, z_mlt, z_lem, z_mle, z_cl, z_ck, u1_1, u1_2, u2_1, u2_2, ↓reduceIte, Option.bind_some, Option.bind_none, bd2_some, lb_eq, and_true, and_false, true_and, false_and, not_true_eq_false, not_false_eq_true, eq_self_iff_true, if_true, if_false, Nat.reduceEqDiff, Nat.reduceAdd, Nat.reduceMul, Nat.reduceSub, Bool.false_eq_true, zl0, zl1, zl2, zl3, zl4, zl5, zl6, zl7, zl8, zl9, zl10, zl11, zl12, zl13, zl14, zl15, zl16, zl17, zl18, zl19, zl20, zl22, zl23, zl24, zl25, zl30, zl31, zl32, zl33, zl34, zl35, zl36, zl37, zl38, zl39, zl40, zl41, zl42, zl43, zl45, zl48, zl49, zl57, zl58, zl59, zl60, zl61, zl62, zl63, zl64, zl91, zl93, zl97, zl98, zl99, zl100, zl113, zl114, zl115, zl116, zl117, zl122, zl124, zl125, zl127, zl128, zl136, zl200, zl201, zl202, zl203, zl204, zl205, zl206, zl207, zl208, zl209, zl210, zl211, zl212, zl213, zl214, zl215, zl216, zl217, zl218, zl219, zl220, zl235, zl236, zl255, zl280, zl287, zl900, zl999, zl1000, zl1001, zl1136, zl1960, zl3000, zl3001, zl3002, zl3003, zl3004, zl3005, zl3006, zl3007, zl3008, zl3009, zl268435456, zl1000000000]), z_ck (by omega) (by omega), z_cl (by omega), stIn_n (by omega), szIn_n (by omega), z_ck (by omega) (by omega), z_cl (by omega), d1, show t * 280 + p = 280 * t + p by omega, show (-2 : Int32) = -nI 2 from rfl]
  unfold j_Pa_workOut_63
  by_cases c : P.1 59 (280 * t + p) = -nI 2
  · obtain ⟨P1, g1, g2⟩ := carried_C (s := p / 40) (z := p % 40 + 1) (d := sD s t) hn hv (show p / 40 < 7 by omega) (show t < 7 by omega)
    have hs1 : sm wkr P (u1 P1 59 (280 * t + p) (oI (car v (p / 40) (p % 40 + 1) t (sD s t)))) := sm_u1 (sm_mono g2 (fun o q => by simp [wkr] at q; simp; omega)) rfl
    have hk : ∀ q r, known P v s q r → known (u1 P1 59 (280 * t + p) (oI (car v (p / 40) (p % 40 + 1) t (sD s t)))) v s q r := by
      intro q r h
      unfold known at *
      rw [u1_1]
      by_cases e : 280 * r + q = 280 * t + p
      · rw [if_pos ⟨rfl, e⟩]
        rw [e, c] at h
        exact absurd h.symm (by
          cases eo : car v (q / 40) (q % 40 + 1) r (sD s r) with
          | none => decide
          | some k =>
            rw [eo] at h
            rw [oI_s] at h ⊢
            intro e2
            have e3 := congrArg Int32.toInt e2
            have : ∀ k : Nat, k < 2147483648 → ¬ (nI k).toInt = (-nI 2).toInt := fun k hk => by rw [nI_ti hk, nI_nti (by omega)]; omega
            exact this k (by have := car_le (show q % 40 + 1 ≤ 40 by omega) eo; omega) e3)
      · rw [if_neg (fun q => e q.2), g2.1 59 rfl]; exact h
    have hkk : known (u1 P1 59 (280 * t + p) (oI (car v (p / 40) (p % 40 + 1) t (sD s t)))) v s p t := by
      unfold known
      rw [u1_1, if_pos ⟨rfl, rfl⟩]
    refine ⟨u1 P1 59 (280 * t + p) (oI (car v (p / 40) (p % 40 + 1) t (sD s t))), ?_, fun r hr => ?_, hkk, hk, hs1⟩
    · rw [if_pos c, g1, bd2_some, z_ck (by omega) (by omega), nar_o hle, z_ck (by omega) (by omega), z_cl (by omega), u1_1, if_pos ⟨rfl, rfl⟩]
    · obtain ⟨e1, e2⟩ := hc r hr
      refine ⟨by rw [u1_1, if_neg (by omega), g2.1 60 rfl]; exact e1, fun q hq => ?_⟩
      rcases e2 q hq with h | h
      · by_cases e : 280 * r + q = 280 * t + p
        · obtain rfl : r = t := by omega
          obtain rfl : q = p := by omega
          exact Or.inr hkk
        · left
          rw [u1_1, if_neg (fun q => e q.2), g2.1 59 rfl]; exact h
      · exact Or.inr (hk q r h)
  · rw [if_neg c, z_ck (by omega) (by omega), z_cl (by omega)]
    have h := (d2 p hp).resolve_left c
    refine ⟨P, ?_, hc, h, fun _ _ h => h, sm_refl⟩
    unfold known at h
    rw [h]
