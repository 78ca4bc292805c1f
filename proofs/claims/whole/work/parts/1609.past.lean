/-! what can be undone, on both sides -/
theorem MSt_cp {P P' : PM} {o o' g g' : Nat} {s : SV} (h : MSt P o g s) (e : ∀ i, i < 11 → P'.1 o' (g' + i) = P.1 o (g + i)) : MSt P' o' g' s := by
  obtain ⟨h1, h2, h3, h4, h5⟩ := h
  refine ⟨(e 0 (by omega)).trans h1, (e 1 (by omega)).trans h2, (e 2 (by omega)).trans h3, (e 3 (by omega)).trans h4, fun i hi => ?_⟩
  have := e (4 + i) (by omega)
  rw [Nat.add_assoc, this, ← Nat.add_assoc]
  exact h5 i hi
theorem notes1_l (m : Nat) (hm : m < 10) : ∀ (n x : Nat) (P : PM), P.1 110 124 = nI m → x ≤ 11 → 11 - x < n → l_Mo_notes_58 n (nI x) P = some (u1 (cpy P 116 0 110 (125 + 11 * m) x 11) 110 124 (nI (m + 1))) := by
  intro n
  induction n with
  | zero => intro x P _ _ h; omega
  | succ n ih =>
    intro x P hP hx hn
    rw [l_Mo_notes_58]
    by_cases h : x = 11
    · subst h
      rw [if_pos (by decide), cpy_nil (by omega)]
      simp (disch := omega) only [z_add, z_mul, z_sub, z_subm, z_addm, z_lt_t, z_lt_f, z_le_t, z_le_f, z_eq_t, z_eq_f, z_eqm, z_meq, z_mm, z_ltm, z_mlt, z_lem, z_mle, z_cl, z_ck, u1_1, u1_2, u2_1, u2_2, ↓reduceIte, Option.bind_some, Option.bind_none, bd2_some, lb_eq, and_true, and_false, true_and, false_and, not_true_eq_false, not_false_eq_true, eq_self_iff_true, if_true, if_false, Nat.reduceEqDiff, Nat.reduceAdd, Nat.reduceMul, Nat.reduceSub, Bool.false_eq_true, zl0, zl1, zl2, zl3, zl4, zl5, zl6, zl7, zl8, zl9, zl10, zl11, zl12, zl13, zl14, zl15, zl16, zl17, zl18, zl19, zl20, zl22, zl23, zl24, zl25, zl30, zl31, zl32, zl33, zl34, zl35, zl36, zl37, zl38, zl39, zl40, zl41, zl42, zl43, zl45, zl48, zl49, zl57, zl58, zl59, zl60, zl61, zl62, zl63, zl64, zl91, zl93, zl97, zl98, zl99, zl100, zl113, zl114, zl115, zl116, zl117, zl122, zl124, zl125, zl127, zl128, zl136, zl200, zl201, zl202, zl203, zl204, zl205, zl206, zl207, zl208, zl209, zl210, zl211, zl212, zl213, zl214, zl215, zl216, zl217, zl218, zl219, zl220, zl235, zl236, zl255, zl280, zl287, zl900, zl999, zl1000, zl1001, zl1136, zl1960, zl3000, zl3001, zl3002, zl3003, zl3004, zl3005, zl3006, zl3007, zl3008, zl3009, zl268435456, zl1000000000, hP]
    · simp (disch := omega) only [z_add, z_mul, z_sub, z_subm, z_addm, z_lt_t, z_lt_f, z_le_t, z_le_f, z_eq_t, z_eq_f, z_eqm, z_meq, z_mm, z_ltm, z_mlt, z_lem, z_mle, z_cl, z_ck, u1_1, u1_2, u2_1, u2_2, ↓reduceIte, Option.bind_some, Option.bind_none, bd2_some, lb_eq, and_true, and_false, true_and, false_and, not_true_eq_false, not_false_eq_true, eq_self_iff_true, if_true, if_false, Nat.reduceEqDiff, Nat.reduceAdd, Nat.reduceMul, Nat.reduceSub, Bool.false_eq_true, zl0, zl1, zl2, zl3, zl4, zl5, zl6, zl7, zl8, zl9, zl10, zl11, zl12, zl13, zl14, zl15, zl16, zl17, zl18, zl19, zl20, zl22, zl23, zl24, zl25, zl30, zl31, zl32, zl33, zl34, zl35, zl36, zl37, zl38, zl39, zl40, zl41, zl42, zl43, zl45, zl48, zl49, zl57, zl58, zl59, zl60, zl61, zl62, zl63, zl64, zl91, zl93, zl97, zl98, zl99, zl100, zl113, zl114, zl115, zl116, zl117, zl122, zl124, zl125, zl127, zl128, zl136, zl200, zl201, zl202, zl203, zl204, zl205, zl206, zl207, zl208, zl209, zl210, zl211, zl212, zl213, zl214, zl215, zl216, zl217, zl218, zl219, zl220, zl235, zl236, zl255, zl280, zl287, zl900, zl999, zl1000, zl1001, zl1136, zl1960, zl3000, zl3001, zl3002, zl3003, zl3004, zl3005, zl3006, zl3007, zl3008, zl3009, zl268435456, zl1000000000, hP]
      have := ih (x + 1) (u1 P 110 (125 + 11 * m + x) (P.1 116 x)) (by rw [u1_1, if_neg (by omega), hP]) (by omega) (by omega)
      rw [this, ← cpy_s (show x < 11 by omega) (Or.inl (by omega)), Nat.zero_add]
theorem notes2_l : ∀ (n x : Nat) (P : PM), x ≤ 99 → 99 - x < n → l_Mo_notes_14 n (nI x) P = j_Mo_notes_56 (u1 (cpy P 110 136 110 125 x 99) 110 124 (P.1 110 124 - nI 1)) := by
  intro n
  induction n with
  | zero => intro x P _ h; omega
  | succ n ih =>
    intro x P hx hn
    rw [l_Mo_notes_14]
    by_cases h : x = 99
    · subst h
      rw [if_pos (by decide), cpy_nil (by omega)]
      rfl
    · simp (disch := omega) only [z_add, z_mul, z_sub, z_subm, z_addm, z_lt_t, z_lt_f, z_le_t, z_le_f, z_eq_t, z_eq_f, z_eqm, z_meq, z_mm, z_ltm, z_mlt, z_lem, z_mle, z_cl, z_ck, u1_1, u1_2, u2_1, u2_2, ↓reduceIte, Option.bind_some, Option.bind_none, bd2_some, lb_eq, and_true, and_false, true_and, false_and, not_true_eq_false, not_false_eq_true, eq_self_iff_true, if_true, if_false, Nat.reduceEqDiff, Nat.reduceAdd, Nat.reduceMul, Nat.reduceSub, Bool.false_eq_true, zl0, zl1, zl2, zl3, zl4, zl5, zl6, zl7, zl8, zl9, zl10, zl11, zl12, zl13, zl14, zl15, zl16, zl17, zl18, zl19, zl20, zl22, zl23, zl24, zl25, zl30, zl31, zl32, zl33, zl34, zl35, zl36, zl37, zl38, zl39, zl40, zl41, zl42, zl43, zl45, zl48, zl49, zl57, zl58, zl59, zl60, zl61, zl62, zl63, zl64, zl91, zl93, zl97, zl98, zl99, zl100, zl113, zl114, zl115, zl116, zl117, zl122, zl124, zl125, zl127, zl128, zl136, zl200, zl201, zl202, zl203, zl204, zl205, zl206, zl207, zl208, zl209, zl210, zl211, zl212, zl213, zl214, zl215, zl216, zl217, zl218, zl219, zl220, zl235, zl236, zl255, zl280, zl287, zl900, zl999, zl1000, zl1001, zl1136, zl1960, zl3000, zl3001, zl3002, zl3003, zl3004, zl3005, zl3006, zl3007, zl3008, zl3009, zl268435456, zl1000000000]
      have := ih (x + 1) (u1 P 110 (125 + x) (P.1 110 (136 + x))) (by omega) (by omega)
      rw [this, cpy_s (show x < 99 by omega) (Or.inr (Or.inl (by omega))), u1_1, if_neg (by omega)]
theorem notes3 {P : PM} {p : List SV} {s : SV} (hp : MPast P p) (hl : p.length < 10) (hw : MSt P 116 0 s) :
    ∃ P', j_Mo_notes_56 P = some P' ∧ MPast P' (s :: p) ∧ sm (fun o => o == 110) P P' ∧ ∀ j, (j < 124 ∨ 235 ≤ j) → P'.1 110 j = P.1 110 j := by
  have h := notes1_l p.length hl FU 0 P hp.1 (by omega) (by have := FU_big; omega)
  refine ⟨_, h, ⟨?_, fun j hj => ?_⟩, sm_u1 cpy_sm rfl, fun j hj => ?_⟩
  · rw [u1_1, if_pos ⟨rfl, rfl⟩]; rfl
  · cases j with
    | zero =>
      refine MSt_cp (g := 0) hw (fun i hi => ?_)
      simp only [List.length_cons]
      rw [u1_1, if_neg (by omega), cpy_1, if_pos (by omega)]
      exact congrArg (P.1 116) (by omega)
    | succ j =>
      simp only [List.length_cons] at hj
      refine MSt_cp (hp.2 j (by omega)) (fun i hi => ?_)
      simp only [List.length_cons]
      rw [u1_1, if_neg (by omega), cpy_1, if_neg (by omega)]
      exact congrArg (P.1 110) (by omega)
  · rw [u1_1, if_neg (by omega), cpy_1, if_neg (by omega)]
theorem notes_M {P : PM} {p : List SV} {s : SV} (hp : MPast P p) (hl : p.length ≤ 10) (hw : MSt P 116 0 s) :
    ∃ P', f_Mo_notes P = some P' ∧ MPast P' ((s :: p).take 10) ∧ sm (fun o => o == 110) P P' ∧ ∀ j, (j < 124 ∨ 235 ≤ j) → P'.1 110 j = P.1 110 j := by
  unfold f_Mo_notes
  rw [show P.1 110 (124 : Int32).toNatClampNeg = nI p.length from hp.1]
  by_cases c : p.length = 10
  · rw [if_pos (by rw [c]; rfl)]
    have h := notes2_l FU 0 P (by omega) (by have := FU_big; omega)
    rw [hp.1, c, show nI 10 - nI 1 = nI 9 from rfl] at h
    obtain ⟨P1, hP1⟩ : ∃ P1, P1 = u1 (cpy P 110 136 110 125 0 99) 110 124 (nI 9) := ⟨_, rfl⟩
    rw [← hP1] at h
    have hs1 : sm (fun o => o == 110) P P1 := by rw [hP1]; exact sm_u1 cpy_sm rfl
    have hp1 : MPast P1 (p.take 9) := by
      refine ⟨?_, fun j hj => ?_⟩
      · rw [hP1, u1_1, if_pos ⟨rfl, rfl⟩, List.length_take, c]; rfl
      · rw [List.length_take, c] at hj ⊢
        have e1 : (p.take 9).getD j s0 = p.getD j s0 := by
          simp only [List.getD_eq_getElem?_getD]
          rw [List.getElem?_take_of_lt (by omega)]
        rw [e1]
        refine MSt_cp (hp.2 j (by omega)) (fun i hi => ?_)
        rw [hP1, u1_1, if_neg (by omega), cpy_1, if_pos (by omega), c]
        exact congrArg (P.1 110) (by omega)
    obtain ⟨P2, g1, g2, g3, g4⟩ := notes3 hp1 (by rw [List.length_take]; omega) (MSt_sm hw hs1 rfl)
    refine ⟨P2, ?_, ?_, sm_trans hs1 g3, fun j hj => ?_⟩
    · exact h.trans g1
    · rw [List.take_succ_cons]; exact g2
    · rw [g4 j hj, hP1, u1_1, if_neg (by omega), cpy_1, if_neg (by omega)]
  · rw [if_neg (by simp (disch := omega) only [z_add, z_mul, z_sub, z_subm, z_addm, z_lt_t, z_lt_f, z_le_t, z_le_f, z_eq_t, z_eq_f, z_eqm, z_meq, z_mm, z_ltm, z_mlt, z_lem, z_mle, z_cl, z_ck, u1_1, u1_2, u2_1, u2_2, ↓reduceIte, Option.bind_some, Option.bind_none, bd2_some, lb_eq, and_true, and_false, true_and, false_and, not_true_eq_false, not_false_eq_true, eq_self_iff_true, if_true, if_false, Nat.reduceEqDiff, Nat.reduceAdd, Nat.reduceMul, Nat.reduceSub, Bool.false_eq_true, zl0, zl1, zl2, zl3, zl4, zl5, zl6, zl7, zl8, zl9, zl10, zl11, zl12, zl13, zl14, zl15, zl16, zl17, zl18, zl19, zl20, zl22, zl23, zl24, zl25, zl30, zl31, zl32, zl33, zl34, zl35, zl36, zl37, zl38, zl39, zl40, zl41, zl42, zl43, zl45, zl48, zl49, zl57, zl58, zl59, zl60, zl61, zl62, zl63, zl64, zl91, zl93, zl97, zl98, zl99, zl100, zl113, zl114, zl115, zl116, zl117, zl122, zl124, zl125, zl127, zl128, zl136, zl200, zl201, zl202, zl203, zl204, zl205, zl206, zl207, zl208, zl209, zl210, zl211, zl212, zl213, zl214, zl215, zl216, zl217, zl218, zl219, zl220, zl235, zl236, zl255, zl280, zl287, zl900, zl999, zl1000, zl1001, zl1136, zl1960, zl3000, zl3001, zl3002, zl3003, zl3004, zl3005, zl3006, zl3007, zl3008, zl3009, zl268435456, zl1000000000])]
    obtain ⟨P2, g1, g2, g3, g4⟩ := notes3 hp (by omega) hw
    refine ⟨P2, g1, ?_, g3, g4⟩
    rw [List.take_of_length_le (by simp only [List.length_cons]; omega)]
    exact g2
theorem undo_l (m : Nat) (hm : m < 10) : ∀ (n x : Nat) (P : PM), P.1 110 124 = nI m → x ≤ 11 → 11 - x < n → l_Mo_undo_44 n (nI x) P = some (nI m, cpy P 110 (125 + 11 * m) 110 113 x 11) := by
  intro n
  induction n with
  | zero => intro x P _ _ h; omega
  | succ n ih =>
    intro x P hP hx hn
    rw [l_Mo_undo_44]
    by_cases h : x = 11
    · subst h
      rw [if_pos (by decide), cpy_nil (by omega)]
      simp (disch := omega) only [z_add, z_mul, z_sub, z_subm, z_addm, z_lt_t, z_lt_f, z_le_t, z_le_f, z_eq_t, z_eq_f, z_eqm, z_meq, z_mm, z_ltm, z_mlt, z_lem, z_mle, z_cl, z_ck, u1_1, u1_2, u2_1, u2_2, ↓reduceIte, Option.bind_some, Option.bind_none, bd2_some, lb_eq, and_true, and_false, true_and, false_and, not_true_eq_false, not_false_eq_true, eq_self_iff_true, if_true, if_false, Nat.reduceEqDiff, Nat.reduceAdd, Nat.reduceMul, Nat.reduceSub, Bool.false_eq_true, zl0, zl1, zl2, zl3, zl4, zl5, zl6, zl7, zl8, zl9, zl10, zl11, zl12, zl13, zl14, zl15, zl16, zl17, zl18, zl19, zl20, zl22, zl23, zl24, zl25, zl30, zl31, zl32, zl33, zl34, zl35, zl36, zl37, zl38, zl39, zl40, zl41, zl42, zl43, zl45, zl48, zl49, zl57, zl58, zl59, zl60, zl61, zl62, zl63, zl64, zl91, zl93, zl97, zl98, zl99, zl100, zl113, zl114, zl115, zl116, zl117, zl122, zl124, zl125, zl127, zl128, zl136, zl200, zl201, zl202, zl203, zl204, zl205, zl206, zl207, zl208, zl209, zl210, zl211, zl212, zl213, zl214, zl215, zl216, zl217, zl218, zl219, zl220, zl235, zl236, zl255, zl280, zl287, zl900, zl999, zl1000, zl1001, zl1136, zl1960, zl3000, zl3001, zl3002, zl3003, zl3004, zl3005, zl3006, zl3007, zl3008, zl3009, zl268435456, zl1000000000, hP]
    · simp (disch := omega) only [z_add, z_mul, z_sub, z_subm, z_addm, z_lt_t, z_lt_f, z_le_t, z_le_f, z_eq_t, z_eq_f, z_eqm, z_meq, z_mm, z_ltm, z_mlt, z_lem, z_mle, z_cl, z_ck, u1_1, u1_2, u2_1, u2_2, ↓reduceIte, Option.bind_some, Option.bind_none, bd2_some, lb_eq, and_true, and_false, true_and, false_and, not_true_eq_false, not_false_eq_true, eq_self_iff_true, if_true, if_false, Nat.reduceEqDiff, Nat.reduceAdd, Nat.reduceMul, Nat.reduceSub, Bool.false_eq_true, zl0, zl1, zl2, zl3, zl4, zl5, zl6, zl7, zl8, zl9, zl10, zl11, zl12, zl13, zl14, zl15, zl16, zl17, zl18, zl19, zl20, zl22, zl23, zl24, zl25, zl30, zl31, zl32, zl33, zl34, zl35, zl36, zl37, zl38, zl39, zl40, zl41, zl42, zl43, zl45, zl48, zl49, zl57, zl58, zl59, zl60, zl61, zl62, zl63, zl64, zl91, zl93, zl97, zl98, zl99, zl100, zl113, zl114, zl115, zl116, zl117, zl122, zl124, zl125, zl127, zl128, zl136, zl200, zl201, zl202, zl203, zl204, zl205, zl206, zl207, zl208, zl209, zl210, zl211, zl212, zl213, zl214, zl215, zl216, zl217, zl218, zl219, zl220, zl235, zl236, zl255, zl280, zl287, zl900, zl999, zl1000, zl1001, zl1136, zl1960, zl3000, zl3001, zl3002, zl3003, zl3004, zl3005, zl3006, zl3007, zl3008, zl3009, zl268435456, zl1000000000, hP]
      have := ih (x + 1) (u1 P 110 (113 + x) (P.1 110 (125 + 11 * m + x))) (by rw [u1_1, if_neg (by omega), hP]) (by omega) (by omega)
      rw [this, ← cpy_s (show x < 11 by omega) (Or.inr (Or.inl (by omega)))]
theorem undo_M {P : PM} {p : List SV} {n : Nat} (hp : MPast P p) (hl : p.length ≤ 10) (h1 : 1 ≤ n) (hn : n ≤ p.length) :
    ∃ P', l_Mo_undo_44 FU 0 (u1 P 110 124 (nI (p.length - n))) = some (nI (p.length - n), P') ∧ MSt P' 110 113 (p.getD (n - 1) s0) ∧ MPast P' (p.drop n) ∧ sm (fun o => o == 110) P P' ∧ ∀ j, (j < 113 ∨ 235 ≤ j) → P'.1 110 j = P.1 110 j := by
  have h := undo_l (p.length - n) (by omega) FU 0 (u1 P 110 124 (nI (p.length - n))) (by rw [u1_1, if_pos ⟨rfl, rfl⟩]) (by omega) (by have := FU_big; omega)
  refine ⟨_, h, ?_, ⟨?_, fun j hj => ?_⟩, sm_trans (sm_u1 sm_refl rfl) cpy_sm, fun j hj => ?_⟩
  · refine MSt_cp (hp.2 (n - 1) (by omega)) (fun i hi => ?_)
    rw [cpy_1, if_pos (by omega), u1_1, if_neg (by omega)]
    exact congrArg (P.1 110) (by omega)
  · rw [cpy_1, if_neg (by omega), u1_1, if_pos ⟨rfl, rfl⟩, List.length_drop]
  · rw [List.length_drop] at hj ⊢
    have e1 : (p.drop n).getD j s0 = p.getD (n + j) s0 := by
      simp only [List.getD_eq_getElem?_getD, List.getElem?_drop]
    rw [e1]
    refine MSt_cp (hp.2 (n + j) (by omega)) (fun i hi => ?_)
    rw [cpy_1, if_neg (by omega), u1_1, if_neg (by omega)]
    exact congrArg (P.1 110) (by omega)
  · rw [cpy_1, if_neg (by omega), u1_1, if_neg (by omega)]
