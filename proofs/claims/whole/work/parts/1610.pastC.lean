/-! the class's past -/
theorem uc_1 (P : PM) (a b k j n x y : Nat) : (uc P a b k j n).1 x y = if x = k ∧ j ≤ y ∧ y < j + n then P.1 a (b + (y - j)) else P.1 x y := rfl
theorem copy_C {P : PM} {o a : Nat} {s : SV} (h : CSt P a s) (h1 : a ≠ o) (h2 : a + 1 ≠ o) (h3 : o + 1 ≠ a) (h4 : a + 1 ≠ o + 1) :
    ∃ P', f_Sa_copy o a P = some P' ∧ CSt P' o s ∧ sm (fun q => q == o || q == o + 1) P P' := by
  refine ⟨_, rfl, ?_, ?_⟩
  · have e1 : (0 : Int32).toNatClampNeg = 0 := rfl
    have e2 : (7 : Int32).toNatClampNeg = 7 := rfl
    obtain ⟨k1, k2, k3, k4, k5⟩ := h
    have e3 : o + 1 ≠ o := by omega
    have e4 : o ≠ o + 1 := by omega
    rw [e1, e2]
    refine ⟨?_, ?_, ?_, ?_, fun i hi => ?_⟩
    · rw [uc_1, if_neg (by omega), u1_1, if_neg (by omega), u1_1, if_neg (by omega), u1_1, if_neg (by omega), u1_1, if_pos ⟨rfl, rfl⟩]; exact k1
    · rw [uc_1, if_neg (by omega), u1_1, if_neg (by omega), u1_1, if_neg (by omega), u1_1, if_pos ⟨rfl, rfl⟩, u1_1, if_neg (by omega)]; exact k2
    · rw [uc_1, if_neg (by omega), u1_1, if_neg (by omega), u1_1, if_pos ⟨rfl, rfl⟩, u1_1, if_neg (by omega), u1_1, if_neg (by omega)]; exact k3
    · rw [uc_1, if_neg (by omega), u1_1, if_pos ⟨rfl, rfl⟩, u1_1, if_neg (by omega), u1_1, if_neg (by omega), u1_1, if_neg (by omega)]; exact k4
    · rw [uc_1, if_pos (by omega), u1_1, if_neg (by omega), u1_1, if_neg (by omega), u1_1, if_neg (by omega), u1_1, if_neg (by omega), Nat.zero_add, Nat.sub_zero]; exact k5 i hi
  · have q := sm_u1 (i := 3) (v := (u1 (u1 (u1 P o 0 (P.1 a 0)) o 1 ((u1 P o 0 (P.1 a 0)).1 a 1)) o 2 ((u1 (u1 P o 0 (P.1 a 0)) o 1 ((u1 P o 0 (P.1 a 0)).1 a 1)).1 a 2)).1 a 3) (sm_u1 (i := 2) (v := (u1 (u1 P o 0 (P.1 a 0)) o 1 ((u1 P o 0 (P.1 a 0)).1 a 1)).1 a 2) (sm_u1 (i := 1) (v := (u1 P o 0 (P.1 a 0)).1 a 1) (sm_u1 (i := 0) (v := P.1 a 0) (sm_refl (S := fun q => q == o || q == o + 1) (P := P)) (o := o) (by simp)) (o := o) (by simp)) (o := o) (by simp)) (o := o) (by simp)
    refine ⟨fun w hw => ?_, fun w hw => q.2 w hw⟩
    rw [← q.1 w hw]
    funext y
    rw [uc_1, if_neg]
    rintro ⟨rfl, _⟩
    simp at hw
def CNoted (P : PM) (p : List SV) (s : SV) : Prop := ∃ hd, hd < 11 ∧ P.1 31 7 = nI hd ∧ P.1 31 5 = nI p.length ∧ (∀ j, j < p.length → CSt P (36 + 2 * ((hd + 10 - j) % 11)) (p.getD j s0)) ∧ CSt P (36 + 2 * hd) s
theorem CNoted_P {P : PM} {p : List SV} {s : SV} (h : CNoted P p s) : CPast P p := by
  obtain ⟨hd, h1, h2, h3, h4, h5⟩ := h
  exact ⟨hd, h1, h2, h3, h4⟩
def ps (o : Nat) : Bool := 36 ≤ o && o ≤ 57
theorem CNoted_sm {S : Nat → Bool} {P P' : PM} {p : List SV} {s : SV} (h : CNoted P p s) (q : sm S P P') (hS : ∀ o, ps o = true → S o = false) (h5 : P'.1 31 5 = P.1 31 5) (h7 : P'.1 31 7 = P.1 31 7) : CNoted P' p s := by
  obtain ⟨hd, k1, k2, k3, k4, k5⟩ := h
  refine ⟨hd, k1, h7.trans k2, h5.trans k3, fun j hj => CSt_sm (k4 j hj) q (hS _ ?_) (hS _ ?_), CSt_sm k5 q (hS _ ?_) (hS _ ?_)⟩
  · have : (hd + 10 - j) % 11 < 11 := Nat.mod_lt _ (by omega)
    simp [ps]; omega
  · have : (hd + 10 - j) % 11 < 11 := Nat.mod_lt _ (by omega)
    simp [ps]; omega
  · simp [ps]; omega
  · simp [ps]; omega
theorem CPast_sm {S : Nat → Bool} {P P' : PM} {p : List SV} (h : CPast P p) (q : sm S P P') (hS : ∀ o, ps o = true → S o = false) (h5 : P'.1 31 5 = P.1 31 5) (h7 : P'.1 31 7 = P.1 31 7) : CPast P' p := by
  obtain ⟨hd, k1, k2, k3, k4⟩ := h
  refine ⟨hd, k1, h7.trans k2, h5.trans k3, fun j hj => CSt_sm (k4 j hj) q (hS _ ?_) (hS _ ?_)⟩
  · have : (hd + 10 - j) % 11 < 11 := Nat.mod_lt _ (by omega)
    simp [ps]; omega
  · have : (hd + 10 - j) % 11 < 11 := Nat.mod_lt _ (by omega)
    simp [ps]; omega
theorem note_C {P : PM} {p : List SV} {s : SV} (h : CPast P p) (hl : p.length ≤ 10) (hs : CSt P 21 s) : ∃ P', f_De_note P = some P' ∧ CNoted P' p s ∧ sm ps P P' := by
  obtain ⟨hd, h1, h2, h3, h4⟩ := h
  obtain ⟨P', g1, g2, g3⟩ := copy_C (o := 36 + 2 * hd) hs (by omega) (by omega) (by omega) (by omega)
  have e31 : P'.1 31 = P.1 31 := g3.1 31 (by simp; omega)
  refine ⟨P', ?_, ⟨hd, h1, by rw [e31, h2], by rw [e31, h3], fun j hj => ?_, g2⟩, sm_mono g3 (fun o ho => by simp [ps] at ho ⊢; omega)⟩
  · unfold f_De_note
    simp (disch := omega) only [z_add, z_mul, z_sub, z_subm, z_addm, z_lt_t, z_lt_f, z_le_t, z_le_f, z_eq_t, z_eq_f, z_eqm, z_meq, z_mm, z_ltm, z_mlt, z_lem, z_mle, z_cl, z_ck, u1_1, u1_2, u2_1, u2_2, ↓reduceIte, Option.bind_some, Option.bind_none, bd2_some, lb_eq, and_true, and_false, true_and, false_and, not_true_eq_false, not_false_eq_true, eq_self_iff_true, if_true, if_false, Nat.reduceEqDiff, Nat.reduceAdd, Nat.reduceMul, Nat.reduceSub, Bool.false_eq_true, zl0, zl1, zl2, zl3, zl4, zl5, zl6, zl7, zl8, zl9, zl10, zl11, zl12, zl13, zl14, zl15, zl16, zl17, zl18, zl19, zl20, zl22, zl23, zl24, zl25, zl30, zl31, zl32, zl33, zl34, zl35, zl36, zl37, zl38, zl39, zl40, zl41, zl42, zl43, zl45, zl48, zl49, zl57, zl58, zl59, zl60, zl61, zl62, zl63, zl64, zl91, zl93, zl97, zl98, zl99, zl100, zl113, zl114, zl115, zl116, zl117, zl122, zl124, zl125, zl127, zl128, zl136, zl200, zl201, zl202, zl203, zl204, zl205, zl206, zl207, zl208, zl209, zl210, zl211, zl212, zl213, zl214, zl215, zl216, zl217, zl218, zl219, zl220, zl235, zl236, zl255, zl280, zl287, zl900, zl999, zl1000, zl1001, zl1136, zl1960, zl3000, zl3001, zl3002, zl3003, zl3004, zl3005, zl3006, zl3007, zl3008, zl3009, zl268435456, zl1000000000, h2]
    rw [g1]
    rfl
  · have : (hd + 10 - j) % 11 ≠ hd := by omega
    exact CSt_sm (h4 j hj) g3 (by simp; omega) (by simp; omega)
theorem keep_C {P : PM} {p : List SV} {s : SV} (h : CNoted P p s) (hl : p.length ≤ 10) : ∃ P', f_De_keep P = some P' ∧ CPast P' ((s :: p).take 10) ∧ sm (fun o => o == 31) P P' := by
  obtain ⟨hd, h1, h2, h3, h4, h5⟩ := h
  have e1 : P.1 31 7 + (1 : Int32) - (P.1 31 7 + (1 : Int32)) / (11 : Int32) * (11 : Int32) = nI ((hd + 1) % 11) := by
    rw [h2, show (1 : Int32) = nI 1 from rfl, nI_add, show (11 : Int32) = nI 11 from rfl, pk_rem (by omega) (by omega) (by omega)]
  have hm : (hd + 1) % 11 < 11 := Nat.mod_lt _ (by omega)
  refine ⟨_, rfl, ⟨(hd + 1) % 11, hm, ?_, ?_, fun j hj => ?_⟩, sm_u1 (sm_u1 sm_refl rfl) rfl⟩
  · rw [u1_1, if_neg (by omega), u1_1, if_pos ⟨rfl, rfl⟩, e1]
  · rw [u1_1, if_pos ⟨rfl, rfl⟩, u1_1, if_neg (by omega), h3, List.length_take, List.length_cons]
    unfold mn
    by_cases c : p.length = 10
    · rw [c]; decide
    · have : min 10 (p.length + 1) = p.length + 1 := by omega
      rw [this]
      simp (disch := omega) only [z_add, z_mul, z_sub, z_subm, z_addm, z_lt_t, z_lt_f, z_le_t, z_le_f, z_eq_t, z_eq_f, z_eqm, z_meq, z_mm, z_ltm, z_mlt, z_lem, z_mle, z_cl, z_ck, u1_1, u1_2, u2_1, u2_2, ↓reduceIte, Option.bind_some, Option.bind_none, bd2_some, lb_eq, and_true, and_false, true_and, false_and, not_true_eq_false, not_false_eq_true, eq_self_iff_true, if_true, if_false, Nat.reduceEqDiff, Nat.reduceAdd, Nat.reduceMul, Nat.reduceSub, Bool.false_eq_true, zl0, zl1, zl2, zl3, zl4, zl5, zl6, zl7, zl8, zl9, zl10, zl11, zl12, zl13, zl14, zl15, zl16, zl17, zl18, zl19, zl20, zl22, zl23, zl24, zl25, zl30, zl31, zl32, zl33, zl34, zl35, zl36, zl37, zl38, zl39, zl40, zl41, zl42, zl43, zl45, zl48, zl49, zl57, zl58, zl59, zl60, zl61, zl62, zl63, zl64, zl91, zl93, zl97, zl98, zl99, zl100, zl113, zl114, zl115, zl116, zl117, zl122, zl124, zl125, zl127, zl128, zl136, zl200, zl201, zl202, zl203, zl204, zl205, zl206, zl207, zl208, zl209, zl210, zl211, zl212, zl213, zl214, zl215, zl216, zl217, zl218, zl219, zl220, zl235, zl236, zl255, zl280, zl287, zl900, zl999, zl1000, zl1001, zl1136, zl1960, zl3000, zl3001, zl3002, zl3003, zl3004, zl3005, zl3006, zl3007, zl3008, zl3009, zl268435456, zl1000000000]
  · have hs31 : sm (fun o => o == 31) P (u1 (u1 P 31 7 (P.1 31 7 + (1 : Int32) - (P.1 31 7 + (1 : Int32)) / (11 : Int32) * (11 : Int32))) 31 5 (mn ((u1 P 31 7 (P.1 31 7 + (1 : Int32) - (P.1 31 7 + (1 : Int32)) / (11 : Int32) * (11 : Int32))).1 31 5 + (1 : Int32)) (10 : Int32))) := sm_u1 (sm_u1 sm_refl rfl) rfl
    have e2 : ((s :: p).take 10).getD j s0 = (s :: p).getD j s0 := by
      simp only [List.getD_eq_getElem?_getD]
      rw [List.length_take] at hj
      rw [List.getElem?_take_of_lt (by omega)]
    rw [e2]
    rw [List.length_take, List.length_cons] at hj
    cases j with
    | zero =>
      have e3 : ((hd + 1) % 11 + 10 - 0) % 11 = hd := by omega
      rw [e3]
      exact CSt_sm h5 hs31 (by simp; omega) (by simp; omega)
    | succ j =>
      have e3 : ((hd + 1) % 11 + 10 - (j + 1)) % 11 = (hd + 10 - j) % 11 := by omega
      rw [e3]
      have : (hd + 10 - j) % 11 < 11 := Nat.mod_lt _ (by omega)
      exact CSt_sm (h4 j (by omega)) hs31 (by simp; omega) (by simp; omega)
theorem fm_n : ∀ h, h < 11 → ∀ n, n < 11 → f_Jm_floorMod (nI h - nI n) (11 : Int32) (fun _ _ => 0, fun _ _ => 0) = some (nI ((h + 11 - n) % 11)) := by decide +kernel
theorem takeBack_C {P : PM} {p : List SV} {n : Nat} (h : CPast P p) (hl : p.length ≤ 10) (h1 : 1 ≤ n) (hn : n ≤ p.length) :
    ∃ P', f_De_takeBack (nI n) P = some P' ∧ CSt P' 21 (p.getD (n - 1) s0) ∧ CPast P' (p.drop n) ∧ sm (fun o => o == 21 || o == 22 || o == 31) P P' := by
  obtain ⟨hd, k1, k2, k3, k4⟩ := h
  have hm : (hd + 11 - n) % 11 < 11 := Nat.mod_lt _ (by omega)
  obtain ⟨P1, hP1⟩ : ∃ P1, P1 = u1 (u1 P 31 7 (nI ((hd + 11 - n) % 11))) 31 5 (nI (p.length - n)) := ⟨_, rfl⟩
  have hs1 : sm (fun o => o == 31) P P1 := by rw [hP1]; exact sm_u1 (sm_u1 sm_refl rfl) rfl
  have hst : CSt P1 (36 + 2 * ((hd + 11 - n) % 11)) (p.getD (n - 1) s0) := by
    have := k4 (n - 1) (by omega)
    rw [show hd + 10 - (n - 1) = hd + 11 - n by omega] at this
    exact CSt_sm this hs1 (by simp; omega) (by simp; omega)
  obtain ⟨P2, g1, g2, g3⟩ := copy_C (o := 21) hst (by omega) (by omega) (by omega) (by omega)
  have e31 : P2.1 31 = P1.1 31 := g3.1 31 rfl
  refine ⟨P2, ?_, g2, ⟨(hd + 11 - n) % 11, hm, ?_, ?_, fun j hj => ?_⟩, sm_trans (sm_mono hs1 (fun o ho => by simp at ho ⊢; exact ho.2)) (sm_mono g3 (fun o ho => by simp at ho ⊢; exact ho.1))⟩
  · unfold f_De_takeBack
    rw [k2, show f_Jm_floorMod (nI hd - nI n) (11 : Int32) P = some (nI ((hd + 11 - n) % 11)) from fm_n hd k1 n (by omega), Option.bind_some]
    have eA : u1 (u1 P 31 7 (nI ((hd + 11 - n) % 11))) 31 5 ((u1 P 31 7 (nI ((hd + 11 - n) % 11))).1 31 5 - nI n) = P1 := by
      rw [hP1, u1_1, if_neg (by omega), k3, z_sub hn]
    have e7 : P1.1 31 7 = nI ((hd + 11 - n) % 11) := by rw [hP1, u1_1, if_neg (by omega), u1_1, if_pos ⟨rfl, rfl⟩]
    rw [eA, e7, z_ck hm (by omega), z_cl (by omega), g1]
    rfl
  · rw [e31, hP1, u1_1, if_neg (by omega), u1_1, if_pos ⟨rfl, rfl⟩]
  · rw [e31, hP1, u1_1, if_pos ⟨rfl, rfl⟩, List.length_drop]
  · rw [List.length_drop] at hj
    have e1 : (p.drop n).getD j s0 = p.getD (n + j) s0 := by
      simp only [List.getD_eq_getElem?_getD, List.getElem?_drop]
    have e3 : ((hd + 11 - n) % 11 + 10 - j) % 11 = (hd + 10 - (n + j)) % 11 := by omega
    rw [e1, e3]
    have : (hd + 10 - (n + j)) % 11 < 11 := Nat.mod_lt _ (by omega)
    exact CSt_sm (CSt_sm (k4 (n + j) (by omega)) hs1 (by simp; omega) (by simp; omega)) g3 (by simp; omega) (by simp; omega)
