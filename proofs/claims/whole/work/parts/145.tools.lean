/-! numbers; rows filled -/
def rowI (P : PM) (k a b : Nat) (x : Int32) : PM := (fun u v => if u = k ∧ a ≤ v ∧ v < b then x else P.1 u v, P.2)
def rowL (P : PM) (k a b : Nat) (x : Int64) : PM := (P.1, fun u v => if u = k ∧ a ≤ v ∧ v < b then x else P.2 u v)
theorem PM_ext {P P' : PM} (h1 : ∀ u v, P.1 u v = P'.1 u v) (h2 : ∀ u v, P.2 u v = P'.2 u v) : P = P' := Prod.ext (funext fun u => funext fun v => h1 u v) (funext fun u => funext fun v => h2 u v)
theorem rowI_nil {P : PM} {k a b : Nat} {x : Int32} (h : b ≤ a) : rowI P k a b x = P := PM_ext (fun u v => if_neg (by omega)) (fun _ _ => rfl)
theorem rowL_nil {P : PM} {k a b : Nat} {x : Int64} (h : b ≤ a) : rowL P k a b x = P := PM_ext (fun _ _ => rfl) (fun u v => if_neg (by omega))
theorem rowI_u1 {P : PM} {k i b : Nat} {x : Int32} (h : i < b) : rowI (u1 P k i x) k (i + 1) b x = rowI P k i b x := by
  refine PM_ext (fun u v => ?_) (fun _ _ => rfl)
  show (if u = k ∧ i + 1 ≤ v ∧ v < b then x else if u = k ∧ v = i then x else P.1 u v) = if u = k ∧ i ≤ v ∧ v < b then x else P.1 u v
  by_cases h1 : u = k ∧ i + 1 ≤ v ∧ v < b
  · rw [if_pos h1, if_pos (by omega)]
  · rw [if_neg h1]
    by_cases h2 : u = k ∧ v = i
    · rw [if_pos h2, if_pos (by omega)]
    · rw [if_neg h2, if_neg (by omega)]
theorem rowL_u2 {P : PM} {k i b : Nat} {x : Int64} (h : i < b) : rowL (u2 P k i x) k (i + 1) b x = rowL P k i b x := by
  refine PM_ext (fun _ _ => rfl) (fun u v => ?_)
  show (if u = k ∧ i + 1 ≤ v ∧ v < b then x else if u = k ∧ v = i then x else P.2 u v) = if u = k ∧ i ≤ v ∧ v < b then x else P.2 u v
  by_cases h1 : u = k ∧ i + 1 ≤ v ∧ v < b
  · rw [if_pos h1, if_pos (by omega)]
  · rw [if_neg h1]
    by_cases h2 : u = k ∧ v = i
    · rw [if_pos h2, if_pos (by omega)]
    · rw [if_neg h2, if_neg (by omega)]
theorem inb_nI {i n : Nat} (h : i < n) (hn : n < 2 ^ 31) : inb (nI i) n = true := by
  unfold inb
  rw [nI_toInt (by omega)]
  simp
  omega
theorem ck_t {α : Type} {b : Bool} {o : Option α} (h : b = true) : ck b o = o := if_pos h
theorem nI_i1 (i : Nat) : nI i + (1 : Int32) = nI (i + 1) := nI_1 i
theorem fillABB_l {a n : Nat} {v : Int32} (hn : n < 2 ^ 31) : ∀ (m i : Nat) (P : PM), i ≤ n → n - i < m → l_Ja_fill_ABB_5 a n m v (nI i) (nI n) P = some (rowI P a i n (vp_nar .byte v)) := by
  intro m
  induction m with
  | zero => intro i P _ h; omega
  | succ m ih =>
    intro i P hi hm
    rw [l_Ja_fill_ABB_5]
    by_cases h : n ≤ i
    · rw [if_pos (nI_le h (by omega)), rowI_nil h]
    · rw [if_neg (nI_ge (by omega) hn), ck_t (inb_nI (by omega) hn), nI_i1, nI_clamp (by omega), ih (i + 1) _ (by omega) (by omega), rowI_u1 (by omega)]
theorem fillABB {a n : Nat} {v : Int32} {P : PM} (hn : n < 2 ^ 31) : f_Ja_fill_ABB a n v P = some (rowI P a 0 n (vp_nar .byte v)) := by
  rw [f_Ja_fill_ABB]
  exact fillABB_l hn FU 0 P (Nat.zero_le _) (by rw [FU_eq]; omega)
theorem fillAII_l {a n : Nat} {v : Int32} (hn : n < 2 ^ 31) : ∀ (m i : Nat) (P : PM), i ≤ n → n - i < m → l_Ja_fill_AII_5 a n m v (nI i) (nI n) P = some (rowI P a i n v) := by
  intro m
  induction m with
  | zero => intro i P _ h; omega
  | succ m ih =>
    intro i P hi hm
    rw [l_Ja_fill_AII_5]
    by_cases h : n ≤ i
    · rw [if_pos (nI_le h (by omega)), rowI_nil h]
    · rw [if_neg (nI_ge (by omega) hn), ck_t (inb_nI (by omega) hn), nI_i1, nI_clamp (by omega), ih (i + 1) _ (by omega) (by omega), rowI_u1 (by omega)]
theorem fillAII {a n : Nat} {v : Int32} {P : PM} (hn : n < 2 ^ 31) : f_Ja_fill_AII a n v P = some (rowI P a 0 n v) := by
  rw [f_Ja_fill_AII]
  exact fillAII_l hn FU 0 P (Nat.zero_le _) (by rw [FU_eq]; omega)
theorem fillAJJ_l {a n : Nat} {v : Int64} (hn : n < 2 ^ 31) : ∀ (m i : Nat) (P : PM), i ≤ n → n - i < m → l_Ja_fill_AJJ_6 a n m v (nI i) (nI n) P = some (rowL P a i n v) := by
  intro m
  induction m with
  | zero => intro i P _ h; omega
  | succ m ih =>
    intro i P hi hm
    rw [l_Ja_fill_AJJ_6]
    by_cases h : n ≤ i
    · rw [if_pos (nI_le h (by omega)), rowL_nil h]
    · rw [if_neg (nI_ge (by omega) hn), ck_t (inb_nI (by omega) hn), nI_i1, nI_clamp (by omega), ih (i + 1) _ (by omega) (by omega), rowL_u2 (by omega)]
theorem fillAJJ {a n : Nat} {v : Int64} {P : PM} (hn : n < 2 ^ 31) : f_Ja_fill_AJJ a n v P = some (rowL P a 0 n v) := by
  rw [f_Ja_fill_AJJ]
  exact fillAJJ_l hn FU 0 P (Nat.zero_le _) (by rw [FU_eq]; omega)
theorem fAllRow (P : PM) : f_Pa_forgetAll P = some (rowI P 59 0 1960 (-2)) := by
  rw [f_Pa_forgetAll, fillABB (by decide)]
  rfl
theorem plain_l {a n : Nat} (hn : 1136 ≤ n) (hn2 : n < 2 ^ 31) : ∀ (m i : Nat) (P : PM), i ≤ 1136 → 1136 - i < m → l_Mo_plain_2 a n m (nI i) P = some (u1 (rowI P a i 1136 0) a 113 (-1)) := by
  intro m
  induction m with
  | zero => intro i P _ h; omega
  | succ m ih =>
    intro i P hi hm
    rw [l_Mo_plain_2]
    by_cases h : 1136 ≤ i
    · rw [if_pos (show (1136 : Int32) ≤ nI i from (nI_le h (by omega) : nI 1136 ≤ nI i)), rowI_nil h, ck_t (show inb (113 : Int32) n = true from (inb_nI (by omega) hn2 : inb (nI 113) n = true))]
      rfl
    · rw [if_neg (show ¬ (1136 : Int32) ≤ nI i from (nI_ge (by omega) (by decide) : ¬ nI 1136 ≤ nI i)), ck_t (inb_nI (by omega) hn2), nI_i1, nI_clamp (by omega), ih (i + 1) _ (by omega) (by omega), rowI_u1 (by omega)]
theorem plainRow (P : PM) (a n : Nat) (hn : 1136 ≤ n) (hn2 : n < 2 ^ 31) : f_Mo_plain a n P = some (u1 (rowI P a 0 1136 0) a 113 (-1)) := by
  rw [f_Mo_plain]
  exact plain_l hn hn2 FU 0 P (Nat.zero_le _) (by rw [FU_eq]; omega)
def Bd (f : Nat → Nat → Option Nat) : Prop := ∀ k j, (130 ≤ k ∨ 40 ≤ j) → f k j = none
theorem Bd.no : Bd (fun _ _ => none) := fun _ _ _ => rfl
theorem Bd.ur {f : Nat → Nat → Option Nat} {k j r : Nat} (h : Bd f) (hk : k < 130) (hj : j < 40) : Bd (ur f k j r) := fun a b hab => by
  show ite _ _ _ = _
  rw [if_neg (by omega)]
  exact h a b hab
theorem Bd.um {f : Nat → Nat → Option Nat} {n N' : Nat} (h : Bd f) (hk : n < 130) (hj : N' < 40) : Bd (um f n N') := fun a b hab => by
  show ite _ _ _ = _
  rw [if_neg (by omega)]
  exact h a b hab
theorem Bd.rf : Bd rf := by
  intro k j h
  have h0 : ∀ k, k < 130 → (rfL.getD k []).length ≤ 40 := by decide +kernel
  unfold Jvm.Pilot.CYawnRouteLaw_law_r1974_6e82f2.rf
  rcases Nat.lt_or_ge k 130 with hk | hk
  · have := h0 k hk
    rw [List.getD_eq_getElem?_getD, List.getElem?_eq_none (by omega)]
    rfl
  · have h1 : rfL.getD k [] = [] := by
      rw [List.getD_eq_getElem?_getD, List.getElem?_eq_none (show rfL.length ≤ k from hk)]
      rfl
    rw [h1]
    rfl
