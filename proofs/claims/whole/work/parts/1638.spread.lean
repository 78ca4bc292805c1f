/-! the yawn as all pass it on to all: rounds -/
def spo (A : Nat → Nat) (t : Nat) (f : Bool) : Option Nat → (Nat → Nat) × Bool
  | some k => if A t < k then (fun j => if j = t then k else A j, true) else (A, f)
  | none => (A, f)
noncomputable def spl (v : NV) (s : SV) (sl : Nat) (B : Nat → Nat) : List (Nat × Nat) → (Nat → Nat) × Bool → (Nat → Nat) × Bool
  | [], x => x
  | (w, t) :: l, x => spl v s sl B l (spo x.1 t x.2 (gw v s sl w (B w) t))
theorem spl_app (v : NV) (s : SV) (sl : Nat) (B : Nat → Nat) : ∀ (l m : List (Nat × Nat)) (x), spl v s sl B (l ++ m) x = spl v s sl B m (spl v s sl B l x)
  | [], _, _ => rfl
  | (w, t) :: l, m, x => by
    show spl v s sl B (l ++ m) _ = spl v s sl B m (spl v s sl B l _)
    exact spl_app v s sl B l m _
/-- the pairs of a round: who has none passes nothing on -/
def spp (B : Nat → Nat) (N : Nat) : Nat → Nat → List (Nat × Nat)
  | 0, _ => []
  | m + 1, w => (if B w = 0 then [] else prs w N 0) ++ spp B N m (w + 1)
noncomputable def rd (v : NV) (s : SV) (sl : Nat) (A : Nat → Nat) : (Nat → Nat) × Bool := spl v s sl A (spp A (vN v) (vN v) 0) (A, false)
noncomputable def itr (v : NV) (s : SV) (sl : Nat) (A : Nat → Nat) : Nat → Nat → Nat
  | 0 => A
  | n + 1 => (rd v s sl (itr v s sl A n)).1
def sumA (A : Nat → Nat) : Nat → Nat
  | 0 => 0
  | n + 1 => sumA A n + A n
theorem sumA_le {A : Nat → Nat} {c : Nat} : ∀ n, (∀ j, j < n → A j ≤ c) → sumA A n ≤ c * n
  | 0, _ => Nat.zero_le _
  | n + 1, h => by
    have h1 := sumA_le n (fun j hj => h j (by omega))
    have h2 := h n (by omega)
    show sumA A n + A n ≤ c * (n + 1)
    rw [Nat.mul_add]
    omega
theorem sumA_mono {A B : Nat → Nat} : ∀ n, (∀ j, j < n → A j ≤ B j) → sumA A n ≤ sumA B n
  | 0, _ => Nat.le_refl _
  | n + 1, h => by
    have h1 := sumA_mono n (fun j hj => h j (by omega))
    have h2 := h n (by omega)
    show sumA A n + A n ≤ sumA B n + B n
    omega
theorem sumA_lt {A B : Nat → Nat} {i : Nat} : ∀ n, (∀ j, j < n → A j ≤ B j) → i < n → A i < B i → sumA A n < sumA B n
  | 0, _, h, _ => by omega
  | n + 1, h, hi, hl => by
    have h2 := h n (by omega)
    show sumA A n + A n < sumA B n + B n
    by_cases e : i = n
    · subst e
      have h1 := sumA_mono (A := A) (B := B) i (fun j hj => h j (by omega))
      omega
    · have h1 := sumA_lt (A := A) (B := B) n (fun j hj => h j (by omega)) (by omega) hl
      omega
/-- where a size can be -/
def Pos (S : Nat → Prop) (N : Nat) (A : Nat → Nat) : Prop := ∀ w, A w ≤ 40 ∧ (0 < A w → w < N ∧ S (40 * w + A w - 1))
theorem spo_p {v : NV} {s : SV} {sl w t : Nat} {A B : Nat → Nat} {f : Bool} {S : Nat → Prop} (hv : NVok v) (hS : ∀ w z t k, 1 ≤ z → z ≤ 40 → S (40 * w + z - 1) → gw v s sl w z t = some (k + 1) → S (40 * t + k)) (hB : Pos S (vN v) B) (hA : Pos S (vN v) A) (hw : 0 < B w) :
    Pos S (vN v) (spo A t f (gw v s sl w (B w) t)).1 ∧ (∀ j, A j ≤ (spo A t f (gw v s sl w (B w) t)).1 j) ∧
    ((spo A t f (gw v s sl w (B w) t)).2 = false → f = false ∧ (spo A t f (gw v s sl w (B w) t)).1 = A) ∧ ((spo A t f (gw v s sl w (B w) t)).2 = true → f = true ∨ ∃ j, j < 7 ∧ A j < (spo A t f (gw v s sl w (B w) t)).1 j) := by
  have hb := (hB w).1
  cases e : gw v s sl w (B w) t with
  | none => exact ⟨hA, fun j => Nat.le_refl _, fun h => ⟨h, rfl⟩, fun h => Or.inl h⟩
  | some k =>
    have hk := gw_le hb e
    have hN := gw_N hv e
    have h7 := hv.1
    have es : spo A t f (some k) = if A t < k then (fun j => if j = t then k else A j, true) else (A, f) := rfl
    rw [es]
    by_cases c : A t < k
    · rw [if_pos c]
      refine ⟨fun j => ?_, fun j => ?_, (fun h => by cases h), fun _ => Or.inr ⟨t, by omega, ?_⟩⟩
      · show (if j = t then k else A j) ≤ 40 ∧ (0 < (if j = t then k else A j) → j < vN v ∧ S (40 * j + (if j = t then k else A j) - 1))
        by_cases ej : j = t
        · subst ej
          rw [if_pos rfl]
          refine ⟨hk, fun h0 => ⟨hN.2.1, ?_⟩⟩
          have := hS w (B w) j (k - 1) (by omega) hb ((hB w).2 hw).2 (by rw [e]; exact congrArg some (by omega))
          rw [show 40 * j + k - 1 = 40 * j + (k - 1) by omega]
          exact this
        · rw [if_neg ej]
          exact hA j
      · show A j ≤ (if j = t then k else A j)
        split
        · rename_i ej; subst ej; omega
        · exact Nat.le_refl _
      · show A t < (if t = t then k else A t)
        rw [if_pos rfl]
        exact c
    · rw [if_neg c]
      exact ⟨hA, fun j => Nat.le_refl _, fun h => ⟨h, rfl⟩, fun h => Or.inl h⟩
theorem spl_p {v : NV} {s : SV} {sl : Nat} {B : Nat → Nat} {S : Nat → Prop} (hv : NVok v) (hS : ∀ w z t k, 1 ≤ z → z ≤ 40 → S (40 * w + z - 1) → gw v s sl w z t = some (k + 1) → S (40 * t + k)) (hB : Pos S (vN v) B) :
    ∀ (l : List (Nat × Nat)) (x : (Nat → Nat) × Bool), (∀ y ∈ l, 0 < B y.1) → Pos S (vN v) x.1 → Pos S (vN v) (spl v s sl B l x).1 ∧ (∀ j, x.1 j ≤ (spl v s sl B l x).1 j) ∧
    ((spl v s sl B l x).2 = false → x.2 = false ∧ (spl v s sl B l x).1 = x.1) ∧ ((spl v s sl B l x).2 = true → x.2 = true ∨ ∃ j, j < 7 ∧ x.1 j < (spl v s sl B l x).1 j)
  | [], x, _, hA => ⟨hA, fun j => Nat.le_refl _, fun h => ⟨h, rfl⟩, fun h => Or.inl h⟩
  | (w, t) :: l, x, hl, hA => by
    obtain ⟨h1, h2, h3, h4⟩ := spo_p (t := t) (f := x.2) hv hS hB hA (hl (w, t) (List.mem_cons_self ..))
    obtain ⟨k1, k2, k3, k4⟩ := spl_p hv hS hB l (spo x.1 t x.2 (gw v s sl w (B w) t)) (fun y hy => hl y (List.mem_cons_of_mem _ hy)) h1
    show Pos S (vN v) (spl v s sl B l _).1 ∧ (∀ j, x.1 j ≤ (spl v s sl B l _).1 j) ∧ ((spl v s sl B l _).2 = false → x.2 = false ∧ (spl v s sl B l _).1 = x.1) ∧ ((spl v s sl B l _).2 = true → x.2 = true ∨ ∃ j, j < 7 ∧ x.1 j < (spl v s sl B l _).1 j)
    refine ⟨k1, fun j => Nat.le_trans (h2 j) (k2 j), fun h => ?_, fun h => ?_⟩
    · obtain ⟨a1, a2⟩ := k3 h
      obtain ⟨b1, b2⟩ := h3 a1
      exact ⟨b1, by rw [a2, b2]⟩
    · rcases k4 h with h | ⟨j, hj, h⟩
      · rcases h4 h with h | ⟨j, hj, h⟩
        · exact Or.inl h
        · exact Or.inr ⟨j, hj, Nat.lt_of_lt_of_le h (k2 j)⟩
      · exact Or.inr ⟨j, hj, Nat.lt_of_le_of_lt (h2 j) h⟩
theorem spp_p {B : Nat → Nat} {N : Nat} : ∀ {m w : Nat} {y : Nat × Nat}, y ∈ spp B N m w → 0 < B y.1
  | 0, _, _, h => by cases h
  | m + 1, w, y, h => by
    unfold spp at h
    rcases List.mem_append.mp h with h | h
    · split at h
      · cases h
      · have := (prs_mem.mp h).1; rw [this]; omega
    · exact spp_p h
theorem rd_p {v : NV} {s : SV} {sl : Nat} {A : Nat → Nat} {S : Nat → Prop} (hv : NVok v) (hS : ∀ w z t k, 1 ≤ z → z ≤ 40 → S (40 * w + z - 1) → gw v s sl w z t = some (k + 1) → S (40 * t + k)) (hA : Pos S (vN v) A) :
    Pos S (vN v) (rd v s sl A).1 ∧ ((rd v s sl A).2 = false → (rd v s sl A).1 = A) ∧ ((rd v s sl A).2 = true → sumA A 7 < sumA (rd v s sl A).1 7) := by
  obtain ⟨h1, h2, h3, h4⟩ := spl_p hv hS hA (spp A (vN v) (vN v) 0) (A, false) (fun y hy => spp_p hy) hA
  refine ⟨h1, fun h => (h3 h).2, fun h => ?_⟩
  rcases h4 h with h | ⟨j, hj, h⟩
  · cases h
  · exact sumA_lt 7 (fun j _ => h2 j) hj h
theorem itr_p {v : NV} {s : SV} {sl : Nat} {A : Nat → Nat} {S : Nat → Prop} (hv : NVok v) (hS : ∀ w z t k, 1 ≤ z → z ≤ 40 → S (40 * w + z - 1) → gw v s sl w z t = some (k + 1) → S (40 * t + k)) (hA : Pos S (vN v) A) : ∀ n, Pos S (vN v) (itr v s sl A n)
  | 0 => hA
  | n + 1 => (rd_p hv hS (itr_p hv hS hA n)).1
/-- after so many rounds nothing changes -/
theorem itr_end {v : NV} {s : SV} {sl : Nat} {A : Nat → Nat} {S : Nat → Prop} (hv : NVok v) (hS : ∀ w z t k, 1 ≤ z → z ≤ 40 → S (40 * w + z - 1) → gw v s sl w z t = some (k + 1) → S (40 * t + k)) (hA : Pos S (vN v) A) :
    ∃ R, R ≤ 280 ∧ (∀ i, i < R → (rd v s sl (itr v s sl A i)).2 = true) ∧ (rd v s sl (itr v s sl A R)).2 = false ∧ ∀ n, R ≤ n → itr v s sl A n = itr v s sl A R := by
  have key : ∀ n, (∀ i, i < n → (rd v s sl (itr v s sl A i)).2 = true) → n ≤ sumA (itr v s sl A n) 7 := by
    intro n
    induction n with
    | zero => intro _; exact Nat.zero_le _
    | succ n ih =>
      intro h
      have h1 := ih (fun i hi => h i (by omega))
      have h2 := (rd_p hv hS (itr_p hv hS hA n)).2.2 (h n (by omega))
      show n + 1 ≤ sumA (rd v s sl (itr v s sl A n)).1 7
      omega
  have hex : ∃ R, (rd v s sl (itr v s sl A R)).2 = false := by
    apply Classical.byContradiction
    intro hn
    have h1 := key 281 (fun i _ => by
      cases e : (rd v s sl (itr v s sl A i)).2 with
      | true => rfl
      | false => exact absurd ⟨i, e⟩ hn)
    have h2 := sumA_le (A := itr v s sl A 281) (c := 40) 7 (fun j _ => (itr_p hv hS hA 281 j).1)
    omega
  obtain ⟨R, h1, h2⟩ := pk_least _ hex
  have h3 : ∀ i, i < R → (rd v s sl (itr v s sl A i)).2 = true := fun i hi => by
    cases e : (rd v s sl (itr v s sl A i)).2 with
    | true => rfl
    | false => exact absurd e (h2 i hi)
  have h4 := key R h3
  have h5 := sumA_le (A := itr v s sl A R) (c := 40) 7 (fun j _ => (itr_p hv hS hA R j).1)
  refine ⟨R, by omega, h3, h1, fun n hn => ?_⟩
  have h6 := (rd_p hv hS (itr_p hv hS hA R)).2.1 h1
  have : ∀ d, itr v s sl A (R + d) = itr v s sl A R := by
    intro d
    induction d with
    | zero => rfl
    | succ d ih =>
      show (rd v s sl (itr v s sl A (R + d))).1 = _
      rw [ih]
      exact h6
  rw [show n = R + (n - R) by omega]
  exact this _
