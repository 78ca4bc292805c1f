/-! back: routes counted; no machine -/
theorem sumA_congr {A B : Nat → Nat} : ∀ n, (∀ j, j < n → A j = B j) → sumA A n = sumA B n
  | 0, _ => rfl
  | n + 1, h => by
    show sumA A n + A n = sumA B n + B n
    rw [sumA_congr n (fun j hj => h j (by omega)), h n (by omega)]
theorem sumA_up {A : Nat → Nat} : ∀ {m n : Nat}, m ≤ n → sumA A m ≤ sumA A n := by
  intro m n h
  induction n with
  | zero => rw [show m = 0 by omega]; exact Nat.le_refl _
  | succ n ih =>
    by_cases e : m = n + 1
    · rw [e]; exact Nat.le_refl _
    · have := ih (by omega)
      show sumA A m ≤ sumA A n + A n
      omega
theorem sumA_ext {A : Nat → Nat} {N : Nat} (h : ∀ j, N ≤ j → A j = 0) : ∀ {n : Nat}, N ≤ n → sumA A n = sumA A N := by
  intro n hn
  induction n with
  | zero => rw [show N = 0 by omega]
  | succ n ih =>
    by_cases e : N = n + 1
    · rw [e]
    · show sumA A n + A n = _
      rw [ih (by omega), h n (by omega)]
      rfl
theorem sumA_z {A : Nat → Nat} : ∀ n, sumA A n = 0 ↔ ∀ j, j < n → A j = 0
  | 0 => ⟨fun _ j h => by omega, fun _ => rfl⟩
  | n + 1 => by
    have ih := sumA_z (A := A) n
    constructor
    · intro h j hj
      have h : sumA A n + A n = 0 := h
      by_cases e : j = n
      · subst e; omega
      · exact ih.mp (by omega) j (by omega)
    · intro h
      show sumA A n + A n = 0
      rw [ih.mpr (fun j hj => h j (by omega)), h n (by omega)]
def ncs (nx : Nat → Nat → Option Nat) (but : Option Nat) (C : Nat → Nat) (p t : Nat) : Nat := if but = some t then 0 else match nx p t with | none => 0 | some q => C q
def ncb (nx : Nat → Nat → Option Nat) (g : Nat) (but : Option Nat) : Nat → Nat → Nat
  | 0, p => if p = g then 1 else 0
  | k + 1, p => sumA (ncs nx but (ncb nx g but k) p) 7
theorem ncs_none {nx : Nat → Nat → Option Nat} {but : Option Nat} {C : Nat → Nat} {p t : Nat} (h : nx p t = none) : ncs nx but C p t = 0 := by
  unfold ncs
  rw [h]
  split <;> rfl
theorem ncs_some {nx : Nat → Nat → Option Nat} {but : Option Nat} {C : Nat → Nat} {p t q : Nat} (hb : but ≠ some t) (h : nx p t = some q) : ncs nx but C p t = C q := by
  unfold ncs
  rw [h, if_neg hb]
theorem ncs_le {nx : Nat → Nat → Option Nat} {but : Option Nat} {C : Nat → Nat} {p t c : Nat} (h : ∀ q, C q ≤ c) : ncs nx but C p t ≤ c := by
  unfold ncs
  split
  · exact Nat.zero_le _
  · split
    · exact Nat.zero_le _
    · exact h _
theorem ncb_le (nx : Nat → Nat → Option Nat) (g : Nat) (but : Option Nat) : ∀ k p, ncb nx g but k p ≤ 7 ^ k
  | 0, p => by
    show (if p = g then 1 else 0) ≤ 1
    split <;> omega
  | k + 1, p => by
    have h := sumA_le (A := ncs nx but (ncb nx g but k) p) (c := 7 ^ k) 7 (fun j _ => ncs_le (fun q => ncb_le nx g but k q))
    rw [Nat.pow_succ]
    exact h
theorem ncb_b (nx : Nat → Nat → Option Nat) (g : Nat) (but : Option Nat) {k : Nat} (hk : k ≤ 10) (p : Nat) : ncb nx g but k p ≤ 282475249 := by
  have h1 := ncb_le nx g but k p
  have h2 : 7 ^ k ≤ 7 ^ 10 := Nat.pow_le_pow_right (by decide) hk
  omega
theorem ncb_mono (nx : Nat → Nat → Option Nat) (g j : Nat) : ∀ k p, ncb nx g (some j) k p ≤ ncb nx g none k p
  | 0, p => Nat.le_refl _
  | k + 1, p => by
    refine sumA_mono 7 (fun t _ => ?_)
    unfold ncs
    rw [if_neg (show ¬ (none : Option Nat) = some t by intro h; cases h)]
    split
    · exact Nat.zero_le _
    · split
      · exact Nat.le_refl _
      · exact ncb_mono nx g j k _
theorem ncb_s {nx : Nat → Nat → Option Nat} {g j k p N : Nat} (hN : ∀ p t q, nx p t = some q → t < N) (h7 : N ≤ 7) : ncb nx g (some j) (k + 1) p = 0 ↔ ∀ t, t < N → t ≠ j → ∀ q, nx p t = some q → ncb nx g (some j) k q = 0 := by
  show sumA (ncs nx (some j) (ncb nx g (some j) k) p) 7 = 0 ↔ _
  rw [sumA_z]
  constructor
  · intro h t ht hj q hq
    have := h t (by omega)
    rwa [ncs_some (fun e => hj (Option.some.inj e).symm) hq] at this
  · intro h t ht
    by_cases e : t = j
    · unfold ncs; rw [if_pos (by rw [e])]
    · cases hq : nx p t with
      | none => exact ncs_none hq
      | some q =>
        rw [ncs_some (fun e2 => e (Option.some.inj e2).symm) hq]
        exact h t (hN p t q hq) e q hq
theorem ncb_N {nx : Nat → Nat → Option Nat} {g k p N : Nat} {but : Option Nat} (hN : ∀ p t q, nx p t = some q → t < N) (h7 : N ≤ 7) : ncb nx g but (k + 1) p = sumA (ncs nx but (ncb nx g but k) p) N :=
  sumA_ext (fun t ht => by
    cases h : nx p t with
    | none => exact ncs_none h
    | some q => have := hN p t q h; omega) h7
/-- a station that isn't there is passed by none -/
theorem ncb_but {nx : Nat → Nat → Option Nat} {g N j : Nat} (hN : ∀ p t q, nx p t = some q → t < N) (hj : N ≤ j) : ∀ k p, ncb nx g (some j) k p = ncb nx g none k p
  | 0, _ => rfl
  | k + 1, p => by
    refine sumA_congr 7 (fun t _ => ?_)
    cases h : nx p t with
    | none => rw [ncs_none h, ncs_none h]
    | some q =>
      have := hN p t q h
      rw [ncs_some (fun e => by cases e; omega) h, ncs_some (fun e => by cases e) h]
      exact ncb_but hN hj k q
/-- by which passing the first route goes on -/
def fbq (nx : Nat → Nat → Option Nat) (C : Nat → Nat) (p t : Nat) : Bool := match nx p t with | none => false | some q => decide (0 < C q)
def fbk (nx : Nat → Nat → Option Nat) (g N : Nat) : Nat → Nat → Option Nat
  | 0, _ => none
  | k + 1, p => ff (fbq nx (ncb nx g none k) p) N 0
def sbk (nx : Nat → Nat → Option Nat) (g N : Nat) : Nat → Nat → Nat → Option Nat
  | 0, k, p => fbk nx g N k p
  | i + 1, k, p => match fbk nx g N k p with | none => none | some t => match nx p t with | none => none | some q => sbk nx g N i (k - 1) q
theorem fbk_some {nx : Nat → Nat → Option Nat} {g N k p t : Nat} (h : fbk nx g N (k + 1) p = some t) : t < N ∧ ∃ q, nx p t = some q ∧ 0 < ncb nx g none k q := by
  obtain ⟨_, h1, h2⟩ := ff_some h
  refine ⟨by omega, ?_⟩
  unfold fbq at h2
  cases e : nx p t with
  | none => rw [e] at h2; cases h2
  | some q => rw [e] at h2; exact ⟨q, rfl, of_decide_eq_true h2⟩
theorem fbk_ex {nx : Nat → Nat → Option Nat} {g N k p : Nat} (hN : ∀ p t q, nx p t = some q → t < N) (h7 : N ≤ 7) (h : 0 < ncb nx g none (k + 1) p) : ∃ t, fbk nx g N (k + 1) p = some t := by
  cases e : fbk nx g N (k + 1) p with
  | some t => exact ⟨t, rfl⟩
  | none =>
    exfalso
    rw [ncb_N hN h7] at h
    have : sumA (ncs nx none (ncb nx g none k) p) N = 0 := (sumA_z N).mpr (fun t ht => by
      have h2 := ff_none e t (Nat.zero_le _) (by omega)
      unfold fbq at h2
      cases e2 : nx p t with
      | none => exact ncs_none e2
      | some q =>
        rw [e2] at h2
        have h2 := of_decide_eq_false h2
        rw [ncs_some (fun e => by cases e) e2]
        omega)
    omega
