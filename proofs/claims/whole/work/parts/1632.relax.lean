/-! least costs by rounds of bettering -/
def imp (nx : Nat → Nat → Option Nat) (c : Nat → Nat → Nat) (K : Nat → Nat) (p t : Nat) : Option Nat :=
  match nx p t with
  | some q => if c p t + K q < K p then some (c p t + K q) else none
  | none => none
def sq1 (K : Nat → Nat) (p : Nat) (f : Bool) : Option Nat → (Nat → Nat) × Bool
  | some x => (fun j => if j = p then x else K j, true)
  | none => (K, f)
def rls (nx : Nat → Nat → Option Nat) (c : Nat → Nat → Nat) : List (Nat × Nat) → (Nat → Nat) × Bool → (Nat → Nat) × Bool
  | [], s => s
  | (p, t) :: l, s => rls nx c l (sq1 s.1 p s.2 (imp nx c s.1 p t))
theorem rls_app (nx : Nat → Nat → Option Nat) (c : Nat → Nat → Nat) : ∀ (l m : List (Nat × Nat)) (s), rls nx c (l ++ m) s = rls nx c m (rls nx c l s)
  | [], _, _ => rfl
  | (p, t) :: l, m, s => by
    show rls nx c (l ++ m) _ = rls nx c m (rls nx c l _)
    exact rls_app nx c l m _
/-- each cost is far, or of a way -/
def Jk (nx : Nat → Nat → Option Nat) (c : Nat → Nat → Nat) (g : Nat → Bool) (N F : Nat) (K : Nat → Nat) : Prop :=
  ∀ p, K p ≤ F ∧ (K p = F ∨ ∃ m, wlk nx c g N m p (K p))
theorem stp_J {nx : Nat → Nat → Option Nat} {c : Nat → Nat → Nat} {g : Nat → Bool} {N F : Nat} {K : Nat → Nat} {p t : Nat} {f : Bool} (hJ : Jk nx c g N F K) (ht : t < N) :
    Jk nx c g N F (sq1 K p f (imp nx c K p t)).1 ∧ (∀ j, (sq1 K p f (imp nx c K p t)).1 j ≤ K j) ∧ (∀ q, nx p t = some q → (sq1 K p f (imp nx c K p t)).1 p ≤ c p t + K q) ∧
    ((sq1 K p f (imp nx c K p t)).2 = false → f = false ∧ (sq1 K p f (imp nx c K p t)).1 = K) := by
  cases e : nx p t with
  | none =>
    have : imp nx c K p t = none := by unfold imp; rw [e]
    rw [this]
    exact ⟨hJ, fun j => Nat.le_refl _, (fun q h => by cases h), fun h => ⟨h, rfl⟩⟩
  | some q =>
    by_cases h : c p t + K q < K p
    · have : imp nx c K p t = some (c p t + K q) := by unfold imp; rw [e]; exact if_pos h
      rw [this]
      refine ⟨fun j => ?_, fun j => ?_, fun q' h' => ?_, fun h => by cases h⟩
      · show (if j = p then _ else K j) ≤ F ∧ _
        by_cases ej : j = p
        · subst ej
          have h1 := hJ j
          show (if j = j then _ else K j) ≤ F ∧ ((if j = j then _ else K j) = F ∨ ∃ m, wlk nx c g N m j (if j = j then _ else K j))
          rw [if_pos rfl]
          refine ⟨by omega, Or.inr ?_⟩
          rcases (hJ q).2 with h2 | ⟨m, hm⟩
          · omega
          · exact ⟨m + 1, t, q, K q, ht, e, hm, rfl⟩
        · show (if j = p then _ else K j) ≤ F ∧ ((if j = p then _ else K j) = F ∨ ∃ m, wlk nx c g N m j (if j = p then _ else K j))
          rw [if_neg ej]
          exact hJ j
      · show (if j = p then _ else K j) ≤ K j
        split
        · rename_i e; subst e; omega
        · exact Nat.le_refl _
      · cases h'
        show (if p = p then _ else K p) ≤ _
        rw [if_pos rfl]
        exact Nat.le_refl _
    · have : imp nx c K p t = none := by unfold imp; rw [e]; exact if_neg h
      rw [this]
      refine ⟨hJ, fun j => Nat.le_refl _, fun q' h' => ?_, fun h => ⟨h, rfl⟩⟩
      cases h'
      exact Nat.not_lt.mp h
theorem rls_J {nx : Nat → Nat → Option Nat} {c : Nat → Nat → Nat} {g : Nat → Bool} {N F : Nat} : ∀ (l : List (Nat × Nat)) (s : (Nat → Nat) × Bool), Jk nx c g N F s.1 → (∀ x ∈ l, x.2 < N) →
    Jk nx c g N F (rls nx c l s).1 ∧ (∀ j, (rls nx c l s).1 j ≤ s.1 j) ∧ (∀ x ∈ l, ∀ q, nx x.1 x.2 = some q → (rls nx c l s).1 x.1 ≤ c x.1 x.2 + s.1 q) ∧
    ((rls nx c l s).2 = false → s.2 = false ∧ (rls nx c l s).1 = s.1)
  | [], s, hJ, _ => ⟨hJ, fun j => Nat.le_refl _, (fun x hx => by cases hx), fun h => ⟨h, rfl⟩⟩
  | (p, t) :: l, s, hJ, hl => by
    obtain ⟨h1, h2, h3, h4⟩ := stp_J (p := p) (f := s.2) hJ (hl (p, t) (List.mem_cons_self ..))
    obtain ⟨k1, k2, k3, k4⟩ := rls_J l (sq1 s.1 p s.2 (imp nx c s.1 p t)) h1 (fun x hx => hl x (List.mem_cons_of_mem _ hx))
    show Jk nx c g N F (rls nx c l _).1 ∧ (∀ j, (rls nx c l _).1 j ≤ s.1 j) ∧ (∀ x ∈ (p, t) :: l, ∀ q, nx x.1 x.2 = some q → (rls nx c l _).1 x.1 ≤ c x.1 x.2 + s.1 q) ∧ ((rls nx c l _).2 = false → s.2 = false ∧ (rls nx c l _).1 = s.1)
    refine ⟨k1, fun j => Nat.le_trans (k2 j) (h2 j), fun x hx q e => ?_, fun h => ?_⟩
    · rcases List.mem_cons.mp hx with rfl | hx
      · exact Nat.le_trans (k2 _) (h3 q e)
      · exact Nat.le_trans (k3 x hx q e) (Nat.add_le_add_left (h2 q) _)
    · obtain ⟨a1, a2⟩ := k4 h
      obtain ⟨b1, b2⟩ := h4 a1
      exact ⟨b1, by rw [a2, b2]⟩
/-- what is exact up to a rank -/
def Qk (d : Nat → Option Nat) (S : Nat → Prop) (M r : Nat) (K : Nat → Nat) : Prop := ∀ p a, S p → d p = some a → rk d M p < r → K p ≤ a
theorem Qk_1 {nx : Nat → Nat → Option Nat} {c : Nat → Nat → Nat} {g : Nat → Bool} {N M : Nat} {S : Nat → Prop} {K : Nat → Nat} (hM : ∀ p t q, t < N → nx p t = some q → q < M) (hc : ∀ p t, 0 < c p t) (h0 : ∀ p, g p = true → S p → K p = 0) :
    Qk (ds nx c g N) S M 1 K := by
  intro p a hp ha hr
  rcases ds_s ha with ⟨h1, rfl⟩ | ⟨t, q, b, ht, hn, hb, e⟩
  · rw [h0 p h1 hp]; exact Nat.le_refl _
  · have := hc p t
    have := rk_lt (M := M) (hM p t q ht hn) ha hb (by omega)
    omega
theorem Qk_s {nx : Nat → Nat → Option Nat} {c : Nat → Nat → Nat} {g : Nat → Bool} {N M r : Nat} {S : Nat → Prop} {K K' : Nat → Nat} (hM : ∀ p t q, t < N → nx p t = some q → q < M) (hc : ∀ p t, 0 < c p t) (hS : ∀ p t q, S p → t < N → nx p t = some q → S q)
    (h : Qk (ds nx c g N) S M r K) (hr : 1 ≤ r) (h0 : ∀ p, g p = true → S p → K' p = 0) (hb : ∀ p t q, S p → t < N → nx p t = some q → K' p ≤ c p t + K q) : Qk (ds nx c g N) S M (r + 1) K' := by
  intro p a hp ha hr
  rcases ds_s ha with ⟨h1, rfl⟩ | ⟨t, q, b, ht, hn, hb', e⟩
  · rw [h0 p h1 hp]; exact Nat.le_refl _
  · have := hc p t
    have h1 := rk_lt (M := M) (hM p t q ht hn) ha hb' (by omega)
    have h2 := h q b (hS p t q hp ht hn) hb' (by omega)
    have h3 := hb p t q hp ht hn
    omega
/-- costs that nothing betters are the least -/
theorem fix_ds {nx : Nat → Nat → Option Nat} {c : Nat → Nat → Nat} {g : Nat → Bool} {N : Nat} {S : Nat → Prop} {K : Nat → Nat} (hc : ∀ p t, 0 < c p t) (hS : ∀ p t q, S p → t < N → nx p t = some q → S q)
    (h0 : ∀ p, g p = true → S p → K p = 0) (hb : ∀ p t q, S p → t < N → nx p t = some q → K p ≤ c p t + K q) : ∀ a p, S p → ds nx c g N p = some a → K p ≤ a := by
  intro a
  induction a using Nat.strongRecOn with
  | _ a ih =>
    intro p hp ha
    rcases ds_s ha with ⟨h1, rfl⟩ | ⟨t, q, b, ht, hn, hb', e⟩
    · rw [h0 p h1 hp]; exact Nat.le_refl _
    · have := hc p t
      have h2 := ih b (by omega) q (hS p t q hp ht hn) hb'
      have h3 := hb p t q hp ht hn
      omega
theorem Jk_ds {nx : Nat → Nat → Option Nat} {c : Nat → Nat → Nat} {g : Nat → Bool} {N F : Nat} {K : Nat → Nat} {p : Nat} (hJ : Jk nx c g N F K) (h : ∀ a, ds nx c g N p = some a → a ≤ F ∧ K p ≤ a) : K p = (ds nx c g N p).getD F := by
  cases e : ds nx c g N p with
  | none =>
    show K p = F
    rcases (hJ p).2 with h1 | ⟨m, hm⟩
    · exact h1
    · obtain ⟨a', h2, _⟩ := (ds_D nx c g N p).2 m _ hm
      rw [e] at h2; cases h2
  | some a =>
    show K p = a
    have h1 := h a e
    rcases (hJ p).2 with h2 | ⟨m, hm⟩
    · omega
    · obtain ⟨a', h3, h4⟩ := (ds_D nx c g N p).2 m _ hm
      rw [e] at h3; cases h3
      omega
/-- costs of a passing: hours count a thousand each -/
def hrb (by' : Nat) (v : NV) (p t : Nat) : Nat := if by' = 0 then 0 else vH v (p / 40) t
def ccb (by' : Nat) (v : NV) (p t : Nat) : Nat := 1000 * hrb by' v p t + 1
def glb (s z p : Nat) : Bool := decide (p / 40 = s) && decide (z ≤ p % 40 + 1)
def K0 (F s z p : Nat) : Nat := if glb s z p = true then 0 else F
theorem K0_J {nx : Nat → Nat → Option Nat} {c : Nat → Nat → Nat} {N F s z : Nat} : Jk nx c (glb s z) N F (K0 F s z) := by
  intro p
  unfold K0
  by_cases h : glb s z p = true
  · rw [if_pos h]; exact ⟨Nat.zero_le _, Or.inr ⟨0, h, rfl⟩⟩
  · rw [if_neg h]; exact ⟨Nat.le_refl _, Or.inl rfl⟩
