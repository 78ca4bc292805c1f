/-! counting; reach; least costs: no machine -/
def cnt (f : Nat → Bool) : Nat → Nat
  | 0 => 0
  | n + 1 => cnt f n + (if f n = true then 1 else 0)
theorem cnt_le (f : Nat → Bool) : ∀ n, cnt f n ≤ n
  | 0 => Nat.le_refl _
  | n + 1 => by have := cnt_le f n; unfold cnt; split <;> omega
theorem cnt_mono {f g : Nat → Bool} : ∀ n, (∀ i, i < n → f i = true → g i = true) → cnt f n ≤ cnt g n
  | 0, _ => Nat.le_refl _
  | n + 1, h => by
    have i1 := cnt_mono n (fun i hi => h i (by omega))
    have i2 := h n (by omega)
    unfold cnt
    by_cases c : f n = true
    · rw [if_pos c, if_pos (i2 c)]; omega
    · rw [if_neg c]; split <;> omega
theorem cnt_lt {f g : Nat → Bool} {i : Nat} : ∀ n, (∀ j, j < n → f j = true → g j = true) → i < n → g i = true → f i = false → cnt f n < cnt g n
  | 0, _, hi, _, _ => by omega
  | n + 1, h, hi, hg, hf => by
    have i2 := h n (by omega)
    unfold cnt
    by_cases e : i = n
    · subst e
      have i1 := cnt_mono i (fun j hj => h j (by omega))
      rw [if_pos hg, if_neg (by rw [hf]; decide)]; omega
    · have i1 := cnt_lt n (fun j hj => h j (by omega)) (by omega) hg hf
      by_cases c : f n = true
      · rw [if_pos c, if_pos (i2 c)]; omega
      · rw [if_neg c]; split <;> omega
theorem cnt_congr {f g : Nat → Bool} : ∀ n, (∀ j, j < n → g j = f j) → cnt g n = cnt f n
  | 0, _ => rfl
  | n + 1, h => by unfold cnt; rw [cnt_congr n (fun j hj => h j (by omega)), h n (by omega)]
theorem cnt_add {f g : Nat → Bool} {i : Nat} : ∀ n, i < n → f i = false → g i = true → (∀ j, j ≠ i → g j = f j) → cnt g n = cnt f n + 1
  | 0, hi, _, _, _ => by omega
  | n + 1, hi, hf, hg, h => by
    unfold cnt
    by_cases e : i = n
    · subst e
      rw [cnt_congr i (fun j hj => h j (by omega)), hf, hg]; simp
    · rw [cnt_add n (by omega) hf hg h, h n (by omega)]; omega
theorem cnt_room {f : Nat → Bool} {i : Nat} {n : Nat} (hi : i < n) (hf : f i = false) : cnt f n < n := by
  have h1 := cnt_lt (f := f) (g := fun _ => true) n (fun _ _ _ => rfl) hi rfl hf
  have h2 := cnt_le (fun _ => true) n
  omega
/-- what can be come to from p0 -/
def rch (nx : Nat → Nat → Option Nat) (N p0 : Nat) : Nat → Nat → Prop
  | 0, p => p = p0
  | n + 1, p => ∃ q t, rch nx N p0 n q ∧ t < N ∧ nx q t = some p
def Rch (nx : Nat → Nat → Option Nat) (N p0 p : Nat) : Prop := ∃ n, rch nx N p0 n p
theorem Rch_0 {nx : Nat → Nat → Option Nat} {N p0 : Nat} : Rch nx N p0 p0 := ⟨0, rfl⟩
theorem Rch_s {nx : Nat → Nat → Option Nat} {N p0 q t p : Nat} (h : Rch nx N p0 q) (ht : t < N) (hn : nx q t = some p) : Rch nx N p0 p := by
  obtain ⟨n, h⟩ := h
  exact ⟨n + 1, q, t, h, ht, hn⟩
theorem Rch_min {nx : Nat → Nat → Option Nat} {N p0 : Nat} {S : Nat → Prop} (h0 : S p0) (hs : ∀ q t p, S q → t < N → nx q t = some p → S p) {p : Nat} (h : Rch nx N p0 p) : S p := by
  obtain ⟨n, h⟩ := h
  induction n generalizing p with
  | zero => rw [show p = p0 from h]; exact h0
  | succ n ih =>
    obtain ⟨q, t, hq, ht, e⟩ := h
    exact hs q t p (ih hq) ht e
def olt : Option Nat → Option Nat → Bool
  | some a, some b => decide (a < b)
  | _, _ => false
/-- a way of so many passings and such a cost to a goal -/
def wlk (nx : Nat → Nat → Option Nat) (c : Nat → Nat → Nat) (g : Nat → Bool) (N : Nat) : Nat → Nat → Nat → Prop
  | 0, p, a => g p = true ∧ a = 0
  | m + 1, p, a => ∃ t q b, t < N ∧ nx p t = some q ∧ wlk nx c g N m q b ∧ a = c p t + b
def IsD (nx : Nat → Nat → Option Nat) (c : Nat → Nat → Nat) (g : Nat → Bool) (N : Nat) (d : Nat → Option Nat) : Prop :=
  ∀ p, (∀ a, d p = some a → ∃ m, wlk nx c g N m p a) ∧ (∀ m a, wlk nx c g N m p a → ∃ a', d p = some a' ∧ a' ≤ a)
theorem D_ex (nx : Nat → Nat → Option Nat) (c : Nat → Nat → Nat) (g : Nat → Bool) (N : Nat) : ∃ d, IsD nx c g N d := by
  have h : ∀ p, ∃ o : Option Nat, (∀ a, o = some a → ∃ m, wlk nx c g N m p a) ∧ (∀ m a, wlk nx c g N m p a → ∃ a', o = some a' ∧ a' ≤ a) := by
    intro p
    by_cases h : ∃ a, ∃ m, wlk nx c g N m p a
    · obtain ⟨a, h1, h2⟩ := pk_least _ h
      refine ⟨some a, fun b e => by cases e; exact h1, fun m b hb => ⟨a, rfl, ?_⟩⟩
      exact Nat.not_lt.mp (fun q => h2 b q ⟨m, hb⟩)
    · exact ⟨none, fun b e => (by cases e), fun m b hb => absurd ⟨b, m, hb⟩ h⟩
  exact ⟨fun p => Classical.choose (h p), fun p => Classical.choose_spec (h p)⟩
noncomputable def ds (nx : Nat → Nat → Option Nat) (c : Nat → Nat → Nat) (g : Nat → Bool) (N : Nat) : Nat → Option Nat := Classical.choose (D_ex nx c g N)
theorem ds_D (nx : Nat → Nat → Option Nat) (c : Nat → Nat → Nat) (g : Nat → Bool) (N : Nat) : IsD nx c g N (ds nx c g N) := Classical.choose_spec (D_ex nx c g N)
theorem ds_0 {nx : Nat → Nat → Option Nat} {c : Nat → Nat → Nat} {g : Nat → Bool} {N p : Nat} (h : g p = true) : ds nx c g N p = some 0 := by
  obtain ⟨a, h1, h2⟩ := (ds_D nx c g N p).2 0 0 ⟨h, rfl⟩
  rw [h1, Nat.le_zero.mp h2]
theorem ds_le {nx : Nat → Nat → Option Nat} {c : Nat → Nat → Nat} {g : Nat → Bool} {N p t q b : Nat} (ht : t < N) (hn : nx p t = some q) (hq : ds nx c g N q = some b) : ∃ a, ds nx c g N p = some a ∧ a ≤ c p t + b := by
  obtain ⟨m, hm⟩ := (ds_D nx c g N q).1 b hq
  exact (ds_D nx c g N p).2 (m + 1) (c p t + b) ⟨t, q, b, ht, hn, hm, rfl⟩
theorem ds_s {nx : Nat → Nat → Option Nat} {c : Nat → Nat → Nat} {g : Nat → Bool} {N p a : Nat} (h : ds nx c g N p = some a) :
    (g p = true ∧ a = 0) ∨ ∃ t q b, t < N ∧ nx p t = some q ∧ ds nx c g N q = some b ∧ a = c p t + b := by
  obtain ⟨m, hm⟩ := (ds_D nx c g N p).1 a h
  cases m with
  | zero => exact Or.inl hm
  | succ m =>
    obtain ⟨t, q, b, ht, hn, hw, e⟩ := hm
    obtain ⟨b', h1, h2⟩ := (ds_D nx c g N q).2 m b hw
    obtain ⟨a', h3, h4⟩ := ds_le ht hn h1
    rw [h] at h3
    cases h3
    exact Or.inr ⟨t, q, b', ht, hn, h1, by omega⟩
/-- how many are nearer -/
noncomputable def rk (d : Nat → Option Nat) (M p : Nat) : Nat := cnt (fun q => olt (d q) (d p)) M
theorem rk_lt {d : Nat → Option Nat} {M p q a b : Nat} (hq : q < M) (hp : d p = some a) (hb : d q = some b) (h : b < a) : rk d M q < rk d M p := by
  refine cnt_lt M (fun j _ hj => ?_) hq ?_ ?_
  · show olt (d j) (d p) = true
    have hj : olt (d j) (d q) = true := hj
    rw [hb] at hj
    rw [hp]
    cases e : d j with
    | none => rw [e] at hj; cases hj
    | some v =>
      rw [e] at hj
      have := of_decide_eq_true hj
      exact decide_eq_true (by omega)
  · show olt (d q) (d p) = true
    rw [hp, hb]
    exact decide_eq_true h
  · show olt (d q) (d q) = false
    rw [hb]
    exact decide_eq_false (by omega)
theorem rk_M {d : Nat → Option Nat} {M p : Nat} (hp : p < M) : rk d M p < M := by
  refine cnt_room hp ?_
  show olt (d p) (d p) = false
  cases d p with
  | none => rfl
  | some a => exact decide_eq_false (by omega)
theorem ds_bound {nx : Nat → Nat → Option Nat} {c : Nat → Nat → Nat} {g : Nat → Bool} {N M C : Nat} (hM : ∀ p t q, t < N → nx p t = some q → q < M) (hc : ∀ p t, t < N → nx p t ≠ none → 0 < c p t ∧ c p t ≤ C) :
    ∀ (a p : Nat), ds nx c g N p = some a → a ≤ C * rk (ds nx c g N) M p := by
  intro a
  induction a using Nat.strongRecOn with
  | _ a ih =>
    intro p h
    rcases ds_s h with ⟨_, rfl⟩ | ⟨t, q, b, ht, hn, hb, e⟩
    · exact Nat.zero_le _
    · have h1 := hc p t ht (by rw [hn]; exact fun q => by cases q)
      have h2 := ih b (by omega) q hb
      have h3 := rk_lt (hM p t q ht hn) h hb (by omega)
      have h4 : C * (rk (ds nx c g N) M q + 1) ≤ C * rk (ds nx c g N) M p := Nat.mul_le_mul_left _ h3
      rw [Nat.mul_add] at h4
      omega
/-- the first of so many from i on -/
def ff (f : Nat → Bool) : Nat → Nat → Option Nat
  | 0, _ => none
  | n + 1, i => if f i = true then some i else ff f n (i + 1)
theorem ff_some {f : Nat → Bool} : ∀ {n i t : Nat}, ff f n i = some t → i ≤ t ∧ t < i + n ∧ f t = true
  | 0, _, _, h => by cases h
  | n + 1, i, t, h => by
    unfold ff at h
    split at h
    · cases h; exact ⟨Nat.le_refl _, by omega, by assumption⟩
    · have := ff_some h; exact ⟨by omega, by omega, this.2.2⟩
theorem ff_none {f : Nat → Bool} : ∀ {n i : Nat}, ff f n i = none → ∀ t, i ≤ t → t < i + n → f t = false
  | 0, _, _, t, h1, h2 => by omega
  | n + 1, i, h, t, h1, h2 => by
    unfold ff at h
    split at h
    · cases h
    · rename_i hf
      by_cases e : t = i
      · subst e; exact Bool.eq_false_iff.mpr hf
      · exact ff_none h t (by omega) (by omega)
theorem ff_congr {f g : Nat → Bool} : ∀ {n i : Nat}, (∀ t, i ≤ t → t < i + n → f t = g t) → ff f n i = ff g n i
  | 0, _, _ => rfl
  | n + 1, i, h => by
    unfold ff
    rw [h i (Nat.le_refl _) (by omega), ff_congr (fun t h1 h2 => h t (by omega) (by omega))]
/-- by which passing the first least way goes on -/
noncomputable def bs (nx : Nat → Nat → Option Nat) (c : Nat → Nat → Nat) (g : Nat → Bool) (N p : Nat) : Option Nat :=
  ff (fun t => match nx p t with
    | some q => (match ds nx c g N q with | some b => decide (ds nx c g N p = some (c p t + b)) | none => false)
    | none => false) N 0
noncomputable def rst (nx : Nat → Nat → Option Nat) (c : Nat → Nat → Nat) (g : Nat → Bool) (N : Nat) : Nat → Nat → Option Nat
  | 0, p => bs nx c g N p
  | i + 1, p => match bs nx c g N p with
    | none => none
    | some t => (match nx p t with | none => none | some q => rst nx c g N i q)
theorem bs_some {nx : Nat → Nat → Option Nat} {c : Nat → Nat → Nat} {g : Nat → Bool} {N p t : Nat} (h : bs nx c g N p = some t) : t < N ∧ ∃ q b, nx p t = some q ∧ ds nx c g N q = some b ∧ ds nx c g N p = some (c p t + b) := by
  have := ff_some h
  obtain ⟨_, h1, h2⟩ := this
  refine ⟨by omega, ?_⟩
  cases e : nx p t with
  | none => simp [e] at h2
  | some q =>
    cases e2 : ds nx c g N q with
    | none => simp [e, e2] at h2
    | some b => exact ⟨q, b, rfl, e2, by simpa [e, e2] using h2⟩
theorem bs_ex {nx : Nat → Nat → Option Nat} {c : Nat → Nat → Nat} {g : Nat → Bool} {N p a : Nat} (h : ds nx c g N p = some a) (h0 : a ≠ 0) : ∃ t, bs nx c g N p = some t := by
  cases e : bs nx c g N p with
  | some t => exact ⟨t, rfl⟩
  | none =>
    exfalso
    rcases ds_s h with ⟨_, rfl⟩ | ⟨t, q, b, ht, hn, hb, ha⟩
    · exact h0 rfl
    · have := ff_none e t (Nat.zero_le _) (by omega)
      simp [hn, hb, h, ha] at this
theorem bs_0 {nx : Nat → Nat → Option Nat} {c : Nat → Nat → Nat} {g : Nat → Bool} {N p : Nat} (hc : ∀ p t, 0 < c p t) (h : ds nx c g N p = some 0 ∨ ds nx c g N p = none) : bs nx c g N p = none := by
  cases e : bs nx c g N p with
  | none => rfl
  | some t =>
    obtain ⟨_, q, b, h1, h2, h3⟩ := bs_some e
    have := hc p t
    rcases h with h | h <;> rw [h] at h3
    · have := Option.some.inj h3
      omega
    · cases h3
theorem rst_len {nx : Nat → Nat → Option Nat} {c h : Nat → Nat → Nat} {g : Nat → Bool} {N M : Nat} (hM : ∀ p t q, t < N → nx p t = some q → q < M) (hc : ∀ p t, c p t = 1000 * h p t + 1) :
    ∀ (a p : Nat), ds nx c g N p = some a → ∃ L H, L ≤ rk (ds nx c g N) M p ∧ a = 1000 * H + L ∧ ((∀ p t, h p t = 0) → H = 0) ∧ (∀ i, i < L → ∃ t, rst nx c g N i p = some t) ∧ ∀ i, L ≤ i → rst nx c g N i p = none := by
  have hc0 : ∀ p t, 0 < c p t := fun p t => by rw [hc]; omega
  intro a
  induction a using Nat.strongRecOn with
  | _ a ih =>
    intro p hp
    by_cases ha : a = 0
    · subst ha
      have hb := bs_0 hc0 (Or.inl hp)
      refine ⟨0, 0, Nat.zero_le _, rfl, fun _ => rfl, fun i hi => by omega, fun i _ => ?_⟩
      cases i with
      | zero => exact hb
      | succ i => unfold rst; rw [hb]
    · obtain ⟨t, ht⟩ := bs_ex hp ha
      obtain ⟨htN, q, b, h1, h2, h3⟩ := bs_some ht
      rw [hp] at h3
      have h3 := Option.some.inj h3
      have hcc := hc p t
      obtain ⟨L, H, k1, k2, k3, k4, k5⟩ := ih b (by omega) q h2
      have hr := rk_lt (M := M) (hM p t q htN h1) hp h2 (by omega)
      refine ⟨L + 1, H + h p t, by omega, by omega, fun z => ?_, fun i hi => ?_, fun i hi => ?_⟩
      · rw [k3 z, z]
      · cases i with
        | zero => exact ⟨t, ht⟩
        | succ i => unfold rst; rw [ht]; simp only [h1]; exact k4 i (by omega)
      · cases i with
        | zero => omega
        | succ i => unfold rst; rw [ht]; simp only [h1]; exact k5 i (by omega)
theorem rst_none {nx : Nat → Nat → Option Nat} {c : Nat → Nat → Nat} {g : Nat → Bool} {N p : Nat} (hc : ∀ p t, 0 < c p t) (h : ds nx c g N p = none) (i : Nat) : rst nx c g N i p = none := by
  have hb := bs_0 hc (Or.inr h)
  cases i with
  | zero => exact hb
  | succ i => unfold rst; rw [hb]
