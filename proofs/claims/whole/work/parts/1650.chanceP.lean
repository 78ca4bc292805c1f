/-! chances: lots, shares; no machine -/
theorem sumA_add {A B : Nat → Nat} : ∀ n, sumA (fun j => A j + B j) n = sumA A n + sumA B n
  | 0 => rfl
  | n + 1 => by
    show sumA (fun j => A j + B j) n + (A n + B n) = (sumA A n + A n) + (sumA B n + B n)
    rw [sumA_add n]
    omega
theorem sumA_swap {F : Nat → Nat → Nat} {m : Nat} : ∀ n, sumA (fun q => sumA (fun p => F p q) m) n = sumA (fun p => sumA (fun q => F p q) n) m
  | 0 => ((sumA_z m).mpr (fun _ _ => rfl)).symm
  | n + 1 => by
    show sumA (fun q => sumA (fun p => F p q) m) n + sumA (fun p => F p n) m = sumA (fun p => sumA (fun q => F p q) n + F p n) m
    rw [sumA_swap n, sumA_add]
theorem sumA_mul {A : Nat → Nat} {c : Nat} : ∀ n, sumA (fun j => c * A j) n = c * sumA A n
  | 0 => rfl
  | n + 1 => by
    show sumA (fun j => c * A j) n + c * A n = c * (sumA A n + A n)
    rw [sumA_mul n, Nat.mul_add]
theorem sumA_one {x : Option Nat} {c : Nat} : ∀ n, sumA (fun q => if x = some q then c else 0) n ≤ c := by
  intro n
  have h : sumA (fun q => if x = some q then c else 0) n = 0 ∨ (sumA (fun q => if x = some q then c else 0) n = c ∧ ∃ q, q < n ∧ x = some q) := by
    induction n with
    | zero => exact Or.inl rfl
    | succ n ih =>
      show sumA (fun q => if x = some q then c else 0) n + (if x = some n then c else 0) = 0 ∨ (sumA (fun q => if x = some q then c else 0) n + (if x = some n then c else 0) = c ∧ _)
      rcases ih with h | ⟨h, q, hq, e⟩
      · rw [h]
        by_cases e : x = some n
        · rw [if_pos e]; exact Or.inr ⟨by omega, n, by omega, e⟩
        · rw [if_neg e]; exact Or.inl rfl
      · have : x ≠ some n := fun e2 => by rw [e] at e2; cases e2; omega
        rw [h, if_neg this]
        exact Or.inr ⟨rfl, q, by omega, e⟩
  omega
theorem sumA_split {A : Nat → Nat} {a : Nat} : ∀ n, a < n → sumA A n = A a + sumA (fun j => if j = a then 0 else A j) n
  | 0, h => by omega
  | n + 1, h => by
    show sumA A n + A n = A a + (sumA (fun j => if j = a then 0 else A j) n + (if n = a then 0 else A n))
    by_cases e : n = a
    · subst e
      rw [if_pos rfl, sumA_congr (A := fun j => if j = n then 0 else A j) (B := A) n (fun j hj => if_neg (by omega))]
      omega
    · rw [if_neg e, sumA_split (a := a) n (by omega)]
      omega
/-- a sum along a list without doubles -/
theorem sumA_list {f : Nat → Nat} {n : Nat} : ∀ {L : List Nat}, L.Nodup → (∀ x ∈ L, x < n) → sumA (fun j => f (L.getD j 0)) L.length = sumA (fun p => if p ∈ L then f p else 0) n
  | [], _, _ => ((sumA_z n).mpr (fun p _ => if_neg (by simp))).symm
  | a :: L, h, hn => by
    have hs : ∀ m, sumA (fun j => f ((a :: L).getD j 0)) (m + 1) = f a + sumA (fun j => f (L.getD j 0)) m := by
      intro m
      induction m with
      | zero => show 0 + f a = f a + 0; omega
      | succ m ih =>
        show sumA (fun j => f ((a :: L).getD j 0)) (m + 1) + f ((a :: L).getD (m + 1) 0) = f a + (sumA (fun j => f (L.getD j 0)) m + f (L.getD m 0))
        rw [ih]
        show _ + f (L.getD m 0) = _
        omega
    have ha := List.nodup_cons.mp h
    rw [List.length_cons, hs, sumA_list ha.2 (fun x hx => hn x (List.mem_cons_of_mem _ hx)), sumA_split (A := fun p => if p ∈ a :: L then f p else 0) (a := a) n (hn a (List.mem_cons_self ..)), if_pos (List.mem_cons_self ..)]
    congr 1
    refine sumA_congr n (fun p _ => ?_)
    by_cases e : p = a
    · rw [if_pos e, if_neg (by rw [e]; exact ha.1)]
    · rw [if_neg e]
      by_cases c : p ∈ L
      · rw [if_pos c, if_pos (List.mem_cons_of_mem _ c)]
      · rw [if_neg c, if_neg (fun q => (List.mem_cons.mp q).elim e c)]
theorem sumA_mp {f : Nat → Nat} : ∀ m, sumA (nst f) (41 * m) = sumA f (40 * m)
  | 0 => rfl
  | m + 1 => by
    have h : ∀ j, j ≤ 40 → sumA (nst f) (41 * m + (j + 1)) = sumA f (40 * m + j) := by
      intro j
      induction j with
      | zero =>
        intro _
        show sumA (nst f) (41 * m) + nst f (41 * m) = _
        rw [nst_0 (by omega), sumA_mp m]
        rfl
      | succ j ih =>
        intro hj
        show sumA (nst f) (41 * m + (j + 1)) + nst f (41 * m + (j + 1)) = sumA f (40 * m + j) + f (40 * m + j)
        rw [ih (by omega)]
        have : nst f (41 * m + (j + 1)) = f (40 * m + j) := by
          unfold nst
          rw [if_neg (by omega)]
          exact congrArg f (by omega)
        rw [this]
    have := h 40 (by omega)
    rw [show 41 * (m + 1) = 41 * m + (40 + 1) by omega, show 40 * (m + 1) = 40 * m + 40 by omega]
    exact this
/-- lots: what is left ahead of a station, what it has -/
noncomputable def lf (v : NV) (p : Nat) : Nat → Nat
  | 0 => 10
  | t + 1 => lf v p t - min (lf v p t) (vO v (p / 40) t)
noncomputable def lo (v : NV) (p t : Nat) : Nat := min (lf v p t) (vO v (p / 40) t)
theorem lf_s (v : NV) (p t : Nat) : lf v p (t + 1) = lf v p t - lo v p t := rfl
theorem lo_le (v : NV) (p t : Nat) : lo v p t ≤ lf v p t := Nat.min_le_left _ _
theorem lf_sum (v : NV) (p : Nat) : ∀ t, sumA (lo v p) t + lf v p t = 10
  | 0 => rfl
  | t + 1 => by
    have h := lf_sum v p t
    have h2 := lo_le v p t
    rw [lf_s]
    show sumA (lo v p) t + lo v p t + _ = 10
    omega
theorem lf_le (v : NV) (p t : Nat) : lf v p t ≤ 10 := by have := lf_sum v p t; omega
/-- where a lot leads: it stays, where it can't be; none: lost -/
noncomputable def tg (v : NV) (s : SV) (p t : Nat) : Option Nat := match gw v s (sA s) (p / 40) (p % 40 + 1) t with
  | none => some p
  | some 0 => none
  | some (z + 1) => some (40 * t + z)
noncomputable def wp (v : NV) (s : SV) (p q t : Nat) : Nat := sumA (fun t' => if tg v s p t' = some q then lo v p t' else 0) t
noncomputable def wt (v : NV) (s : SV) (p q : Nat) : Nat := wp v s p q (vN v) + (if q = p then lf v p (vN v) else 0)
theorem wt_sum (v : NV) (s : SV) (p n : Nat) : sumA (wt v s p) n ≤ 10 := by
  have h1 : sumA (wt v s p) n = sumA (fun q => wp v s p q (vN v)) n + sumA (fun q => if q = p then lf v p (vN v) else 0) n := sumA_add n
  have h2 : sumA (fun q => wp v s p q (vN v)) n = sumA (fun t' => sumA (fun q => if tg v s p t' = some q then lo v p t' else 0) n) (vN v) := sumA_swap n
  have h3 : sumA (fun t' => sumA (fun q => if tg v s p t' = some q then lo v p t' else 0) n) (vN v) ≤ sumA (lo v p) (vN v) := sumA_mono (vN v) (fun t _ => sumA_one n)
  have h4 : sumA (fun q => if q = p then lf v p (vN v) else 0) n ≤ lf v p (vN v) := by
    have := sumA_one (x := some p) (c := lf v p (vN v)) n
    rw [sumA_congr (B := fun q => if some p = some q then lf v p (vN v) else 0) n (fun q _ => by
      by_cases e : q = p
      · rw [if_pos e, if_pos (by rw [e])]
      · rw [if_neg e, if_neg (fun h => e (Option.some.inj h).symm)])]
    exact this
  have h5 := lf_sum v p (vN v)
  omega
/-- shares behind so many draws, of 10 to the power of them -/
noncomputable def shr (v : NV) (s : SV) (p0 : Nat) : Nat → Nat → Nat
  | 0, p => if p = p0 then 1 else 0
  | k + 1, q => sumA (fun p => shr v s p0 k p * wt v s p q) 280
theorem shr_sum (v : NV) (s : SV) (p0 : Nat) : ∀ k, sumA (shr v s p0 k) 280 ≤ 10 ^ k
  | 0 => by
    have := sumA_one (x := some p0) (c := 1) 280
    rw [sumA_congr (B := fun q => if some p0 = some q then 1 else 0) 280 (fun q _ => by
      show (if q = p0 then 1 else 0) = _
      by_cases e : q = p0
      · rw [if_pos e, if_pos (by rw [e])]
      · rw [if_neg e, if_neg (fun h => e (Option.some.inj h).symm)])]
    exact this
  | k + 1 => by
    have h1 : sumA (shr v s p0 (k + 1)) 280 = sumA (fun p => sumA (fun q => shr v s p0 k p * wt v s p q) 280) 280 := sumA_swap 280
    have h2 : sumA (fun p => sumA (fun q => shr v s p0 k p * wt v s p q) 280) 280 ≤ sumA (fun p => 10 * shr v s p0 k p) 280 := sumA_mono 280 (fun p _ => by
      have h3 : sumA (fun q => shr v s p0 k p * wt v s p q) 280 = shr v s p0 k p * sumA (wt v s p) 280 := sumA_mul 280
      have h4 : shr v s p0 k p * sumA (wt v s p) 280 ≤ shr v s p0 k p * 10 := Nat.mul_le_mul_left _ (wt_sum v s p 280)
      omega)
    have h5 : sumA (fun p => 10 * shr v s p0 k p) 280 = 10 * sumA (shr v s p0 k) 280 := sumA_mul 280
    have h6 := shr_sum v s p0 k
    rw [Nat.pow_succ]
    omega
theorem sumA_at {A : Nat → Nat} {j n : Nat} (h : j < n) : A j ≤ sumA A n := by
  rw [sumA_split (a := j) n h]
  omega
theorem ten6 {k : Nat} (hk : k ≤ 6) : 10 ^ k ≤ 1000000 := by
  have : 10 ^ k ≤ 10 ^ 6 := Nat.pow_le_pow_right (by decide) hk
  omega
theorem shr_le {v : NV} {s : SV} {p0 k q : Nat} (hk : k ≤ 6) (hq : q < 280) : shr v s p0 k q ≤ 1000000 := by
  have h1 := sumA_at (A := shr v s p0 k) hq
  have h2 := shr_sum v s p0 k
  have h3 := ten6 hk
  omega
/-- it is only where it can come to -/
theorem shr_R {v : NV} {s : SV} {p0 : Nat} (hv : NVok v) : ∀ k q, 0 < shr v s p0 k q → Rch (nxp v s (sA s)) (vN v) p0 q
  | 0, q, h => by
    have h : 0 < (if q = p0 then 1 else 0) := h
    by_cases e : q = p0
    · rw [e]; exact Rch_0
    · rw [if_neg e] at h; omega
  | k + 1, q, h => by
    have h : 0 < sumA (fun p => shr v s p0 k p * wt v s p q) 280 := h
    have hex : ∃ p, p < 280 ∧ 0 < shr v s p0 k p * wt v s p q := by
      apply Classical.byContradiction
      intro hn
      have := (sumA_z (A := fun p => shr v s p0 k p * wt v s p q) 280).mpr (fun j hj => Nat.eq_zero_of_not_pos (fun e => hn ⟨j, hj, e⟩))
      omega
    obtain ⟨p, hp, h0⟩ := hex
    have h1 : 0 < shr v s p0 k p := Nat.pos_of_ne_zero (fun e => by rw [e, Nat.zero_mul] at h0; omega)
    have h2 : 0 < wt v s p q := Nat.pos_of_ne_zero (fun e => by rw [e, Nat.mul_zero] at h0; omega)
    have hr := shr_R hv k p h1
    by_cases e : q = p
    · rw [e]; exact hr
    · unfold wt at h2
      rw [if_neg e, Nat.add_zero] at h2
      have hex2 : ∃ t, t < vN v ∧ tg v s p t = some q := by
        apply Classical.byContradiction
        intro hn
        have := (sumA_z (A := fun t' => if tg v s p t' = some q then lo v p t' else 0) (vN v)).mpr (fun t ht => if_neg (fun e => hn ⟨t, ht, e⟩))
        unfold wp at h2
        omega
      obtain ⟨t, ht, e2⟩ := hex2
      refine Rch_s hr ht ?_
      unfold tg at e2
      unfold nxp
      cases eg : gw v s (sA s) (p / 40) (p % 40 + 1) t with
      | none => rw [eg] at e2; cases e2; exact absurd rfl e
      | some z =>
        cases z with
        | zero => rw [eg] at e2; cases e2
        | succ z => rw [eg] at e2; exact e2
theorem shr_L {v : NV} {s : SV} {p0 k q : Nat} {L : List Nat} (hv : NVok v) (h : L.Nodup) (hn : ∀ x ∈ L, x < 280) (hL : ∀ p, p ∈ L ↔ Rch (nxp v s (sA s)) (vN v) p0 p) :
    sumA (fun j => shr v s p0 k (L.getD j 0) * wt v s (L.getD j 0) q) L.length = shr v s p0 (k + 1) q := by
  rw [sumA_list (f := fun p => shr v s p0 k p * wt v s p q) h hn]
  refine sumA_congr 280 (fun p _ => ?_)
  by_cases c : p ∈ L
  · rw [if_pos c]
  · rw [if_neg c]
    have : shr v s p0 k p = 0 := Nat.eq_zero_of_not_pos (fun e => c ((hL p).mpr (shr_R hv k p e)))
    rw [this, Nat.zero_mul]
/-- the share of a station -/
noncomputable def shs (v : NV) (s : SV) (p0 k st : Nat) : Nat := sumA (fun z => shr v s p0 k (40 * st + z)) 40
theorem sumA_off {A : Nat → Nat} {b : Nat} : ∀ n, sumA A b + sumA (fun z => A (b + z)) n = sumA A (b + n)
  | 0 => rfl
  | n + 1 => by
    have := sumA_off (A := A) (b := b) n
    show sumA A b + (sumA (fun z => A (b + z)) n + A (b + n)) = sumA A (b + n) + A (b + n)
    omega
theorem shs_le {v : NV} {s : SV} {p0 k st : Nat} (hst : st < 7) : shs v s p0 k st ≤ 10 ^ k := by
  have h1 := sumA_off (A := shr v s p0 k) (b := 40 * st) 40
  have h2 : sumA (shr v s p0 k) (40 * st + 40) ≤ sumA (shr v s p0 k) 280 := sumA_up (by omega)
  have h3 := shr_sum v s p0 k
  show sumA (fun z => shr v s p0 k (40 * st + z)) 40 ≤ _
  omega
/-- the first greatest -/
def lk (S : Nat → Nat) : Nat → Option Nat
  | 0 => none
  | t + 1 => if (match lk S t with | none => 0 | some b => S b) < S t then some t else lk S t
theorem lk_lt {S : Nat → Nat} : ∀ {n b : Nat}, lk S n = some b → b < n
  | 0, _, h => by cases h
  | n + 1, b, h => by
    have h : (if (match lk S n with | none => 0 | some b => S b) < S n then some n else lk S n) = some b := h
    by_cases c : (match lk S n with | none => 0 | some b => S b) < S n
    · rw [if_pos c] at h; cases h; omega
    · rw [if_neg c] at h; have := lk_lt h; omega
/-- the greatest that divides both, by so many steps -/
theorem gcd_step {a b m : Nat} (hb : b < 2 ^ (m + 1)) (h : a % b ≠ 0) : b % (a % b) < 2 ^ m := by
  have h1 : b % (a % b) < a % b := Nat.mod_lt _ (by omega)
  have h2 : a % b < b ∨ b = 0 := by
    by_cases e : b = 0
    · exact Or.inr e
    · exact Or.inl (Nat.mod_lt _ (by omega))
  rw [Nat.pow_succ] at hb
  rcases h2 with h2 | h2
  · have h3 : b % (a % b) ≤ b - a % b := by
      rw [Nat.mod_eq_sub_mod (by omega)]
      exact Nat.mod_le _ _
    omega
  · rw [h2, Nat.zero_mod]
    exact Nat.two_pow_pos m
