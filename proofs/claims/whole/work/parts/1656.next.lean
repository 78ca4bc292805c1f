/-! reading: the next token on both sides -/
def Cg (t p q : Nat) (P : PM) : Prop := P.1 1 7 = nI 0 ∧ P.1 1 8 = -nI 1 ∧ P.1 1 5 = nI t ∧ P.1 1 4 = nI p ∧ P.1 1 3 = nI q
def Cf (f p : Nat) (P : PM) : Prop := P.1 1 7 = nI f ∧ P.1 1 8 = nI p ∧ P.1 1 5 = nI 0 ∧ 1 ≤ f ∧ f ≤ 4 ∧ p ≤ 900
def Mg (k p q : Nat) (P : PM) : Prop := P.1 109 11 = nI 0 ∧ P.1 109 9 = nI k ∧ P.1 109 6 = nI p ∧ P.1 109 7 = nI q
def Mh (p : Nat) (P : PM) : Prop := P.1 109 11 = nI 0 ∧ P.1 109 9 = nI 25 ∧ P.1 109 6 = nI p
/-- which token begins at p: its kind, where it ends, its number -/
def tok (b : Nat → Nat) (n p k q v : Nat) : Prop :=
  (p = n ∧ k = 24 ∧ q = n) ∨
  (p < n ∧ dg (b p) = true ∧ fst_ dg b n p q ∧ ((q - p ≤ 3 ∧ k = 23 ∧ v = dv b p (q - p)) ∨ (3 < q - p ∧ k = 25))) ∨
  (p < n ∧ lw (b p) = true ∧ fst_ lw b n p q ∧ k = if fx (mb b p q) WK = 20 then 22 else fx (mb b p q) WK) ∨
  (p < n ∧ dg (b p) = false ∧ lw (b p) = false ∧ q = p + 1 ∧ k = sgk 12 (b p))
theorem tok_ex {b : Nat → Nat} {n p : Nat} (hp : p ≤ n) : ∃ k q v, tok b n p k q v := by
  by_cases c : p = n
  · exact ⟨24, n, 0, Or.inl ⟨c, rfl, rfl⟩⟩
  by_cases c1 : dg (b p) = true
  · obtain ⟨q, hq⟩ := fst_ex dg b n (n - p) p (by omega)
    by_cases c2 : q - p ≤ 3
    · exact ⟨23, q, dv b p (q - p), Or.inr (Or.inl ⟨by omega, c1, hq, Or.inl ⟨c2, rfl, rfl⟩⟩)⟩
    · exact ⟨25, q, 0, Or.inr (Or.inl ⟨by omega, c1, hq, Or.inr ⟨by omega, rfl⟩⟩)⟩
  by_cases c2 : lw (b p) = true
  · obtain ⟨q, hq⟩ := fst_ex lw b n (n - p) p (by omega)
    exact ⟨_, q, 0, Or.inr (Or.inr (Or.inl ⟨by omega, c2, hq, rfl⟩))⟩
  · exact ⟨_, _, 0, Or.inr (Or.inr (Or.inr ⟨by omega, by simpa using c1, by simpa using c2, rfl, rfl⟩))⟩
theorem fst_lt {χ : Nat → Bool} {b : Nat → Nat} {n p q : Nat} (h : fst_ χ b n p q) (hp : p < n) (hc : χ (b p) = true) : p < q := by
  have h1 := h.1
  by_cases e : p = q
  · have := h.2.2.2
    rw [← e] at this
    unfold inx at this
    simp [hp, hc] at this
  · omega
theorem tok_q {b : Nat → Nat} {n p k q v : Nat} (h : tok b n p k q v) : p ≤ q ∧ q ≤ n ∧ (k ≠ 24 → p < q) := by
  rcases h with ⟨rfl, rfl, rfl⟩ | ⟨h1, h2, h3, h4⟩ | ⟨h1, h2, h3, h4⟩ | ⟨h1, h2, h3, rfl, h4⟩
  · exact ⟨by omega, by omega, fun h => absurd rfl h⟩
  · have := fst_lt h3 h1 h2
    exact ⟨by omega, h3.2.1, fun _ => this⟩
  · have := fst_lt h3 h1 h2
    exact ⟨by omega, h3.2.1, fun _ => this⟩
  · exact ⟨by omega, by omega, fun _ => by omega⟩
theorem sgk_le (c : Nat) : ∀ x, x ≤ 12 → sgk x c = 25 ∨ (30 ≤ sgk x c ∧ sgk x c < 42) := by
  intro x
  induction x with
  | zero => intro _; exact Or.inl rfl
  | succ x ih =>
    intro h
    unfold sgk
    split
    · exact Or.inr ⟨by omega, by omega⟩
    · exact ih (by omega)
def kok (k : Nat) : Prop := k < 20 ∨ k = 22 ∨ k = 23 ∨ k = 24 ∨ (30 ≤ k ∧ k < 42)
theorem tok_k {b : Nat → Nat} {n p k q v : Nat} (h : tok b n p k q v) (hk : k ≠ 25) : kok k ∧ (k = 23 → v < 1000) := by
  unfold kok
  rcases h with ⟨rfl, rfl, rfl⟩ | ⟨h1, h2, h3, ⟨h4, rfl, rfl⟩ | ⟨h4, rfl⟩⟩ | ⟨h1, h2, h3, rfl⟩ | ⟨h1, h2, h3, rfl, rfl⟩
  · exact ⟨by omega, fun h => by cases h⟩
  · have h5 := h3.1
    have := dv_lt h3 (q - p) (by omega)
    have h6 : 10 ^ (q - p) ≤ 10 ^ 3 := Nat.pow_le_pow_right (by omega) (by omega)
    exact ⟨by omega, fun _ => by omega⟩
  · exact absurd rfl hk
  · have := (words_kt b p q).2
    split
    · exact ⟨by omega, fun h => by cases h⟩
    · exact ⟨by omega, fun h => by omega⟩
  · have := sgk_le (b p) 12 (by omega)
    exact ⟨by omega, fun h => by omega⟩
theorem fail_C0 {P : PM} {p q t f : Nat} (h : Cg t p q P) (hf : 1 ≤ f ∧ f ≤ 4) (hp : p ≤ 900) : ∃ P', f_Ta_fail (nI f) P = some P' ∧ fc P P' ∧ Cf f p P' := by
  obtain ⟨h1, h2, h3, h4, h5⟩ := h
  unfold f_Ta_fail j_Ta_fail_20
  rw [h1, if_pos (by rfl), u1_1, if_neg (by omega), h4]
  refine ⟨_, rfl, fc_u (fc_u (fc_u fc_refl (by omega)) (by omega)) (by omega), ?_, ?_, ?_, hf.1, hf.2, hp⟩
  · rw [u1_1, if_neg (by omega), u1_1, if_neg (by omega), u1_1, if_pos ⟨rfl, rfl⟩]
  · rw [u1_1, if_neg (by omega), u1_1, if_pos ⟨rfl, rfl⟩]
  · rw [u1_1, if_pos ⟨rfl, rfl⟩]; rfl
theorem tnext_C {b : Nat → Nat} {n q p k q' v : Nat} {P : PM} (hb : Bk b n) (hK : TKC b n P) (h7 : P.1 1 7 = nI 0) (h8 : P.1 1 8 = -nI 1) (h3 : P.1 1 3 = nI q) (hp : fst_ bk b n q p) (ht : tok b n p k q' v) :
    ∃ P', f_Ta_next P = some P' ∧ fc P P' ∧ ((k ≠ 25 ∧ Cg (kt k) p q' P' ∧ (k = 23 → P'.1 1 6 = nI v)) ∨ (k = 25 ∧ Cf 1 p P')) := by
  have hn := hb.1
  have hFU := FU_big
  have hp1 := hp.1
  have hp2 := hp.2.1
  have e0 : f_Ta_next P = j_Ta_next_39 (u1 P 1 3 (nI p)) := blk_C hb (p - q) q 0 FU P hK h3 (by omega) (by omega) hp (by omega)
  obtain ⟨X, hX⟩ : ∃ X, X = u1 (u1 P 1 3 (nI p)) 1 4 (nI p) := ⟨_, rfl⟩
  have fX : fc P X := by rw [hX]; exact fc_u (fc_u fc_refl (by omega)) (by omega)
  have KX := TKC_f hK fX
  have x3 : X.1 1 3 = nI p := by rw [hX, u1_1, if_neg (by omega), u1_1, if_pos ⟨rfl, rfl⟩]
  have x4 : X.1 1 4 = nI p := by rw [hX, u1_1, if_pos ⟨rfl, rfl⟩]
  have x7 : X.1 1 7 = nI 0 := by rw [hX, u1_1, if_neg (by omega), u1_1, if_neg (by omega), h7]
  have x8 : X.1 1 8 = -nI 1 := by rw [hX, u1_1, if_neg (by omega), u1_1, if_neg (by omega), h8]
  rw [e0]
  unfold j_Ta_next_39
  rw [show (u1 P 1 3 (nI p)).1 1 3 = nI p from by rw [u1_1, if_pos ⟨rfl, rfl⟩], ← hX, x3, byteAt_C hb KX (by omega), Option.bind_some, x7, if_pos (by rfl), digit_C hb, letter_C hb]
  have hbp := hb.2 p
  rcases ht with ⟨rfl, rfl, rfl⟩ | ⟨t1, t2, t3, t4⟩ | ⟨t1, t2, t3, t4⟩ | ⟨t1, t2, t3, rfl, t4⟩
  · rw [if_pos (by unfold chv; rw [if_neg (by omega)]; rfl)]
    unfold j_Ta_next_68
    refine ⟨_, rfl, fc_trans fX (fc_u fc_refl (by omega)), Or.inl ⟨by omega, ⟨?_, ?_, ?_, ?_, ?_⟩, fun h => by cases h⟩⟩
    · rw [u1_1, if_neg (by omega), x7]
    · rw [u1_1, if_neg (by omega), x8]
    · rw [u1_1, if_pos ⟨rfl, rfl⟩]; rfl
    · rw [u1_1, if_neg (by omega), x4]
    · rw [u1_1, if_neg (by omega), x3]
  · have e1 : inx dg b n p = true := by unfold inx; simp [t1, t2]
    have t5 := fst_lt t3 t1 t2
    have t6 := t3.2.1
    rw [if_neg (by unfold chv; rw [if_pos t1]; simp (disch := omega) only [z_add, z_mul, z_sub, z_subm, z_addm, z_lt_t, z_lt_f, z_le_t, z_le_f, z_eq_t, z_eq_f, z_eqm, z_meq, z_mm, z_ltm, z_mlt, z_lem, z_mle, z_cl, z_ck, u1_1, u1_2, u2_1, u2_2, ↓reduceIte, Option.bind_some, Option.bind_none, bd2_some, lb_eq, and_true, and_false, true_and, false_and, not_true_eq_false, not_false_eq_true, eq_self_iff_true, if_true, if_false, Nat.reduceEqDiff, Nat.reduceAdd, Nat.reduceMul, Nat.reduceSub, Bool.false_eq_true, zl0, zl1, zl2, zl3, zl4, zl5, zl6, zl7, zl8, zl9, zl10, zl11, zl12, zl13, zl14, zl15, zl16, zl17, zl18, zl19, zl20, zl22, zl23, zl24, zl25, zl30, zl31, zl32, zl33, zl34, zl35, zl36, zl37, zl38, zl39, zl40, zl41, zl42, zl43, zl45, zl48, zl49, zl57, zl58, zl59, zl60, zl61, zl62, zl63, zl64, zl91, zl93, zl97, zl98, zl99, zl100, zl113, zl114, zl115, zl116, zl117, zl122, zl124, zl125, zl127, zl128, zl136, zl200, zl201, zl202, zl203, zl204, zl205, zl206, zl207, zl208, zl209, zl210, zl211, zl212, zl213, zl214, zl215, zl216, zl217, zl218, zl219, zl220, zl235, zl236, zl255, zl280, zl287, zl900, zl999, zl1000, zl1001, zl1136, zl1960, zl3000, zl3001, zl3002, zl3003, zl3004, zl3005, zl3006, zl3007, zl3008, zl3009, zl268435456, zl1000000000]), if_neg (by rw [e1]; decide)]
    unfold f_Ta_readNumber
    have e2 := tnum_C hb t3 (q' - p) 0 FU (u1 X 1 6 (nI 0)) (TKC_f KX (fc_u fc_refl (by omega))) (by rw [u1_1, if_neg (by omega), x3]; rfl) (by rw [u1_1, if_pos ⟨rfl, rfl⟩]; rfl) (by omega) (by omega)
    rw [show (0 : Int32) = nI 0 from rfl, e2, tk_uu]
    obtain ⟨Y, hY⟩ : ∃ Y, Y = u1 (u1 (u1 X 1 6 (nI (dv b p (min (q' - p) 3)))) 1 3 (nI q')) 1 5 (nI 1) := ⟨_, rfl⟩
    have fY : fc X Y := by rw [hY]; exact fc_u (fc_u (fc_u fc_refl (by omega)) (by omega)) (by omega)
    have y3 : Y.1 1 3 = nI q' := by rw [hY, u1_1, if_neg (by omega), u1_1, if_pos ⟨rfl, rfl⟩]
    have y4 : Y.1 1 4 = nI p := by rw [hY, u1_1, if_neg (by omega), u1_1, if_neg (by omega), u1_1, if_neg (by omega), x4]
    have y5 : Y.1 1 5 = nI 1 := by rw [hY, u1_1, if_pos ⟨rfl, rfl⟩]
    have y6 : Y.1 1 6 = nI (dv b p (min (q' - p) 3)) := by rw [hY, u1_1, if_neg (by omega), u1_1, if_neg (by omega), u1_1, if_pos ⟨rfl, rfl⟩]
    have y7 : Y.1 1 7 = nI 0 := by rw [hY, u1_1, if_neg (by omega), u1_1, if_neg (by omega), u1_1, if_neg (by omega), x7]
    have y8 : Y.1 1 8 = -nI 1 := by rw [hY, u1_1, if_neg (by omega), u1_1, if_neg (by omega), u1_1, if_neg (by omega), x8]
    unfold j_Ta_readNumber_79
    rw [show (1 : Int32) = nI 1 from rfl, ← hY, y3, y4, z_sub (by omega)]
    rcases t4 with ⟨a1, rfl, rfl⟩ | ⟨a1, rfl⟩
    · rw [if_pos (by simp (disch := omega) only [z_add, z_mul, z_sub, z_subm, z_addm, z_lt_t, z_lt_f, z_le_t, z_le_f, z_eq_t, z_eq_f, z_eqm, z_meq, z_mm, z_ltm, z_mlt, z_lem, z_mle, z_cl, z_ck, u1_1, u1_2, u2_1, u2_2, ↓reduceIte, Option.bind_some, Option.bind_none, bd2_some, lb_eq, and_true, and_false, true_and, false_and, not_true_eq_false, not_false_eq_true, eq_self_iff_true, if_true, if_false, Nat.reduceEqDiff, Nat.reduceAdd, Nat.reduceMul, Nat.reduceSub, Bool.false_eq_true, zl0, zl1, zl2, zl3, zl4, zl5, zl6, zl7, zl8, zl9, zl10, zl11, zl12, zl13, zl14, zl15, zl16, zl17, zl18, zl19, zl20, zl22, zl23, zl24, zl25, zl30, zl31, zl32, zl33, zl34, zl35, zl36, zl37, zl38, zl39, zl40, zl41, zl42, zl43, zl45, zl48, zl49, zl57, zl58, zl59, zl60, zl61, zl62, zl63, zl64, zl91, zl93, zl97, zl98, zl99, zl100, zl113, zl114, zl115, zl116, zl117, zl122, zl124, zl125, zl127, zl128, zl136, zl200, zl201, zl202, zl203, zl204, zl205, zl206, zl207, zl208, zl209, zl210, zl211, zl212, zl213, zl214, zl215, zl216, zl217, zl218, zl219, zl220, zl235, zl236, zl255, zl280, zl287, zl900, zl999, zl1000, zl1001, zl1136, zl1960, zl3000, zl3001, zl3002, zl3003, zl3004, zl3005, zl3006, zl3007, zl3008, zl3009, zl268435456, zl1000000000]), Option.bind_some]
      exact ⟨Y, rfl, fc_trans fX fY, Or.inl ⟨by omega, ⟨y7, y8, y5, y4, y3⟩, fun _ => by rw [y6, Nat.min_eq_left a1]⟩⟩
    · rw [if_neg (by simp (disch := omega) only [z_add, z_mul, z_sub, z_subm, z_addm, z_lt_t, z_lt_f, z_le_t, z_le_f, z_eq_t, z_eq_f, z_eqm, z_meq, z_mm, z_ltm, z_mlt, z_lem, z_mle, z_cl, z_ck, u1_1, u1_2, u2_1, u2_2, ↓reduceIte, Option.bind_some, Option.bind_none, bd2_some, lb_eq, and_true, and_false, true_and, false_and, not_true_eq_false, not_false_eq_true, eq_self_iff_true, if_true, if_false, Nat.reduceEqDiff, Nat.reduceAdd, Nat.reduceMul, Nat.reduceSub, Bool.false_eq_true, zl0, zl1, zl2, zl3, zl4, zl5, zl6, zl7, zl8, zl9, zl10, zl11, zl12, zl13, zl14, zl15, zl16, zl17, zl18, zl19, zl20, zl22, zl23, zl24, zl25, zl30, zl31, zl32, zl33, zl34, zl35, zl36, zl37, zl38, zl39, zl40, zl41, zl42, zl43, zl45, zl48, zl49, zl57, zl58, zl59, zl60, zl61, zl62, zl63, zl64, zl91, zl93, zl97, zl98, zl99, zl100, zl113, zl114, zl115, zl116, zl117, zl122, zl124, zl125, zl127, zl128, zl136, zl200, zl201, zl202, zl203, zl204, zl205, zl206, zl207, zl208, zl209, zl210, zl211, zl212, zl213, zl214, zl215, zl216, zl217, zl218, zl219, zl220, zl235, zl236, zl255, zl280, zl287, zl900, zl999, zl1000, zl1001, zl1136, zl1960, zl3000, zl3001, zl3002, zl3003, zl3004, zl3005, zl3006, zl3007, zl3008, zl3009, zl268435456, zl1000000000])]
      obtain ⟨Z, z1, z2, z3⟩ := fail_C0 (f := 1) (⟨y7, y8, y5, y4, y3⟩ : Cg 1 p q' Y) ⟨by omega, by omega⟩ (by omega)
      rw [z1]
      exact ⟨Z, rfl, fc_trans fX (fc_trans fY z2), Or.inr ⟨rfl, z3⟩⟩
  · have t5 := fst_lt t3 t1 t2
    have t6 := t3.2.1
    have e1 : inx dg b n p = false := by
      unfold lw at t2
      unfold inx dg
      simp at t2 ⊢
      omega
    have e2 : inx lw b n p = true := by unfold inx; simp [t1, t2]
    rw [if_neg (by unfold chv; rw [if_pos t1]; simp (disch := omega) only [z_add, z_mul, z_sub, z_subm, z_addm, z_lt_t, z_lt_f, z_le_t, z_le_f, z_eq_t, z_eq_f, z_eqm, z_meq, z_mm, z_ltm, z_mlt, z_lem, z_mle, z_cl, z_ck, u1_1, u1_2, u2_1, u2_2, ↓reduceIte, Option.bind_some, Option.bind_none, bd2_some, lb_eq, and_true, and_false, true_and, false_and, not_true_eq_false, not_false_eq_true, eq_self_iff_true, if_true, if_false, Nat.reduceEqDiff, Nat.reduceAdd, Nat.reduceMul, Nat.reduceSub, Bool.false_eq_true, zl0, zl1, zl2, zl3, zl4, zl5, zl6, zl7, zl8, zl9, zl10, zl11, zl12, zl13, zl14, zl15, zl16, zl17, zl18, zl19, zl20, zl22, zl23, zl24, zl25, zl30, zl31, zl32, zl33, zl34, zl35, zl36, zl37, zl38, zl39, zl40, zl41, zl42, zl43, zl45, zl48, zl49, zl57, zl58, zl59, zl60, zl61, zl62, zl63, zl64, zl91, zl93, zl97, zl98, zl99, zl100, zl113, zl114, zl115, zl116, zl117, zl122, zl124, zl125, zl127, zl128, zl136, zl200, zl201, zl202, zl203, zl204, zl205, zl206, zl207, zl208, zl209, zl210, zl211, zl212, zl213, zl214, zl215, zl216, zl217, zl218, zl219, zl220, zl235, zl236, zl255, zl280, zl287, zl900, zl999, zl1000, zl1001, zl1136, zl1960, zl3000, zl3001, zl3002, zl3003, zl3004, zl3005, zl3006, zl3007, zl3008, zl3009, zl268435456, zl1000000000]), if_pos (by rw [e1]; rfl), if_neg (by rw [e2]; decide)]
    unfold f_Ta_readWord
    have lp : ∀ (m q i fuel : Nat) (P : PM), TKC b n P → P.1 1 3 = nI q → i ≤ q → q + m = q' → p ≤ q → m < fuel → l_Ta_readWord_2 fuel (nI i) P = j_Ta_readWord_39 (u1 P 1 3 (nI q')) := by
      intro m
      induction m with
      | zero =>
        intro q i fuel P hK h3 hi hm hpq hfu
        obtain ⟨fuel, rfl⟩ : ∃ z, fuel = z + 1 := ⟨fuel - 1, by omega⟩
        obtain rfl : q = q' := by omega
        rw [l_Ta_readWord_2, tk_id h3]
        split
        · rfl
        · rw [h3, byteAt_C hb hK (by omega), Option.bind_some, letter_C hb, t3.2.2.2]; rfl
      | succ m ih =>
        intro q i fuel P hK h3 hi hm hpq hfu
        obtain ⟨fuel, rfl⟩ : ∃ z, fuel = z + 1 := ⟨fuel - 1, by omega⟩
        rw [l_Ta_readWord_2, if_neg (by simp (disch := omega) only [z_add, z_mul, z_sub, z_subm, z_addm, z_lt_t, z_lt_f, z_le_t, z_le_f, z_eq_t, z_eq_f, z_eqm, z_meq, z_mm, z_ltm, z_mlt, z_lem, z_mle, z_cl, z_ck, u1_1, u1_2, u2_1, u2_2, ↓reduceIte, Option.bind_some, Option.bind_none, bd2_some, lb_eq, and_true, and_false, true_and, false_and, not_true_eq_false, not_false_eq_true, eq_self_iff_true, if_true, if_false, Nat.reduceEqDiff, Nat.reduceAdd, Nat.reduceMul, Nat.reduceSub, Bool.false_eq_true, zl0, zl1, zl2, zl3, zl4, zl5, zl6, zl7, zl8, zl9, zl10, zl11, zl12, zl13, zl14, zl15, zl16, zl17, zl18, zl19, zl20, zl22, zl23, zl24, zl25, zl30, zl31, zl32, zl33, zl34, zl35, zl36, zl37, zl38, zl39, zl40, zl41, zl42, zl43, zl45, zl48, zl49, zl57, zl58, zl59, zl60, zl61, zl62, zl63, zl64, zl91, zl93, zl97, zl98, zl99, zl100, zl113, zl114, zl115, zl116, zl117, zl122, zl124, zl125, zl127, zl128, zl136, zl200, zl201, zl202, zl203, zl204, zl205, zl206, zl207, zl208, zl209, zl210, zl211, zl212, zl213, zl214, zl215, zl216, zl217, zl218, zl219, zl220, zl235, zl236, zl255, zl280, zl287, zl900, zl999, zl1000, zl1001, zl1136, zl1960, zl3000, zl3001, zl3002, zl3003, zl3004, zl3005, zl3006, zl3007, zl3008, zl3009, zl268435456, zl1000000000]), h3, byteAt_C hb hK (by omega), Option.bind_some, letter_C hb, t3.2.2.1 q (by omega) (by omega), if_neg (by decide), z_one, z_one]
        rw [ih (q + 1) (i + 1) fuel _ (TKC_f hK (fc_u fc_refl (by omega))) (by rw [u1_1, if_pos ⟨rfl, rfl⟩]) (by omega) (by omega) (by omega) (by omega), tk_uu]
    rw [show (0 : Int32) = nI 0 from rfl, lp (q' - p) p 0 FU X KX x3 (by omega) (by omega) (by omega) (by omega)]
    obtain ⟨Y, hY⟩ : ∃ Y, Y = u1 (u1 X 1 3 (nI q')) 1 5 (nI 200) := ⟨_, rfl⟩
    have fY : fc X Y := by rw [hY]; exact fc_u (fc_u fc_refl (by omega)) (by omega)
    have y3 : Y.1 1 3 = nI q' := by rw [hY, u1_1, if_neg (by omega), u1_1, if_pos ⟨rfl, rfl⟩]
    have y4 : Y.1 1 4 = nI p := by rw [hY, u1_1, if_neg (by omega), u1_1, if_neg (by omega), x4]
    have y5 : Y.1 1 5 = nI 200 := by rw [hY, u1_1, if_pos ⟨rfl, rfl⟩]
    have y7 : Y.1 1 7 = nI 0 := by rw [hY, u1_1, if_neg (by omega), u1_1, if_neg (by omega), x7]
    have y8 : Y.1 1 8 = -nI 1 := by rw [hY, u1_1, if_neg (by omega), u1_1, if_neg (by omega), x8]
    unfold j_Ta_readWord_39
    rw [show (200 : Int32) = nI 200 from rfl, ← hY, y4, lb_eq, show (1 : Int32) = nI 1 from rfl, show (0 : Int32) = nI 0 from rfl, word_C hb t6 (by omega) WC 0 200 FU Y lay_W (TKC_f KX fY) y4 y3 y5 rfl (by omega) (by omega), Option.bind_some]
    refine ⟨_, rfl, fc_trans fX (fc_u fY (by omega)), Or.inl ⟨?_, ⟨?_, ?_, ?_, ?_, ?_⟩, ?_⟩⟩
    · have := (words_kt b p q').2
      rw [t4]
      split <;> omega
    · rw [u1_1, if_neg (by omega), y7]
    · rw [u1_1, if_neg (by omega), y8]
    · rw [u1_1, if_pos ⟨rfl, rfl⟩, (words_kt b p q').1, t4]
    · rw [u1_1, if_neg (by omega), y4]
    · rw [u1_1, if_neg (by omega), y3]
    · intro h
      have := (words_kt b p q').2
      rw [t4] at h
      split at h <;> omega
  · have e1 : inx dg b n p = false := by unfold inx; simp [t2]
    have e2 : inx lw b n p = false := by unfold inx; simp [t3]
    have e3 : chv b n p = nI (b p) := if_pos t1
    obtain ⟨g1, g2⟩ := sg_C (b p) hbp
    rw [if_neg (by rw [e3]; simp (disch := omega) only [z_add, z_mul, z_sub, z_subm, z_addm, z_lt_t, z_lt_f, z_le_t, z_le_f, z_eq_t, z_eq_f, z_eqm, z_meq, z_mm, z_ltm, z_mlt, z_lem, z_mle, z_cl, z_ck, u1_1, u1_2, u2_1, u2_2, ↓reduceIte, Option.bind_some, Option.bind_none, bd2_some, lb_eq, and_true, and_false, true_and, false_and, not_true_eq_false, not_false_eq_true, eq_self_iff_true, if_true, if_false, Nat.reduceEqDiff, Nat.reduceAdd, Nat.reduceMul, Nat.reduceSub, Bool.false_eq_true, zl0, zl1, zl2, zl3, zl4, zl5, zl6, zl7, zl8, zl9, zl10, zl11, zl12, zl13, zl14, zl15, zl16, zl17, zl18, zl19, zl20, zl22, zl23, zl24, zl25, zl30, zl31, zl32, zl33, zl34, zl35, zl36, zl37, zl38, zl39, zl40, zl41, zl42, zl43, zl45, zl48, zl49, zl57, zl58, zl59, zl60, zl61, zl62, zl63, zl64, zl91, zl93, zl97, zl98, zl99, zl100, zl113, zl114, zl115, zl116, zl117, zl122, zl124, zl125, zl127, zl128, zl136, zl200, zl201, zl202, zl203, zl204, zl205, zl206, zl207, zl208, zl209, zl210, zl211, zl212, zl213, zl214, zl215, zl216, zl217, zl218, zl219, zl220, zl235, zl236, zl255, zl280, zl287, zl900, zl999, zl1000, zl1001, zl1136, zl1960, zl3000, zl3001, zl3002, zl3003, zl3004, zl3005, zl3006, zl3007, zl3008, zl3009, zl268435456, zl1000000000]), if_pos (by rw [e1]; rfl), if_pos (by rw [e2]; rfl), e3]
    by_cases c : sgk 12 (b p) = 25
    · rw [if_pos (g1.mpr c)]
      have hg : Cg 0 p p (u1 X 1 5 (nI 0)) := ⟨by rw [u1_1, if_neg (by omega), x7], by rw [u1_1, if_neg (by omega), x8], by rw [u1_1, if_pos ⟨rfl, rfl⟩], by rw [u1_1, if_neg (by omega), x4], by rw [u1_1, if_neg (by omega), x3]⟩
      have hx : f_Ta_fail (1 : Int32) X = some (u1 (u1 (u1 X 1 7 (nI 1)) 1 8 (nI p)) 1 5 (nI 0)) := by
        unfold f_Ta_fail j_Ta_fail_20
        rw [x7, if_pos (by rfl), u1_1, if_neg (by omega), x4]
        rfl
      rw [hx]
      refine ⟨_, rfl, fc_trans fX (fc_u (fc_u (fc_u fc_refl (by omega)) (by omega)) (by omega)), Or.inr ⟨by rw [t4, c], ?_, ?_, ?_, by omega, by omega, by omega⟩⟩
      · rw [u1_1, if_neg (by omega), u1_1, if_neg (by omega), u1_1, if_pos ⟨rfl, rfl⟩]
      · rw [u1_1, if_neg (by omega), u1_1, if_pos ⟨rfl, rfl⟩]
      · rw [u1_1, if_pos ⟨rfl, rfl⟩]
    · obtain ⟨g3, g4, g5, g6⟩ := g2 c
      rw [if_neg (fun h => c (g1.mp h)), u1_1, if_neg (by omega), x3, z_one]
      refine ⟨_, rfl, fc_trans fX (fc_u (fc_u fc_refl (by omega)) (by omega)), Or.inl ⟨by rw [t4]; exact c, ⟨?_, ?_, ?_, ?_, ?_⟩, fun h => by omega⟩⟩
      · rw [u1_1, if_neg (by omega), u1_1, if_neg (by omega), x7]
      · rw [u1_1, if_neg (by omega), u1_1, if_neg (by omega), x8]
      · rw [u1_1, if_neg (by omega), u1_1, if_pos ⟨rfl, rfl⟩, t4, g3]
      · rw [u1_1, if_neg (by omega), u1_1, if_neg (by omega), x4]
      · rw [u1_1, if_pos ⟨rfl, rfl⟩]
theorem tnext_M {b : Nat → Nat} {n q p k q' v : Nat} {P : PM} (hb : Bk b n) (hK : TKM b n P) (h11 : P.1 109 11 = nI 0) (h7 : P.1 109 7 = nI q) (hp : fst_ bk b n q p) (ht : tok b n p k q' v) :
    ∃ P', f_Mo_next P = some P' ∧ fm P P' ∧ P'.1 109 11 = nI 0 ∧ P'.1 109 9 = nI k ∧ P'.1 109 6 = nI p ∧ (k ≠ 25 → P'.1 109 7 = nI q') ∧ (k = 23 → P'.1 109 10 = nI v) := by
  have hn := hb.1
  have hFU := FU_big
  have hp1 := hp.1
  have hp2 := hp.2.1
  have e0 : f_Mo_next P = l_Mo_next_8 1 (u1 P 109 6 (nI p)) := by
    unfold f_Mo_next
    rw [h7, blk_M hb (p - q) q FU _ (TKM_f hK (fm_u fm_refl (by omega))) (by rw [u1_1, if_pos ⟨rfl, rfl⟩]) (by omega) hp (by omega), tk_uu]
  obtain ⟨X, hX⟩ : ∃ X, X = u1 (u1 P 109 6 (nI p)) 109 7 (nI p) := ⟨_, rfl⟩
  have fX : fm P X := by rw [hX]; exact fm_u (fm_u fm_refl (by omega)) (by omega)
  have KX := TKM_f hK fX
  have x6 : X.1 109 6 = nI p := by rw [hX, u1_1, if_neg (by omega), u1_1, if_pos ⟨rfl, rfl⟩]
  have x7 : X.1 109 7 = nI p := by rw [hX, u1_1, if_pos ⟨rfl, rfl⟩]
  have x11 : X.1 109 11 = nI 0 := by rw [hX, u1_1, if_neg (by omega), u1_1, if_neg (by omega), h11]
  have x8 : X.1 109 8 = nI n := KX.1
  have hP6 : (u1 P 109 6 (nI p)).1 109 6 = nI p := by rw [u1_1, if_pos ⟨rfl, rfl⟩]
  have hbp := hb.2 p
  have hnb := hp.2.2.2
  have n1 : ¬ chv b n p = 10 := by
    unfold chv
    unfold inx bk at hnb
    by_cases c : p < n
    · rw [if_pos c]
      simp [c] at hnb
      simp (disch := omega) only [z_add, z_mul, z_sub, z_subm, z_addm, z_lt_t, z_lt_f, z_le_t, z_le_f, z_eq_t, z_eq_f, z_eqm, z_meq, z_mm, z_ltm, z_mlt, z_lem, z_mle, z_cl, z_ck, u1_1, u1_2, u2_1, u2_2, ↓reduceIte, Option.bind_some, Option.bind_none, bd2_some, lb_eq, and_true, and_false, true_and, false_and, not_true_eq_false, not_false_eq_true, eq_self_iff_true, if_true, if_false, Nat.reduceEqDiff, Nat.reduceAdd, Nat.reduceMul, Nat.reduceSub, Bool.false_eq_true, zl0, zl1, zl2, zl3, zl4, zl5, zl6, zl7, zl8, zl9, zl10, zl11, zl12, zl13, zl14, zl15, zl16, zl17, zl18, zl19, zl20, zl22, zl23, zl24, zl25, zl30, zl31, zl32, zl33, zl34, zl35, zl36, zl37, zl38, zl39, zl40, zl41, zl42, zl43, zl45, zl48, zl49, zl57, zl58, zl59, zl60, zl61, zl62, zl63, zl64, zl91, zl93, zl97, zl98, zl99, zl100, zl113, zl114, zl115, zl116, zl117, zl122, zl124, zl125, zl127, zl128, zl136, zl200, zl201, zl202, zl203, zl204, zl205, zl206, zl207, zl208, zl209, zl210, zl211, zl212, zl213, zl214, zl215, zl216, zl217, zl218, zl219, zl220, zl235, zl236, zl255, zl280, zl287, zl900, zl999, zl1000, zl1001, zl1136, zl1960, zl3000, zl3001, zl3002, zl3003, zl3004, zl3005, zl3006, zl3007, zl3008, zl3009, zl268435456, zl1000000000, hnb.1]
    · rw [if_neg c]; decide
  have n2 : ¬ chv b n p = 32 := by
    unfold chv
    unfold inx bk at hnb
    by_cases c : p < n
    · rw [if_pos c]
      simp [c] at hnb
      simp (disch := omega) only [z_add, z_mul, z_sub, z_subm, z_addm, z_lt_t, z_lt_f, z_le_t, z_le_f, z_eq_t, z_eq_f, z_eqm, z_meq, z_mm, z_ltm, z_mlt, z_lem, z_mle, z_cl, z_ck, u1_1, u1_2, u2_1, u2_2, ↓reduceIte, Option.bind_some, Option.bind_none, bd2_some, lb_eq, and_true, and_false, true_and, false_and, not_true_eq_false, not_false_eq_true, eq_self_iff_true, if_true, if_false, Nat.reduceEqDiff, Nat.reduceAdd, Nat.reduceMul, Nat.reduceSub, Bool.false_eq_true, zl0, zl1, zl2, zl3, zl4, zl5, zl6, zl7, zl8, zl9, zl10, zl11, zl12, zl13, zl14, zl15, zl16, zl17, zl18, zl19, zl20, zl22, zl23, zl24, zl25, zl30, zl31, zl32, zl33, zl34, zl35, zl36, zl37, zl38, zl39, zl40, zl41, zl42, zl43, zl45, zl48, zl49, zl57, zl58, zl59, zl60, zl61, zl62, zl63, zl64, zl91, zl93, zl97, zl98, zl99, zl100, zl113, zl114, zl115, zl116, zl117, zl122, zl124, zl125, zl127, zl128, zl136, zl200, zl201, zl202, zl203, zl204, zl205, zl206, zl207, zl208, zl209, zl210, zl211, zl212, zl213, zl214, zl215, zl216, zl217, zl218, zl219, zl220, zl235, zl236, zl255, zl280, zl287, zl900, zl999, zl1000, zl1001, zl1136, zl1960, zl3000, zl3001, zl3002, zl3003, zl3004, zl3005, zl3006, zl3007, zl3008, zl3009, zl268435456, zl1000000000, hnb.2]
    · rw [if_neg c]; decide
  have sX : f_Mo_see (nI p) X = some (chv b n p) := see_M hb KX (by omega)
  rw [e0, l_Mo_next_8, hP6, see_M hb (TKM_f hK (fm_u fm_refl (by omega))) (by omega), Option.bind_some, if_neg n1, Option.bind_some, if_neg n2, ← hX, x6, x8, sX, Option.bind_some, Option.bind_some, small_M hb, digit_M hb]
  rcases ht with ⟨rfl, rfl, rfl⟩ | ⟨t1, t2, t3, t4⟩ | ⟨t1, t2, t3, t4⟩ | ⟨t1, t2, t3, rfl, t4⟩
  · rw [if_neg (by simp (disch := omega) only [z_add, z_mul, z_sub, z_subm, z_addm, z_lt_t, z_lt_f, z_le_t, z_le_f, z_eq_t, z_eq_f, z_eqm, z_meq, z_mm, z_ltm, z_mlt, z_lem, z_mle, z_cl, z_ck, u1_1, u1_2, u2_1, u2_2, ↓reduceIte, Option.bind_some, Option.bind_none, bd2_some, lb_eq, and_true, and_false, true_and, false_and, not_true_eq_false, not_false_eq_true, eq_self_iff_true, if_true, if_false, Nat.reduceEqDiff, Nat.reduceAdd, Nat.reduceMul, Nat.reduceSub, Bool.false_eq_true, zl0, zl1, zl2, zl3, zl4, zl5, zl6, zl7, zl8, zl9, zl10, zl11, zl12, zl13, zl14, zl15, zl16, zl17, zl18, zl19, zl20, zl22, zl23, zl24, zl25, zl30, zl31, zl32, zl33, zl34, zl35, zl36, zl37, zl38, zl39, zl40, zl41, zl42, zl43, zl45, zl48, zl49, zl57, zl58, zl59, zl60, zl61, zl62, zl63, zl64, zl91, zl93, zl97, zl98, zl99, zl100, zl113, zl114, zl115, zl116, zl117, zl122, zl124, zl125, zl127, zl128, zl136, zl200, zl201, zl202, zl203, zl204, zl205, zl206, zl207, zl208, zl209, zl210, zl211, zl212, zl213, zl214, zl215, zl216, zl217, zl218, zl219, zl220, zl235, zl236, zl255, zl280, zl287, zl900, zl999, zl1000, zl1001, zl1136, zl1960, zl3000, zl3001, zl3002, zl3003, zl3004, zl3005, zl3006, zl3007, zl3008, zl3009, zl268435456, zl1000000000])]
    exact ⟨_, rfl, fm_trans fX (fm_u fm_refl (by omega)), by rw [u1_1, if_neg (by omega), x11], by rw [u1_1, if_pos ⟨rfl, rfl⟩]; rfl, by rw [u1_1, if_neg (by omega), x6], fun _ => by rw [u1_1, if_neg (by omega), x7], fun h => by cases h⟩
  · have t5 := fst_lt t3 t1 t2
    have t6 := t3.2.1
    have e1 : inx dg b n p = true := by unfold inx; simp [t1, t2]
    have e2 : inx lw b n p = false := by
      unfold dg at t2
      unfold inx lw
      simp at t2 ⊢
      omega
    rw [if_pos (by simp (disch := omega) only [z_add, z_mul, z_sub, z_subm, z_addm, z_lt_t, z_lt_f, z_le_t, z_le_f, z_eq_t, z_eq_f, z_eqm, z_meq, z_mm, z_ltm, z_mlt, z_lem, z_mle, z_cl, z_ck, u1_1, u1_2, u2_1, u2_2, ↓reduceIte, Option.bind_some, Option.bind_none, bd2_some, lb_eq, and_true, and_false, true_and, false_and, not_true_eq_false, not_false_eq_true, eq_self_iff_true, if_true, if_false, Nat.reduceEqDiff, Nat.reduceAdd, Nat.reduceMul, Nat.reduceSub, Bool.false_eq_true, zl0, zl1, zl2, zl3, zl4, zl5, zl6, zl7, zl8, zl9, zl10, zl11, zl12, zl13, zl14, zl15, zl16, zl17, zl18, zl19, zl20, zl22, zl23, zl24, zl25, zl30, zl31, zl32, zl33, zl34, zl35, zl36, zl37, zl38, zl39, zl40, zl41, zl42, zl43, zl45, zl48, zl49, zl57, zl58, zl59, zl60, zl61, zl62, zl63, zl64, zl91, zl93, zl97, zl98, zl99, zl100, zl113, zl114, zl115, zl116, zl117, zl122, zl124, zl125, zl127, zl128, zl136, zl200, zl201, zl202, zl203, zl204, zl205, zl206, zl207, zl208, zl209, zl210, zl211, zl212, zl213, zl214, zl215, zl216, zl217, zl218, zl219, zl220, zl235, zl236, zl255, zl280, zl287, zl900, zl999, zl1000, zl1001, zl1136, zl1960, zl3000, zl3001, zl3002, zl3003, zl3004, zl3005, zl3006, zl3007, zl3008, zl3009, zl268435456, zl1000000000]), if_pos (by rw [e2]; rfl), if_neg (by rw [e1]; decide)]
    rw [show (0 : Int32) = nI 0 from rfl, tnum_M hb t3 (q' - p) 0 FU _ (TKM_f KX (fm_u fm_refl (by omega))) (by rw [u1_1, if_neg (by omega), x7]; rfl) (by rw [u1_1, if_neg (by omega), x6]) (by rw [u1_1, if_pos ⟨rfl, rfl⟩]; rfl) (by omega) (by omega), tk_uu]
    unfold j_Mo_next_230
    refine ⟨_, rfl, fm_trans fX (fm_u (fm_u (fm_u fm_refl (by omega)) (by omega)) (by omega)), ?_, ?_, ?_, fun _ => ?_, fun h => ?_⟩
    · rw [u1_1, if_neg (by omega), u1_1, if_neg (by omega), u1_1, if_neg (by omega), x11]
    · rw [u1_1, if_pos ⟨rfl, rfl⟩]
      rcases t4 with ⟨a1, rfl, rfl⟩ | ⟨a1, rfl⟩
      · rw [if_pos a1]
      · rw [if_neg (by omega)]
    · rw [u1_1, if_neg (by omega), u1_1, if_neg (by omega), u1_1, if_neg (by omega), x6]
    · rw [u1_1, if_neg (by omega), u1_1, if_pos ⟨rfl, rfl⟩]
    · rw [u1_1, if_neg (by omega), u1_1, if_neg (by omega), u1_1, if_pos ⟨rfl, rfl⟩]
      rcases t4 with ⟨a1, a2, rfl⟩ | ⟨a1, a2⟩
      · rw [Nat.min_eq_left a1]
      · omega
  · have t5 := fst_lt t3 t1 t2
    have t6 := t3.2.1
    have e2 : inx lw b n p = true := by unfold inx; simp [t1, t2]
    rw [if_pos (by simp (disch := omega) only [z_add, z_mul, z_sub, z_subm, z_addm, z_lt_t, z_lt_f, z_le_t, z_le_f, z_eq_t, z_eq_f, z_eqm, z_meq, z_mm, z_ltm, z_mlt, z_lem, z_mle, z_cl, z_ck, u1_1, u1_2, u2_1, u2_2, ↓reduceIte, Option.bind_some, Option.bind_none, bd2_some, lb_eq, and_true, and_false, true_and, false_and, not_true_eq_false, not_false_eq_true, eq_self_iff_true, if_true, if_false, Nat.reduceEqDiff, Nat.reduceAdd, Nat.reduceMul, Nat.reduceSub, Bool.false_eq_true, zl0, zl1, zl2, zl3, zl4, zl5, zl6, zl7, zl8, zl9, zl10, zl11, zl12, zl13, zl14, zl15, zl16, zl17, zl18, zl19, zl20, zl22, zl23, zl24, zl25, zl30, zl31, zl32, zl33, zl34, zl35, zl36, zl37, zl38, zl39, zl40, zl41, zl42, zl43, zl45, zl48, zl49, zl57, zl58, zl59, zl60, zl61, zl62, zl63, zl64, zl91, zl93, zl97, zl98, zl99, zl100, zl113, zl114, zl115, zl116, zl117, zl122, zl124, zl125, zl127, zl128, zl136, zl200, zl201, zl202, zl203, zl204, zl205, zl206, zl207, zl208, zl209, zl210, zl211, zl212, zl213, zl214, zl215, zl216, zl217, zl218, zl219, zl220, zl235, zl236, zl255, zl280, zl287, zl900, zl999, zl1000, zl1001, zl1136, zl1960, zl3000, zl3001, zl3002, zl3003, zl3004, zl3005, zl3006, zl3007, zl3008, zl3009, zl268435456, zl1000000000]), if_neg (by rw [e2]; decide)]
    have lp : ∀ (m q fuel : Nat) (P : PM), TKM b n P → P.1 109 6 = nI p → P.1 109 7 = nI q → q + m = q' → p ≤ q → m < fuel → l_Mo_next_89 fuel P = some (u1 (u1 P 109 7 (nI q')) 109 9 (nI k)) := by
      intro m
      induction m with
      | zero =>
        intro q fuel P hK h6 h7 hm hpq hfu
        obtain ⟨fuel, rfl⟩ : ∃ z, fuel = z + 1 := ⟨fuel - 1, by omega⟩
        obtain rfl : q = q' := by omega
        rw [l_Mo_next_89, tk_id h7, h7, see_M hb hK (by omega), Option.bind_some, small_M hb, t3.2.2.2, if_pos (by rfl), keyAt_M hb t6 (by omega) hK h6 h7, Option.bind_some, t4]
      | succ m ih =>
        intro q fuel P hK h6 h7 hm hpq hfu
        obtain ⟨fuel, rfl⟩ : ∃ z, fuel = z + 1 := ⟨fuel - 1, by omega⟩
        rw [l_Mo_next_89, h7, see_M hb hK (by omega), Option.bind_some, small_M hb, t3.2.2.1 q (by omega) (by omega), if_neg (by decide), z_one]
        rw [ih (q + 1) fuel _ (TKM_f hK (fm_u fm_refl (by omega))) (by rw [u1_1, if_neg (by omega), h6]) (by rw [u1_1, if_pos ⟨rfl, rfl⟩]) (by omega) (by omega) (by omega), tk_uu]
    rw [lp (q' - p) p FU X KX x6 x7 (by omega) (by omega) (by omega)]
    refine ⟨_, rfl, fm_trans fX (fm_u (fm_u fm_refl (by omega)) (by omega)), ?_, ?_, ?_, fun _ => ?_, fun h => ?_⟩
    · rw [u1_1, if_neg (by omega), u1_1, if_neg (by omega), x11]
    · rw [u1_1, if_pos ⟨rfl, rfl⟩]
    · rw [u1_1, if_neg (by omega), u1_1, if_neg (by omega), x6]
    · rw [u1_1, if_neg (by omega), u1_1, if_pos ⟨rfl, rfl⟩]
    · have := (words_kt b p q').2
      rw [t4] at h
      split at h <;> omega
  · have e1 : inx dg b n p = false := by unfold inx; simp [t2]
    have e2 : inx lw b n p = false := by unfold inx; simp [t3]
    rw [if_pos (by simp (disch := omega) only [z_add, z_mul, z_sub, z_subm, z_addm, z_lt_t, z_lt_f, z_le_t, z_le_f, z_eq_t, z_eq_f, z_eqm, z_meq, z_mm, z_ltm, z_mlt, z_lem, z_mle, z_cl, z_ck, u1_1, u1_2, u2_1, u2_2, ↓reduceIte, Option.bind_some, Option.bind_none, bd2_some, lb_eq, and_true, and_false, true_and, false_and, not_true_eq_false, not_false_eq_true, eq_self_iff_true, if_true, if_false, Nat.reduceEqDiff, Nat.reduceAdd, Nat.reduceMul, Nat.reduceSub, Bool.false_eq_true, zl0, zl1, zl2, zl3, zl4, zl5, zl6, zl7, zl8, zl9, zl10, zl11, zl12, zl13, zl14, zl15, zl16, zl17, zl18, zl19, zl20, zl22, zl23, zl24, zl25, zl30, zl31, zl32, zl33, zl34, zl35, zl36, zl37, zl38, zl39, zl40, zl41, zl42, zl43, zl45, zl48, zl49, zl57, zl58, zl59, zl60, zl61, zl62, zl63, zl64, zl91, zl93, zl97, zl98, zl99, zl100, zl113, zl114, zl115, zl116, zl117, zl122, zl124, zl125, zl127, zl128, zl136, zl200, zl201, zl202, zl203, zl204, zl205, zl206, zl207, zl208, zl209, zl210, zl211, zl212, zl213, zl214, zl215, zl216, zl217, zl218, zl219, zl220, zl235, zl236, zl255, zl280, zl287, zl900, zl999, zl1000, zl1001, zl1136, zl1960, zl3000, zl3001, zl3002, zl3003, zl3004, zl3005, zl3006, zl3007, zl3008, zl3009, zl268435456, zl1000000000]), if_pos (by rw [e2]; rfl), if_pos (by rw [e1]; rfl), x7, z_one]
    rw [show (0 : Int32) = nI 0 from rfl, sign_M hb t1 12 0 FU _ (TKM_f KX (fm_u (fm_u fm_refl (by omega)) (by omega))) (by rw [u1_1, if_neg (by omega), u1_1, if_neg (by omega), x6]) (by rw [u1_1, if_pos ⟨rfl, rfl⟩]; rfl) (by omega) (by omega), tk_uu]
    refine ⟨_, rfl, fm_trans fX (fm_u (fm_u fm_refl (by omega)) (by omega)), ?_, ?_, ?_, fun _ => ?_, fun h => ?_⟩
    · rw [u1_1, if_neg (by omega), u1_1, if_neg (by omega), x11]
    · rw [u1_1, if_pos ⟨rfl, rfl⟩, t4]
    · rw [u1_1, if_neg (by omega), u1_1, if_neg (by omega), x6]
    · rw [u1_1, if_neg (by omega), u1_1, if_pos ⟨rfl, rfl⟩]
    · have := sgk_le (b p) 12 (by omega)
      omega
