/-! the laws: what a list of signs tells, on both sides -/
def opc (e : Nat) : Nat := if e = 3000 then 43 else if e = 3001 then 45 else if e = 3002 then 42 else if e = 3003 then 61 else if e = 3004 then 60 else if e = 3005 then 62 else if e = 3006 then 219 else if e = 3007 then 218 else if e = 3008 then 217 else 213
/-- a sign as the class has it; the reference has its number -/
def cc (e : Nat) : Int32 := if e < 1000 then nI e else if e < 3000 then -nI (e - 800) else -nI (opc e)
noncomputable def jn (e : Nat) (x y : Int32) : Int32 := f_Mo_between (nI e) x y (fun _ _ => 0, fun _ _ => 0)
noncomputable def stp (a : Nat → Int32) (e : Nat) (k : List Int32) : List Int32 :=
  if e < 1000 then nI e :: k else if e < 1006 then a (e - 1000) :: k
  else if e = 3006 then (match k with | x :: r => (nI 1 - x) :: r | _ => [])
  else if e = 3009 then (match k with | z :: y :: x :: r => (if x = nI 0 then z else y) :: r | _ => [])
  else (match k with | y :: x :: r => jn e x y :: r | _ => [])
noncomputable def evs (a : Nat → Int32) : List Nat → List Int32 → List Int32
  | [], k => k
  | e :: es, k => evs a es (stp a e k)
/-- which of the values are truths -/
def ct (e : Nat) (ts : List Bool) : Option (List Bool) :=
  if e < 1006 then (if ts.length < 64 then some (false :: ts) else none)
  else if e = 3000 ∨ e = 3001 ∨ e = 3002 then (match ts with | false :: false :: r => some (false :: r) | _ => none)
  else if e = 3003 ∨ e = 3004 ∨ e = 3005 then (match ts with | false :: false :: r => some (true :: r) | _ => none)
  else if e = 3006 then (match ts with | true :: r => some (true :: r) | _ => none)
  else if e = 3007 ∨ e = 3008 then (match ts with | true :: true :: r => some (true :: r) | _ => none)
  else if e = 3009 then (match ts with | false :: false :: true :: r => some (false :: r) | _ => none)
  else none
def cts : List Nat → List Bool → Option (List Bool)
  | [], ts => some ts
  | e :: es, ts => (ct e ts).bind (cts es)
theorem ct_inv {e : Nat} {ts ts' : List Bool} (h : ct e ts = some ts') :
    (e < 1006 ∧ ts.length < 64 ∧ ts' = false :: ts) ∨ ((e = 3000 ∨ e = 3001 ∨ e = 3002) ∧ ∃ r, ts = false :: false :: r ∧ ts' = false :: r) ∨
    ((e = 3003 ∨ e = 3004 ∨ e = 3005) ∧ ∃ r, ts = false :: false :: r ∧ ts' = true :: r) ∨ (e = 3006 ∧ ∃ r, ts = true :: r ∧ ts' = true :: r) ∨
    ((e = 3007 ∨ e = 3008) ∧ ∃ r, ts = true :: true :: r ∧ ts' = true :: r) ∨ (e = 3009 ∧ ∃ r, ts = false :: false :: true :: r ∧ ts' = false :: r) := by
  unfold ct at h
  by_cases h1 : e < 1006
  · rw [if_pos h1] at h
    split at h
    · cases h; exact Or.inl ⟨h1, by assumption, rfl⟩
    · cases h
  rw [if_neg h1] at h
  by_cases h2 : e = 3000 ∨ e = 3001 ∨ e = 3002
  · rw [if_pos h2] at h
    split at h
    · cases h; exact Or.inr (Or.inl ⟨h2, _, rfl, rfl⟩)
    · cases h
  rw [if_neg h2] at h
  by_cases h3 : e = 3003 ∨ e = 3004 ∨ e = 3005
  · rw [if_pos h3] at h
    split at h
    · cases h; exact Or.inr (Or.inr (Or.inl ⟨h3, _, rfl, rfl⟩))
    · cases h
  rw [if_neg h3] at h
  by_cases h4 : e = 3006
  · rw [if_pos h4] at h
    split at h
    · cases h; exact Or.inr (Or.inr (Or.inr (Or.inl ⟨h4, _, rfl, rfl⟩)))
    · cases h
  rw [if_neg h4] at h
  by_cases h5 : e = 3007 ∨ e = 3008
  · rw [if_pos h5] at h
    split at h
    · cases h; exact Or.inr (Or.inr (Or.inr (Or.inr (Or.inl ⟨h5, _, rfl, rfl⟩))))
    · cases h
  rw [if_neg h5] at h
  by_cases h6 : e = 3009
  · rw [if_pos h6] at h
    split at h
    · cases h; exact Or.inr (Or.inr (Or.inr (Or.inr (Or.inr ⟨h6, _, rfl, rfl⟩))))
    · cases h
  rw [if_neg h6] at h
  cases h
/-- a row holds a heap of values, the topmost last -/
def sk (f : Nat → Int32) : List Int32 → Prop
  | [] => True
  | x :: r => f r.length = x ∧ sk f r
def tv : List Int32 → List Bool → Prop
  | [], [] => True
  | x :: k, t :: ts => (t = true → x = nI 0 ∨ x = nI 1) ∧ tv k ts
  | _, _ => False
theorem tv_len : ∀ {k : List Int32} {ts : List Bool}, tv k ts → k.length = ts.length
  | [], [], _ => rfl
  | _ :: _, _ :: _, h => by simp only [List.length_cons]; rw [tv_len h.2]
  | [], _ :: _, h => h.elim
  | _ :: _, [], h => h.elim
theorem tv_c {k : List Int32} {t : Bool} {ts : List Bool} (h : tv k (t :: ts)) : ∃ x r, k = x :: r ∧ (t = true → x = nI 0 ∨ x = nI 1) ∧ tv r ts := by
  cases k with
  | nil => exact h.elim
  | cons x r => exact ⟨x, r, rfl, h.1, h.2⟩
theorem sk_up {f : Nat → Int32} {i : Nat} {v : Int32} : ∀ {k : List Int32}, sk f k → k.length ≤ i → sk (fun b => if b = i then v else f b) k
  | [], _, _ => trivial
  | x :: r, h, hi => by
    refine ⟨?_, sk_up h.2 (by simp only [List.length_cons] at hi; omega)⟩
    simp only [List.length_cons] at hi
    show (if r.length = i then v else f r.length) = x
    rw [if_neg (by omega)]
    exact h.1
theorem sk_ext {f g : Nat → Int32} : ∀ {k : List Int32}, sk f k → (∀ i, i < k.length → g i = f i) → sk g k
  | [], _, _ => trivial
  | x :: r, h, hi => ⟨(hi r.length (by simp)).trans h.1, sk_ext h.2 (fun i q => hi i (by simp only [List.length_cons]; omega))⟩
theorem jn_tt {x y : Int32} (e : Nat) (he : e = 3003 ∨ e = 3004 ∨ e = 3005) : jn e x y = nI 0 ∨ jn e x y = nI 1 := by
  rcases he with rfl | rfl | rfl <;> (simp (disch := omega) only [z_add, z_mul, z_sub, z_subm, z_addm, z_lt_t, z_lt_f, z_le_t, z_le_f, z_eq_t, z_eq_f, z_eqm, z_meq, z_mm, z_ltm, z_mlt, z_lem, z_mle, z_cl, z_ck, u1_1, u1_2, u2_1, u2_2, ↓reduceIte, Option.bind_some, Option.bind_none, bd2_some, lb_eq, and_true, and_false, true_and, false_and, not_true_eq_false, not_false_eq_true, eq_self_iff_true, if_true, if_false, Nat.reduceEqDiff, Nat.reduceAdd, Nat.reduceMul, Nat.reduceSub, Bool.false_eq_true, zl0, zl1, zl2, zl3, zl4, zl5, zl6, zl7, zl8, zl9, zl10, zl11, zl12, zl13, zl14, zl15, zl16, zl17, zl18, zl19, zl20, zl22, zl23, zl24, zl25, zl30, zl31, zl32, zl33, zl34, zl35, zl36, zl37, zl38, zl39, zl40, zl41, zl42, zl43, zl45, zl48, zl49, zl57, zl58, zl59, zl60, zl61, zl62, zl63, zl64, zl91, zl93, zl97, zl98, zl99, zl100, zl113, zl114, zl115, zl116, zl117, zl122, zl124, zl125, zl127, zl128, zl136, zl200, zl201, zl202, zl203, zl204, zl205, zl206, zl207, zl208, zl209, zl210, zl211, zl212, zl213, zl214, zl215, zl216, zl217, zl218, zl219, zl220, zl235, zl236, zl255, zl280, zl287, zl900, zl999, zl1000, zl1001, zl1136, zl1960, zl3000, zl3001, zl3002, zl3003, zl3004, zl3005, zl3006, zl3007, zl3008, zl3009, zl268435456, zl1000000000, jn, f_Mo_between]; split <;> simp)
theorem jn_bb {x y : Int32} (e : Nat) (he : e = 3007 ∨ e = 3008) (hx : x = nI 0 ∨ x = nI 1) (hy : y = nI 0 ∨ y = nI 1) : jn e x y = nI 0 ∨ jn e x y = nI 1 := by
  rcases he with rfl | rfl <;> rcases hx with rfl | rfl <;> rcases hy with rfl | rfl <;> decide +kernel
theorem tv_stp {a : Nat → Int32} {e : Nat} {k : List Int32} {ts ts' : List Bool} (h : tv k ts) (hc : ct e ts = some ts') : tv (stp a e k) ts' := by
  rcases ct_inv hc with ⟨h1, h2, rfl⟩ | ⟨h1, r, rfl, rfl⟩ | ⟨h1, r, rfl, rfl⟩ | ⟨h1, r, rfl, rfl⟩ | ⟨h1, r, rfl, rfl⟩ | ⟨h1, r, rfl, rfl⟩
  · unfold stp
    split
    · exact ⟨by simp, h⟩
    · exact ⟨by simp, h⟩
  · obtain ⟨y, k, rfl, hy, h⟩ := tv_c h
    obtain ⟨x, k, rfl, hx, h⟩ := tv_c h
    rcases h1 with rfl | rfl | rfl <;> exact ⟨by simp, h⟩
  · obtain ⟨y, k, rfl, hy, h⟩ := tv_c h
    obtain ⟨x, k, rfl, hx, h⟩ := tv_c h
    have := @jn_tt x y e h1
    rcases h1 with rfl | rfl | rfl <;> exact ⟨fun _ => this, h⟩
  · subst h1
    obtain ⟨x, k, rfl, hx, h⟩ := tv_c h
    refine ⟨fun _ => ?_, h⟩
    rcases hx rfl with rfl | rfl
    · exact Or.inr rfl
    · exact Or.inl rfl
  · obtain ⟨y, k, rfl, hy, h⟩ := tv_c h
    obtain ⟨x, k, rfl, hx, h⟩ := tv_c h
    have := jn_bb e h1 (hx rfl) (hy rfl)
    rcases h1 with rfl | rfl <;> exact ⟨fun _ => this, h⟩
  · subst h1
    obtain ⟨z, k, rfl, hz, h⟩ := tv_c h
    obtain ⟨y, k, rfl, hy, h⟩ := tv_c h
    obtain ⟨x, k, rfl, hx, h⟩ := tv_c h
    exact ⟨by simp, h⟩
theorem ct_len {e : Nat} {ts ts' : List Bool} (h : ct e ts = some ts') (hl : ts.length ≤ 64) : ts'.length ≤ 64 := by
  rcases ct_inv h with ⟨h1, h2, rfl⟩ | ⟨h1, r, rfl, rfl⟩ | ⟨h1, r, rfl, rfl⟩ | ⟨h1, r, rfl, rfl⟩ | ⟨h1, r, rfl, rfl⟩ | ⟨h1, r, rfl, rfl⟩ <;> simp only [List.length_cons] at * <;> omega
theorem jn_c (e : Nat) (x y : Int32) (P : PM) (h : e = 3000 ∨ e = 3001 ∨ e = 3002 ∨ e = 3003 ∨ e = 3004 ∨ e = 3005 ∨ ((e = 3007 ∨ e = 3008) ∧ (x = nI 0 ∨ x = nI 1) ∧ (y = nI 0 ∨ y = nI 1))) : f_Ne_joined (nI (opc e)) x y P = jn e x y := by
  rcases h with rfl | rfl | rfl | rfl | rfl | rfl | ⟨h, hx, hy⟩
  · simp (disch := omega) only [z_add, z_mul, z_sub, z_subm, z_addm, z_lt_t, z_lt_f, z_le_t, z_le_f, z_eq_t, z_eq_f, z_eqm, z_meq, z_mm, z_ltm, z_mlt, z_lem, z_mle, z_cl, z_ck, u1_1, u1_2, u2_1, u2_2, ↓reduceIte, Option.bind_some, Option.bind_none, bd2_some, lb_eq, and_true, and_false, true_and, false_and, not_true_eq_false, not_false_eq_true, eq_self_iff_true, if_true, if_false, Nat.reduceEqDiff, Nat.reduceAdd, Nat.reduceMul, Nat.reduceSub, Bool.false_eq_true, zl0, zl1, zl2, zl3, zl4, zl5, zl6, zl7, zl8, zl9, zl10, zl11, zl12, zl13, zl14, zl15, zl16, zl17, zl18, zl19, zl20, zl22, zl23, zl24, zl25, zl30, zl31, zl32, zl33, zl34, zl35, zl36, zl37, zl38, zl39, zl40, zl41, zl42, zl43, zl45, zl48, zl49, zl57, zl58, zl59, zl60, zl61, zl62, zl63, zl64, zl91, zl93, zl97, zl98, zl99, zl100, zl113, zl114, zl115, zl116, zl117, zl122, zl124, zl125, zl127, zl128, zl136, zl200, zl201, zl202, zl203, zl204, zl205, zl206, zl207, zl208, zl209, zl210, zl211, zl212, zl213, zl214, zl215, zl216, zl217, zl218, zl219, zl220, zl235, zl236, zl255, zl280, zl287, zl900, zl999, zl1000, zl1001, zl1136, zl1960, zl3000, zl3001, zl3002, zl3003, zl3004, zl3005, zl3006, zl3007, zl3008, zl3009, zl268435456, zl1000000000, jn, f_Ne_joined, f_Mo_between, show opc 3000 = 43 from rfl]; rfl
  · simp (disch := omega) only [z_add, z_mul, z_sub, z_subm, z_addm, z_lt_t, z_lt_f, z_le_t, z_le_f, z_eq_t, z_eq_f, z_eqm, z_meq, z_mm, z_ltm, z_mlt, z_lem, z_mle, z_cl, z_ck, u1_1, u1_2, u2_1, u2_2, ↓reduceIte, Option.bind_some, Option.bind_none, bd2_some, lb_eq, and_true, and_false, true_and, false_and, not_true_eq_false, not_false_eq_true, eq_self_iff_true, if_true, if_false, Nat.reduceEqDiff, Nat.reduceAdd, Nat.reduceMul, Nat.reduceSub, Bool.false_eq_true, zl0, zl1, zl2, zl3, zl4, zl5, zl6, zl7, zl8, zl9, zl10, zl11, zl12, zl13, zl14, zl15, zl16, zl17, zl18, zl19, zl20, zl22, zl23, zl24, zl25, zl30, zl31, zl32, zl33, zl34, zl35, zl36, zl37, zl38, zl39, zl40, zl41, zl42, zl43, zl45, zl48, zl49, zl57, zl58, zl59, zl60, zl61, zl62, zl63, zl64, zl91, zl93, zl97, zl98, zl99, zl100, zl113, zl114, zl115, zl116, zl117, zl122, zl124, zl125, zl127, zl128, zl136, zl200, zl201, zl202, zl203, zl204, zl205, zl206, zl207, zl208, zl209, zl210, zl211, zl212, zl213, zl214, zl215, zl216, zl217, zl218, zl219, zl220, zl235, zl236, zl255, zl280, zl287, zl900, zl999, zl1000, zl1001, zl1136, zl1960, zl3000, zl3001, zl3002, zl3003, zl3004, zl3005, zl3006, zl3007, zl3008, zl3009, zl268435456, zl1000000000, jn, f_Ne_joined, f_Mo_between, show opc 3001 = 45 from rfl]; rfl
  · simp (disch := omega) only [z_add, z_mul, z_sub, z_subm, z_addm, z_lt_t, z_lt_f, z_le_t, z_le_f, z_eq_t, z_eq_f, z_eqm, z_meq, z_mm, z_ltm, z_mlt, z_lem, z_mle, z_cl, z_ck, u1_1, u1_2, u2_1, u2_2, ↓reduceIte, Option.bind_some, Option.bind_none, bd2_some, lb_eq, and_true, and_false, true_and, false_and, not_true_eq_false, not_false_eq_true, eq_self_iff_true, if_true, if_false, Nat.reduceEqDiff, Nat.reduceAdd, Nat.reduceMul, Nat.reduceSub, Bool.false_eq_true, zl0, zl1, zl2, zl3, zl4, zl5, zl6, zl7, zl8, zl9, zl10, zl11, zl12, zl13, zl14, zl15, zl16, zl17, zl18, zl19, zl20, zl22, zl23, zl24, zl25, zl30, zl31, zl32, zl33, zl34, zl35, zl36, zl37, zl38, zl39, zl40, zl41, zl42, zl43, zl45, zl48, zl49, zl57, zl58, zl59, zl60, zl61, zl62, zl63, zl64, zl91, zl93, zl97, zl98, zl99, zl100, zl113, zl114, zl115, zl116, zl117, zl122, zl124, zl125, zl127, zl128, zl136, zl200, zl201, zl202, zl203, zl204, zl205, zl206, zl207, zl208, zl209, zl210, zl211, zl212, zl213, zl214, zl215, zl216, zl217, zl218, zl219, zl220, zl235, zl236, zl255, zl280, zl287, zl900, zl999, zl1000, zl1001, zl1136, zl1960, zl3000, zl3001, zl3002, zl3003, zl3004, zl3005, zl3006, zl3007, zl3008, zl3009, zl268435456, zl1000000000, jn, f_Ne_joined, f_Mo_between, show opc 3002 = 42 from rfl]; rfl
  · simp (disch := omega) only [z_add, z_mul, z_sub, z_subm, z_addm, z_lt_t, z_lt_f, z_le_t, z_le_f, z_eq_t, z_eq_f, z_eqm, z_meq, z_mm, z_ltm, z_mlt, z_lem, z_mle, z_cl, z_ck, u1_1, u1_2, u2_1, u2_2, ↓reduceIte, Option.bind_some, Option.bind_none, bd2_some, lb_eq, and_true, and_false, true_and, false_and, not_true_eq_false, not_false_eq_true, eq_self_iff_true, if_true, if_false, Nat.reduceEqDiff, Nat.reduceAdd, Nat.reduceMul, Nat.reduceSub, Bool.false_eq_true, zl0, zl1, zl2, zl3, zl4, zl5, zl6, zl7, zl8, zl9, zl10, zl11, zl12, zl13, zl14, zl15, zl16, zl17, zl18, zl19, zl20, zl22, zl23, zl24, zl25, zl30, zl31, zl32, zl33, zl34, zl35, zl36, zl37, zl38, zl39, zl40, zl41, zl42, zl43, zl45, zl48, zl49, zl57, zl58, zl59, zl60, zl61, zl62, zl63, zl64, zl91, zl93, zl97, zl98, zl99, zl100, zl113, zl114, zl115, zl116, zl117, zl122, zl124, zl125, zl127, zl128, zl136, zl200, zl201, zl202, zl203, zl204, zl205, zl206, zl207, zl208, zl209, zl210, zl211, zl212, zl213, zl214, zl215, zl216, zl217, zl218, zl219, zl220, zl235, zl236, zl255, zl280, zl287, zl900, zl999, zl1000, zl1001, zl1136, zl1960, zl3000, zl3001, zl3002, zl3003, zl3004, zl3005, zl3006, zl3007, zl3008, zl3009, zl268435456, zl1000000000, jn, f_Ne_joined, f_Mo_between, show opc 3003 = 61 from rfl]
    by_cases c : x = y
    · rw [if_pos c, if_pos c]; (unfold j_Ne_joined_105 j_Ne_joined_150; decide +kernel)
    · rw [if_neg c, if_neg c]; (unfold j_Ne_joined_105 j_Ne_joined_150; decide +kernel)
  · simp (disch := omega) only [z_add, z_mul, z_sub, z_subm, z_addm, z_lt_t, z_lt_f, z_le_t, z_le_f, z_eq_t, z_eq_f, z_eqm, z_meq, z_mm, z_ltm, z_mlt, z_lem, z_mle, z_cl, z_ck, u1_1, u1_2, u2_1, u2_2, ↓reduceIte, Option.bind_some, Option.bind_none, bd2_some, lb_eq, and_true, and_false, true_and, false_and, not_true_eq_false, not_false_eq_true, eq_self_iff_true, if_true, if_false, Nat.reduceEqDiff, Nat.reduceAdd, Nat.reduceMul, Nat.reduceSub, Bool.false_eq_true, zl0, zl1, zl2, zl3, zl4, zl5, zl6, zl7, zl8, zl9, zl10, zl11, zl12, zl13, zl14, zl15, zl16, zl17, zl18, zl19, zl20, zl22, zl23, zl24, zl25, zl30, zl31, zl32, zl33, zl34, zl35, zl36, zl37, zl38, zl39, zl40, zl41, zl42, zl43, zl45, zl48, zl49, zl57, zl58, zl59, zl60, zl61, zl62, zl63, zl64, zl91, zl93, zl97, zl98, zl99, zl100, zl113, zl114, zl115, zl116, zl117, zl122, zl124, zl125, zl127, zl128, zl136, zl200, zl201, zl202, zl203, zl204, zl205, zl206, zl207, zl208, zl209, zl210, zl211, zl212, zl213, zl214, zl215, zl216, zl217, zl218, zl219, zl220, zl235, zl236, zl255, zl280, zl287, zl900, zl999, zl1000, zl1001, zl1136, zl1960, zl3000, zl3001, zl3002, zl3003, zl3004, zl3005, zl3006, zl3007, zl3008, zl3009, zl268435456, zl1000000000, jn, f_Ne_joined, f_Mo_between, show opc 3004 = 60 from rfl]
    by_cases c : y ≤ x
    · rw [if_pos c, if_pos c]; (unfold j_Ne_joined_119 j_Ne_joined_150; decide +kernel)
    · rw [if_neg c, if_neg c]; (unfold j_Ne_joined_119 j_Ne_joined_150; decide +kernel)
  · simp (disch := omega) only [z_add, z_mul, z_sub, z_subm, z_addm, z_lt_t, z_lt_f, z_le_t, z_le_f, z_eq_t, z_eq_f, z_eqm, z_meq, z_mm, z_ltm, z_mlt, z_lem, z_mle, z_cl, z_ck, u1_1, u1_2, u2_1, u2_2, ↓reduceIte, Option.bind_some, Option.bind_none, bd2_some, lb_eq, and_true, and_false, true_and, false_and, not_true_eq_false, not_false_eq_true, eq_self_iff_true, if_true, if_false, Nat.reduceEqDiff, Nat.reduceAdd, Nat.reduceMul, Nat.reduceSub, Bool.false_eq_true, zl0, zl1, zl2, zl3, zl4, zl5, zl6, zl7, zl8, zl9, zl10, zl11, zl12, zl13, zl14, zl15, zl16, zl17, zl18, zl19, zl20, zl22, zl23, zl24, zl25, zl30, zl31, zl32, zl33, zl34, zl35, zl36, zl37, zl38, zl39, zl40, zl41, zl42, zl43, zl45, zl48, zl49, zl57, zl58, zl59, zl60, zl61, zl62, zl63, zl64, zl91, zl93, zl97, zl98, zl99, zl100, zl113, zl114, zl115, zl116, zl117, zl122, zl124, zl125, zl127, zl128, zl136, zl200, zl201, zl202, zl203, zl204, zl205, zl206, zl207, zl208, zl209, zl210, zl211, zl212, zl213, zl214, zl215, zl216, zl217, zl218, zl219, zl220, zl235, zl236, zl255, zl280, zl287, zl900, zl999, zl1000, zl1001, zl1136, zl1960, zl3000, zl3001, zl3002, zl3003, zl3004, zl3005, zl3006, zl3007, zl3008, zl3009, zl268435456, zl1000000000, jn, f_Ne_joined, f_Mo_between, show opc 3005 = 62 from rfl]
    by_cases c : x ≤ y
    · rw [if_pos c, if_pos c]; (unfold j_Ne_joined_133 j_Ne_joined_150; decide +kernel)
    · rw [if_neg c, if_neg c]; (unfold j_Ne_joined_133 j_Ne_joined_150; decide +kernel)
  · rcases h with rfl | rfl <;> rcases hx with rfl | rfl <;> rcases hy with rfl | rfl <;> (unfold f_Ne_joined j_Ne_joined_105 j_Ne_joined_119 j_Ne_joined_133 j_Ne_joined_150; decide +kernel)
theorem sm_one {P : PM} {o i : Nat} {v : Int32} : sm (fun q => q == o) P (u1 P o i v) := sm_u1 sm_refl (by simp)
theorem val_loop (b : Nat) (a : Nat → Int32) : ∀ (es : List Nat) (n i : Nat) (k : List Int32) (ts ts' : List Bool) (P : PM),
    es.length < n → i + es.length ≤ 900 → (∀ j, j < es.length → P.1 (b + 4) (i + j) = cc (es.getD j 0)) → (∀ j, j < 6 → P.1 (b + 5) j = a j) →
    sk (P.1 (b + 6)) k → tv k ts → cts es ts = some ts' → ts' ≠ [] → ts.length ≤ 64 →
    ∃ P', l_Ne_valueOf_5 b n (nI (i + es.length)) (nI k.length) (nI i) P = some ((evs a es k).headD 0, P') ∧ sm (fun o => o == b + 6) P P' := by
  intro es
  induction es with
  | nil =>
    intro n i k ts ts' P hn hi hc ha hk ht hts hne hkl
    obtain ⟨n, rfl⟩ : ∃ m, n = m + 1 := ⟨n - 1, by simp only [List.length_nil] at hn; omega⟩
    have hts2 : ts = ts' := by simpa [cts] using hts
    subst hts2
    obtain ⟨t, ts, rfl⟩ : ∃ t r, ts = t :: r := by cases ts with | nil => exact absurd rfl hne | cons t r => exact ⟨t, r, rfl⟩
    obtain ⟨x, k, rfl, hx, ht⟩ := tv_c ht
    have hl := tv_len ht
    simp only [List.length_cons, List.length_nil] at *
    refine ⟨P, ?_, sm_refl⟩
    simp (disch := omega) only [z_add, z_mul, z_sub, z_subm, z_addm, z_lt_t, z_lt_f, z_le_t, z_le_f, z_eq_t, z_eq_f, z_eqm, z_meq, z_mm, z_ltm, z_mlt, z_lem, z_mle, z_cl, z_ck, u1_1, u1_2, u2_1, u2_2, ↓reduceIte, Option.bind_some, Option.bind_none, bd2_some, lb_eq, and_true, and_false, true_and, false_and, not_true_eq_false, not_false_eq_true, eq_self_iff_true, if_true, if_false, Nat.reduceEqDiff, Nat.reduceAdd, Nat.reduceMul, Nat.reduceSub, Bool.false_eq_true, zl0, zl1, zl2, zl3, zl4, zl5, zl6, zl7, zl8, zl9, zl10, zl11, zl12, zl13, zl14, zl15, zl16, zl17, zl18, zl19, zl20, zl22, zl23, zl24, zl25, zl30, zl31, zl32, zl33, zl34, zl35, zl36, zl37, zl38, zl39, zl40, zl41, zl42, zl43, zl45, zl48, zl49, zl57, zl58, zl59, zl60, zl61, zl62, zl63, zl64, zl91, zl93, zl97, zl98, zl99, zl100, zl113, zl114, zl115, zl116, zl117, zl122, zl124, zl125, zl127, zl128, zl136, zl200, zl201, zl202, zl203, zl204, zl205, zl206, zl207, zl208, zl209, zl210, zl211, zl212, zl213, zl214, zl215, zl216, zl217, zl218, zl219, zl220, zl235, zl236, zl255, zl280, zl287, zl900, zl999, zl1000, zl1001, zl1136, zl1960, zl3000, zl3001, zl3002, zl3003, zl3004, zl3005, zl3006, zl3007, zl3008, zl3009, zl268435456, zl1000000000, l_Ne_valueOf_5, j_Ne_valueOf_216, Nat.add_zero, Nat.add_sub_cancel]
    rw [hk.1]
    rfl
  | cons e es ih =>
    intro n i k ts ts' P hn hi hc ha hk ht hts hne hkl
    obtain ⟨n, rfl⟩ : ∃ m, n = m + 1 := ⟨n - 1, by omega⟩
    simp only [List.length_cons] at hn hi hc ⊢
    have hc0 : P.1 (b + 4) i = cc e := by simpa using hc 0 (by omega)
    obtain ⟨t1, hc1, hts⟩ : ∃ t1, ct e ts = some t1 ∧ cts es t1 = some ts' := by
      rw [cts] at hts
      exact Option.bind_eq_some_iff.mp hts
    have htv := tv_stp (a := a) ht hc1
    have hlen := tv_len ht
    have key : ∀ (m : Nat) (v : Int32) (L : Nat), L = (stp a e k).length → sk (fun j => if j = m then v else P.1 (b + 6) j) (stp a e k) → ∃ P', l_Ne_valueOf_5 b n (nI (i + (es.length + 1))) (nI L) (nI (i + 1)) (u1 P (b + 6) m v) = some ((evs a es (stp a e k)).headD 0, P') ∧ sm (fun o => o == b + 6) P P' := by
      intro m v L hL hs
      obtain ⟨P', h1, h2⟩ := ih n (i + 1) (stp a e k) t1 ts' (u1 P (b + 6) m v) (by omega) (by omega) (fun j hj => by
        have := hc (j + 1) (by omega)
        rw [List.getD_cons_succ] at this
        rw [u1_1, if_neg (by omega), show i + 1 + j = i + (j + 1) by omega]
        exact this) (fun j hj => by
        rw [u1_1, if_neg (by omega)]
        exact ha j hj) (sk_ext hs (fun j _ => by simp (disch := omega) only [z_add, z_mul, z_sub, z_subm, z_addm, z_lt_t, z_lt_f, z_le_t, z_le_f, z_eq_t, z_eq_f, z_eqm, z_meq, z_mm, z_ltm, z_mlt, z_lem, z_mle, z_cl, z_ck, u1_1, u1_2, u2_1, u2_2, ↓reduceIte, Option.bind_some, Option.bind_none, bd2_some, lb_eq, and_true, and_false, true_and, false_and, not_true_eq_false, not_false_eq_true, eq_self_iff_true, if_true, if_false, Nat.reduceEqDiff, Nat.reduceAdd, Nat.reduceMul, Nat.reduceSub, Bool.false_eq_true, zl0, zl1, zl2, zl3, zl4, zl5, zl6, zl7, zl8, zl9, zl10, zl11, zl12, zl13, zl14, zl15, zl16, zl17, zl18, zl19, zl20, zl22, zl23, zl24, zl25, zl30, zl31, zl32, zl33, zl34, zl35, zl36, zl37, zl38, zl39, zl40, zl41, zl42, zl43, zl45, zl48, zl49, zl57, zl58, zl59, zl60, zl61, zl62, zl63, zl64, zl91, zl93, zl97, zl98, zl99, zl100, zl113, zl114, zl115, zl116, zl117, zl122, zl124, zl125, zl127, zl128, zl136, zl200, zl201, zl202, zl203, zl204, zl205, zl206, zl207, zl208, zl209, zl210, zl211, zl212, zl213, zl214, zl215, zl216, zl217, zl218, zl219, zl220, zl235, zl236, zl255, zl280, zl287, zl900, zl999, zl1000, zl1001, zl1136, zl1960, zl3000, zl3001, zl3002, zl3003, zl3004, zl3005, zl3006, zl3007, zl3008, zl3009, zl268435456, zl1000000000])) htv hts hne (ct_len hc1 hkl)
      refine ⟨P', ?_, sm_trans sm_one h2⟩
      rw [hL, show i + (es.length + 1) = i + 1 + es.length by omega]
      exact h1
    rw [show evs a (e :: es) k = evs a es (stp a e k) from rfl]
    rcases ct_inv hc1 with ⟨h1, h2, rfl⟩ | ⟨h1, r, rfl, rfl⟩ | ⟨h1, r, rfl, rfl⟩ | ⟨h1, r, rfl, rfl⟩ | ⟨h1, r, rfl, rfl⟩ | ⟨h1, r, rfl, rfl⟩
    · by_cases h3 : e < 1000
      · have hcc : cc e = nI e := if_pos h3
        have hst : stp a e k = nI e :: k := if_pos h3
        simp (disch := omega) only [z_add, z_mul, z_sub, z_subm, z_addm, z_lt_t, z_lt_f, z_le_t, z_le_f, z_eq_t, z_eq_f, z_eqm, z_meq, z_mm, z_ltm, z_mlt, z_lem, z_mle, z_cl, z_ck, u1_1, u1_2, u2_1, u2_2, ↓reduceIte, Option.bind_some, Option.bind_none, bd2_some, lb_eq, and_true, and_false, true_and, false_and, not_true_eq_false, not_false_eq_true, eq_self_iff_true, if_true, if_false, Nat.reduceEqDiff, Nat.reduceAdd, Nat.reduceMul, Nat.reduceSub, Bool.false_eq_true, zl0, zl1, zl2, zl3, zl4, zl5, zl6, zl7, zl8, zl9, zl10, zl11, zl12, zl13, zl14, zl15, zl16, zl17, zl18, zl19, zl20, zl22, zl23, zl24, zl25, zl30, zl31, zl32, zl33, zl34, zl35, zl36, zl37, zl38, zl39, zl40, zl41, zl42, zl43, zl45, zl48, zl49, zl57, zl58, zl59, zl60, zl61, zl62, zl63, zl64, zl91, zl93, zl97, zl98, zl99, zl100, zl113, zl114, zl115, zl116, zl117, zl122, zl124, zl125, zl127, zl128, zl136, zl200, zl201, zl202, zl203, zl204, zl205, zl206, zl207, zl208, zl209, zl210, zl211, zl212, zl213, zl214, zl215, zl216, zl217, zl218, zl219, zl220, zl235, zl236, zl255, zl280, zl287, zl900, zl999, zl1000, zl1001, zl1136, zl1960, zl3000, zl3001, zl3002, zl3003, zl3004, zl3005, zl3006, zl3007, zl3008, zl3009, zl268435456, zl1000000000, l_Ne_valueOf_5, hc0, hcc, f_Ne_isValue, j_Ne_isValue_20, j_Ne_valueOf_50, j_Ne_valueOf_81, j_Ne_valueOf_210, Nat.add_sub_cancel]
        refine key _ _ _ (by rw [hst]; rfl) ?_
        rw [hst]
        exact ⟨by simp, sk_up hk (Nat.le_refl _)⟩
      · have hcc : cc e = -nI (e - 800) := by unfold cc; rw [if_neg h3, if_pos (by omega)]
        have hst : stp a e k = a (e - 1000) :: k := by unfold stp; rw [if_neg h3, if_pos h1]
        simp (disch := omega) only [z_add, z_mul, z_sub, z_subm, z_addm, z_lt_t, z_lt_f, z_le_t, z_le_f, z_eq_t, z_eq_f, z_eqm, z_meq, z_mm, z_ltm, z_mlt, z_lem, z_mle, z_cl, z_ck, u1_1, u1_2, u2_1, u2_2, ↓reduceIte, Option.bind_some, Option.bind_none, bd2_some, lb_eq, and_true, and_false, true_and, false_and, not_true_eq_false, not_false_eq_true, eq_self_iff_true, if_true, if_false, Nat.reduceEqDiff, Nat.reduceAdd, Nat.reduceMul, Nat.reduceSub, Bool.false_eq_true, zl0, zl1, zl2, zl3, zl4, zl5, zl6, zl7, zl8, zl9, zl10, zl11, zl12, zl13, zl14, zl15, zl16, zl17, zl18, zl19, zl20, zl22, zl23, zl24, zl25, zl30, zl31, zl32, zl33, zl34, zl35, zl36, zl37, zl38, zl39, zl40, zl41, zl42, zl43, zl45, zl48, zl49, zl57, zl58, zl59, zl60, zl61, zl62, zl63, zl64, zl91, zl93, zl97, zl98, zl99, zl100, zl113, zl114, zl115, zl116, zl117, zl122, zl124, zl125, zl127, zl128, zl136, zl200, zl201, zl202, zl203, zl204, zl205, zl206, zl207, zl208, zl209, zl210, zl211, zl212, zl213, zl214, zl215, zl216, zl217, zl218, zl219, zl220, zl235, zl236, zl255, zl280, zl287, zl900, zl999, zl1000, zl1001, zl1136, zl1960, zl3000, zl3001, zl3002, zl3003, zl3004, zl3005, zl3006, zl3007, zl3008, zl3009, zl268435456, zl1000000000, l_Ne_valueOf_5, hc0, hcc, f_Ne_isValue, j_Ne_isValue_20, j_Ne_valueOf_50, j_Ne_valueOf_81, j_Ne_valueOf_210, Nat.add_sub_cancel, Int32.neg_neg]
        refine key _ _ _ (by rw [hst]; rfl) ?_
        rw [hst]
        refine ⟨?_, sk_up hk (Nat.le_refl _)⟩
        simp only [↓reduceIte, Nat.sub_sub]
        exact ha _ (by omega)
    · obtain ⟨y, k, rfl, hy, ht⟩ := tv_c ht
      obtain ⟨x, k, rfl, hx, ht⟩ := tv_c ht
      simp only [List.length_cons] at *
      have hst : stp a e (y :: x :: k) = jn e x y :: k := by rcases h1 with rfl | rfl | rfl <;> rfl
      have hcc : cc e = -nI (opc e) := by rcases h1 with rfl | rfl | rfl <;> rfl
      have ho : opc e = 43 ∨ opc e = 45 ∨ opc e = 42 := by rcases h1 with rfl | rfl | rfl <;> decide
      rw [hst] at key
      simp (disch := omega) only [z_add, z_mul, z_sub, z_subm, z_addm, z_lt_t, z_lt_f, z_le_t, z_le_f, z_eq_t, z_eq_f, z_eqm, z_meq, z_mm, z_ltm, z_mlt, z_lem, z_mle, z_cl, z_ck, u1_1, u1_2, u2_1, u2_2, ↓reduceIte, Option.bind_some, Option.bind_none, bd2_some, lb_eq, and_true, and_false, true_and, false_and, not_true_eq_false, not_false_eq_true, eq_self_iff_true, if_true, if_false, Nat.reduceEqDiff, Nat.reduceAdd, Nat.reduceMul, Nat.reduceSub, Bool.false_eq_true, zl0, zl1, zl2, zl3, zl4, zl5, zl6, zl7, zl8, zl9, zl10, zl11, zl12, zl13, zl14, zl15, zl16, zl17, zl18, zl19, zl20, zl22, zl23, zl24, zl25, zl30, zl31, zl32, zl33, zl34, zl35, zl36, zl37, zl38, zl39, zl40, zl41, zl42, zl43, zl45, zl48, zl49, zl57, zl58, zl59, zl60, zl61, zl62, zl63, zl64, zl91, zl93, zl97, zl98, zl99, zl100, zl113, zl114, zl115, zl116, zl117, zl122, zl124, zl125, zl127, zl128, zl136, zl200, zl201, zl202, zl203, zl204, zl205, zl206, zl207, zl208, zl209, zl210, zl211, zl212, zl213, zl214, zl215, zl216, zl217, zl218, zl219, zl220, zl235, zl236, zl255, zl280, zl287, zl900, zl999, zl1000, zl1001, zl1136, zl1960, zl3000, zl3001, zl3002, zl3003, zl3004, zl3005, zl3006, zl3007, zl3008, zl3009, zl268435456, zl1000000000, l_Ne_valueOf_5, hc0, hcc, f_Ne_isValue, j_Ne_isValue_20, j_Ne_isValue_24, j_Ne_valueOf_119, j_Ne_valueOf_174, j_Ne_valueOf_210, Nat.add_sub_cancel, Int32.neg_neg]
      rw [hst]
      have e1 := hk.1
      have e2 := hk.2.1
      simp only [List.length_cons] at e1
      rw [e1, e2, jn_c e x y P (by omega)]
      exact key _ _ _ (by simp) ⟨by simp, sk_up hk.2.2 (Nat.le_refl _)⟩
    · obtain ⟨y, k, rfl, hy, ht⟩ := tv_c ht
      obtain ⟨x, k, rfl, hx, ht⟩ := tv_c ht
      simp only [List.length_cons] at *
      have hst : stp a e (y :: x :: k) = jn e x y :: k := by rcases h1 with rfl | rfl | rfl <;> rfl
      have hcc : cc e = -nI (opc e) := by rcases h1 with rfl | rfl | rfl <;> rfl
      have ho : opc e = 61 ∨ opc e = 60 ∨ opc e = 62 := by rcases h1 with rfl | rfl | rfl <;> decide
      rw [hst] at key
      simp (disch := omega) only [z_add, z_mul, z_sub, z_subm, z_addm, z_lt_t, z_lt_f, z_le_t, z_le_f, z_eq_t, z_eq_f, z_eqm, z_meq, z_mm, z_ltm, z_mlt, z_lem, z_mle, z_cl, z_ck, u1_1, u1_2, u2_1, u2_2, ↓reduceIte, Option.bind_some, Option.bind_none, bd2_some, lb_eq, and_true, and_false, true_and, false_and, not_true_eq_false, not_false_eq_true, eq_self_iff_true, if_true, if_false, Nat.reduceEqDiff, Nat.reduceAdd, Nat.reduceMul, Nat.reduceSub, Bool.false_eq_true, zl0, zl1, zl2, zl3, zl4, zl5, zl6, zl7, zl8, zl9, zl10, zl11, zl12, zl13, zl14, zl15, zl16, zl17, zl18, zl19, zl20, zl22, zl23, zl24, zl25, zl30, zl31, zl32, zl33, zl34, zl35, zl36, zl37, zl38, zl39, zl40, zl41, zl42, zl43, zl45, zl48, zl49, zl57, zl58, zl59, zl60, zl61, zl62, zl63, zl64, zl91, zl93, zl97, zl98, zl99, zl100, zl113, zl114, zl115, zl116, zl117, zl122, zl124, zl125, zl127, zl128, zl136, zl200, zl201, zl202, zl203, zl204, zl205, zl206, zl207, zl208, zl209, zl210, zl211, zl212, zl213, zl214, zl215, zl216, zl217, zl218, zl219, zl220, zl235, zl236, zl255, zl280, zl287, zl900, zl999, zl1000, zl1001, zl1136, zl1960, zl3000, zl3001, zl3002, zl3003, zl3004, zl3005, zl3006, zl3007, zl3008, zl3009, zl268435456, zl1000000000, l_Ne_valueOf_5, hc0, hcc, f_Ne_isValue, j_Ne_isValue_20, j_Ne_isValue_24, j_Ne_valueOf_119, j_Ne_valueOf_174, j_Ne_valueOf_210, Nat.add_sub_cancel, Int32.neg_neg]
      rw [hst]
      have e1 := hk.1
      have e2 := hk.2.1
      simp only [List.length_cons] at e1
      rw [e1, e2, jn_c e x y P (by omega)]
      exact key _ _ _ (by simp) ⟨by simp, sk_up hk.2.2 (Nat.le_refl _)⟩
    · subst h1
      obtain ⟨x, k, rfl, hx, ht⟩ := tv_c ht
      simp only [List.length_cons] at *
      have hst : stp a 3006 (x :: k) = (nI 1 - x) :: k := rfl
      have hcc : cc 3006 = -nI 219 := rfl
      rw [hst] at key
      simp (disch := omega) only [z_add, z_mul, z_sub, z_subm, z_addm, z_lt_t, z_lt_f, z_le_t, z_le_f, z_eq_t, z_eq_f, z_eqm, z_meq, z_mm, z_ltm, z_mlt, z_lem, z_mle, z_cl, z_ck, u1_1, u1_2, u2_1, u2_2, ↓reduceIte, Option.bind_some, Option.bind_none, bd2_some, lb_eq, and_true, and_false, true_and, false_and, not_true_eq_false, not_false_eq_true, eq_self_iff_true, if_true, if_false, Nat.reduceEqDiff, Nat.reduceAdd, Nat.reduceMul, Nat.reduceSub, Bool.false_eq_true, zl0, zl1, zl2, zl3, zl4, zl5, zl6, zl7, zl8, zl9, zl10, zl11, zl12, zl13, zl14, zl15, zl16, zl17, zl18, zl19, zl20, zl22, zl23, zl24, zl25, zl30, zl31, zl32, zl33, zl34, zl35, zl36, zl37, zl38, zl39, zl40, zl41, zl42, zl43, zl45, zl48, zl49, zl57, zl58, zl59, zl60, zl61, zl62, zl63, zl64, zl91, zl93, zl97, zl98, zl99, zl100, zl113, zl114, zl115, zl116, zl117, zl122, zl124, zl125, zl127, zl128, zl136, zl200, zl201, zl202, zl203, zl204, zl205, zl206, zl207, zl208, zl209, zl210, zl211, zl212, zl213, zl214, zl215, zl216, zl217, zl218, zl219, zl220, zl235, zl236, zl255, zl280, zl287, zl900, zl999, zl1000, zl1001, zl1136, zl1960, zl3000, zl3001, zl3002, zl3003, zl3004, zl3005, zl3006, zl3007, zl3008, zl3009, zl268435456, zl1000000000, l_Ne_valueOf_5, hc0, hcc, f_Ne_isValue, j_Ne_isValue_20, j_Ne_isValue_24, j_Ne_valueOf_210, Nat.add_sub_cancel, Int32.neg_neg]
      rw [hst, hk.1]
      exact key _ _ _ (by simp) ⟨by simp, sk_up hk.2 (Nat.le_refl _)⟩
    · obtain ⟨y, k, rfl, hy, ht⟩ := tv_c ht
      obtain ⟨x, k, rfl, hx, ht⟩ := tv_c ht
      simp only [List.length_cons] at *
      have hst : stp a e (y :: x :: k) = jn e x y :: k := by rcases h1 with rfl | rfl <;> rfl
      have hcc : cc e = -nI (opc e) := by rcases h1 with rfl | rfl <;> rfl
      have ho : opc e = 218 ∨ opc e = 217 := by rcases h1 with rfl | rfl <;> decide
      rw [hst] at key
      simp (disch := omega) only [z_add, z_mul, z_sub, z_subm, z_addm, z_lt_t, z_lt_f, z_le_t, z_le_f, z_eq_t, z_eq_f, z_eqm, z_meq, z_mm, z_ltm, z_mlt, z_lem, z_mle, z_cl, z_ck, u1_1, u1_2, u2_1, u2_2, ↓reduceIte, Option.bind_some, Option.bind_none, bd2_some, lb_eq, and_true, and_false, true_and, false_and, not_true_eq_false, not_false_eq_true, eq_self_iff_true, if_true, if_false, Nat.reduceEqDiff, Nat.reduceAdd, Nat.reduceMul, Nat.reduceSub, Bool.false_eq_true, zl0, zl1, zl2, zl3, zl4, zl5, zl6, zl7, zl8, zl9, zl10, zl11, zl12, zl13, zl14, zl15, zl16, zl17, zl18, zl19, zl20, zl22, zl23, zl24, zl25, zl30, zl31, zl32, zl33, zl34, zl35, zl36, zl37, zl38, zl39, zl40, zl41, zl42, zl43, zl45, zl48, zl49, zl57, zl58, zl59, zl60, zl61, zl62, zl63, zl64, zl91, zl93, zl97, zl98, zl99, zl100, zl113, zl114, zl115, zl116, zl117, zl122, zl124, zl125, zl127, zl128, zl136, zl200, zl201, zl202, zl203, zl204, zl205, zl206, zl207, zl208, zl209, zl210, zl211, zl212, zl213, zl214, zl215, zl216, zl217, zl218, zl219, zl220, zl235, zl236, zl255, zl280, zl287, zl900, zl999, zl1000, zl1001, zl1136, zl1960, zl3000, zl3001, zl3002, zl3003, zl3004, zl3005, zl3006, zl3007, zl3008, zl3009, zl268435456, zl1000000000, l_Ne_valueOf_5, hc0, hcc, f_Ne_isValue, j_Ne_isValue_20, j_Ne_isValue_24, j_Ne_valueOf_119, j_Ne_valueOf_174, j_Ne_valueOf_210, Nat.add_sub_cancel, Int32.neg_neg]
      rw [hst]
      have e1 := hk.1
      have e2 := hk.2.1
      simp only [List.length_cons] at e1
      rw [e1, e2, jn_c e x y P (Or.inr (Or.inr (Or.inr (Or.inr (Or.inr (Or.inr ⟨h1, hx trivial, hy trivial⟩))))))]
      exact key _ _ _ (by simp) ⟨by simp, sk_up hk.2.2 (Nat.le_refl _)⟩
    · subst h1
      obtain ⟨z, k, rfl, hz, ht⟩ := tv_c ht
      obtain ⟨y, k, rfl, hy, ht⟩ := tv_c ht
      obtain ⟨x, k, rfl, hx, ht⟩ := tv_c ht
      simp only [List.length_cons] at *
      have hst : stp a 3009 (z :: y :: x :: k) = (if x = nI 0 then z else y) :: k := rfl
      have hcc : cc 3009 = -nI 213 := rfl
      rw [hst] at key
      have e1 := hk.1
      have e2 := hk.2.1
      have e3 := hk.2.2.1
      simp only [List.length_cons] at e1 e2
      rcases hx trivial with rfl | rfl
      · simp (disch := omega) only [z_add, z_mul, z_sub, z_subm, z_addm, z_lt_t, z_lt_f, z_le_t, z_le_f, z_eq_t, z_eq_f, z_eqm, z_meq, z_mm, z_ltm, z_mlt, z_lem, z_mle, z_cl, z_ck, u1_1, u1_2, u2_1, u2_2, ↓reduceIte, Option.bind_some, Option.bind_none, bd2_some, lb_eq, and_true, and_false, true_and, false_and, not_true_eq_false, not_false_eq_true, eq_self_iff_true, if_true, if_false, Nat.reduceEqDiff, Nat.reduceAdd, Nat.reduceMul, Nat.reduceSub, Bool.false_eq_true, zl0, zl1, zl2, zl3, zl4, zl5, zl6, zl7, zl8, zl9, zl10, zl11, zl12, zl13, zl14, zl15, zl16, zl17, zl18, zl19, zl20, zl22, zl23, zl24, zl25, zl30, zl31, zl32, zl33, zl34, zl35, zl36, zl37, zl38, zl39, zl40, zl41, zl42, zl43, zl45, zl48, zl49, zl57, zl58, zl59, zl60, zl61, zl62, zl63, zl64, zl91, zl93, zl97, zl98, zl99, zl100, zl113, zl114, zl115, zl116, zl117, zl122, zl124, zl125, zl127, zl128, zl136, zl200, zl201, zl202, zl203, zl204, zl205, zl206, zl207, zl208, zl209, zl210, zl211, zl212, zl213, zl214, zl215, zl216, zl217, zl218, zl219, zl220, zl235, zl236, zl255, zl280, zl287, zl900, zl999, zl1000, zl1001, zl1136, zl1960, zl3000, zl3001, zl3002, zl3003, zl3004, zl3005, zl3006, zl3007, zl3008, zl3009, zl268435456, zl1000000000, l_Ne_valueOf_5, hc0, hcc, f_Ne_isValue, j_Ne_isValue_20, j_Ne_isValue_24, j_Ne_valueOf_119, j_Ne_valueOf_170, j_Ne_valueOf_210, Nat.add_sub_cancel, Int32.neg_neg, e1, e2, e3, show k.length + 1 + 1 + 1 - 2 = k.length + 1 by omega]
        rw [hst]
        refine key _ _ _ (by simp) ?_
        exact ⟨by simp, sk_up hk.2.2.2 (Nat.le_refl _)⟩
      · simp (disch := omega) only [z_add, z_mul, z_sub, z_subm, z_addm, z_lt_t, z_lt_f, z_le_t, z_le_f, z_eq_t, z_eq_f, z_eqm, z_meq, z_mm, z_ltm, z_mlt, z_lem, z_mle, z_cl, z_ck, u1_1, u1_2, u2_1, u2_2, ↓reduceIte, Option.bind_some, Option.bind_none, bd2_some, lb_eq, and_true, and_false, true_and, false_and, not_true_eq_false, not_false_eq_true, eq_self_iff_true, if_true, if_false, Nat.reduceEqDiff, Nat.reduceAdd, Nat.reduceMul, Nat.reduceSub, Bool.false_eq_true, zl0, zl1, zl2, zl3, zl4, zl5, zl6, zl7, zl8, zl9, zl10, zl11, zl12, zl13, zl14, zl15, zl16, zl17, zl18, zl19, zl20, zl22, zl23, zl24, zl25, zl30, zl31, zl32, zl33, zl34, zl35, zl36, zl37, zl38, zl39, zl40, zl41, zl42, zl43, zl45, zl48, zl49, zl57, zl58, zl59, zl60, zl61, zl62, zl63, zl64, zl91, zl93, zl97, zl98, zl99, zl100, zl113, zl114, zl115, zl116, zl117, zl122, zl124, zl125, zl127, zl128, zl136, zl200, zl201, zl202, zl203, zl204, zl205, zl206, zl207, zl208, zl209, zl210, zl211, zl212, zl213, zl214, zl215, zl216, zl217, zl218, zl219, zl220, zl235, zl236, zl255, zl280, zl287, zl900, zl999, zl1000, zl1001, zl1136, zl1960, zl3000, zl3001, zl3002, zl3003, zl3004, zl3005, zl3006, zl3007, zl3008, zl3009, zl268435456, zl1000000000, l_Ne_valueOf_5, hc0, hcc, f_Ne_isValue, j_Ne_isValue_20, j_Ne_isValue_24, j_Ne_valueOf_119, j_Ne_valueOf_170, j_Ne_valueOf_210, Nat.add_sub_cancel, Int32.neg_neg, e1, e2, e3, show k.length + 1 + 1 + 1 - 2 = k.length + 1 by omega]
        rw [hst]
        refine key _ _ _ (by simp) ?_
        exact ⟨by simp; intro h; exact absurd h (by decide), sk_up hk.2.2.2 (Nat.le_refl _)⟩
