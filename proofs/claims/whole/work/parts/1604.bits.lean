/-! bits of small numbers; pictures of nets and states on both sides -/
theorem nx_and (a b : Nat) : nI a &&& nI b = nI (a &&& b) := by
  apply Int32.toBitVec_inj.1
  show BitVec.ofNat 32 a &&& BitVec.ofNat 32 b = BitVec.ofNat 32 (a &&& b)
  apply BitVec.eq_of_getLsbD_eq
  intro i hi
  simp [hi]
theorem nx_or (a b : Nat) : nI a ||| nI b = nI (a ||| b) := by
  apply Int32.toBitVec_inj.1
  show BitVec.ofNat 32 a ||| BitVec.ofNat 32 b = BitVec.ofNat 32 (a ||| b)
  apply BitVec.eq_of_getLsbD_eq
  intro i hi
  simp [hi]
theorem nx_xor (a b : Nat) : nI a ^^^ nI b = nI (a ^^^ b) := by
  apply Int32.toBitVec_inj.1
  show BitVec.ofNat 32 a ^^^ BitVec.ofNat 32 b = BitVec.ofNat 32 (a ^^^ b)
  apply BitVec.eq_of_getLsbD_eq
  intro i hi
  simp [hi]
theorem nx_ush : ∀ j, j < 32 → (((nI j).toUInt32 &&& Int32.toUInt32 31).toBitVec % 32).toNat = j := by decide +kernel
theorem nx_shr {k j : Nat} (hk : k < 2147483648) (hj : j < 32) : ((nI k).toUInt32 >>> ((nI j).toUInt32 &&& Int32.toUInt32 31)).toInt32 = nI (k / 2 ^ j) := pk_ushrN (by omega) (nI j) j (nx_ush j hj)
theorem tb_div (k j : Nat) : k / 2 ^ j % 2 = if k.testBit j = true then 1 else 0 := by
  rw [Nat.testBit_eq_decide_div_mod_eq]
  by_cases h : k / 2 ^ j % 2 = 1
  · simp [h]
  · simp [h]; omega
theorem has_n {k j : Nat} (hk : k < 2147483648) (hj : j < 32) (P : PM) : f_Yr_has (nI k) (nI j) P = nI (if k.testBit j = true then 1 else 0) := by
  unfold f_Yr_has
  rw [nx_shr hk hj, show (1 : Int32) = nI 1 from rfl, nx_and, Nat.and_one_is_mod, tb_div]
  split <;> simp (disch := omega) only [z_add, z_mul, z_sub, z_subm, z_addm, z_lt_t, z_lt_f, z_le_t, z_le_f, z_eq_t, z_eq_f, z_eqm, z_meq, z_mm, z_ltm, z_mlt, z_lem, z_mle, z_cl, z_ck, u1_1, u1_2, u2_1, u2_2, ↓reduceIte, Option.bind_some, Option.bind_none, bd2_some, lb_eq, and_true, and_false, true_and, false_and, not_true_eq_false, not_false_eq_true, eq_self_iff_true, if_true, if_false, Nat.reduceEqDiff, Nat.reduceAdd, Nat.reduceMul, Nat.reduceSub, Bool.false_eq_true, zl0, zl1, zl2, zl3, zl4, zl5, zl6, zl7, zl8, zl9, zl10, zl11, zl12, zl13, zl14, zl15, zl16, zl17, zl18, zl19, zl20, zl22, zl23, zl24, zl25, zl30, zl31, zl32, zl33, zl34, zl35, zl36, zl37, zl38, zl39, zl40, zl41, zl42, zl43, zl45, zl48, zl49, zl57, zl58, zl59, zl60, zl61, zl62, zl63, zl64, zl91, zl93, zl97, zl98, zl99, zl100, zl113, zl114, zl115, zl116, zl117, zl122, zl124, zl125, zl127, zl128, zl136, zl200, zl201, zl202, zl203, zl204, zl205, zl206, zl207, zl208, zl209, zl210, zl211, zl212, zl213, zl214, zl215, zl216, zl217, zl218, zl219, zl220, zl235, zl236, zl255, zl280, zl287, zl900, zl999, zl1000, zl1001, zl1136, zl1960, zl3000, zl3001, zl3002, zl3003, zl3004, zl3005, zl3006, zl3007, zl3008, zl3009, zl268435456, zl1000000000]
theorem sh_1 : ∀ j, j < 31 → (1 : Int32) <<< (nI j &&& 31) = nI (2 ^ j) := by decide +kernel
theorem sa_31 : ∀ j, j < 31 → ((nI j &&& 31).toBitVec.smod 32).toNat = j := by decide +kernel
theorem sar_n {k j : Nat} (hk : k < 2147483648) (hj : j < 31) : (nI k >>> (nI j &&& 31)) &&& nI 1 = nI (if k.testBit j = true then 1 else 0) := by
  rw [pk_shrN (by omega) _ j (sa_31 j hj), nx_and, Nat.and_one_is_mod, tb_div]
theorem in_n : ∀ k, k < 1024 → ∀ j, j < 10 → f_Mo_isIn (nI k).toInt64 (nI j) (fun _ _ => 0, fun _ _ => 0) = nI (if k.testBit j = true then 1 else 0) := by decide +kernel
theorem isIn_n {k j : Nat} (hk : k < 1024) (hj : j < 10) (P : PM) : f_Mo_isIn (nI k).toInt64 (nI j) P = nI (if k.testBit j = true then 1 else 0) := in_n k hk j hj
def pc : Nat → Nat → Nat
  | 0, _ => 0
  | n + 1, k => k % 2 + pc n (k / 2)
theorem bc_n : ∀ k, k < 128 → f_Ji_bitCount (nI k) (fun _ _ => 0, fun _ _ => 0) = nI (pc 7 k) := by decide +kernel
theorem bitCount_n {k : Nat} (hk : k < 128) (P : PM) : f_Ji_bitCount (nI k) P = nI (pc 7 k) := bc_n k hk
def oI : Option Nat → Int32
  | none => -nI 1
  | some k => nI k
theorem oI_n : oI none = -nI 1 := rfl
theorem oI_s (k : Nat) : oI (some k) = nI k := rfl
/-- a net: stations; hours and odds of ways; kinds; the two laws; lines -/
abbrev NV : Type := Nat × (Nat → Nat → Nat) × (Nat → Nat → Nat) × (Nat → Int32) × List Nat × List Nat × Int32
def vN (v : NV) : Nat := v.1
def vH (v : NV) : Nat → Nat → Nat := v.2.1
def vO (v : NV) : Nat → Nat → Nat := v.2.2.1
def vK (v : NV) : Nat → Int32 := v.2.2.2.1
def vT (v : NV) : List Nat := v.2.2.2.2.1
def vP (v : NV) : List Nat := v.2.2.2.2.2.1
def vL (v : NV) : Int32 := v.2.2.2.2.2.2
/-- a state: where, size, hours, who sleeps, how dull -/
abbrev SV : Type := Option Nat × Nat × Int32 × Nat × (Nat → Nat)
def sW (s : SV) : Option Nat := s.1
def sZ (s : SV) : Nat := s.2.1
def sH (s : SV) : Int32 := s.2.2.1
def sA (s : SV) : Nat := s.2.2.2.1
def sD (s : SV) : Nat → Nat := s.2.2.2.2
def CLw (P : PM) (b q : Nat) (es : List Nat) : Prop :=
  ∃ fr, P.1 b (7 + 2 * q) = nI fr ∧ P.1 b (8 + 2 * q) = nI (fr + es.length) ∧ fr + es.length ≤ 900 ∧ ∀ j, j < es.length → P.1 (b + 4) (fr + j) = cc (es.getD j 0)
def MLw (P : PM) (o f q : Nat) (es : List Nat) : Prop :=
  P.1 o (f + 2 + q) = nI (if es = [] then 0 else 1) ∧ (es ≠ [] → ∃ fr, P.1 o (f + 4 + q) = nI fr ∧ P.1 o (f + 6 + q) = nI es.length ∧ fr + es.length ≤ 900 ∧ ∀ j, j < es.length → P.1 o (f + 236 + fr + j) = nI (es.getD j 0))
def CNet (P : PM) (b : Nat) (v : NV) : Prop :=
  P.1 b 0 = nI (vN v) ∧ P.1 b 1 = vL v ∧ (∀ i, i < 7 → P.1 (b + 1) i = vK v i) ∧ (∀ s t, s < 7 → t < 7 → P.1 (b + 2) (7 * s + t) = nI (vH v s t)) ∧
  (∀ s t, s < 7 → t < 7 → P.1 (b + 3) (7 * s + t) = nI (vO v s t)) ∧ CLw P b 0 (vT v) ∧ CLw P b 1 (vP v)
def MNet (P : PM) (o f : Nat) (v : NV) : Prop :=
  P.1 o (f + 1) = nI (vN v) ∧ P.1 o f = vL v ∧ (∀ i, i < 7 → P.1 o (f + 8 + i) = vK v i) ∧ (∀ s t, s < 7 → t < 7 → P.1 o (f + 15 + (7 * s + t)) = nI (vH v s t)) ∧
  (∀ s t, s < 7 → t < 7 → P.1 o (f + 64 + (7 * s + t)) = nI (vO v s t)) ∧ MLw P o f 0 (vT v) ∧ MLw P o f 1 (vP v)
def NVok (v : NV) : Prop :=
  vN v ≤ 7 ∧ (∀ s t, vH v s t ≤ 9 ∧ vO v s t ≤ 10 ∧ (vH v s t ≠ 0 → s < vN v ∧ t < vN v ∧ s ≠ t) ∧ (vH v s t = 0 → vO v s t = 0)) ∧
  (vT v ≠ [] → cts (vT v) [] = some [true]) ∧ (vP v ≠ [] → cts (vP v) [] = some [false])
def CSt (P : PM) (b : Nat) (s : SV) : Prop :=
  P.1 b 0 = oI (sW s) ∧ P.1 b 1 = nI (sZ s) ∧ P.1 b 2 = sH s ∧ P.1 b 3 = nI (sA s) ∧ ∀ i, i < 7 → P.1 (b + 1) i = nI (sD s i)
def MSt (P : PM) (o g : Nat) (s : SV) : Prop :=
  P.1 o g = oI (sW s) ∧ P.1 o (g + 1) = nI (sZ s) ∧ P.1 o (g + 2) = sH s ∧ P.1 o (g + 3) = nI (sA s) ∧ ∀ i, i < 7 → P.1 o (g + 4 + i) = nI (sD s i)
def SVok (v : NV) (s : SV) : Prop :=
  (∀ k, sW s = some k → k < vN v ∧ 1 ≤ sZ s) ∧ (sW s = none → sZ s = 0) ∧ sZ s ≤ 40 ∧ sA s < 2 ^ vN v ∧ ∀ i, sD s i ≤ 9
theorem CNet_sm {S : Nat → Bool} {P P' : PM} {b : Nat} {v : NV} (h : CNet P b v) (q : sm S P P') (h0 : S b = false) (h1 : S (b + 1) = false) (h2 : S (b + 2) = false) (h3 : S (b + 3) = false) (h4 : S (b + 4) = false) : CNet P' b v := by
  unfold CNet CLw at *
  rw [q.1 _ h0, q.1 _ h1, q.1 _ h2, q.1 _ h3, q.1 _ h4]
  exact h
theorem MNet_sm {S : Nat → Bool} {P P' : PM} {o f : Nat} {v : NV} (h : MNet P o f v) (q : sm S P P') (h0 : S o = false) : MNet P' o f v := by
  unfold MNet MLw at *
  rw [q.1 _ h0]
  exact h
theorem CSt_sm {S : Nat → Bool} {P P' : PM} {b : Nat} {v : SV} (h : CSt P b v) (q : sm S P P') (h0 : S b = false) (h1 : S (b + 1) = false) : CSt P' b v := by
  unfold CSt at *
  rw [q.1 _ h0, q.1 _ h1]
  exact h
theorem MSt_sm {S : Nat → Bool} {P P' : PM} {o g : Nat} {v : SV} (h : MSt P o g v) (q : sm S P P') (h0 : S o = false) : MSt P' o g v := by
  unfold MSt at *
  rw [q.1 _ h0]
  exact h
/-- what the laws ask -/
def wd (v : NV) (s z t d : Nat) : Nat → Int32 := fun j => if j = 0 then nI t else if j = 1 then nI d else if j = 2 then vK v t else if j = 3 then nI z else if j = 4 then nI s else nI (vH v s t)
def clp (x : Int32) : Nat := (mx 0 (mn 40 x)).toNatClampNeg
noncomputable def tks (v : NV) (s z t d : Nat) : Bool := decide (vT v = [] ∨ (evs (wd v s z t d) (vT v) []).headD 0 ≠ nI 0)
noncomputable def pss (v : NV) (s z t d : Nat) : Nat := if vP v = [] then z else clp ((evs (wd v s z t d) (vP v) []).headD 0)
/-- what a passing brings, sleep aside: none where it can't be, 0 where it is lost -/
noncomputable def car (v : NV) (s z t d : Nat) : Option Nat := if vH v s t = 0 then none else if tks v s z t d = true then some (pss v s z t d) else none
noncomputable def why (v : NV) (s z t d sl : Nat) : Nat := if vH v s t = 0 then 2 else if sl.testBit t = true then 3 else if tks v s z t d = true then 0 else 4
theorem nI_toI {n : Nat} (h : n < 2147483648) : (nI n).toInt = n := nI_ti h
theorem clp_c (x : Int32) : (¬ nI 1 ≤ x ∧ mx 0 (mn 40 x) = nI 0) ∨ (nI 1 ≤ x ∧ ¬ x ≤ nI 40 ∧ mx 0 (mn 40 x) = nI 40) ∨ ∃ j, 1 ≤ j ∧ j ≤ 40 ∧ x = nI j ∧ mx 0 (mn 40 x) = nI j := by
  have z0 := nI_ti (n := 0) (by omega)
  have z1 := nI_ti (n := 1) (by omega)
  have z40 := nI_ti (n := 40) (by omega)
  have z41 := nI_ti (n := 41) (by omega)
  rcases ix_cases x (n := 41) (by omega) with h | h | ⟨j, hj, rfl⟩
  · have h1 := Int32.lt_iff_toInt_lt.mp h
    refine Or.inl ⟨fun q => ?_, ?_⟩
    · have := Int32.le_iff_toInt_le.mp q
      omega
    · have c1 : x < nI 40 := Int32.lt_iff_toInt_lt.mpr (by omega)
      have c2 : ¬ nI 0 < x := fun q => by have := Int32.lt_iff_toInt_lt.mp q; omega
      unfold mx mn
      simp (disch := omega) only [z_add, z_mul, z_sub, z_subm, z_addm, z_lt_t, z_lt_f, z_le_t, z_le_f, z_eq_t, z_eq_f, z_eqm, z_meq, z_mm, z_ltm, z_mlt, z_lem, z_mle, z_cl, z_ck, u1_1, u1_2, u2_1, u2_2, ↓reduceIte, Option.bind_some, Option.bind_none, bd2_some, lb_eq, and_true, and_false, true_and, false_and, not_true_eq_false, not_false_eq_true, eq_self_iff_true, if_true, if_false, Nat.reduceEqDiff, Nat.reduceAdd, Nat.reduceMul, Nat.reduceSub, Bool.false_eq_true, zl0, zl1, zl2, zl3, zl4, zl5, zl6, zl7, zl8, zl9, zl10, zl11, zl12, zl13, zl14, zl15, zl16, zl17, zl18, zl19, zl20, zl22, zl23, zl24, zl25, zl30, zl31, zl32, zl33, zl34, zl35, zl36, zl37, zl38, zl39, zl40, zl41, zl42, zl43, zl45, zl48, zl49, zl57, zl58, zl59, zl60, zl61, zl62, zl63, zl64, zl91, zl93, zl97, zl98, zl99, zl100, zl113, zl114, zl115, zl116, zl117, zl122, zl124, zl125, zl127, zl128, zl136, zl200, zl201, zl202, zl203, zl204, zl205, zl206, zl207, zl208, zl209, zl210, zl211, zl212, zl213, zl214, zl215, zl216, zl217, zl218, zl219, zl220, zl235, zl236, zl255, zl280, zl287, zl900, zl999, zl1000, zl1001, zl1136, zl1960, zl3000, zl3001, zl3002, zl3003, zl3004, zl3005, zl3006, zl3007, zl3008, zl3009, zl268435456, zl1000000000, c1, c2]
  · have h1 := Int32.le_iff_toInt_le.mp h
    refine Or.inr (Or.inl ⟨Int32.le_iff_toInt_le.mpr (by omega), fun q => ?_, ?_⟩)
    · have := Int32.le_iff_toInt_le.mp q
      omega
    · have c1 : ¬ x < nI 40 := fun q => by have := Int32.lt_iff_toInt_lt.mp q; omega
      unfold mx mn
      simp (disch := omega) only [z_add, z_mul, z_sub, z_subm, z_addm, z_lt_t, z_lt_f, z_le_t, z_le_f, z_eq_t, z_eq_f, z_eqm, z_meq, z_mm, z_ltm, z_mlt, z_lem, z_mle, z_cl, z_ck, u1_1, u1_2, u2_1, u2_2, ↓reduceIte, Option.bind_some, Option.bind_none, bd2_some, lb_eq, and_true, and_false, true_and, false_and, not_true_eq_false, not_false_eq_true, eq_self_iff_true, if_true, if_false, Nat.reduceEqDiff, Nat.reduceAdd, Nat.reduceMul, Nat.reduceSub, Bool.false_eq_true, zl0, zl1, zl2, zl3, zl4, zl5, zl6, zl7, zl8, zl9, zl10, zl11, zl12, zl13, zl14, zl15, zl16, zl17, zl18, zl19, zl20, zl22, zl23, zl24, zl25, zl30, zl31, zl32, zl33, zl34, zl35, zl36, zl37, zl38, zl39, zl40, zl41, zl42, zl43, zl45, zl48, zl49, zl57, zl58, zl59, zl60, zl61, zl62, zl63, zl64, zl91, zl93, zl97, zl98, zl99, zl100, zl113, zl114, zl115, zl116, zl117, zl122, zl124, zl125, zl127, zl128, zl136, zl200, zl201, zl202, zl203, zl204, zl205, zl206, zl207, zl208, zl209, zl210, zl211, zl212, zl213, zl214, zl215, zl216, zl217, zl218, zl219, zl220, zl235, zl236, zl255, zl280, zl287, zl900, zl999, zl1000, zl1001, zl1136, zl1960, zl3000, zl3001, zl3002, zl3003, zl3004, zl3005, zl3006, zl3007, zl3008, zl3009, zl268435456, zl1000000000, c1]
  · by_cases h0 : j = 0
    · subst h0
      refine Or.inl ⟨?_, ?_⟩
      · simp (disch := omega) only [z_add, z_mul, z_sub, z_subm, z_addm, z_lt_t, z_lt_f, z_le_t, z_le_f, z_eq_t, z_eq_f, z_eqm, z_meq, z_mm, z_ltm, z_mlt, z_lem, z_mle, z_cl, z_ck, u1_1, u1_2, u2_1, u2_2, ↓reduceIte, Option.bind_some, Option.bind_none, bd2_some, lb_eq, and_true, and_false, true_and, false_and, not_true_eq_false, not_false_eq_true, eq_self_iff_true, if_true, if_false, Nat.reduceEqDiff, Nat.reduceAdd, Nat.reduceMul, Nat.reduceSub, Bool.false_eq_true, zl0, zl1, zl2, zl3, zl4, zl5, zl6, zl7, zl8, zl9, zl10, zl11, zl12, zl13, zl14, zl15, zl16, zl17, zl18, zl19, zl20, zl22, zl23, zl24, zl25, zl30, zl31, zl32, zl33, zl34, zl35, zl36, zl37, zl38, zl39, zl40, zl41, zl42, zl43, zl45, zl48, zl49, zl57, zl58, zl59, zl60, zl61, zl62, zl63, zl64, zl91, zl93, zl97, zl98, zl99, zl100, zl113, zl114, zl115, zl116, zl117, zl122, zl124, zl125, zl127, zl128, zl136, zl200, zl201, zl202, zl203, zl204, zl205, zl206, zl207, zl208, zl209, zl210, zl211, zl212, zl213, zl214, zl215, zl216, zl217, zl218, zl219, zl220, zl235, zl236, zl255, zl280, zl287, zl900, zl999, zl1000, zl1001, zl1136, zl1960, zl3000, zl3001, zl3002, zl3003, zl3004, zl3005, zl3006, zl3007, zl3008, zl3009, zl268435456, zl1000000000]
      · unfold mx mn
        simp (disch := omega) only [z_add, z_mul, z_sub, z_subm, z_addm, z_lt_t, z_lt_f, z_le_t, z_le_f, z_eq_t, z_eq_f, z_eqm, z_meq, z_mm, z_ltm, z_mlt, z_lem, z_mle, z_cl, z_ck, u1_1, u1_2, u2_1, u2_2, ↓reduceIte, Option.bind_some, Option.bind_none, bd2_some, lb_eq, and_true, and_false, true_and, false_and, not_true_eq_false, not_false_eq_true, eq_self_iff_true, if_true, if_false, Nat.reduceEqDiff, Nat.reduceAdd, Nat.reduceMul, Nat.reduceSub, Bool.false_eq_true, zl0, zl1, zl2, zl3, zl4, zl5, zl6, zl7, zl8, zl9, zl10, zl11, zl12, zl13, zl14, zl15, zl16, zl17, zl18, zl19, zl20, zl22, zl23, zl24, zl25, zl30, zl31, zl32, zl33, zl34, zl35, zl36, zl37, zl38, zl39, zl40, zl41, zl42, zl43, zl45, zl48, zl49, zl57, zl58, zl59, zl60, zl61, zl62, zl63, zl64, zl91, zl93, zl97, zl98, zl99, zl100, zl113, zl114, zl115, zl116, zl117, zl122, zl124, zl125, zl127, zl128, zl136, zl200, zl201, zl202, zl203, zl204, zl205, zl206, zl207, zl208, zl209, zl210, zl211, zl212, zl213, zl214, zl215, zl216, zl217, zl218, zl219, zl220, zl235, zl236, zl255, zl280, zl287, zl900, zl999, zl1000, zl1001, zl1136, zl1960, zl3000, zl3001, zl3002, zl3003, zl3004, zl3005, zl3006, zl3007, zl3008, zl3009, zl268435456, zl1000000000]
    · refine Or.inr (Or.inr ⟨j, by omega, by omega, rfl, ?_⟩)
      unfold mx mn
      by_cases h4 : j = 40
      · subst h4
        simp (disch := omega) only [z_add, z_mul, z_sub, z_subm, z_addm, z_lt_t, z_lt_f, z_le_t, z_le_f, z_eq_t, z_eq_f, z_eqm, z_meq, z_mm, z_ltm, z_mlt, z_lem, z_mle, z_cl, z_ck, u1_1, u1_2, u2_1, u2_2, ↓reduceIte, Option.bind_some, Option.bind_none, bd2_some, lb_eq, and_true, and_false, true_and, false_and, not_true_eq_false, not_false_eq_true, eq_self_iff_true, if_true, if_false, Nat.reduceEqDiff, Nat.reduceAdd, Nat.reduceMul, Nat.reduceSub, Bool.false_eq_true, zl0, zl1, zl2, zl3, zl4, zl5, zl6, zl7, zl8, zl9, zl10, zl11, zl12, zl13, zl14, zl15, zl16, zl17, zl18, zl19, zl20, zl22, zl23, zl24, zl25, zl30, zl31, zl32, zl33, zl34, zl35, zl36, zl37, zl38, zl39, zl40, zl41, zl42, zl43, zl45, zl48, zl49, zl57, zl58, zl59, zl60, zl61, zl62, zl63, zl64, zl91, zl93, zl97, zl98, zl99, zl100, zl113, zl114, zl115, zl116, zl117, zl122, zl124, zl125, zl127, zl128, zl136, zl200, zl201, zl202, zl203, zl204, zl205, zl206, zl207, zl208, zl209, zl210, zl211, zl212, zl213, zl214, zl215, zl216, zl217, zl218, zl219, zl220, zl235, zl236, zl255, zl280, zl287, zl900, zl999, zl1000, zl1001, zl1136, zl1960, zl3000, zl3001, zl3002, zl3003, zl3004, zl3005, zl3006, zl3007, zl3008, zl3009, zl268435456, zl1000000000]
      · simp (disch := omega) only [z_add, z_mul, z_sub, z_subm, z_addm, z_lt_t, z_lt_f, z_le_t, z_le_f, z_eq_t, z_eq_f, z_eqm, z_meq, z_mm, z_ltm, z_mlt, z_lem, z_mle, z_cl, z_ck, u1_1, u1_2, u2_1, u2_2, ↓reduceIte, Option.bind_some, Option.bind_none, bd2_some, lb_eq, and_true, and_false, true_and, false_and, not_true_eq_false, not_false_eq_true, eq_self_iff_true, if_true, if_false, Nat.reduceEqDiff, Nat.reduceAdd, Nat.reduceMul, Nat.reduceSub, Bool.false_eq_true, zl0, zl1, zl2, zl3, zl4, zl5, zl6, zl7, zl8, zl9, zl10, zl11, zl12, zl13, zl14, zl15, zl16, zl17, zl18, zl19, zl20, zl22, zl23, zl24, zl25, zl30, zl31, zl32, zl33, zl34, zl35, zl36, zl37, zl38, zl39, zl40, zl41, zl42, zl43, zl45, zl48, zl49, zl57, zl58, zl59, zl60, zl61, zl62, zl63, zl64, zl91, zl93, zl97, zl98, zl99, zl100, zl113, zl114, zl115, zl116, zl117, zl122, zl124, zl125, zl127, zl128, zl136, zl200, zl201, zl202, zl203, zl204, zl205, zl206, zl207, zl208, zl209, zl210, zl211, zl212, zl213, zl214, zl215, zl216, zl217, zl218, zl219, zl220, zl235, zl236, zl255, zl280, zl287, zl900, zl999, zl1000, zl1001, zl1136, zl1960, zl3000, zl3001, zl3002, zl3003, zl3004, zl3005, zl3006, zl3007, zl3008, zl3009, zl268435456, zl1000000000]
theorem clp_le (x : Int32) : clp x ≤ 40 ∧ mx 0 (mn 40 x) = nI (clp x) := by
  unfold clp
  rcases clp_c x with ⟨_, h⟩ | ⟨_, _, h⟩ | ⟨j, h1, h2, _, h⟩ <;> rw [h, z_cl (by omega)] <;> exact ⟨by omega, rfl⟩
theorem clp_M (x : Int32) : (if nI 1 ≤ x then (if x ≤ nI 40 then x else nI 40) else nI 0) = nI (clp x) := by
  rw [← (clp_le x).2]
  rcases clp_c x with ⟨h1, h⟩ | ⟨h1, h2, h⟩ | ⟨j, h1, h2, rfl, h⟩
  · rw [h, if_neg h1]
  · rw [h, if_pos h1, if_neg h2]
  · rw [h]; simp (disch := omega) only [z_add, z_mul, z_sub, z_subm, z_addm, z_lt_t, z_lt_f, z_le_t, z_le_f, z_eq_t, z_eq_f, z_eqm, z_meq, z_mm, z_ltm, z_mlt, z_lem, z_mle, z_cl, z_ck, u1_1, u1_2, u2_1, u2_2, ↓reduceIte, Option.bind_some, Option.bind_none, bd2_some, lb_eq, and_true, and_false, true_and, false_and, not_true_eq_false, not_false_eq_true, eq_self_iff_true, if_true, if_false, Nat.reduceEqDiff, Nat.reduceAdd, Nat.reduceMul, Nat.reduceSub, Bool.false_eq_true, zl0, zl1, zl2, zl3, zl4, zl5, zl6, zl7, zl8, zl9, zl10, zl11, zl12, zl13, zl14, zl15, zl16, zl17, zl18, zl19, zl20, zl22, zl23, zl24, zl25, zl30, zl31, zl32, zl33, zl34, zl35, zl36, zl37, zl38, zl39, zl40, zl41, zl42, zl43, zl45, zl48, zl49, zl57, zl58, zl59, zl60, zl61, zl62, zl63, zl64, zl91, zl93, zl97, zl98, zl99, zl100, zl113, zl114, zl115, zl116, zl117, zl122, zl124, zl125, zl127, zl128, zl136, zl200, zl201, zl202, zl203, zl204, zl205, zl206, zl207, zl208, zl209, zl210, zl211, zl212, zl213, zl214, zl215, zl216, zl217, zl218, zl219, zl220, zl235, zl236, zl255, zl280, zl287, zl900, zl999, zl1000, zl1001, zl1136, zl1960, zl3000, zl3001, zl3002, zl3003, zl3004, zl3005, zl3006, zl3007, zl3008, zl3009, zl268435456, zl1000000000]
theorem pss_le {v : NV} {s z t d : Nat} (hz : z ≤ 40) : pss v s z t d ≤ 40 := by
  unfold pss
  split
  · exact hz
  · exact (clp_le _).1
theorem car_le {v : NV} {s z t d k : Nat} (hz : z ≤ 40) (h : car v s z t d = some k) : k ≤ 40 := by
  unfold car at h
  split at h
  · cases h
  · split at h
    · cases h; exact pss_le hz
    · cases h
theorem tv_evs {a : Nat → Int32} : ∀ {es : List Nat} {k : List Int32} {ts ts' : List Bool}, tv k ts → cts es ts = some ts' → tv (evs a es k) ts'
  | [], k, ts, ts', h, hc => by
    have : ts = ts' := by simpa [cts] using hc
    subst this
    exact h
  | e :: es, k, ts, ts', h, hc => by
    obtain ⟨t1, hc1, hc2⟩ : ∃ t1, ct e ts = some t1 ∧ cts es t1 = some ts' := by
      rw [cts] at hc
      exact Option.bind_eq_some_iff.mp hc
    show tv (evs a es (stp a e k)) ts'
    exact tv_evs (tv_stp (a := a) h hc1) hc2
