/-! numbers and memory: rows to reckon with -/
theorem z_add (a b : Nat) : nI a + nI b = nI (a + b) := nI_add a b
theorem z_mul (a b : Nat) : nI a * nI b = nI (a * b) := pk_mul a b
theorem z_sub {a b : Nat} (h : b ≤ a) : nI a - nI b = nI (a - b) := pk_sub h
theorem z_subm {a b : Nat} (h : a < b) : nI a - nI b = -nI (b - a) := by
  rw [← pk_sub (Nat.le_of_lt h), Int32.neg_sub]
theorem z_addm {a b : Nat} (h : b ≤ a) : nI a + -nI b = nI (a - b) := by
  rw [← pk_sub h, Int32.sub_eq_add_neg]
theorem z_lt_t {a b : Nat} (h : a < b) (hb : b < 2147483648) : (nI a < nI b) = True := eq_true (nI_lt h hb)
theorem z_lt_f {a b : Nat} (h : b ≤ a) (hb : a < 2147483648) : (nI a < nI b) = False := eq_false (nI_nlt h hb)
theorem z_le_t {a b : Nat} (h : a ≤ b) (hb : b < 2147483648) : (nI a ≤ nI b) = True := eq_true (nI_le h hb)
theorem z_le_f {a b : Nat} (h : b < a) (hb : a < 2147483648) : (nI a ≤ nI b) = False := eq_false (nI_ge h hb)
theorem z_eq_t {a b : Nat} (h : a = b) : (nI a = nI b) = True := eq_true (by rw [h])
theorem z_eq_f {a b : Nat} (h : a ≠ b) (ha : a < 2147483648) (hb : b < 2147483648) : (nI a = nI b) = False := eq_false (fun e => h ((nI_eq ha hb).mp e))
theorem nI_ti {n : Nat} (h : n < 2147483648) : (nI n).toInt = (n : Int) := nI_toInt h
theorem nI_nti {n : Nat} (h : n < 2147483648) : (-nI n).toInt = -(n : Int) := by
  rw [Int32.toInt_neg, nI_ti h]
  rw [Int.bmod_eq_of_le] <;> omega
theorem z_eqm {a b : Nat} (hb0 : 0 < b) (ha : a < 2147483648) (hb : b < 2147483648) : (nI a = -nI b) = False := eq_false (fun e => by
  have := congrArg Int32.toInt e
  rw [nI_ti ha, nI_nti hb] at this
  omega)
theorem z_meq {a b : Nat} (hb0 : 0 < b) (ha : a < 2147483648) (hb : b < 2147483648) : (-nI b = nI a) = False := eq_false (fun e => by
  have := congrArg Int32.toInt e
  rw [nI_ti ha, nI_nti hb] at this
  omega)
theorem z_mm {a b : Nat} (h : a ≠ b) (ha : a < 2147483648) (hb : b < 2147483648) : (-nI a = -nI b) = False := eq_false (fun e => by
  have := congrArg Int32.toInt e
  rw [nI_nti ha, nI_nti hb] at this
  omega)
theorem z_ltm {a b : Nat} (ha : a < 2147483648) (hb : b < 2147483648) : (nI a < -nI b) = False := eq_false (fun e => by
  have := Int32.lt_iff_toInt_lt.mp e
  rw [nI_ti ha, nI_nti hb] at this
  omega)
theorem z_mlt {a b : Nat} (hb0 : 0 < b) (ha : a < 2147483648) (hb : b < 2147483648) : (-nI b < nI a) = True := eq_true (Int32.lt_iff_toInt_lt.mpr (by
  rw [nI_ti ha, nI_nti hb]
  omega))
theorem z_lem {a b : Nat} (hb0 : 0 < b) (ha : a < 2147483648) (hb : b < 2147483648) : (nI a ≤ -nI b) = False := eq_false (fun e => by
  have := Int32.le_iff_toInt_le.mp e
  rw [nI_ti ha, nI_nti hb] at this
  omega)
theorem z_mle {a b : Nat} (ha : a < 2147483648) (hb : b < 2147483648) : (-nI b ≤ nI a) = True := eq_true (Int32.le_iff_toInt_le.mpr (by
  rw [nI_ti ha, nI_nti hb]
  omega))
theorem z_cl {n : Nat} (h : n < 2147483648) : (nI n).toNatClampNeg = n := nI_clamp h
theorem inb_t {i n : Nat} (h : i < n) (hi : i < 2147483648) : inb (nI i) n = true := by
  unfold inb
  rw [nI_ti hi]
  simp
  omega
theorem z_ck {α : Type} {o : Option α} {i n : Nat} (h : i < n) (hi : i < 2147483648) : ck (inb (nI i) n) o = o := if_pos (inb_t h hi)
theorem bd2_some {α β : Type} (a : α) (P : PM) (k : α → PM → Option β) : bd2 (some (a, P)) k = k a P := rfl
theorem lb_eq {α β : Type} (a : α) (k : α → β) : lb a k = k a := rfl
theorem zl0 : (0 : Int32) = nI 0 := rfl
theorem zl1 : (1 : Int32) = nI 1 := rfl
theorem zl2 : (2 : Int32) = nI 2 := rfl
theorem zl3 : (3 : Int32) = nI 3 := rfl
theorem zl4 : (4 : Int32) = nI 4 := rfl
theorem zl5 : (5 : Int32) = nI 5 := rfl
theorem zl6 : (6 : Int32) = nI 6 := rfl
theorem zl7 : (7 : Int32) = nI 7 := rfl
theorem zl8 : (8 : Int32) = nI 8 := rfl
theorem zl9 : (9 : Int32) = nI 9 := rfl
theorem zl10 : (10 : Int32) = nI 10 := rfl
theorem zl11 : (11 : Int32) = nI 11 := rfl
theorem zl12 : (12 : Int32) = nI 12 := rfl
theorem zl13 : (13 : Int32) = nI 13 := rfl
theorem zl14 : (14 : Int32) = nI 14 := rfl
theorem zl15 : (15 : Int32) = nI 15 := rfl
theorem zl16 : (16 : Int32) = nI 16 := rfl
theorem zl17 : (17 : Int32) = nI 17 := rfl
theorem zl18 : (18 : Int32) = nI 18 := rfl
theorem zl19 : (19 : Int32) = nI 19 := rfl
theorem zl20 : (20 : Int32) = nI 20 := rfl
theorem zl22 : (22 : Int32) = nI 22 := rfl
theorem zl23 : (23 : Int32) = nI 23 := rfl
theorem zl24 : (24 : Int32) = nI 24 := rfl
theorem zl25 : (25 : Int32) = nI 25 := rfl
theorem zl30 : (30 : Int32) = nI 30 := rfl
theorem zl31 : (31 : Int32) = nI 31 := rfl
theorem zl32 : (32 : Int32) = nI 32 := rfl
theorem zl33 : (33 : Int32) = nI 33 := rfl
theorem zl34 : (34 : Int32) = nI 34 := rfl
theorem zl35 : (35 : Int32) = nI 35 := rfl
theorem zl36 : (36 : Int32) = nI 36 := rfl
theorem zl37 : (37 : Int32) = nI 37 := rfl
theorem zl38 : (38 : Int32) = nI 38 := rfl
theorem zl39 : (39 : Int32) = nI 39 := rfl
theorem zl40 : (40 : Int32) = nI 40 := rfl
theorem zl41 : (41 : Int32) = nI 41 := rfl
theorem zl42 : (42 : Int32) = nI 42 := rfl
theorem zl43 : (43 : Int32) = nI 43 := rfl
theorem zl45 : (45 : Int32) = nI 45 := rfl
theorem zl48 : (48 : Int32) = nI 48 := rfl
theorem zl49 : (49 : Int32) = nI 49 := rfl
theorem zl57 : (57 : Int32) = nI 57 := rfl
theorem zl58 : (58 : Int32) = nI 58 := rfl
theorem zl59 : (59 : Int32) = nI 59 := rfl
theorem zl60 : (60 : Int32) = nI 60 := rfl
theorem zl61 : (61 : Int32) = nI 61 := rfl
theorem zl62 : (62 : Int32) = nI 62 := rfl
theorem zl63 : (63 : Int32) = nI 63 := rfl
theorem zl64 : (64 : Int32) = nI 64 := rfl
theorem zl91 : (91 : Int32) = nI 91 := rfl
theorem zl93 : (93 : Int32) = nI 93 := rfl
theorem zl97 : (97 : Int32) = nI 97 := rfl
theorem zl98 : (98 : Int32) = nI 98 := rfl
theorem zl99 : (99 : Int32) = nI 99 := rfl
theorem zl100 : (100 : Int32) = nI 100 := rfl
theorem zl113 : (113 : Int32) = nI 113 := rfl
theorem zl114 : (114 : Int32) = nI 114 := rfl
theorem zl115 : (115 : Int32) = nI 115 := rfl
theorem zl116 : (116 : Int32) = nI 116 := rfl
theorem zl117 : (117 : Int32) = nI 117 := rfl
theorem zl122 : (122 : Int32) = nI 122 := rfl
theorem zl124 : (124 : Int32) = nI 124 := rfl
theorem zl125 : (125 : Int32) = nI 125 := rfl
theorem zl127 : (127 : Int32) = nI 127 := rfl
theorem zl128 : (128 : Int32) = nI 128 := rfl
theorem zl136 : (136 : Int32) = nI 136 := rfl
theorem zl200 : (200 : Int32) = nI 200 := rfl
theorem zl201 : (201 : Int32) = nI 201 := rfl
theorem zl202 : (202 : Int32) = nI 202 := rfl
theorem zl203 : (203 : Int32) = nI 203 := rfl
theorem zl204 : (204 : Int32) = nI 204 := rfl
theorem zl205 : (205 : Int32) = nI 205 := rfl
theorem zl206 : (206 : Int32) = nI 206 := rfl
theorem zl207 : (207 : Int32) = nI 207 := rfl
theorem zl208 : (208 : Int32) = nI 208 := rfl
theorem zl209 : (209 : Int32) = nI 209 := rfl
theorem zl210 : (210 : Int32) = nI 210 := rfl
theorem zl211 : (211 : Int32) = nI 211 := rfl
theorem zl212 : (212 : Int32) = nI 212 := rfl
theorem zl213 : (213 : Int32) = nI 213 := rfl
theorem zl214 : (214 : Int32) = nI 214 := rfl
theorem zl215 : (215 : Int32) = nI 215 := rfl
theorem zl216 : (216 : Int32) = nI 216 := rfl
theorem zl217 : (217 : Int32) = nI 217 := rfl
theorem zl218 : (218 : Int32) = nI 218 := rfl
theorem zl219 : (219 : Int32) = nI 219 := rfl
theorem zl220 : (220 : Int32) = nI 220 := rfl
theorem zl235 : (235 : Int32) = nI 235 := rfl
theorem zl236 : (236 : Int32) = nI 236 := rfl
theorem zl255 : (255 : Int32) = nI 255 := rfl
theorem zl280 : (280 : Int32) = nI 280 := rfl
theorem zl287 : (287 : Int32) = nI 287 := rfl
theorem zl900 : (900 : Int32) = nI 900 := rfl
theorem zl999 : (999 : Int32) = nI 999 := rfl
theorem zl1000 : (1000 : Int32) = nI 1000 := rfl
theorem zl1001 : (1001 : Int32) = nI 1001 := rfl
theorem zl1136 : (1136 : Int32) = nI 1136 := rfl
theorem zl1960 : (1960 : Int32) = nI 1960 := rfl
theorem zl3000 : (3000 : Int32) = nI 3000 := rfl
theorem zl3001 : (3001 : Int32) = nI 3001 := rfl
theorem zl3002 : (3002 : Int32) = nI 3002 := rfl
theorem zl3003 : (3003 : Int32) = nI 3003 := rfl
theorem zl3004 : (3004 : Int32) = nI 3004 := rfl
theorem zl3005 : (3005 : Int32) = nI 3005 := rfl
theorem zl3006 : (3006 : Int32) = nI 3006 := rfl
theorem zl3007 : (3007 : Int32) = nI 3007 := rfl
theorem zl3008 : (3008 : Int32) = nI 3008 := rfl
theorem zl3009 : (3009 : Int32) = nI 3009 := rfl
theorem zl268435456 : (268435456 : Int32) = nI 268435456 := rfl
theorem zl1000000000 : (1000000000 : Int32) = nI 1000000000 := rfl
theorem zq0 : (0 : Int64) = lN 0 := rfl
theorem zq1 : (1 : Int64) = lN 1 := rfl
theorem zq3 : (3 : Int64) = lN 3 := rfl
theorem zq6 : (6 : Int64) = lN 6 := rfl
theorem zq9 : (9 : Int64) = lN 9 := rfl
theorem zq10 : (10 : Int64) = lN 10 := rfl
theorem zq19 : (19 : Int64) = lN 19 := rfl
theorem zq40 : (40 : Int64) = lN 40 := rfl
theorem zq100 : (100 : Int64) = lN 100 := rfl
theorem zq199 : (199 : Int64) = lN 199 := rfl
theorem zq999 : (999 : Int64) = lN 999 := rfl
theorem zq1000 : (1000 : Int64) = lN 1000 := rfl
theorem zq1999 : (1999 : Int64) = lN 1999 := rfl
theorem zq1000000 : (1000000 : Int64) = lN 1000000 := rfl
/-- an int as a place: below 0, from n on, or one of the first n -/
theorem ix_cases (x : Int32) {n : Nat} (hn : n < 2147483648) : x < nI 0 ∨ nI n ≤ x ∨ ∃ j : Nat, j < n ∧ x = nI j := pk_ix x hn
theorem FU_big : 1000000 < FU := by rw [FU_eq]; omega
/-- the same but for some rows -/
def sm (S : Nat → Bool) (P P' : PM) : Prop := (∀ o, S o = false → P'.1 o = P.1 o) ∧ (∀ o, S o = false → P'.2 o = P.2 o)
theorem sm_refl {S : Nat → Bool} {P : PM} : sm S P P := ⟨fun _ _ => rfl, fun _ _ => rfl⟩
theorem sm_trans {S : Nat → Bool} {P P' P'' : PM} (h : sm S P P') (g : sm S P' P'') : sm S P P'' := ⟨fun o q => (g.1 o q).trans (h.1 o q), fun o q => (g.2 o q).trans (h.2 o q)⟩
theorem sm_mono {S T : Nat → Bool} {P P' : PM} (h : sm S P P') (q : ∀ o, T o = false → S o = false) : sm T P P' := ⟨fun o r => h.1 o (q o r), fun o r => h.2 o (q o r)⟩
theorem sm_u1 {S : Nat → Bool} {P P' : PM} {o i : Nat} {v : Int32} (h : sm S P P') (q : S o = true) : sm S P (u1 P' o i v) := by
  refine ⟨fun a ha => ?_, fun a ha => h.2 a ha⟩
  rw [← h.1 a ha]
  funext j
  rw [u1_1]
  by_cases e : a = o
  · subst e; rw [q] at ha; cases ha
  · rw [if_neg (fun c => e c.1)]
theorem sm_u2 {S : Nat → Bool} {P P' : PM} {o i : Nat} {v : Int64} (h : sm S P P') (q : S o = true) : sm S P (u2 P' o i v) := by
  refine ⟨fun a ha => h.1 a ha, fun a ha => ?_⟩
  rw [← h.2 a ha]
  funext j
  rw [u2_2]
  by_cases e : a = o
  · subst e; rw [q] at ha; cases ha
  · rw [if_neg (fun c => e c.1)]
