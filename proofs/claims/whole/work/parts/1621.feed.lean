/-! feed (the first rows are the kit's, pasted from BITS.to-paste) -/
def bt (x : Int32) (i : Nat) : Bool := x.toBitVec.getLsbD i
theorem b_ext {x y : Int32} (h : ∀ i, i < 32 → bt x i = bt y i) : x = y := Int32.toBitVec_inj.mp (BitVec.eq_of_getLsbD_eq (fun i hi => h i hi))
theorem b_and (x y : Int32) (i : Nat) : bt (x &&& y) i = (bt x i && bt y i) := by unfold bt; rw [Int32.toBitVec_and, BitVec.getLsbD_and]
theorem b_big {x : Int32} {i : Nat} (h : 32 ≤ i) : bt x i = false := BitVec.getLsbD_of_ge _ _ h
theorem b_255 (i : Nat) : bt 255 i = decide (i < 8) := by
  rcases Nat.lt_or_ge i 32 with h | h
  · exact (by decide +kernel : ∀ i, i < 32 → bt 255 i = decide (i < 8)) i h
  · rw [b_big h, decide_eq_false (by omega)]
theorem s_l : ∀ n, n < 32 → ((nI n &&& 31).toBitVec.smod 32).toNat = n := by decide +kernel
theorem s_u : ∀ n, n < 32 → (((nI n).toUInt32 &&& Int32.toUInt32 31).toBitVec % 32).toNat = n := by decide +kernel
theorem b_ushr (n : Nat) (hn : n < 32) (x : Int32) (i : Nat) : bt ((x.toUInt32 >>> ((nI n).toUInt32 &&& Int32.toUInt32 31)).toInt32) i = bt x (n + i) := by
  show (x.toUInt32 >>> ((nI n).toUInt32 &&& Int32.toUInt32 31)).toBitVec.getLsbD i = x.toUInt32.toBitVec.getLsbD (n + i)
  rw [UInt32.toBitVec_shiftRight]
  show (x.toUInt32.toBitVec >>> (((nI n).toUInt32 &&& Int32.toUInt32 31).toBitVec % 32).toNat).getLsbD i = _
  rw [s_u n hn, BitVec.getLsbD_ushiftRight]
theorem b_sshr (n : Nat) (hn : n < 32) (x : Int32) {i : Nat} (hi : i < 32) : bt (x >>> (nI n &&& 31)) i = if n + i < 32 then bt x (n + i) else bt x 31 := by
  unfold bt
  rw [Int32.toBitVec_shiftRight]
  show (x.toBitVec.sshiftRight ((nI n &&& 31).toBitVec.smod 32).toNat).getLsbD i = _
  rw [s_l n hn, BitVec.getLsbD_sshiftRight, BitVec.msb_eq_getLsbD_last]
  simp [hi]
theorem bp_b (x : Int32) : x.toInt8.toInt32 &&& 255 = x &&& 255 := by
  apply Int32.toBitVec_inj.mp
  rw [Int32.toBitVec_and, Int32.toBitVec_and, Int8.toBitVec_toInt32, Int32.toBitVec_toInt8]
  apply BitVec.eq_of_getLsbD_eq
  intro i hi
  rw [BitVec.getLsbD_and, BitVec.getLsbD_and]
  have hm : ∀ i < 32, 8 ≤ i → (255 : Int32).toBitVec.getLsbD i = false := by decide
  rcases Nat.lt_or_ge i 8 with z | z
  · rw [BitVec.getLsbD_signExtend, BitVec.getLsbD_signExtend, if_pos z, if_pos hi]
    simp only [z, hi, decide_true, Bool.true_and]
  · rw [hm i hi z]; simp
/-- byte j of an int, the highest first -/
def bb (v : Int32) (j : Nat) : Nat := v.toBitVec.toNat / 2 ^ (24 - 8 * j) % 256
theorem bb_lt (v : Int32) (j : Nat) : bb v j < 256 := Nat.mod_lt _ (by decide)
theorem by_u (v : Int32) (k : Nat) (hk : k < 32) : ((v.toUInt32 >>> ((nI k).toUInt32 &&& Int32.toUInt32 31)).toInt32) &&& 255 = nI (v.toBitVec.toNat / 2 ^ k % 256) := by
  rw [pk_and _ (m := 255) 8 (by decide), pk_ushr v (nI k) k (s_u k hk)]
theorem by_s (v : Int32) (k : Nat) (hk : k < 25) : (v >>> (nI k &&& 31)) &&& 255 = ((v.toUInt32 >>> ((nI k).toUInt32 &&& Int32.toUInt32 31)).toInt32) &&& 255 := by
  apply b_ext
  intro i hi
  rw [b_and, b_and, b_255, b_ushr k (by omega), b_sshr k (by omega) v hi]
  by_cases c : i < 8
  · rw [if_pos (by omega)]
  · simp [c]
theorem i8_i8 (z : Int32) : z.toInt8.toInt32.toInt8.toInt32 = z.toInt8.toInt32 := by
  rw [Int8.toInt8_toInt32]
theorem add_s {P : PM} {v : Int32} {k n sh : Nat} (hk : P.1 1 1 = nI k) (hk2 : k < 900) (hs : sh < 32) :
    l_Ta_addFour_3 (n + 1) v (nI sh) P = l_Ta_addFour_3 n v (nI sh + (-8 : Int32)) (u1 (u1 P 2 k (((v.toUInt32 >>> ((nI sh).toUInt32 &&& Int32.toUInt32 31)).toInt32).toInt8.toInt32)) 1 1 (nI (k + 1))) := by
  rw [l_Ta_addFour_3, if_neg (by simp (disch := omega) only [z_add, z_mul, z_sub, z_subm, z_addm, z_lt_t, z_lt_f, z_le_t, z_le_f, z_eq_t, z_eq_f, z_eqm, z_meq, z_mm, z_ltm, z_mlt, z_lem, z_mle, z_cl, z_ck, u1_1, u1_2, u2_1, u2_2, ↓reduceIte, Option.bind_some, Option.bind_none, bd2_some, lb_eq, and_true, and_false, true_and, false_and, not_true_eq_false, not_false_eq_true, eq_self_iff_true, if_true, if_false, Nat.reduceEqDiff, Nat.reduceAdd, Nat.reduceMul, Nat.reduceSub, Bool.false_eq_true, zl0, zl1, zl2, zl3, zl4, zl5, zl6, zl7, zl8, zl9, zl10, zl11, zl12, zl13, zl14, zl15, zl16, zl17, zl18, zl19, zl20, zl22, zl23, zl24, zl25, zl30, zl31, zl32, zl33, zl34, zl35, zl36, zl37, zl38, zl39, zl40, zl41, zl42, zl43, zl45, zl48, zl49, zl57, zl58, zl59, zl60, zl61, zl62, zl63, zl64, zl91, zl93, zl97, zl98, zl99, zl100, zl113, zl114, zl115, zl116, zl117, zl122, zl124, zl125, zl127, zl128, zl136, zl200, zl201, zl202, zl203, zl204, zl205, zl206, zl207, zl208, zl209, zl210, zl211, zl212, zl213, zl214, zl215, zl216, zl217, zl218, zl219, zl220, zl235, zl236, zl255, zl280, zl287, zl900, zl999, zl1000, zl1001, zl1136, zl1960, zl3000, zl3001, zl3002, zl3003, zl3004, zl3005, zl3006, zl3007, zl3008, zl3009, zl268435456, zl1000000000]), if_neg (by rw [hk]; simp (disch := omega) only [z_add, z_mul, z_sub, z_subm, z_addm, z_lt_t, z_lt_f, z_le_t, z_le_f, z_eq_t, z_eq_f, z_eqm, z_meq, z_mm, z_ltm, z_mlt, z_lem, z_mle, z_cl, z_ck, u1_1, u1_2, u2_1, u2_2, ↓reduceIte, Option.bind_some, Option.bind_none, bd2_some, lb_eq, and_true, and_false, true_and, false_and, not_true_eq_false, not_false_eq_true, eq_self_iff_true, if_true, if_false, Nat.reduceEqDiff, Nat.reduceAdd, Nat.reduceMul, Nat.reduceSub, Bool.false_eq_true, zl0, zl1, zl2, zl3, zl4, zl5, zl6, zl7, zl8, zl9, zl10, zl11, zl12, zl13, zl14, zl15, zl16, zl17, zl18, zl19, zl20, zl22, zl23, zl24, zl25, zl30, zl31, zl32, zl33, zl34, zl35, zl36, zl37, zl38, zl39, zl40, zl41, zl42, zl43, zl45, zl48, zl49, zl57, zl58, zl59, zl60, zl61, zl62, zl63, zl64, zl91, zl93, zl97, zl98, zl99, zl100, zl113, zl114, zl115, zl116, zl117, zl122, zl124, zl125, zl127, zl128, zl136, zl200, zl201, zl202, zl203, zl204, zl205, zl206, zl207, zl208, zl209, zl210, zl211, zl212, zl213, zl214, zl215, zl216, zl217, zl218, zl219, zl220, zl235, zl236, zl255, zl280, zl287, zl900, zl999, zl1000, zl1001, zl1136, zl1960, zl3000, zl3001, zl3002, zl3003, zl3004, zl3005, zl3006, zl3007, zl3008, zl3009, zl268435456, zl1000000000]), hk, z_ck hk2 (by omega), z_cl (by omega), vp_nar_byte, i8_i8, u1_1, if_neg (by omega), hk, show (1 : Int32) = nI 1 from rfl, nI_add]
def rT (o : Nat) : Bool := o == 1 || o == 2
theorem addFour_C (P : PM) (v : Int32) (k : Nat) (hk : P.1 1 1 = nI k) (h : k + 4 ≤ 900) : ∃ P', f_Ta_addFour v P = some P' ∧ sm rT P P' ∧ P'.1 1 1 = nI (k + 4) ∧
    (∀ i, i < k → P'.1 2 i = P.1 2 i) ∧ (∀ j, j < 4 → P'.1 2 (k + j) &&& 255 = nI (bb v j)) ∧ ∀ j, j ≠ 1 → P'.1 1 j = P.1 1 j := by
  obtain ⟨n, hn⟩ : ∃ n, FU = n + 1 + 1 + 1 + 1 + 1 := ⟨FU - 5, by have := FU_big; omega⟩
  obtain ⟨P1, e1⟩ : ∃ P1, P1 = u1 (u1 P 2 k (((v.toUInt32 >>> ((nI 24).toUInt32 &&& Int32.toUInt32 31)).toInt32).toInt8.toInt32)) 1 1 (nI (k + 1)) := ⟨_, rfl⟩
  obtain ⟨P2, e2⟩ : ∃ P2, P2 = u1 (u1 P1 2 (k + 1) (((v.toUInt32 >>> ((nI 16).toUInt32 &&& Int32.toUInt32 31)).toInt32).toInt8.toInt32)) 1 1 (nI (k + 1 + 1)) := ⟨_, rfl⟩
  obtain ⟨P3, e3⟩ : ∃ P3, P3 = u1 (u1 P2 2 (k + 1 + 1) (((v.toUInt32 >>> ((nI 8).toUInt32 &&& Int32.toUInt32 31)).toInt32).toInt8.toInt32)) 1 1 (nI (k + 1 + 1 + 1)) := ⟨_, rfl⟩
  obtain ⟨P4, e4⟩ : ∃ P4, P4 = u1 (u1 P3 2 (k + 1 + 1 + 1) (((v.toUInt32 >>> ((nI 0).toUInt32 &&& Int32.toUInt32 31)).toInt32).toInt8.toInt32)) 1 1 (nI (k + 1 + 1 + 1 + 1)) := ⟨_, rfl⟩
  have k1 : P1.1 1 1 = nI (k + 1) := by rw [e1, u1_1, if_pos ⟨rfl, rfl⟩]
  have k2 : P2.1 1 1 = nI (k + 1 + 1) := by rw [e2, u1_1, if_pos ⟨rfl, rfl⟩]
  have k3 : P3.1 1 1 = nI (k + 1 + 1 + 1) := by rw [e3, u1_1, if_pos ⟨rfl, rfl⟩]
  have k4 : P4.1 1 1 = nI (k + 4) := by rw [e4, u1_1, if_pos ⟨rfl, rfl⟩]
  have hrun : f_Ta_addFour v P = some P4 := by
    unfold f_Ta_addFour
    rw [hn, show (24 : Int32) = nI 24 from rfl, add_s hk (by omega) (by omega), ← e1, show nI 24 + (-8 : Int32) = nI 16 from rfl, add_s k1 (by omega) (by omega), ← e2, show nI 16 + (-8 : Int32) = nI 8 from rfl, add_s k2 (by omega) (by omega), ← e3, show nI 8 + (-8 : Int32) = nI 0 from rfl, add_s k3 (by omega) (by omega), ← e4, l_Ta_addFour_3, if_pos (by decide)]
  have r2 : ∀ i, P4.1 2 i = if i = k + 1 + 1 + 1 then (((v.toUInt32 >>> ((nI 0).toUInt32 &&& Int32.toUInt32 31)).toInt32).toInt8.toInt32) else if i = k + 1 + 1 then (((v.toUInt32 >>> ((nI 8).toUInt32 &&& Int32.toUInt32 31)).toInt32).toInt8.toInt32) else if i = k + 1 then (((v.toUInt32 >>> ((nI 16).toUInt32 &&& Int32.toUInt32 31)).toInt32).toInt8.toInt32) else if i = k then (((v.toUInt32 >>> ((nI 24).toUInt32 &&& Int32.toUInt32 31)).toInt32).toInt8.toInt32) else P.1 2 i := by
    intro i
    rw [e4, e3, e2, e1]
    simp (disch := omega) only [z_add, z_mul, z_sub, z_subm, z_addm, z_lt_t, z_lt_f, z_le_t, z_le_f, z_eq_t, z_eq_f, z_eqm, z_meq, z_mm, z_ltm, z_mlt, z_lem, z_mle, z_cl, z_ck, u1_1, u1_2, u2_1, u2_2, ↓reduceIte, Option.bind_some, Option.bind_none, bd2_some, lb_eq, and_true, and_false, true_and, false_and, not_true_eq_false, not_false_eq_true, eq_self_iff_true, if_true, if_false, Nat.reduceEqDiff, Nat.reduceAdd, Nat.reduceMul, Nat.reduceSub, Bool.false_eq_true, zl0, zl1, zl2, zl3, zl4, zl5, zl6, zl7, zl8, zl9, zl10, zl11, zl12, zl13, zl14, zl15, zl16, zl17, zl18, zl19, zl20, zl22, zl23, zl24, zl25, zl30, zl31, zl32, zl33, zl34, zl35, zl36, zl37, zl38, zl39, zl40, zl41, zl42, zl43, zl45, zl48, zl49, zl57, zl58, zl59, zl60, zl61, zl62, zl63, zl64, zl91, zl93, zl97, zl98, zl99, zl100, zl113, zl114, zl115, zl116, zl117, zl122, zl124, zl125, zl127, zl128, zl136, zl200, zl201, zl202, zl203, zl204, zl205, zl206, zl207, zl208, zl209, zl210, zl211, zl212, zl213, zl214, zl215, zl216, zl217, zl218, zl219, zl220, zl235, zl236, zl255, zl280, zl287, zl900, zl999, zl1000, zl1001, zl1136, zl1960, zl3000, zl3001, zl3002, zl3003, zl3004, zl3005, zl3006, zl3007, zl3008, zl3009, zl268435456, zl1000000000]
  have bs : ∀ sh, sh < 32 → (((v.toUInt32 >>> ((nI sh).toUInt32 &&& Int32.toUInt32 31)).toInt32).toInt8.toInt32) &&& 255 = nI (v.toBitVec.toNat / 2 ^ sh % 256) := fun sh h => by rw [bp_b, by_u v sh h]
  refine ⟨P4, hrun, ?_, k4, fun i hi => ?_, fun j hj => ?_, fun j hj => ?_⟩
  · rw [e4, e3, e2, e1]
    exact sm_u1 (sm_u1 (sm_u1 (sm_u1 (sm_u1 (sm_u1 (sm_u1 (sm_u1 sm_refl rfl) rfl) rfl) rfl) rfl) rfl) rfl) rfl
  · rw [r2, if_neg (by omega), if_neg (by omega), if_neg (by omega), if_neg (by omega)]
  · rw [r2]
    unfold bb
    obtain rfl | rfl | rfl | rfl : j = 0 ∨ j = 1 ∨ j = 2 ∨ j = 3 := by omega
    · rw [if_neg (by omega), if_neg (by omega), if_neg (by omega), if_pos (by omega)]; exact bs 24 (by omega)
    · rw [if_neg (by omega), if_neg (by omega), if_pos (by omega)]; exact bs 16 (by omega)
    · rw [if_neg (by omega), if_pos (by omega)]; exact bs 8 (by omega)
    · rw [if_pos (by omega)]; exact bs 0 (by omega)
  · rw [e4, e3, e2, e1]
    simp (disch := omega) only [z_add, z_mul, z_sub, z_subm, z_addm, z_lt_t, z_lt_f, z_le_t, z_le_f, z_eq_t, z_eq_f, z_eqm, z_meq, z_mm, z_ltm, z_mlt, z_lem, z_mle, z_cl, z_ck, u1_1, u1_2, u2_1, u2_2, ↓reduceIte, Option.bind_some, Option.bind_none, bd2_some, lb_eq, and_true, and_false, true_and, false_and, not_true_eq_false, not_false_eq_true, eq_self_iff_true, if_true, if_false, Nat.reduceEqDiff, Nat.reduceAdd, Nat.reduceMul, Nat.reduceSub, Bool.false_eq_true, zl0, zl1, zl2, zl3, zl4, zl5, zl6, zl7, zl8, zl9, zl10, zl11, zl12, zl13, zl14, zl15, zl16, zl17, zl18, zl19, zl20, zl22, zl23, zl24, zl25, zl30, zl31, zl32, zl33, zl34, zl35, zl36, zl37, zl38, zl39, zl40, zl41, zl42, zl43, zl45, zl48, zl49, zl57, zl58, zl59, zl60, zl61, zl62, zl63, zl64, zl91, zl93, zl97, zl98, zl99, zl100, zl113, zl114, zl115, zl116, zl117, zl122, zl124, zl125, zl127, zl128, zl136, zl200, zl201, zl202, zl203, zl204, zl205, zl206, zl207, zl208, zl209, zl210, zl211, zl212, zl213, zl214, zl215, zl216, zl217, zl218, zl219, zl220, zl235, zl236, zl255, zl280, zl287, zl900, zl999, zl1000, zl1001, zl1136, zl1960, zl3000, zl3001, zl3002, zl3003, zl3004, zl3005, zl3006, zl3007, zl3008, zl3009, zl268435456, zl1000000000, hj]
/-- which int the i-th of twenty bytes is of -/
def sel (a b c d e : Int32) (i : Nat) : Int32 := if i < 4 then a else if i < 8 then b else if i < 12 then c else if i < 16 then d else e
def nB (f : Nat) (B : Nat → Nat) (a b c d e : Int32) : Nat → Nat := fun i => if f ≤ i ∧ i < f + 20 then bb (sel a b c d e (i - f)) ((i - f) % 4) else B i
def setF (s : AS) (a b c d e : Int32) : AS := (s.1, s.2.1, s.2.2.1, s.2.2.2.1, s.2.2.2.2.1, aF s + 20, nB (aF s) (aB s) a b c d e, s.2.2.2.2.2.2.2)
theorem feed_M {a b c d e : Int32} {f : Nat} (hf : f + 20 ≤ 900) : ∀ (m n j : Nat) (P : PM), j + m = 20 → m < n → P.1 109 5 = nI (f + j) →
    ∃ P', l_Mo_feed_24 n a b c d e (nI j) P = some (nI (f + 20), P') ∧ sm (fun o => o == 109 || o == 112) P P' ∧ P'.1 109 5 = nI (f + 20) ∧ (∀ i, i < f + j → P'.1 112 i = P.1 112 i) ∧
      (∀ i, j ≤ i → i < 20 → P'.1 112 (f + i) = nI (bb (sel a b c d e i) (i % 4))) ∧ ∀ i, i ≠ 5 → P'.1 109 i = P.1 109 i := by
  intro m
  induction m with
  | zero =>
    intro n j P hj hn hP
    obtain ⟨n, rfl⟩ : ∃ q, n = q + 1 := ⟨n - 1, by omega⟩
    obtain rfl : j = 20 := by omega
    rw [l_Mo_feed_24, if_pos (by decide), hP]
    exact ⟨P, rfl, sm_refl, hP, fun _ _ => rfl, fun i h1 h2 => by omega, fun _ _ => rfl⟩
  | succ m ih =>
    intro n j P hj hn hP
    obtain ⟨n, rfl⟩ : ∃ q, n = q + 1 := ⟨n - 1, by omega⟩
    obtain ⟨P1, hP1⟩ : ∃ P1, P1 = u1 (u1 P 112 (f + j) (nI (bb (sel a b c d e j) (j % 4)))) 109 5 (nI (f + j + 1)) := ⟨_, rfl⟩
    have k1 : P1.1 109 5 = nI (f + (j + 1)) := by rw [hP1, u1_1, if_pos ⟨rfl, rfl⟩]; rfl
    obtain ⟨P2, g1, g2, g3, g4, g5, g6⟩ := ih n (j + 1) P1 (by omega) (by omega) k1
    have h77 : ∀ x : Int32, x = sel a b c d e j → j_Mo_feed_77 (fun z0 z1 z2 z3 z4 z5 Pz => l_Mo_feed_24 n z0 z1 z2 z3 z4 z5 Pz) a b c d e (nI j) x P = l_Mo_feed_24 n a b c d e (nI (j + 1)) P1 := by
      intro x hx
      have es : (24 : Int32) - (8 : Int32) * (nI j - nI j / (4 : Int32) * (4 : Int32)) = nI (24 - 8 * (j % 4)) := by
        rw [show (4 : Int32) = nI 4 from rfl, pk_rem (by omega) (by omega) (by omega), show (8 : Int32) = nI 8 from rfl, pk_mul, show (24 : Int32) = nI 24 from rfl, z_sub (by omega)]
      have eb : (x >>> (nI (24 - 8 * (j % 4)) &&& 31)) &&& (255 : Int32) = nI (bb (sel a b c d e j) (j % 4)) := by
        rw [by_s x _ (by omega), by_u x _ (by omega), hx]
        rfl
      unfold j_Mo_feed_77
      rw [hP, z_ck (by omega) (by omega), z_cl (by omega), es, eb, u1_1, if_neg (by omega), hP, show (1 : Int32) = nI 1 from rfl, nI_add, nI_add, ← hP1]
    have hfin : l_Mo_feed_24 (n + 1) a b c d e (nI j) P = l_Mo_feed_24 n a b c d e (nI (j + 1)) P1 := by
      rw [l_Mo_feed_24, if_neg (by simp (disch := omega) only [z_add, z_mul, z_sub, z_subm, z_addm, z_lt_t, z_lt_f, z_le_t, z_le_f, z_eq_t, z_eq_f, z_eqm, z_meq, z_mm, z_ltm, z_mlt, z_lem, z_mle, z_cl, z_ck, u1_1, u1_2, u2_1, u2_2, ↓reduceIte, Option.bind_some, Option.bind_none, bd2_some, lb_eq, and_true, and_false, true_and, false_and, not_true_eq_false, not_false_eq_true, eq_self_iff_true, if_true, if_false, Nat.reduceEqDiff, Nat.reduceAdd, Nat.reduceMul, Nat.reduceSub, Bool.false_eq_true, zl0, zl1, zl2, zl3, zl4, zl5, zl6, zl7, zl8, zl9, zl10, zl11, zl12, zl13, zl14, zl15, zl16, zl17, zl18, zl19, zl20, zl22, zl23, zl24, zl25, zl30, zl31, zl32, zl33, zl34, zl35, zl36, zl37, zl38, zl39, zl40, zl41, zl42, zl43, zl45, zl48, zl49, zl57, zl58, zl59, zl60, zl61, zl62, zl63, zl64, zl91, zl93, zl97, zl98, zl99, zl100, zl113, zl114, zl115, zl116, zl117, zl122, zl124, zl125, zl127, zl128, zl136, zl200, zl201, zl202, zl203, zl204, zl205, zl206, zl207, zl208, zl209, zl210, zl211, zl212, zl213, zl214, zl215, zl216, zl217, zl218, zl219, zl220, zl235, zl236, zl255, zl280, zl287, zl900, zl999, zl1000, zl1001, zl1136, zl1960, zl3000, zl3001, zl3002, zl3003, zl3004, zl3005, zl3006, zl3007, zl3008, zl3009, zl268435456, zl1000000000])]
      by_cases c1 : j < 4
      · rw [if_neg (by simp (disch := omega) only [z_add, z_mul, z_sub, z_subm, z_addm, z_lt_t, z_lt_f, z_le_t, z_le_f, z_eq_t, z_eq_f, z_eqm, z_meq, z_mm, z_ltm, z_mlt, z_lem, z_mle, z_cl, z_ck, u1_1, u1_2, u2_1, u2_2, ↓reduceIte, Option.bind_some, Option.bind_none, bd2_some, lb_eq, and_true, and_false, true_and, false_and, not_true_eq_false, not_false_eq_true, eq_self_iff_true, if_true, if_false, Nat.reduceEqDiff, Nat.reduceAdd, Nat.reduceMul, Nat.reduceSub, Bool.false_eq_true, zl0, zl1, zl2, zl3, zl4, zl5, zl6, zl7, zl8, zl9, zl10, zl11, zl12, zl13, zl14, zl15, zl16, zl17, zl18, zl19, zl20, zl22, zl23, zl24, zl25, zl30, zl31, zl32, zl33, zl34, zl35, zl36, zl37, zl38, zl39, zl40, zl41, zl42, zl43, zl45, zl48, zl49, zl57, zl58, zl59, zl60, zl61, zl62, zl63, zl64, zl91, zl93, zl97, zl98, zl99, zl100, zl113, zl114, zl115, zl116, zl117, zl122, zl124, zl125, zl127, zl128, zl136, zl200, zl201, zl202, zl203, zl204, zl205, zl206, zl207, zl208, zl209, zl210, zl211, zl212, zl213, zl214, zl215, zl216, zl217, zl218, zl219, zl220, zl235, zl236, zl255, zl280, zl287, zl900, zl999, zl1000, zl1001, zl1136, zl1960, zl3000, zl3001, zl3002, zl3003, zl3004, zl3005, zl3006, zl3007, zl3008, zl3009, zl268435456, zl1000000000])]; exact h77 a (by unfold sel; rw [if_pos c1])
      rw [if_pos (by simp (disch := omega) only [z_add, z_mul, z_sub, z_subm, z_addm, z_lt_t, z_lt_f, z_le_t, z_le_f, z_eq_t, z_eq_f, z_eqm, z_meq, z_mm, z_ltm, z_mlt, z_lem, z_mle, z_cl, z_ck, u1_1, u1_2, u2_1, u2_2, ↓reduceIte, Option.bind_some, Option.bind_none, bd2_some, lb_eq, and_true, and_false, true_and, false_and, not_true_eq_false, not_false_eq_true, eq_self_iff_true, if_true, if_false, Nat.reduceEqDiff, Nat.reduceAdd, Nat.reduceMul, Nat.reduceSub, Bool.false_eq_true, zl0, zl1, zl2, zl3, zl4, zl5, zl6, zl7, zl8, zl9, zl10, zl11, zl12, zl13, zl14, zl15, zl16, zl17, zl18, zl19, zl20, zl22, zl23, zl24, zl25, zl30, zl31, zl32, zl33, zl34, zl35, zl36, zl37, zl38, zl39, zl40, zl41, zl42, zl43, zl45, zl48, zl49, zl57, zl58, zl59, zl60, zl61, zl62, zl63, zl64, zl91, zl93, zl97, zl98, zl99, zl100, zl113, zl114, zl115, zl116, zl117, zl122, zl124, zl125, zl127, zl128, zl136, zl200, zl201, zl202, zl203, zl204, zl205, zl206, zl207, zl208, zl209, zl210, zl211, zl212, zl213, zl214, zl215, zl216, zl217, zl218, zl219, zl220, zl235, zl236, zl255, zl280, zl287, zl900, zl999, zl1000, zl1001, zl1136, zl1960, zl3000, zl3001, zl3002, zl3003, zl3004, zl3005, zl3006, zl3007, zl3008, zl3009, zl268435456, zl1000000000])]
      by_cases c2 : j < 8
      · rw [if_neg (by simp (disch := omega) only [z_add, z_mul, z_sub, z_subm, z_addm, z_lt_t, z_lt_f, z_le_t, z_le_f, z_eq_t, z_eq_f, z_eqm, z_meq, z_mm, z_ltm, z_mlt, z_lem, z_mle, z_cl, z_ck, u1_1, u1_2, u2_1, u2_2, ↓reduceIte, Option.bind_some, Option.bind_none, bd2_some, lb_eq, and_true, and_false, true_and, false_and, not_true_eq_false, not_false_eq_true, eq_self_iff_true, if_true, if_false, Nat.reduceEqDiff, Nat.reduceAdd, Nat.reduceMul, Nat.reduceSub, Bool.false_eq_true, zl0, zl1, zl2, zl3, zl4, zl5, zl6, zl7, zl8, zl9, zl10, zl11, zl12, zl13, zl14, zl15, zl16, zl17, zl18, zl19, zl20, zl22, zl23, zl24, zl25, zl30, zl31, zl32, zl33, zl34, zl35, zl36, zl37, zl38, zl39, zl40, zl41, zl42, zl43, zl45, zl48, zl49, zl57, zl58, zl59, zl60, zl61, zl62, zl63, zl64, zl91, zl93, zl97, zl98, zl99, zl100, zl113, zl114, zl115, zl116, zl117, zl122, zl124, zl125, zl127, zl128, zl136, zl200, zl201, zl202, zl203, zl204, zl205, zl206, zl207, zl208, zl209, zl210, zl211, zl212, zl213, zl214, zl215, zl216, zl217, zl218, zl219, zl220, zl235, zl236, zl255, zl280, zl287, zl900, zl999, zl1000, zl1001, zl1136, zl1960, zl3000, zl3001, zl3002, zl3003, zl3004, zl3005, zl3006, zl3007, zl3008, zl3009, zl268435456, zl1000000000])]; exact h77 b (by unfold sel; rw [if_neg c1, if_pos c2])
      rw [if_pos (by simp (disch := omega) only [z_add, z_mul, z_sub, z_subm, z_addm, z_lt_t, z_lt_f, z_le_t, z_le_f, z_eq_t, z_eq_f, z_eqm, z_meq, z_mm, z_ltm, z_mlt, z_lem, z_mle, z_cl, z_ck, u1_1, u1_2, u2_1, u2_2, ↓reduceIte, Option.bind_some, Option.bind_none, bd2_some, lb_eq, and_true, and_false, true_and, false_and, not_true_eq_false, not_false_eq_true, eq_self_iff_true, if_true, if_false, Nat.reduceEqDiff, Nat.reduceAdd, Nat.reduceMul, Nat.reduceSub, Bool.false_eq_true, zl0, zl1, zl2, zl3, zl4, zl5, zl6, zl7, zl8, zl9, zl10, zl11, zl12, zl13, zl14, zl15, zl16, zl17, zl18, zl19, zl20, zl22, zl23, zl24, zl25, zl30, zl31, zl32, zl33, zl34, zl35, zl36, zl37, zl38, zl39, zl40, zl41, zl42, zl43, zl45, zl48, zl49, zl57, zl58, zl59, zl60, zl61, zl62, zl63, zl64, zl91, zl93, zl97, zl98, zl99, zl100, zl113, zl114, zl115, zl116, zl117, zl122, zl124, zl125, zl127, zl128, zl136, zl200, zl201, zl202, zl203, zl204, zl205, zl206, zl207, zl208, zl209, zl210, zl211, zl212, zl213, zl214, zl215, zl216, zl217, zl218, zl219, zl220, zl235, zl236, zl255, zl280, zl287, zl900, zl999, zl1000, zl1001, zl1136, zl1960, zl3000, zl3001, zl3002, zl3003, zl3004, zl3005, zl3006, zl3007, zl3008, zl3009, zl268435456, zl1000000000])]
      by_cases c3 : j < 12
      · rw [if_neg (by simp (disch := omega) only [z_add, z_mul, z_sub, z_subm, z_addm, z_lt_t, z_lt_f, z_le_t, z_le_f, z_eq_t, z_eq_f, z_eqm, z_meq, z_mm, z_ltm, z_mlt, z_lem, z_mle, z_cl, z_ck, u1_1, u1_2, u2_1, u2_2, ↓reduceIte, Option.bind_some, Option.bind_none, bd2_some, lb_eq, and_true, and_false, true_and, false_and, not_true_eq_false, not_false_eq_true, eq_self_iff_true, if_true, if_false, Nat.reduceEqDiff, Nat.reduceAdd, Nat.reduceMul, Nat.reduceSub, Bool.false_eq_true, zl0, zl1, zl2, zl3, zl4, zl5, zl6, zl7, zl8, zl9, zl10, zl11, zl12, zl13, zl14, zl15, zl16, zl17, zl18, zl19, zl20, zl22, zl23, zl24, zl25, zl30, zl31, zl32, zl33, zl34, zl35, zl36, zl37, zl38, zl39, zl40, zl41, zl42, zl43, zl45, zl48, zl49, zl57, zl58, zl59, zl60, zl61, zl62, zl63, zl64, zl91, zl93, zl97, zl98, zl99, zl100, zl113, zl114, zl115, zl116, zl117, zl122, zl124, zl125, zl127, zl128, zl136, zl200, zl201, zl202, zl203, zl204, zl205, zl206, zl207, zl208, zl209, zl210, zl211, zl212, zl213, zl214, zl215, zl216, zl217, zl218, zl219, zl220, zl235, zl236, zl255, zl280, zl287, zl900, zl999, zl1000, zl1001, zl1136, zl1960, zl3000, zl3001, zl3002, zl3003, zl3004, zl3005, zl3006, zl3007, zl3008, zl3009, zl268435456, zl1000000000])]; exact h77 c (by unfold sel; rw [if_neg c1, if_neg c2, if_pos c3])
      rw [if_pos (by simp (disch := omega) only [z_add, z_mul, z_sub, z_subm, z_addm, z_lt_t, z_lt_f, z_le_t, z_le_f, z_eq_t, z_eq_f, z_eqm, z_meq, z_mm, z_ltm, z_mlt, z_lem, z_mle, z_cl, z_ck, u1_1, u1_2, u2_1, u2_2, ↓reduceIte, Option.bind_some, Option.bind_none, bd2_some, lb_eq, and_true, and_false, true_and, false_and, not_true_eq_false, not_false_eq_true, eq_self_iff_true, if_true, if_false, Nat.reduceEqDiff, Nat.reduceAdd, Nat.reduceMul, Nat.reduceSub, Bool.false_eq_true, zl0, zl1, zl2, zl3, zl4, zl5, zl6, zl7, zl8, zl9, zl10, zl11, zl12, zl13, zl14, zl15, zl16, zl17, zl18, zl19, zl20, zl22, zl23, zl24, zl25, zl30, zl31, zl32, zl33, zl34, zl35, zl36, zl37, zl38, zl39, zl40, zl41, zl42, zl43, zl45, zl48, zl49, zl57, zl58, zl59, zl60, zl61, zl62, zl63, zl64, zl91, zl93, zl97, zl98, zl99, zl100, zl113, zl114, zl115, zl116, zl117, zl122, zl124, zl125, zl127, zl128, zl136, zl200, zl201, zl202, zl203, zl204, zl205, zl206, zl207, zl208, zl209, zl210, zl211, zl212, zl213, zl214, zl215, zl216, zl217, zl218, zl219, zl220, zl235, zl236, zl255, zl280, zl287, zl900, zl999, zl1000, zl1001, zl1136, zl1960, zl3000, zl3001, zl3002, zl3003, zl3004, zl3005, zl3006, zl3007, zl3008, zl3009, zl268435456, zl1000000000])]
      by_cases c4 : j < 16
      · rw [if_neg (by simp (disch := omega) only [z_add, z_mul, z_sub, z_subm, z_addm, z_lt_t, z_lt_f, z_le_t, z_le_f, z_eq_t, z_eq_f, z_eqm, z_meq, z_mm, z_ltm, z_mlt, z_lem, z_mle, z_cl, z_ck, u1_1, u1_2, u2_1, u2_2, ↓reduceIte, Option.bind_some, Option.bind_none, bd2_some, lb_eq, and_true, and_false, true_and, false_and, not_true_eq_false, not_false_eq_true, eq_self_iff_true, if_true, if_false, Nat.reduceEqDiff, Nat.reduceAdd, Nat.reduceMul, Nat.reduceSub, Bool.false_eq_true, zl0, zl1, zl2, zl3, zl4, zl5, zl6, zl7, zl8, zl9, zl10, zl11, zl12, zl13, zl14, zl15, zl16, zl17, zl18, zl19, zl20, zl22, zl23, zl24, zl25, zl30, zl31, zl32, zl33, zl34, zl35, zl36, zl37, zl38, zl39, zl40, zl41, zl42, zl43, zl45, zl48, zl49, zl57, zl58, zl59, zl60, zl61, zl62, zl63, zl64, zl91, zl93, zl97, zl98, zl99, zl100, zl113, zl114, zl115, zl116, zl117, zl122, zl124, zl125, zl127, zl128, zl136, zl200, zl201, zl202, zl203, zl204, zl205, zl206, zl207, zl208, zl209, zl210, zl211, zl212, zl213, zl214, zl215, zl216, zl217, zl218, zl219, zl220, zl235, zl236, zl255, zl280, zl287, zl900, zl999, zl1000, zl1001, zl1136, zl1960, zl3000, zl3001, zl3002, zl3003, zl3004, zl3005, zl3006, zl3007, zl3008, zl3009, zl268435456, zl1000000000])]; exact h77 d (by unfold sel; rw [if_neg c1, if_neg c2, if_neg c3, if_pos c4])
      rw [if_pos (by simp (disch := omega) only [z_add, z_mul, z_sub, z_subm, z_addm, z_lt_t, z_lt_f, z_le_t, z_le_f, z_eq_t, z_eq_f, z_eqm, z_meq, z_mm, z_ltm, z_mlt, z_lem, z_mle, z_cl, z_ck, u1_1, u1_2, u2_1, u2_2, ↓reduceIte, Option.bind_some, Option.bind_none, bd2_some, lb_eq, and_true, and_false, true_and, false_and, not_true_eq_false, not_false_eq_true, eq_self_iff_true, if_true, if_false, Nat.reduceEqDiff, Nat.reduceAdd, Nat.reduceMul, Nat.reduceSub, Bool.false_eq_true, zl0, zl1, zl2, zl3, zl4, zl5, zl6, zl7, zl8, zl9, zl10, zl11, zl12, zl13, zl14, zl15, zl16, zl17, zl18, zl19, zl20, zl22, zl23, zl24, zl25, zl30, zl31, zl32, zl33, zl34, zl35, zl36, zl37, zl38, zl39, zl40, zl41, zl42, zl43, zl45, zl48, zl49, zl57, zl58, zl59, zl60, zl61, zl62, zl63, zl64, zl91, zl93, zl97, zl98, zl99, zl100, zl113, zl114, zl115, zl116, zl117, zl122, zl124, zl125, zl127, zl128, zl136, zl200, zl201, zl202, zl203, zl204, zl205, zl206, zl207, zl208, zl209, zl210, zl211, zl212, zl213, zl214, zl215, zl216, zl217, zl218, zl219, zl220, zl235, zl236, zl255, zl280, zl287, zl900, zl999, zl1000, zl1001, zl1136, zl1960, zl3000, zl3001, zl3002, zl3003, zl3004, zl3005, zl3006, zl3007, zl3008, zl3009, zl268435456, zl1000000000])]
      exact h77 e (by unfold sel; rw [if_neg c1, if_neg c2, if_neg c3, if_neg c4])
    have hs : sm (fun o => o == 109 || o == 112) P P1 := by rw [hP1]; exact sm_u1 (sm_u1 sm_refl rfl) rfl
    refine ⟨P2, by rw [hfin]; exact g1, sm_trans hs g2, g3, fun i hi => ?_, fun i h1 h2 => ?_, fun i hi => ?_⟩
    · rw [g4 i (by omega), hP1, u1_1, if_neg (by omega), u1_1, if_neg (by omega)]
    · by_cases c1 : i = j
      · subst c1
        rw [g4 (f + i) (by omega), hP1, u1_1, if_neg (by omega), u1_1, if_pos ⟨rfl, rfl⟩]
      · exact g5 i (by omega) h2
    · rw [g6 i hi, hP1, u1_1, if_neg (by omega), u1_1, if_neg (by omega)]
theorem feed_ok {P : PM} {s : AS} {a b c d e : Int32} (hC : CRep P s) (hM : MRep P s) (hca : CCa P (aV s)) (hok : AOk s) :
    ∃ v P1 P2, f_Yr_feed a b c d e P = some (v, P1) ∧ f_Mo_feed a b c d e P1 = some (v, P2) ∧ Inv P2 := by
  have hF := hok.2.2.2.2.2.2.1
  have hfed : P.1 1 1 = nI (aF s) := hC.2.2.2.2.2.1
  by_cases hx : aF s + 20 ≤ 900
  · refine join (r := nI (aF s + 20)) (a' := setF s a b c d e) hM ?_ ?_ ⟨hok.1, hok.2.1, hok.2.2.1, hok.2.2.2.1, hok.2.2.2.2.1, hok.2.2.2.2.2.1, hx, fun i => ?_⟩
    · obtain ⟨P1, a1, a2, a3, a4, a5, a6⟩ := addFour_C P a (aF s) hfed (by omega)
      obtain ⟨P2, b1, b2, b3, b4, b5, b6⟩ := addFour_C P1 b (aF s + 4) a3 (by omega)
      obtain ⟨P3, c1, c2, c3, c4, c5, c6⟩ := addFour_C P2 c (aF s + 4 + 4) b3 (by omega)
      obtain ⟨P4, d1, d2, d3, d4, d5, d6⟩ := addFour_C P3 d (aF s + 4 + 4 + 4) c3 (by omega)
      obtain ⟨P5, e1, e2, e3, e4, e5, e6⟩ := addFour_C P4 e (aF s + 4 + 4 + 4 + 4) d3 (by omega)
      have hs : sm rT P P5 := sm_trans (sm_trans (sm_trans (sm_trans a2 b2) c2) d2) e2
      refine ⟨P5, ?_, ⟨CNet_sm hC.1 hs rfl rfl rfl rfl rfl, CSt_sm hC.2.1 hs rfl rfl, CPast_sm hC.2.2.1 hs (fun o ho => by simp [ps] at ho; simp [rT]; omega) (by rw [hs.1 31 rfl]) (by rw [hs.1 31 rfl]), CTr_sm hC.2.2.2.1 hs rfl rfl (fun j hj => by simp [rT]; omega), CIm_sm hC.2.2.2.2.1 hs (fun o h1 h2 => by simp [rT]; omega), ?_⟩, CCa_ro hca (hs.1 59 rfl) (hs.1 60 rfl), sm_mono hs (fun o ho => by simp [cl] at ho; simp [rT]; omega)⟩
      · unfold f_Yr_feed
        rw [hfed, show (20 : Int32) = nI 20 from rfl, nI_add, show (900 : Int32) = nI 900 from rfl, if_pos (nI_le hx (by omega)), a1, Option.bind_some, b1, Option.bind_some, c1, Option.bind_some, d1, Option.bind_some, e1, Option.bind_some, e3]
      · refine ⟨e3, fun i hi => ?_, ?_, ?_⟩
        · change i < aF s + 20 at hi
          show P5.1 2 i &&& 255 = nI (nB (aF s) (aB s) a b c d e i)
          unfold nB sel
          by_cases h0 : i < aF s
          · rw [if_neg (by omega), e4 i (by omega), d4 i (by omega), c4 i (by omega), b4 i (by omega), a4 i h0]
            exact hC.2.2.2.2.2.2.1 i h0
          rw [if_pos (by omega)]
          by_cases h1 : i - aF s < 4
          · rw [if_pos h1, e4 i (by omega), d4 i (by omega), c4 i (by omega), b4 i (by omega), ← a5 _ (Nat.mod_lt _ (by omega))]
            rw [show aF s + (i - aF s) % 4 = i by omega]
          rw [if_neg h1]
          by_cases h2 : i - aF s < 8
          · rw [if_pos h2, e4 i (by omega), d4 i (by omega), c4 i (by omega), ← b5 _ (Nat.mod_lt _ (by omega))]
            rw [show aF s + 4 + (i - aF s) % 4 = i by omega]
          rw [if_neg h2]
          by_cases h3 : i - aF s < 12
          · rw [if_pos h3, e4 i (by omega), d4 i (by omega), ← c5 _ (Nat.mod_lt _ (by omega))]
            rw [show aF s + 4 + 4 + (i - aF s) % 4 = i by omega]
          rw [if_neg h3]
          by_cases h4 : i - aF s < 16
          · rw [if_pos h4, e4 i (by omega), ← d5 _ (Nat.mod_lt _ (by omega))]
            rw [show aF s + 4 + 4 + 4 + (i - aF s) % 4 = i by omega]
          rw [if_neg h4, ← e5 _ (Nat.mod_lt _ (by omega))]
          rw [show aF s + 4 + 4 + 4 + 4 + (i - aF s) % 4 = i by omega]
        · rw [e6 7 (by omega), d6 7 (by omega), c6 7 (by omega), b6 7 (by omega), a6 7 (by omega)]
          exact hC.2.2.2.2.2.2.2.1
        · rw [e6 8 (by omega), d6 8 (by omega), c6 8 (by omega), b6 8 (by omega), a6 8 (by omega)]
          exact hC.2.2.2.2.2.2.2.2
    · intro P hM
      have hM1 : MRep (u1 P 109 0 (0 : Int32)) s := MRep_me hM me_th
      obtain ⟨m1, m2, m3, m4, m5, m6⟩ := hM1
      obtain ⟨P2, g1, g2, g3, g4, g5, g6⟩ := feed_M (a := a) (b := b) (c := c) (d := d) (e := e) hx 20 FU 0 (u1 P 109 0 (0 : Int32)) (by omega) (by have := FU_big; omega) m6.1
      refine ⟨P2, ?_, ⟨MNet_sm m1 g2 rfl, MSt_sm m2 g2 rfl, MPast_ro m3 (g2.1 110 rfl), MTr_sm m4 g2 rfl rfl rfl, MIm_ix m5 (g2.1 111 rfl) (fun j _ => by rw [g2.1 110 rfl]), ?_⟩, sm_trans sm_th (sm_mono g2 (fun o ho => by simp [mo] at ho; simp; omega))⟩
      · unfold f_Mo_feed
        rw [show (u1 P 109 0 (0 : Int32)).1 109 5 = nI (aF s) from m6.1, show (20 : Int32) = nI 20 from rfl, nI_add, show (900 : Int32) = nI 900 from rfl, if_pos (nI_le hx (by omega))]
        exact g1
      · refine ⟨g3, fun i hi => ?_, (g6 13 (by omega)).trans m6.2.2.1, (g6 14 (by omega)).trans m6.2.2.2⟩
        change i < aF s + 20 at hi
        show P2.1 112 i = nI (nB (aF s) (aB s) a b c d e i)
        unfold nB
        by_cases h0 : i < aF s
        · rw [if_neg (by omega), g4 i h0]
          exact m6.2.1 i h0
        · rw [if_pos (by omega), ← g5 (i - aF s) (by omega) (by omega)]
          rw [show aF s + (i - aF s) = i by omega]
    · show nB (aF s) (aB s) a b c d e i < 256
      unfold nB
      split
      · exact bb_lt _ _
      · exact hok.2.2.2.2.2.2.2 i
  · refine join (r := -nI 5) (a' := s) hM ⟨P, ?_, hC, hca, sm_refl⟩ (fun P hM => ⟨u1 P 109 0 (0 : Int32), ?_, MRep_me hM me_th, sm_th⟩) hok
    · unfold f_Yr_feed
      rw [hfed, show (20 : Int32) = nI 20 from rfl, nI_add, show (900 : Int32) = nI 900 from rfl, if_neg (nI_ge (by omega) (by omega))]
      rfl
    · have hM1 : MRep (u1 P 109 0 (0 : Int32)) s := MRep_me hM me_th
      unfold f_Mo_feed
      rw [show (u1 P 109 0 (0 : Int32)).1 109 5 = nI (aF s) from hM1.2.2.2.2.2.1, show (20 : Int32) = nI 20 from rfl, nI_add, show (900 : Int32) = nI 900 from rfl, if_neg (nI_ge (by omega) (by omega))]
      rfl
