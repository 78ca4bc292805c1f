/-! reading: words and signs on both sides -/
def mb (b : Nat → Nat) (p q : Nat) (w : List Nat) : Bool := decide (q = p + w.length) && (List.range w.length).all (fun j => b (p + j) == w.getD j 0)
theorem mb_t {b : Nat → Nat} {p q : Nat} {w : List Nat} : mb b p q w = true ↔ q = p + w.length ∧ ∀ j, j < w.length → b (p + j) = w.getD j 0 := by
  unfold mb
  simp only [Bool.and_eq_true, decide_eq_true_eq, List.all_eq_true, List.mem_range, beq_iff_eq]
def fx (M : List Nat → Bool) : List (List Nat) → Nat
  | [] => 0
  | w :: ws => if M w = true then 0 else fx M ws + 1
def WC : List (List Nat) := [[115, 116, 97, 116, 105, 111, 110], [100, 117, 108, 108], [107, 105, 110, 100], [115, 105, 122, 101], [102, 114, 111, 109], [104, 111, 117, 114, 115], [110, 101, 116], [119, 97, 121], [97, 116], [116, 97, 107, 101, 115], [112, 97, 115, 115, 101, 115], [97, 115, 108, 101, 101, 112], [111, 100, 100, 115], [105, 102], [116, 104, 101, 110], [101, 108, 115, 101], [101, 110, 100], [111, 114], [97, 110, 100], [110, 111, 116]]
def WK : List (List Nat) := [[110, 101, 116], [115, 116, 97, 116, 105, 111, 110], [119, 97, 121], [97, 116], [116, 97, 107, 101, 115], [112, 97, 115, 115, 101, 115], [100, 117, 108, 108], [107, 105, 110, 100], [97, 115, 108, 101, 101, 112], [104, 111, 117, 114, 115], [111, 100, 100, 115], [115, 105, 122, 101], [105, 102], [116, 104, 101, 110], [101, 108, 115, 101], [101, 110, 100], [102, 114, 111, 109], [97, 110, 100], [111, 114], [110, 111, 116]]
/-- a text holds words, each with a blank behind it -/
def tlay (i e : Nat) : Nat → List (List Nat) → Bool
  | o, [] => decide (o = e)
  | o, w :: ws => (List.range w.length).all (fun j => decide (sch i (nI (o + j)) = nI (w.getD j 0)) && decide (w.getD j 0 ≠ 32) && decide (w.getD j 0 < 256)) && decide (sch i (nI (o + w.length)) = nI 32) && decide (o + w.length < e) && tlay i e (o + w.length + 1) ws
theorem lay_c {i e o : Nat} {w : List Nat} {ws : List (List Nat)} (h : tlay i e o (w :: ws) = true) :
    (∀ j, j < w.length → sch i (nI (o + j)) = nI (w.getD j 0) ∧ w.getD j 0 ≠ 32 ∧ w.getD j 0 < 256) ∧ sch i (nI (o + w.length)) = nI 32 ∧ o + w.length < e ∧ tlay i e (o + w.length + 1) ws = true := by
  unfold tlay at h
  simp only [Bool.and_eq_true, decide_eq_true_eq, List.all_eq_true, List.mem_range] at h
  exact ⟨fun j hj => ⟨(h.1.1.1 j hj).1.1, (h.1.1.1 j hj).1.2, (h.1.1.1 j hj).2⟩, h.1.1.2, h.1.2, h.2⟩
theorem lay_W : tlay 0 98 0 WC = true := by decide +kernel
theorem lay_K : tlay 2 99 1 WK = true := by decide +kernel
/-- the class's look at one word, some signs of it seen -/
theorem word_C1 {b : Nat → Nat} {n p q o : Nat} {w : List Nat} (hb : Bk b n) (hq : q ≤ n) (hpq : p ≤ q) (hw : ∀ j, j < w.length → sch 0 (nI (o + j)) = nI (w.getD j 0) ∧ w.getD j 0 ≠ 32 ∧ w.getD j 0 < 256) (hs : sch 0 (nI (o + w.length)) = nI 32) (ho : o + w.length < 98) (m : Nat) :
    ∀ (r j : Nat) (A : Bool) (P : PM), j + r = w.length → (A = true ↔ ∀ i, i < j → chv b n (p + i) = nI (w.getD i 0)) → TKC b n P → P.1 1 4 = nI p → P.1 1 3 = nI q →
      l_Ta_readWord_55 (m + r + 1) (nI (p + j)) (nI (if A = true then 1 else 0)) (nI (o + j)) P = if mb b p q w = true then some P else l_Ta_readWord_55 m (nI p) (nI 1) (nI (o + w.length + 1)) (u1 P 1 5 (P.1 1 5 + nI 1)) := by
  intro r
  have hn := hb.1
  induction r with
  | zero =>
    intro j A P hj hA hK h4 h3
    obtain rfl : j = w.length := by omega
    have hA2 : mb b p q w = true ↔ A = true ∧ p + w.length = q := by
      rw [mb_t, hA]
      constructor
      · rintro ⟨h1, h2⟩
        exact ⟨fun i hi => by unfold chv; rw [if_pos (by omega), h2 i hi], h1.symm⟩
      · rintro ⟨h1, h2⟩
        refine ⟨h2.symm, fun i hi => ?_⟩
        have := h1 i hi
        unfold chv at this
        rw [if_pos (by omega)] at this
        exact (nI_eq (by have := hb.2 (p + i); omega) (by have := (hw i hi).2.2; omega)).mp this
    have e118 : j_Ta_readWord_118 (fun z0 z1 z2 Pz => l_Ta_readWord_55 m z0 z1 z2 Pz) (nI (o + w.length)) P = l_Ta_readWord_55 m (nI p) (nI 1) (nI (o + w.length + 1)) (u1 P 1 5 (P.1 1 5 + nI 1)) := by
      unfold j_Ta_readWord_118 j_Ta_readWord_135
      rw [lb_eq, u1_1, if_neg (by omega), h4, z_one]
      rfl
    rw [l_Ta_readWord_55, if_neg (by simp (disch := omega) only [z_add, z_mul, z_sub, z_subm, z_addm, z_lt_t, z_lt_f, z_le_t, z_le_f, z_eq_t, z_eq_f, z_eqm, z_meq, z_mm, z_ltm, z_mlt, z_lem, z_mle, z_cl, z_ck, u1_1, u1_2, u2_1, u2_2, ↓reduceIte, Option.bind_some, Option.bind_none, bd2_some, lb_eq, and_true, and_false, true_and, false_and, not_true_eq_false, not_false_eq_true, eq_self_iff_true, if_true, if_false, Nat.reduceEqDiff, Nat.reduceAdd, Nat.reduceMul, Nat.reduceSub, Bool.false_eq_true, zl0, zl1, zl2, zl3, zl4, zl5, zl6, zl7, zl8, zl9, zl10, zl11, zl12, zl13, zl14, zl15, zl16, zl17, zl18, zl19, zl20, zl22, zl23, zl24, zl25, zl30, zl31, zl32, zl33, zl34, zl35, zl36, zl37, zl38, zl39, zl40, zl41, zl42, zl43, zl45, zl48, zl49, zl57, zl58, zl59, zl60, zl61, zl62, zl63, zl64, zl91, zl93, zl97, zl98, zl99, zl100, zl113, zl114, zl115, zl116, zl117, zl122, zl124, zl125, zl127, zl128, zl136, zl200, zl201, zl202, zl203, zl204, zl205, zl206, zl207, zl208, zl209, zl210, zl211, zl212, zl213, zl214, zl215, zl216, zl217, zl218, zl219, zl220, zl235, zl236, zl255, zl280, zl287, zl900, zl999, zl1000, zl1001, zl1136, zl1960, zl3000, zl3001, zl3002, zl3003, zl3004, zl3005, zl3006, zl3007, zl3008, zl3009, zl268435456, zl1000000000]), z_ck (by omega) (by omega), lb_eq, hs, if_pos (by rfl)]
    by_cases hAt : A = true
    · rw [if_neg (by rw [if_pos hAt]; decide), h3]
      by_cases e : p + w.length = q
      · rw [if_pos (by rw [e]), if_pos (hA2.mpr ⟨hAt, e⟩)]
      · rw [if_neg (by simp (disch := omega) only [z_add, z_mul, z_sub, z_subm, z_addm, z_lt_t, z_lt_f, z_le_t, z_le_f, z_eq_t, z_eq_f, z_eqm, z_meq, z_mm, z_ltm, z_mlt, z_lem, z_mle, z_cl, z_ck, u1_1, u1_2, u2_1, u2_2, ↓reduceIte, Option.bind_some, Option.bind_none, bd2_some, lb_eq, and_true, and_false, true_and, false_and, not_true_eq_false, not_false_eq_true, eq_self_iff_true, if_true, if_false, Nat.reduceEqDiff, Nat.reduceAdd, Nat.reduceMul, Nat.reduceSub, Bool.false_eq_true, zl0, zl1, zl2, zl3, zl4, zl5, zl6, zl7, zl8, zl9, zl10, zl11, zl12, zl13, zl14, zl15, zl16, zl17, zl18, zl19, zl20, zl22, zl23, zl24, zl25, zl30, zl31, zl32, zl33, zl34, zl35, zl36, zl37, zl38, zl39, zl40, zl41, zl42, zl43, zl45, zl48, zl49, zl57, zl58, zl59, zl60, zl61, zl62, zl63, zl64, zl91, zl93, zl97, zl98, zl99, zl100, zl113, zl114, zl115, zl116, zl117, zl122, zl124, zl125, zl127, zl128, zl136, zl200, zl201, zl202, zl203, zl204, zl205, zl206, zl207, zl208, zl209, zl210, zl211, zl212, zl213, zl214, zl215, zl216, zl217, zl218, zl219, zl220, zl235, zl236, zl255, zl280, zl287, zl900, zl999, zl1000, zl1001, zl1136, zl1960, zl3000, zl3001, zl3002, zl3003, zl3004, zl3005, zl3006, zl3007, zl3008, zl3009, zl268435456, zl1000000000]), if_neg (fun c => e (hA2.mp c).2)]
        exact e118
    · rw [if_pos (by rw [if_neg hAt]; rfl), if_neg (fun c => hAt (hA2.mp c).1)]
      exact e118
  | succ r ih =>
    intro j A P hj hA hK h4 h3
    obtain ⟨w1, w2, w3⟩ := hw j (by omega)
    have e98 : ∀ B : Bool, (B = true ↔ ∀ i, i < j + 1 → chv b n (p + i) = nI (w.getD i 0)) → j_Ta_readWord_98 (fun z0 z1 z2 Pz => l_Ta_readWord_55 (m + r + 1) z0 z1 z2 Pz) (nI (p + j)) (nI (o + j)) (nI (if B = true then 1 else 0)) P = if mb b p q w = true then some P else l_Ta_readWord_55 m (nI p) (nI 1) (nI (o + w.length + 1)) (u1 P 1 5 (P.1 1 5 + nI 1)) := by
      intro B hB
      unfold j_Ta_readWord_98 j_Ta_readWord_135
      rw [z_one, z_one]
      exact ih (j + 1) B P (by omega) hB hK h4 h3
    rw [show m + (r + 1) + 1 = (m + r + 1) + 1 from by omega, l_Ta_readWord_55, if_neg (by simp (disch := omega) only [z_add, z_mul, z_sub, z_subm, z_addm, z_lt_t, z_lt_f, z_le_t, z_le_f, z_eq_t, z_eq_f, z_eqm, z_meq, z_mm, z_ltm, z_mlt, z_lem, z_mle, z_cl, z_ck, u1_1, u1_2, u2_1, u2_2, ↓reduceIte, Option.bind_some, Option.bind_none, bd2_some, lb_eq, and_true, and_false, true_and, false_and, not_true_eq_false, not_false_eq_true, eq_self_iff_true, if_true, if_false, Nat.reduceEqDiff, Nat.reduceAdd, Nat.reduceMul, Nat.reduceSub, Bool.false_eq_true, zl0, zl1, zl2, zl3, zl4, zl5, zl6, zl7, zl8, zl9, zl10, zl11, zl12, zl13, zl14, zl15, zl16, zl17, zl18, zl19, zl20, zl22, zl23, zl24, zl25, zl30, zl31, zl32, zl33, zl34, zl35, zl36, zl37, zl38, zl39, zl40, zl41, zl42, zl43, zl45, zl48, zl49, zl57, zl58, zl59, zl60, zl61, zl62, zl63, zl64, zl91, zl93, zl97, zl98, zl99, zl100, zl113, zl114, zl115, zl116, zl117, zl122, zl124, zl125, zl127, zl128, zl136, zl200, zl201, zl202, zl203, zl204, zl205, zl206, zl207, zl208, zl209, zl210, zl211, zl212, zl213, zl214, zl215, zl216, zl217, zl218, zl219, zl220, zl235, zl236, zl255, zl280, zl287, zl900, zl999, zl1000, zl1001, zl1136, zl1960, zl3000, zl3001, zl3002, zl3003, zl3004, zl3005, zl3006, zl3007, zl3008, zl3009, zl268435456, zl1000000000]), z_ck (by omega) (by omega), lb_eq, w1, if_neg (by simp (disch := omega) only [z_add, z_mul, z_sub, z_subm, z_addm, z_lt_t, z_lt_f, z_le_t, z_le_f, z_eq_t, z_eq_f, z_eqm, z_meq, z_mm, z_ltm, z_mlt, z_lem, z_mle, z_cl, z_ck, u1_1, u1_2, u2_1, u2_2, ↓reduceIte, Option.bind_some, Option.bind_none, bd2_some, lb_eq, and_true, and_false, true_and, false_and, not_true_eq_false, not_false_eq_true, eq_self_iff_true, if_true, if_false, Nat.reduceEqDiff, Nat.reduceAdd, Nat.reduceMul, Nat.reduceSub, Bool.false_eq_true, zl0, zl1, zl2, zl3, zl4, zl5, zl6, zl7, zl8, zl9, zl10, zl11, zl12, zl13, zl14, zl15, zl16, zl17, zl18, zl19, zl20, zl22, zl23, zl24, zl25, zl30, zl31, zl32, zl33, zl34, zl35, zl36, zl37, zl38, zl39, zl40, zl41, zl42, zl43, zl45, zl48, zl49, zl57, zl58, zl59, zl60, zl61, zl62, zl63, zl64, zl91, zl93, zl97, zl98, zl99, zl100, zl113, zl114, zl115, zl116, zl117, zl122, zl124, zl125, zl127, zl128, zl136, zl200, zl201, zl202, zl203, zl204, zl205, zl206, zl207, zl208, zl209, zl210, zl211, zl212, zl213, zl214, zl215, zl216, zl217, zl218, zl219, zl220, zl235, zl236, zl255, zl280, zl287, zl900, zl999, zl1000, zl1001, zl1136, zl1960, zl3000, zl3001, zl3002, zl3003, zl3004, zl3005, zl3006, zl3007, zl3008, zl3009, zl268435456, zl1000000000])]
    by_cases hAt : A = true
    · rw [if_neg (by rw [if_pos hAt]; decide)]
      have hx : f_Ta_byteAt (nI (p + j)) P = some (chv b n (p + j)) := byteAt_C hb hK (by omega)
      rw [hx, Option.bind_some]
      by_cases c : nI (w.getD j 0) = chv b n (p + j)
      · rw [if_pos c]
        refine e98 true ⟨fun _ i hi => ?_, fun _ => rfl⟩
        by_cases e : i = j
        · rw [e]; exact c.symm
        · exact hA.mp hAt i (by omega)
      · rw [if_neg c]
        exact e98 false ⟨fun h => (by cases h), fun h => absurd (h j (by omega)).symm c⟩
    · rw [if_pos (by rw [if_neg hAt]; rfl)]
      exact e98 false ⟨fun h => (by cases h), fun h => absurd (hA.mpr (fun i hi => h i (by omega))) hAt⟩
theorem word_C {b : Nat → Nat} {n p q : Nat} (hb : Bk b n) (hq : q ≤ n) (hpq : p ≤ q) : ∀ (ws : List (List Nat)) (o t fuel : Nat) (P : PM), tlay 0 98 o ws = true → TKC b n P → P.1 1 4 = nI p → P.1 1 3 = nI q → P.1 1 5 = nI t → t + ws.length = 220 → 98 - o < fuel → o ≤ 98 →
    l_Ta_readWord_55 fuel (nI p) (nI 1) (nI o) P = some (u1 P 1 5 (nI (t + fx (mb b p q) ws))) := by
  intro ws
  induction ws with
  | nil =>
    intro o t fuel P hl hK h4 h3 h5 ht hf ho
    obtain ⟨fuel, rfl⟩ : ∃ z, fuel = z + 1 := ⟨fuel - 1, by omega⟩
    have : o = 98 := by unfold tlay at hl; simpa using hl
    subst this
    rw [l_Ta_readWord_55, if_pos (by decide)]
    have : t = 220 := by simpa using ht
    rw [this]; rfl
  | cons w ws ih =>
    intro o t fuel P hl hK h4 h3 h5 ht hf ho
    obtain ⟨c1, c2, c3, c4⟩ := lay_c hl
    obtain ⟨m, rfl⟩ : ∃ m, fuel = m + w.length + 1 := ⟨fuel - w.length - 1, by omega⟩
    have h0 := word_C1 (q := q) hb hq hpq c1 c2 c3 m w.length 0 true P (by omega) ⟨fun _ i hi => by omega, fun _ => rfl⟩ hK h4 h3
    rw [if_pos rfl] at h0
    change l_Ta_readWord_55 (m + w.length + 1) (nI p) (nI 1) (nI o) P = _ at h0
    rw [h0]
    unfold fx
    by_cases c : mb b p q w = true
    · rw [if_pos c, if_pos c, Nat.add_zero, tk_id h5]
    · rw [if_neg c, if_neg c, h5, nI_add]
      rw [ih (o + w.length + 1) (t + 1) m _ c4 (TKC_f hK (fc_u fc_refl (by omega))) (by rw [u1_1, if_neg (by omega), h4]) (by rw [u1_1, if_neg (by omega), h3]) (by rw [u1_1, if_pos ⟨rfl, rfl⟩]) (by simp only [List.length_cons] at ht; omega) (by omega) (by omega), tk_uu, show t + 1 + fx (mb b p q) ws = t + (fx (mb b p q) ws + 1) from by omega]
theorem key_skip {k4 : Int32 → Int32 → Option Int32} {w : List Nat} {o : Nat} (hw : ∀ j, j < w.length → sch 2 (nI (o + j)) = nI (w.getD j 0) ∧ w.getD j 0 ≠ 32 ∧ w.getD j 0 < 256) (hs : sch 2 (nI (o + w.length)) = nI 32) (ho : o + w.length < 99) (x : Nat) (P : PM) : ∀ (r j fuel : Nat), j + r = w.length → r < fuel → l_Mo_keyAt_97 k4 fuel (nI x) (nI (o + j)) P = k4 (nI (x + 1)) (nI (o + w.length + 1)) := by
  intro r
  induction r with
  | zero =>
    intro j fuel hj hf
    obtain ⟨fuel, rfl⟩ : ∃ z, fuel = z + 1 := ⟨fuel - 1, by omega⟩
    obtain rfl : j = w.length := by omega
    rw [l_Mo_keyAt_97, z_ck (by omega) (by omega), hs, if_pos (by rfl), z_one, z_one]
  | succ r ih =>
    intro j fuel hj hf
    obtain ⟨fuel, rfl⟩ : ∃ z, fuel = z + 1 := ⟨fuel - 1, by omega⟩
    obtain ⟨w1, w2, w3⟩ := hw j (by omega)
    rw [l_Mo_keyAt_97, z_ck (by omega) (by omega), w1, if_neg (by simp (disch := omega) only [z_add, z_mul, z_sub, z_subm, z_addm, z_lt_t, z_lt_f, z_le_t, z_le_f, z_eq_t, z_eq_f, z_eqm, z_meq, z_mm, z_ltm, z_mlt, z_lem, z_mle, z_cl, z_ck, u1_1, u1_2, u2_1, u2_2, ↓reduceIte, Option.bind_some, Option.bind_none, bd2_some, lb_eq, and_true, and_false, true_and, false_and, not_true_eq_false, not_false_eq_true, eq_self_iff_true, if_true, if_false, Nat.reduceEqDiff, Nat.reduceAdd, Nat.reduceMul, Nat.reduceSub, Bool.false_eq_true, zl0, zl1, zl2, zl3, zl4, zl5, zl6, zl7, zl8, zl9, zl10, zl11, zl12, zl13, zl14, zl15, zl16, zl17, zl18, zl19, zl20, zl22, zl23, zl24, zl25, zl30, zl31, zl32, zl33, zl34, zl35, zl36, zl37, zl38, zl39, zl40, zl41, zl42, zl43, zl45, zl48, zl49, zl57, zl58, zl59, zl60, zl61, zl62, zl63, zl64, zl91, zl93, zl97, zl98, zl99, zl100, zl113, zl114, zl115, zl116, zl117, zl122, zl124, zl125, zl127, zl128, zl136, zl200, zl201, zl202, zl203, zl204, zl205, zl206, zl207, zl208, zl209, zl210, zl211, zl212, zl213, zl214, zl215, zl216, zl217, zl218, zl219, zl220, zl235, zl236, zl255, zl280, zl287, zl900, zl999, zl1000, zl1001, zl1136, zl1960, zl3000, zl3001, zl3002, zl3003, zl3004, zl3005, zl3006, zl3007, zl3008, zl3009, zl268435456, zl1000000000]), z_one, Nat.add_assoc]
    exact ih (j + 1) fuel (by omega) (by omega)
theorem key_M1 {b : Nat → Nat} {n p q o : Nat} {w : List Nat} {k4 : Int32 → Int32 → Option Int32} {P : PM} (hb : Bk b n) (hq : q ≤ n) (hpq : p ≤ q) (hw : ∀ j, j < w.length → sch 2 (nI (o + j)) = nI (w.getD j 0) ∧ w.getD j 0 ≠ 32 ∧ w.getD j 0 < 256) (hs : sch 2 (nI (o + w.length)) = nI 32) (ho : o + w.length < 99)
    (hK : TKM b n P) (h6 : P.1 109 6 = nI p) (h7 : P.1 109 7 = nI q) (x : Nat) :
    ∀ (r j fuel : Nat), j + r = w.length → r < fuel → (∀ i, i < j → p + i < q ∧ b (p + i) = w.getD i 0) →
      l_Mo_keyAt_15 k4 fuel (nI x) (nI o) (nI j) P = if mb b p q w = true then some (nI x) else k4 (nI (x + 1)) (nI (o + w.length + 1)) := by
  intro r
  have hn := hb.1
  have hFU := FU_big
  have hsk : l_Mo_keyAt_97 k4 FU (nI x) (nI o) P = k4 (nI (x + 1)) (nI (o + w.length + 1)) := key_skip hw hs ho x P w.length 0 FU (by omega) (by omega)
  induction r with
  | zero =>
    intro j fuel hj hf hA
    obtain ⟨fuel, rfl⟩ : ∃ z, fuel = z + 1 := ⟨fuel - 1, by omega⟩
    obtain rfl : j = w.length := by omega
    rw [l_Mo_keyAt_15, z_add, z_ck (by omega) (by omega), hs, if_pos (by rfl)]
    unfold j_Mo_keyAt_69
    rw [z_add, z_ck (by omega) (by omega), hs, if_pos (by rfl), h6, h7, z_add]
    have hA2 : mb b p q w = true ↔ p + w.length = q := by
      rw [mb_t]
      exact ⟨fun h => h.1.symm, fun h => ⟨h.symm, fun j hj => (hA j hj).2⟩⟩
    by_cases e : p + w.length = q
    · rw [if_pos (by rw [e]), if_pos (hA2.mpr e)]
    · rw [if_neg ?_, if_neg (fun c => e (hA2.mp c)), hsk]
      intro c
      have hle : p + w.length ≤ q ∨ q < p + w.length := by omega
      rcases hle with hle | hle
      · exact e ((nI_eq (by omega) (by omega)).mp c)
      · exact e ((nI_eq (by omega) (by omega)).mp c)
  | succ r ih =>
    intro j fuel hj hf hA
    obtain ⟨fuel, rfl⟩ : ∃ z, fuel = z + 1 := ⟨fuel - 1, by omega⟩
    obtain ⟨w1, w2, w3⟩ := hw j (by omega)
    have e69 : (¬ mb b p q w = true) → j_Mo_keyAt_69 k4 (nI x) (nI o) (nI j) P = if mb b p q w = true then some (nI x) else k4 (nI (x + 1)) (nI (o + w.length + 1)) := by
      intro h
      unfold j_Mo_keyAt_69
      rw [z_add, z_ck (by omega) (by omega), w1, if_neg (by simp (disch := omega) only [z_add, z_mul, z_sub, z_subm, z_addm, z_lt_t, z_lt_f, z_le_t, z_le_f, z_eq_t, z_eq_f, z_eqm, z_meq, z_mm, z_ltm, z_mlt, z_lem, z_mle, z_cl, z_ck, u1_1, u1_2, u2_1, u2_2, ↓reduceIte, Option.bind_some, Option.bind_none, bd2_some, lb_eq, and_true, and_false, true_and, false_and, not_true_eq_false, not_false_eq_true, eq_self_iff_true, if_true, if_false, Nat.reduceEqDiff, Nat.reduceAdd, Nat.reduceMul, Nat.reduceSub, Bool.false_eq_true, zl0, zl1, zl2, zl3, zl4, zl5, zl6, zl7, zl8, zl9, zl10, zl11, zl12, zl13, zl14, zl15, zl16, zl17, zl18, zl19, zl20, zl22, zl23, zl24, zl25, zl30, zl31, zl32, zl33, zl34, zl35, zl36, zl37, zl38, zl39, zl40, zl41, zl42, zl43, zl45, zl48, zl49, zl57, zl58, zl59, zl60, zl61, zl62, zl63, zl64, zl91, zl93, zl97, zl98, zl99, zl100, zl113, zl114, zl115, zl116, zl117, zl122, zl124, zl125, zl127, zl128, zl136, zl200, zl201, zl202, zl203, zl204, zl205, zl206, zl207, zl208, zl209, zl210, zl211, zl212, zl213, zl214, zl215, zl216, zl217, zl218, zl219, zl220, zl235, zl236, zl255, zl280, zl287, zl900, zl999, zl1000, zl1001, zl1136, zl1960, zl3000, zl3001, zl3002, zl3003, zl3004, zl3005, zl3006, zl3007, zl3008, zl3009, zl268435456, zl1000000000]), if_neg h, hsk]
    rw [l_Mo_keyAt_15, z_add, z_ck (by omega) (by omega), w1, if_neg (by simp (disch := omega) only [z_add, z_mul, z_sub, z_subm, z_addm, z_lt_t, z_lt_f, z_le_t, z_le_f, z_eq_t, z_eq_f, z_eqm, z_meq, z_mm, z_ltm, z_mlt, z_lem, z_mle, z_cl, z_ck, u1_1, u1_2, u2_1, u2_2, ↓reduceIte, Option.bind_some, Option.bind_none, bd2_some, lb_eq, and_true, and_false, true_and, false_and, not_true_eq_false, not_false_eq_true, eq_self_iff_true, if_true, if_false, Nat.reduceEqDiff, Nat.reduceAdd, Nat.reduceMul, Nat.reduceSub, Bool.false_eq_true, zl0, zl1, zl2, zl3, zl4, zl5, zl6, zl7, zl8, zl9, zl10, zl11, zl12, zl13, zl14, zl15, zl16, zl17, zl18, zl19, zl20, zl22, zl23, zl24, zl25, zl30, zl31, zl32, zl33, zl34, zl35, zl36, zl37, zl38, zl39, zl40, zl41, zl42, zl43, zl45, zl48, zl49, zl57, zl58, zl59, zl60, zl61, zl62, zl63, zl64, zl91, zl93, zl97, zl98, zl99, zl100, zl113, zl114, zl115, zl116, zl117, zl122, zl124, zl125, zl127, zl128, zl136, zl200, zl201, zl202, zl203, zl204, zl205, zl206, zl207, zl208, zl209, zl210, zl211, zl212, zl213, zl214, zl215, zl216, zl217, zl218, zl219, zl220, zl235, zl236, zl255, zl280, zl287, zl900, zl999, zl1000, zl1001, zl1136, zl1960, zl3000, zl3001, zl3002, zl3003, zl3004, zl3005, zl3006, zl3007, zl3008, zl3009, zl268435456, zl1000000000]), h6, h7, z_add]
    by_cases c : q ≤ p + j
    · rw [if_pos (by simp (disch := omega) only [z_add, z_mul, z_sub, z_subm, z_addm, z_lt_t, z_lt_f, z_le_t, z_le_f, z_eq_t, z_eq_f, z_eqm, z_meq, z_mm, z_ltm, z_mlt, z_lem, z_mle, z_cl, z_ck, u1_1, u1_2, u2_1, u2_2, ↓reduceIte, Option.bind_some, Option.bind_none, bd2_some, lb_eq, and_true, and_false, true_and, false_and, not_true_eq_false, not_false_eq_true, eq_self_iff_true, if_true, if_false, Nat.reduceEqDiff, Nat.reduceAdd, Nat.reduceMul, Nat.reduceSub, Bool.false_eq_true, zl0, zl1, zl2, zl3, zl4, zl5, zl6, zl7, zl8, zl9, zl10, zl11, zl12, zl13, zl14, zl15, zl16, zl17, zl18, zl19, zl20, zl22, zl23, zl24, zl25, zl30, zl31, zl32, zl33, zl34, zl35, zl36, zl37, zl38, zl39, zl40, zl41, zl42, zl43, zl45, zl48, zl49, zl57, zl58, zl59, zl60, zl61, zl62, zl63, zl64, zl91, zl93, zl97, zl98, zl99, zl100, zl113, zl114, zl115, zl116, zl117, zl122, zl124, zl125, zl127, zl128, zl136, zl200, zl201, zl202, zl203, zl204, zl205, zl206, zl207, zl208, zl209, zl210, zl211, zl212, zl213, zl214, zl215, zl216, zl217, zl218, zl219, zl220, zl235, zl236, zl255, zl280, zl287, zl900, zl999, zl1000, zl1001, zl1136, zl1960, zl3000, zl3001, zl3002, zl3003, zl3004, zl3005, zl3006, zl3007, zl3008, zl3009, zl268435456, zl1000000000])]
      exact e69 (fun h => by have := (mb_t.mp h).1; omega)
    · have hbj := hb.2 (p + j)
      rw [if_neg (by simp (disch := omega) only [z_add, z_mul, z_sub, z_subm, z_addm, z_lt_t, z_lt_f, z_le_t, z_le_f, z_eq_t, z_eq_f, z_eqm, z_meq, z_mm, z_ltm, z_mlt, z_lem, z_mle, z_cl, z_ck, u1_1, u1_2, u2_1, u2_2, ↓reduceIte, Option.bind_some, Option.bind_none, bd2_some, lb_eq, and_true, and_false, true_and, false_and, not_true_eq_false, not_false_eq_true, eq_self_iff_true, if_true, if_false, Nat.reduceEqDiff, Nat.reduceAdd, Nat.reduceMul, Nat.reduceSub, Bool.false_eq_true, zl0, zl1, zl2, zl3, zl4, zl5, zl6, zl7, zl8, zl9, zl10, zl11, zl12, zl13, zl14, zl15, zl16, zl17, zl18, zl19, zl20, zl22, zl23, zl24, zl25, zl30, zl31, zl32, zl33, zl34, zl35, zl36, zl37, zl38, zl39, zl40, zl41, zl42, zl43, zl45, zl48, zl49, zl57, zl58, zl59, zl60, zl61, zl62, zl63, zl64, zl91, zl93, zl97, zl98, zl99, zl100, zl113, zl114, zl115, zl116, zl117, zl122, zl124, zl125, zl127, zl128, zl136, zl200, zl201, zl202, zl203, zl204, zl205, zl206, zl207, zl208, zl209, zl210, zl211, zl212, zl213, zl214, zl215, zl216, zl217, zl218, zl219, zl220, zl235, zl236, zl255, zl280, zl287, zl900, zl999, zl1000, zl1001, zl1136, zl1960, zl3000, zl3001, zl3002, zl3003, zl3004, zl3005, zl3006, zl3007, zl3008, zl3009, zl268435456, zl1000000000]), z_ck (by omega) (by omega), z_ck (by omega) (by omega), z_cl (by omega), hK.2 (p + j) (by omega)]
      by_cases c2 : b (p + j) = w.getD j 0
      · rw [if_pos (by rw [c2]), z_one]
        refine ih (j + 1) fuel (by omega) (by omega) (fun i hi => ?_)
        by_cases e : i = j
        · rw [e]; exact ⟨by omega, c2⟩
        · exact hA i (by omega)
      · rw [if_neg (by simp (disch := omega) only [z_add, z_mul, z_sub, z_subm, z_addm, z_lt_t, z_lt_f, z_le_t, z_le_f, z_eq_t, z_eq_f, z_eqm, z_meq, z_mm, z_ltm, z_mlt, z_lem, z_mle, z_cl, z_ck, u1_1, u1_2, u2_1, u2_2, ↓reduceIte, Option.bind_some, Option.bind_none, bd2_some, lb_eq, and_true, and_false, true_and, false_and, not_true_eq_false, not_false_eq_true, eq_self_iff_true, if_true, if_false, Nat.reduceEqDiff, Nat.reduceAdd, Nat.reduceMul, Nat.reduceSub, Bool.false_eq_true, zl0, zl1, zl2, zl3, zl4, zl5, zl6, zl7, zl8, zl9, zl10, zl11, zl12, zl13, zl14, zl15, zl16, zl17, zl18, zl19, zl20, zl22, zl23, zl24, zl25, zl30, zl31, zl32, zl33, zl34, zl35, zl36, zl37, zl38, zl39, zl40, zl41, zl42, zl43, zl45, zl48, zl49, zl57, zl58, zl59, zl60, zl61, zl62, zl63, zl64, zl91, zl93, zl97, zl98, zl99, zl100, zl113, zl114, zl115, zl116, zl117, zl122, zl124, zl125, zl127, zl128, zl136, zl200, zl201, zl202, zl203, zl204, zl205, zl206, zl207, zl208, zl209, zl210, zl211, zl212, zl213, zl214, zl215, zl216, zl217, zl218, zl219, zl220, zl235, zl236, zl255, zl280, zl287, zl900, zl999, zl1000, zl1001, zl1136, zl1960, zl3000, zl3001, zl3002, zl3003, zl3004, zl3005, zl3006, zl3007, zl3008, zl3009, zl268435456, zl1000000000])]
        exact e69 (fun h => c2 ((mb_t.mp h).2 j (by omega)))
theorem key_M {b : Nat → Nat} {n p q : Nat} {P : PM} (hb : Bk b n) (hq : q ≤ n) (hpq : p ≤ q) (hK : TKM b n P) (h6 : P.1 109 6 = nI p) (h7 : P.1 109 7 = nI q) : ∀ (ws : List (List Nat)) (o x fuel : Nat), tlay 2 99 o ws = true → x + ws.length = 20 → ws.length < fuel → o ≤ 99 →
    l_Mo_keyAt_4 fuel (nI x) (nI o) P = some (nI (if x + fx (mb b p q) ws = 20 then 22 else x + fx (mb b p q) ws)) := by
  intro ws
  induction ws with
  | nil =>
    intro o x fuel hl hx hf ho
    obtain ⟨fuel, rfl⟩ : ∃ z, fuel = z + 1 := ⟨fuel - 1, by omega⟩
    have : o = 99 := by unfold tlay at hl; simpa using hl
    subst this
    rw [l_Mo_keyAt_4, if_pos (by decide), if_pos (by simpa [fx] using hx)]
    rfl
  | cons w ws ih =>
    intro o x fuel hl hx hf ho
    obtain ⟨fuel, rfl⟩ : ∃ z, fuel = z + 1 := ⟨fuel - 1, by omega⟩
    obtain ⟨c1, c2, c3, c4⟩ := lay_c hl
    simp only [List.length_cons] at hx hf
    rw [l_Mo_keyAt_4, if_neg (by simp (disch := omega) only [z_add, z_mul, z_sub, z_subm, z_addm, z_lt_t, z_lt_f, z_le_t, z_le_f, z_eq_t, z_eq_f, z_eqm, z_meq, z_mm, z_ltm, z_mlt, z_lem, z_mle, z_cl, z_ck, u1_1, u1_2, u2_1, u2_2, ↓reduceIte, Option.bind_some, Option.bind_none, bd2_some, lb_eq, and_true, and_false, true_and, false_and, not_true_eq_false, not_false_eq_true, eq_self_iff_true, if_true, if_false, Nat.reduceEqDiff, Nat.reduceAdd, Nat.reduceMul, Nat.reduceSub, Bool.false_eq_true, zl0, zl1, zl2, zl3, zl4, zl5, zl6, zl7, zl8, zl9, zl10, zl11, zl12, zl13, zl14, zl15, zl16, zl17, zl18, zl19, zl20, zl22, zl23, zl24, zl25, zl30, zl31, zl32, zl33, zl34, zl35, zl36, zl37, zl38, zl39, zl40, zl41, zl42, zl43, zl45, zl48, zl49, zl57, zl58, zl59, zl60, zl61, zl62, zl63, zl64, zl91, zl93, zl97, zl98, zl99, zl100, zl113, zl114, zl115, zl116, zl117, zl122, zl124, zl125, zl127, zl128, zl136, zl200, zl201, zl202, zl203, zl204, zl205, zl206, zl207, zl208, zl209, zl210, zl211, zl212, zl213, zl214, zl215, zl216, zl217, zl218, zl219, zl220, zl235, zl236, zl255, zl280, zl287, zl900, zl999, zl1000, zl1001, zl1136, zl1960, zl3000, zl3001, zl3002, zl3003, zl3004, zl3005, zl3006, zl3007, zl3008, zl3009, zl268435456, zl1000000000])]
    have hFU := FU_big
    have h0 := key_M1 (k4 := fun z0 z1 => l_Mo_keyAt_4 fuel z0 z1 P) (q := q) hb hq hpq c1 c2 c3 hK h6 h7 x w.length 0 FU (by omega) (by omega) (fun i hi => by omega)
    rw [show (0 : Int32) = nI 0 from rfl, h0]
    unfold fx
    by_cases c : mb b p q w = true
    · rw [if_pos c, if_pos c, if_neg (by omega)]; rfl
    · rw [if_neg c, if_neg c, ih (o + w.length + 1) (x + 1) fuel c4 (by omega) (by omega) (by omega), show x + 1 + fx (mb b p q) ws = x + (fx (mb b p q) ws + 1) from by omega]
theorem keyAt_M {b : Nat → Nat} {n p q : Nat} {P : PM} (hb : Bk b n) (hq : q ≤ n) (hpq : p ≤ q) (hK : TKM b n P) (h6 : P.1 109 6 = nI p) (h7 : P.1 109 7 = nI q) : f_Mo_keyAt P = some (nI (if fx (mb b p q) WK = 20 then 22 else fx (mb b p q) WK)) := by
  have := key_M hb hq hpq hK h6 h7 WK 1 0 FU lay_K rfl (by have := FU_big; show 20 < FU; omega) (by omega)
  rw [Nat.zero_add] at this
  exact this
/-- the class's token of the reference's -/
def kt (k : Nat) : Nat := [206, 200, 207, 208, 209, 210, 201, 202, 211, 205, 212, 203, 213, 214, 215, 216, 204, 218, 217, 219, 0, 0, 220, 1, 0, 0, 0, 0, 0, 0, 59, 58, 43, 45, 42, 40, 41, 91, 93, 61, 60, 62].getD k 0
theorem mb_u {b : Nat → Nat} {p q : Nat} {w : List Nat} (h : mb b p q w = true) : mb b p q = fun w' => w' == w := by
  funext w'
  obtain ⟨h1, h2⟩ := mb_t.mp h
  have : mb b p q w' = true ↔ w' = w := by
    rw [mb_t]
    constructor
    · rintro ⟨g1, g2⟩
      refine List.ext_getElem (by omega) (fun i a1 a2 => ?_)
      have e1 := g2 i a1
      have e2 := h2 i a2
      rw [List.getD_eq_getElem?_getD, List.getElem?_eq_getElem a1] at e1
      rw [List.getD_eq_getElem?_getD, List.getElem?_eq_getElem a2] at e2
      exact e1.symm.trans e2
    · rintro rfl
      exact ⟨h1, h2⟩
  by_cases c : w' = w
  · rw [this.mpr c]; simp [c]
  · have c2 : mb b p q w' = false := by
      cases e : mb b p q w' with
      | true => exact absurd (this.mp e) c
      | false => rfl
    rw [c2]; simp [c]
theorem fx_none {M : List Nat → Bool} : ∀ {ws : List (List Nat)}, (∀ w, w ∈ ws → M w = false) → fx M ws = ws.length
  | [], _ => rfl
  | w :: ws, h => by
    unfold fx
    rw [if_neg (by rw [h w (List.mem_cons_self ..)]; decide), fx_none (fun w hw => h w (List.mem_cons_of_mem _ hw))]
    rfl
theorem WK_in : ∀ w, w ∈ WK → 200 + fx (fun w' => w' == w) WC = kt (if fx (fun w' => w' == w) WK = 20 then 22 else fx (fun w' => w' == w) WK) ∧ fx (fun w' => w' == w) WK < 20 := by decide +kernel
theorem WC_in : ∀ w, w ∈ WC → w ∈ WK := by decide +kernel
theorem words_kt (b : Nat → Nat) (p q : Nat) : 200 + fx (mb b p q) WC = kt (if fx (mb b p q) WK = 20 then 22 else fx (mb b p q) WK) ∧ fx (mb b p q) WK ≤ 20 := by
  by_cases c : ∃ w, w ∈ WK ∧ mb b p q w = true
  · obtain ⟨w, hw, hm⟩ := c
    rw [mb_u hm]
    exact ⟨(WK_in w hw).1, Nat.le_of_lt (WK_in w hw).2⟩
  · have h1 : ∀ w, w ∈ WK → mb b p q w = false := fun w hw => by
      cases e : mb b p q w with
      | true => exact absurd ⟨w, hw, e⟩ c
      | false => rfl
    rw [fx_none h1, fx_none (fun w hw => h1 w (WC_in w hw))]
    decide
/-- signs -/
def SG : List Nat := [59, 58, 43, 45, 42, 40, 41, 91, 93, 61, 60, 62]
def sgk : Nat → Nat → Nat
  | 0, _ => 25
  | x + 1, c => if c = SG.getD x 0 then 30 + x else sgk x c
theorem sg_ch : ∀ x, x < 12 → sch 3 (nI x) = nI (SG.getD x 0) ∧ SG.getD x 0 < 256 := by decide +kernel
theorem sg_C : ∀ c, c < 256 → ((sidx 1 (((nI c).toUInt32 % 65536).toInt32) < (0 : Int32) ↔ sgk 12 c = 25) ∧ (sgk 12 c ≠ 25 → kt (sgk 12 c) = c ∧ 30 ≤ sgk 12 c ∧ sgk 12 c < 42 ∧ 0 < c)) := by decide +kernel
theorem sign_M {b : Nat → Nat} {n p : Nat} (hb : Bk b n) (hp : p < n) : ∀ (m x fuel : Nat) (P : PM), TKM b n P → P.1 109 6 = nI p → P.1 109 9 = nI (sgk x (b p)) → x + m = 12 → m < fuel →
    l_Mo_next_254 fuel (nI x) P = some (u1 P 109 9 (nI (sgk 12 (b p)))) := by
  intro m
  have hn := hb.1
  induction m with
  | zero =>
    intro x fuel P hK h6 h9 hm hf
    obtain ⟨fuel, rfl⟩ : ∃ z, fuel = z + 1 := ⟨fuel - 1, by omega⟩
    obtain rfl : x = 12 := by omega
    rw [l_Mo_next_254, if_pos (by decide), tk_id h9]
  | succ m ih =>
    intro x fuel P hK h6 h9 hm hf
    obtain ⟨fuel, rfl⟩ : ∃ z, fuel = z + 1 := ⟨fuel - 1, by omega⟩
    obtain ⟨s1, s2⟩ := sg_ch x (by omega)
    have hbp := hb.2 p
    rw [l_Mo_next_254, if_neg (by simp (disch := omega) only [z_add, z_mul, z_sub, z_subm, z_addm, z_lt_t, z_lt_f, z_le_t, z_le_f, z_eq_t, z_eq_f, z_eqm, z_meq, z_mm, z_ltm, z_mlt, z_lem, z_mle, z_cl, z_ck, u1_1, u1_2, u2_1, u2_2, ↓reduceIte, Option.bind_some, Option.bind_none, bd2_some, lb_eq, and_true, and_false, true_and, false_and, not_true_eq_false, not_false_eq_true, eq_self_iff_true, if_true, if_false, Nat.reduceEqDiff, Nat.reduceAdd, Nat.reduceMul, Nat.reduceSub, Bool.false_eq_true, zl0, zl1, zl2, zl3, zl4, zl5, zl6, zl7, zl8, zl9, zl10, zl11, zl12, zl13, zl14, zl15, zl16, zl17, zl18, zl19, zl20, zl22, zl23, zl24, zl25, zl30, zl31, zl32, zl33, zl34, zl35, zl36, zl37, zl38, zl39, zl40, zl41, zl42, zl43, zl45, zl48, zl49, zl57, zl58, zl59, zl60, zl61, zl62, zl63, zl64, zl91, zl93, zl97, zl98, zl99, zl100, zl113, zl114, zl115, zl116, zl117, zl122, zl124, zl125, zl127, zl128, zl136, zl200, zl201, zl202, zl203, zl204, zl205, zl206, zl207, zl208, zl209, zl210, zl211, zl212, zl213, zl214, zl215, zl216, zl217, zl218, zl219, zl220, zl235, zl236, zl255, zl280, zl287, zl900, zl999, zl1000, zl1001, zl1136, zl1960, zl3000, zl3001, zl3002, zl3003, zl3004, zl3005, zl3006, zl3007, zl3008, zl3009, zl268435456, zl1000000000]), h6, see_M hb hK (by omega), Option.bind_some, z_ck (by omega) (by omega), s1]
    have e : chv b n p = nI (b p) := if_pos hp
    rw [e]
    unfold j_Mo_next_288
    rw [z_one]
    by_cases c : b p = SG.getD x 0
    · rw [if_pos (by rw [c]), show (30 : Int32) = nI 30 from rfl, z_add]
      refine Eq.trans (ih (x + 1) fuel (u1 P 109 9 (nI (30 + x))) (TKM_f hK (fm_u fm_refl (by omega))) (by rw [u1_1, if_neg (by omega), h6]) (by rw [u1_1, if_pos ⟨rfl, rfl⟩]; show _ = nI (if b p = SG.getD x 0 then 30 + x else sgk x (b p)); rw [if_pos c]) (by omega) (by omega)) (by rw [tk_uu])
    · rw [if_neg (by simp (disch := omega) only [z_add, z_mul, z_sub, z_subm, z_addm, z_lt_t, z_lt_f, z_le_t, z_le_f, z_eq_t, z_eq_f, z_eqm, z_meq, z_mm, z_ltm, z_mlt, z_lem, z_mle, z_cl, z_ck, u1_1, u1_2, u2_1, u2_2, ↓reduceIte, Option.bind_some, Option.bind_none, bd2_some, lb_eq, and_true, and_false, true_and, false_and, not_true_eq_false, not_false_eq_true, eq_self_iff_true, if_true, if_false, Nat.reduceEqDiff, Nat.reduceAdd, Nat.reduceMul, Nat.reduceSub, Bool.false_eq_true, zl0, zl1, zl2, zl3, zl4, zl5, zl6, zl7, zl8, zl9, zl10, zl11, zl12, zl13, zl14, zl15, zl16, zl17, zl18, zl19, zl20, zl22, zl23, zl24, zl25, zl30, zl31, zl32, zl33, zl34, zl35, zl36, zl37, zl38, zl39, zl40, zl41, zl42, zl43, zl45, zl48, zl49, zl57, zl58, zl59, zl60, zl61, zl62, zl63, zl64, zl91, zl93, zl97, zl98, zl99, zl100, zl113, zl114, zl115, zl116, zl117, zl122, zl124, zl125, zl127, zl128, zl136, zl200, zl201, zl202, zl203, zl204, zl205, zl206, zl207, zl208, zl209, zl210, zl211, zl212, zl213, zl214, zl215, zl216, zl217, zl218, zl219, zl220, zl235, zl236, zl255, zl280, zl287, zl900, zl999, zl1000, zl1001, zl1136, zl1960, zl3000, zl3001, zl3002, zl3003, zl3004, zl3005, zl3006, zl3007, zl3008, zl3009, zl268435456, zl1000000000])]
      exact ih (x + 1) fuel P hK h6 (by rw [h9]; show _ = nI (if b p = SG.getD x 0 then 30 + x else sgk x (b p)); rw [if_neg c]) (by omega) (by omega)
