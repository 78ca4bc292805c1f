/-! images -/
theorem MNet_cp {P P' : PM} {o f o' f' : Nat} {v : NV} (h : MNet P o f v) (hj : ∀ j, j < 1136 → P'.1 o' (f' + j) = P.1 o (f + j)) : MNet P' o' f' v := by
  have g : ∀ k k' j, k' = f' + j → k = f + j → j < 1136 → P'.1 o' k' = P.1 o k := fun k k' j e e' q => by rw [e, e']; exact hj j q
  obtain ⟨h1, h2, h3, h4, h5, h6, h7⟩ := h
  have gl : ∀ q es, q < 2 → MLw P o f q es → MLw P' o' f' q es := by
    intro q es hq hl
    refine ⟨(g _ _ (2 + q) (by omega) (by omega) (by omega)).trans hl.1, fun he => ?_⟩
    obtain ⟨fr, k1, k2, k3, k4⟩ := hl.2 he
    exact ⟨fr, (g _ _ (4 + q) (by omega) (by omega) (by omega)).trans k1, (g _ _ (6 + q) (by omega) (by omega) (by omega)).trans k2, k3, fun j hj => (g _ _ (236 + fr + j) (by omega) (by omega) (by omega)).trans (k4 j hj)⟩
  exact ⟨(g _ _ 1 rfl rfl (by omega)).trans h1, (g _ _ 0 rfl rfl (by omega)).trans h2, fun i hi => (g _ _ (8 + i) (by omega) (by omega) (by omega)).trans (h3 i hi),
    fun s t hs ht => (g _ _ (15 + (7 * s + t)) (by omega) (by omega) (by omega)).trans (h4 s t hs ht), fun s t hs ht => (g _ _ (64 + (7 * s + t)) (by omega) (by omega) (by omega)).trans (h5 s t hs ht), gl 0 _ (by omega) h6, gl 1 _ (by omega) h7⟩
theorem ncopy_C {P : PM} {o a : Nat} {v : NV} (h : CNet P a v) (hd : a + 4 < o ∨ o + 4 < a) : ∃ P', f_Ne_copy o a P = some P' ∧ CNet P' o v ∧ sm (fun q => o ≤ q && q ≤ o + 4) P P' := by
  have hne : (a = o) = False := eq_false (by omega)
  have e : f_Ne_copy o a P = some (uc (uc (uc (uc (u1 (u1 (u1 (u1 (u1 (u1 (u1 P o 0 (P.1 a 0)) o 1 (P.1 a 1)) o 6 (P.1 a 6)) o 7 (P.1 a 7)) o 8 (P.1 a 8)) o 9 (P.1 a 9)) o 10 (P.1 a 10)) (a + 1) 0 (o + 1) 0 7) (a + 2) 0 (o + 2) 0 49) (a + 3) 0 (o + 3) 0 49) (a + 4) 0 (o + 4) 0 900) := by
    unfold f_Ne_copy
    simp only [u1_1, hne, false_and, if_false]
    rfl
  refine ⟨_, e, ?_, ?_⟩
  · obtain ⟨h1, h2, h3, h4, h5, h6, h7⟩ := h
    have r0 : ∀ j, (j = 0 ∨ j = 1 ∨ j = 6 ∨ j = 7 ∨ j = 8 ∨ j = 9 ∨ j = 10) → (uc (uc (uc (uc (u1 (u1 (u1 (u1 (u1 (u1 (u1 P o 0 (P.1 a 0)) o 1 (P.1 a 1)) o 6 (P.1 a 6)) o 7 (P.1 a 7)) o 8 (P.1 a 8)) o 9 (P.1 a 9)) o 10 (P.1 a 10)) (a + 1) 0 (o + 1) 0 7) (a + 2) 0 (o + 2) 0 49) (a + 3) 0 (o + 3) 0 49) (a + 4) 0 (o + 4) 0 900).1 o j = P.1 a j := by
      intro j hj
      rw [uc_1, if_neg (by omega), uc_1, if_neg (by omega), uc_1, if_neg (by omega), uc_1, if_neg (by omega)]
      rcases hj with rfl | rfl | rfl | rfl | rfl | rfl | rfl <;> simp [u1_1]
    have r4 : ∀ j, j < 900 → (uc (uc (uc (uc (u1 (u1 (u1 (u1 (u1 (u1 (u1 P o 0 (P.1 a 0)) o 1 (P.1 a 1)) o 6 (P.1 a 6)) o 7 (P.1 a 7)) o 8 (P.1 a 8)) o 9 (P.1 a 9)) o 10 (P.1 a 10)) (a + 1) 0 (o + 1) 0 7) (a + 2) 0 (o + 2) 0 49) (a + 3) 0 (o + 3) 0 49) (a + 4) 0 (o + 4) 0 900).1 (o + 4) j = P.1 (a + 4) j := by
      intro j hj
      rw [uc_1, if_pos (by omega), uc_1, if_neg (by omega), uc_1, if_neg (by omega), uc_1, if_neg (by omega)]
      simp only [u1_1, eq_false (show ¬ (a + 4 = o) by omega), false_and, if_false, Nat.zero_add, Nat.sub_zero]
    have hl : ∀ q es, q < 2 → CLw P a q es → CLw (uc (uc (uc (uc (u1 (u1 (u1 (u1 (u1 (u1 (u1 P o 0 (P.1 a 0)) o 1 (P.1 a 1)) o 6 (P.1 a 6)) o 7 (P.1 a 7)) o 8 (P.1 a 8)) o 9 (P.1 a 9)) o 10 (P.1 a 10)) (a + 1) 0 (o + 1) 0 7) (a + 2) 0 (o + 2) 0 49) (a + 3) 0 (o + 3) 0 49) (a + 4) 0 (o + 4) 0 900) o q es := by
      intro q es hq hl
      obtain ⟨fr, k1, k2, k3, k4⟩ := hl
      exact ⟨fr, (r0 _ (by omega)).trans k1, (r0 _ (by omega)).trans k2, k3, fun j hj => (r4 _ (by omega)).trans (k4 j hj)⟩
    refine ⟨(r0 0 (by omega)).trans h1, (r0 1 (by omega)).trans h2, fun i hi => ?_, fun s t hs ht => ?_, fun s t hs ht => ?_, hl 0 _ (by omega) h6, hl 1 _ (by omega) h7⟩
    · rw [uc_1, if_neg (by omega), uc_1, if_neg (by omega), uc_1, if_neg (by omega), uc_1, if_pos (by omega)]
      simp only [u1_1, eq_false (show ¬ (a + 1 = o) by omega), false_and, if_false, Nat.zero_add, Nat.sub_zero]
      exact h3 i hi
    · rw [uc_1, if_neg (by omega), uc_1, if_neg (by omega), uc_1, if_pos (by omega), uc_1, if_neg (by omega)]
      simp only [u1_1, eq_false (show ¬ (a + 2 = o) by omega), false_and, if_false, Nat.zero_add, Nat.sub_zero]
      exact h4 s t hs ht
    · rw [uc_1, if_neg (by omega), uc_1, if_pos (by omega), uc_1, if_neg (by omega), uc_1, if_neg (by omega)]
      simp only [u1_1, eq_false (show ¬ (a + 3 = o) by omega), false_and, if_false, Nat.zero_add, Nat.sub_zero]
      exact h5 s t hs ht
  · refine ⟨fun w hw => ?_, fun _ _ => rfl⟩
    simp at hw
    funext y
    rw [uc_1, if_neg (by omega), uc_1, if_neg (by omega), uc_1, if_neg (by omega), uc_1, if_neg (by omega)]
    simp only [u1_1, eq_false (show ¬ (w = o) by omega), false_and, if_false]
theorem i2_cases {x : Int32} (h : ¬ (0 ≤ x.toInt ∧ x.toInt < 2)) {α : Type} (A B : α) : (if x < 0 then A else if x < 2 then B else A) = A := by
  by_cases c : x < 0
  · rw [if_pos c]
  · have c1 : ¬ x.toInt < 0 := fun q => c (Int32.lt_iff_toInt_lt.mpr q)
    have e2 : (2 : Int32).toInt = 2 := rfl
    rw [if_neg c, if_neg (fun q => by have := Int32.lt_iff_toInt_lt.mp q; omega)]
theorem w01 {x : Int32} {P : PM} : f_Mo_within x.toInt64 (0 : Int64) (1 : Int64) P = if 0 ≤ x.toInt ∧ x.toInt < 2 then nI 1 else nI 0 := by
  rw [within_i, tl_ti, show (0 : Int64).toInt = 0 from rfl, show (1 : Int64).toInt = 1 from rfl]
  by_cases c : 0 ≤ x.toInt ∧ x.toInt < 2
  · rw [if_pos c, if_pos (by omega)]
  · rw [if_neg c, if_neg (by omega)]
def setI (a : AS) (k : Nat) : AS := (a.1, a.2.1, a.2.2.1, a.2.2.2.1, (fun i => if i = k then some (aV a, aS a) else aI a i), a.2.2.2.2.2)
def setR (a : AS) (v : NV) (s : SV) : AS := (v, s, [], a.2.2.2)
theorem image_l (k : Nat) (hk : k < 2) : ∀ (n x : Nat) (P : PM), x ≤ 1136 → 1136 - x < n → l_Mo_image_20 n (nI k) (nI x) P = some (nI 0, u1 (cpy P 110 0 110 (1136 * (k + 1)) x 1136) 111 k (nI 1)) := by
  intro n
  induction n with
  | zero => intro x P _ h; omega
  | succ n ih =>
    intro x P hx hn
    rw [l_Mo_image_20]
    by_cases h : x = 1136
    · subst h
      rw [show (1136 : Int32) = nI 1136 from rfl, if_pos (nI_le (Nat.le_refl _) (by omega)), z_ck (by omega) (by omega), cpy_nil (by omega), z_cl (by omega)]
      rfl
    · simp (disch := omega) only [z_add, z_mul, z_sub, z_subm, z_addm, z_lt_t, z_lt_f, z_le_t, z_le_f, z_eq_t, z_eq_f, z_eqm, z_meq, z_mm, z_ltm, z_mlt, z_lem, z_mle, z_cl, z_ck, u1_1, u1_2, u2_1, u2_2, ↓reduceIte, Option.bind_some, Option.bind_none, bd2_some, lb_eq, and_true, and_false, true_and, false_and, not_true_eq_false, not_false_eq_true, eq_self_iff_true, if_true, if_false, Nat.reduceEqDiff, Nat.reduceAdd, Nat.reduceMul, Nat.reduceSub, Bool.false_eq_true, zl0, zl1, zl2, zl3, zl4, zl5, zl6, zl7, zl8, zl9, zl10, zl11, zl12, zl13, zl14, zl15, zl16, zl17, zl18, zl19, zl20, zl22, zl23, zl24, zl25, zl30, zl31, zl32, zl33, zl34, zl35, zl36, zl37, zl38, zl39, zl40, zl41, zl42, zl43, zl45, zl48, zl49, zl57, zl58, zl59, zl60, zl61, zl62, zl63, zl64, zl91, zl93, zl97, zl98, zl99, zl100, zl113, zl114, zl115, zl116, zl117, zl122, zl124, zl125, zl127, zl128, zl136, zl200, zl201, zl202, zl203, zl204, zl205, zl206, zl207, zl208, zl209, zl210, zl211, zl212, zl213, zl214, zl215, zl216, zl217, zl218, zl219, zl220, zl235, zl236, zl255, zl280, zl287, zl900, zl999, zl1000, zl1001, zl1136, zl1960, zl3000, zl3001, zl3002, zl3003, zl3004, zl3005, zl3006, zl3007, zl3008, zl3009, zl268435456, zl1000000000]
      have := ih (x + 1) (u1 P 110 (1136 * (k + 1) + x) (P.1 110 (0 + x))) (by omega) (by omega)
      rw [cpy_s (show x < 1136 by omega) (Or.inr (Or.inr (by omega)))] at this
      rw [← this, Nat.zero_add]
theorem restore_l (k : Nat) (hk : k < 2) : ∀ (n x : Nat) (P : PM), x ≤ 1136 → 1136 - x < n → l_Mo_restore_32 n (nI k) (nI x) P = some (nI 0, u1 (cpy P 110 (1136 * (k + 1)) 110 0 x 1136) 110 124 (nI 0)) := by
  intro n
  induction n with
  | zero => intro x P _ h; omega
  | succ n ih =>
    intro x P hx hn
    rw [l_Mo_restore_32]
    by_cases h : x = 1136
    · subst h
      rw [show (1136 : Int32) = nI 1136 from rfl, if_pos (nI_le (Nat.le_refl _) (by omega)), cpy_nil (by omega)]
      rfl
    · simp (disch := omega) only [z_add, z_mul, z_sub, z_subm, z_addm, z_lt_t, z_lt_f, z_le_t, z_le_f, z_eq_t, z_eq_f, z_eqm, z_meq, z_mm, z_ltm, z_mlt, z_lem, z_mle, z_cl, z_ck, u1_1, u1_2, u2_1, u2_2, ↓reduceIte, Option.bind_some, Option.bind_none, bd2_some, lb_eq, and_true, and_false, true_and, false_and, not_true_eq_false, not_false_eq_true, eq_self_iff_true, if_true, if_false, Nat.reduceEqDiff, Nat.reduceAdd, Nat.reduceMul, Nat.reduceSub, Bool.false_eq_true, zl0, zl1, zl2, zl3, zl4, zl5, zl6, zl7, zl8, zl9, zl10, zl11, zl12, zl13, zl14, zl15, zl16, zl17, zl18, zl19, zl20, zl22, zl23, zl24, zl25, zl30, zl31, zl32, zl33, zl34, zl35, zl36, zl37, zl38, zl39, zl40, zl41, zl42, zl43, zl45, zl48, zl49, zl57, zl58, zl59, zl60, zl61, zl62, zl63, zl64, zl91, zl93, zl97, zl98, zl99, zl100, zl113, zl114, zl115, zl116, zl117, zl122, zl124, zl125, zl127, zl128, zl136, zl200, zl201, zl202, zl203, zl204, zl205, zl206, zl207, zl208, zl209, zl210, zl211, zl212, zl213, zl214, zl215, zl216, zl217, zl218, zl219, zl220, zl235, zl236, zl255, zl280, zl287, zl900, zl999, zl1000, zl1001, zl1136, zl1960, zl3000, zl3001, zl3002, zl3003, zl3004, zl3005, zl3006, zl3007, zl3008, zl3009, zl268435456, zl1000000000]
      have := ih (x + 1) (u1 P 110 (0 + x) (P.1 110 (1136 * (k + 1) + x))) (by omega) (by omega)
      rw [cpy_s (show x < 1136 by omega) (Or.inr (Or.inl (by omega)))] at this
      rw [← this, Nat.zero_add]
theorem image_ok {P : PM} {a : AS} {x : Int32} (hC : CRep P a) (hM : MRep P a) (hca : CCa P (aV a)) (hok : AOk a) :
    ∃ v P1 P2, f_Yr_image x P = some (v, P1) ∧ f_Mo_image x P1 = some (v, P2) ∧ Inv P2 := by
  rcases i_cases x 2 (by omega) with ⟨k, hk, rfl⟩ | hx
  · refine join (r := nI 0) (a' := setI a k) hM ?_ ?_ ⟨hok.1, hok.2.1, hok.2.2.1, hok.2.2.2.1, hok.2.2.2.2.1, fun i n s e => ?_, hok.2.2.2.2.2.2⟩
    · obtain ⟨c1, c2, c3, c4, c5, c6⟩ := hC
      obtain ⟨P1, g1, g2, g3⟩ := ncopy_C (o := 89 + 7 * k) c1 (Or.inl (by omega))
      have q1 : CSt P1 21 (aS a) := CSt_sm c2 g3 (by simp; omega) (by simp; omega)
      obtain ⟨P2, k1, k2, k3⟩ := copy_C (o := 104 + 2 * k) q1 (by omega) (by omega) (by omega) (by omega)
      have hs : sm (fun o => (89 + 7 * k ≤ o && o ≤ 93 + 7 * k) || o == 104 + 2 * k || o == 105 + 2 * k || o == 108) P (u1 P2 108 k (nI 1)) := sm_u1 (sm_trans (sm_mono g3 (fun o q => by simp at q ⊢; omega)) (sm_mono k3 (fun o q => by simp at q ⊢; omega))) (by simp)
      refine ⟨u1 P2 108 k (nI 1), ?_, ⟨CNet_sm c1 hs (by simp; omega) (by simp; omega) (by simp; omega) (by simp; omega) (by simp; omega), CSt_sm c2 hs (by simp; omega) (by simp; omega), CPast_sm c3 hs (fun o ho => by simp [ps] at ho; simp; omega) (by rw [hs.1 31 (by simp; omega)]) (by rw [hs.1 31 (by simp; omega)]), CTr_sm c4 hs (by simp; omega) (by simp; omega) (fun j hj => by simp; omega), ?_, CTp_sm c6 hs (by simp; omega) (by simp; omega)⟩, CCa_ro hca (hs.1 59 (by simp; omega)) (hs.1 60 (by simp; omega)), sm_mono hs (fun o ho => by simp [cl] at ho; simp; omega)⟩
      · unfold f_Yr_image
        rw [if_neg (by simp (disch := omega) only [z_add, z_mul, z_sub, z_subm, z_addm, z_lt_t, z_lt_f, z_le_t, z_le_f, z_eq_t, z_eq_f, z_eqm, z_meq, z_mm, z_ltm, z_mlt, z_lem, z_mle, z_cl, z_ck, u1_1, u1_2, u2_1, u2_2, ↓reduceIte, Option.bind_some, Option.bind_none, bd2_some, lb_eq, and_true, and_false, true_and, false_and, not_true_eq_false, not_false_eq_true, eq_self_iff_true, if_true, if_false, Nat.reduceEqDiff, Nat.reduceAdd, Nat.reduceMul, Nat.reduceSub, Bool.false_eq_true, zl0, zl1, zl2, zl3, zl4, zl5, zl6, zl7, zl8, zl9, zl10, zl11, zl12, zl13, zl14, zl15, zl16, zl17, zl18, zl19, zl20, zl22, zl23, zl24, zl25, zl30, zl31, zl32, zl33, zl34, zl35, zl36, zl37, zl38, zl39, zl40, zl41, zl42, zl43, zl45, zl48, zl49, zl57, zl58, zl59, zl60, zl61, zl62, zl63, zl64, zl91, zl93, zl97, zl98, zl99, zl100, zl113, zl114, zl115, zl116, zl117, zl122, zl124, zl125, zl127, zl128, zl136, zl200, zl201, zl202, zl203, zl204, zl205, zl206, zl207, zl208, zl209, zl210, zl211, zl212, zl213, zl214, zl215, zl216, zl217, zl218, zl219, zl220, zl235, zl236, zl255, zl280, zl287, zl900, zl999, zl1000, zl1001, zl1136, zl1960, zl3000, zl3001, zl3002, zl3003, zl3004, zl3005, zl3006, zl3007, zl3008, zl3009, zl268435456, zl1000000000]), if_pos (by simp (disch := omega) only [z_add, z_mul, z_sub, z_subm, z_addm, z_lt_t, z_lt_f, z_le_t, z_le_f, z_eq_t, z_eq_f, z_eqm, z_meq, z_mm, z_ltm, z_mlt, z_lem, z_mle, z_cl, z_ck, u1_1, u1_2, u2_1, u2_2, ↓reduceIte, Option.bind_some, Option.bind_none, bd2_some, lb_eq, and_true, and_false, true_and, false_and, not_true_eq_false, not_false_eq_true, eq_self_iff_true, if_true, if_false, Nat.reduceEqDiff, Nat.reduceAdd, Nat.reduceMul, Nat.reduceSub, Bool.false_eq_true, zl0, zl1, zl2, zl3, zl4, zl5, zl6, zl7, zl8, zl9, zl10, zl11, zl12, zl13, zl14, zl15, zl16, zl17, zl18, zl19, zl20, zl22, zl23, zl24, zl25, zl30, zl31, zl32, zl33, zl34, zl35, zl36, zl37, zl38, zl39, zl40, zl41, zl42, zl43, zl45, zl48, zl49, zl57, zl58, zl59, zl60, zl61, zl62, zl63, zl64, zl91, zl93, zl97, zl98, zl99, zl100, zl113, zl114, zl115, zl116, zl117, zl122, zl124, zl125, zl127, zl128, zl136, zl200, zl201, zl202, zl203, zl204, zl205, zl206, zl207, zl208, zl209, zl210, zl211, zl212, zl213, zl214, zl215, zl216, zl217, zl218, zl219, zl220, zl235, zl236, zl255, zl280, zl287, zl900, zl999, zl1000, zl1001, zl1136, zl1960, zl3000, zl3001, zl3002, zl3003, zl3004, zl3005, zl3006, zl3007, zl3008, zl3009, zl268435456, zl1000000000]), z_ck (by omega) (by omega), z_cl (by omega), g1, Option.bind_some, z_ck (by omega) (by omega), k1, Option.bind_some, z_ck (by omega) (by omega)]
        rfl
      · intro i hi
        show _ = nI (if (if i = k then some (aV a, aS a) else aI a i) = none then 0 else 1) ∧ ∀ n s, (if i = k then some (aV a, aS a) else aI a i) = some (n, s) → _
        by_cases c : i = k
        · subst c
          rw [if_pos rfl]
          refine ⟨by rw [u1_1, if_pos ⟨rfl, rfl⟩]; rfl, fun n s e => ?_⟩
          cases e
          have h1 : sm (fun o => o == 108) P2 (u1 P2 108 i (nI 1)) := sm_u1 sm_refl rfl
          exact ⟨CNet_sm (CNet_sm g2 k3 (by simp; omega) (by simp; omega) (by simp; omega) (by simp; omega) (by simp; omega)) h1 (by simp; omega) (by simp; omega) (by simp; omega) (by simp; omega) (by simp; omega), CSt_sm k2 h1 (by simp; omega) (by simp; omega)⟩
        · rw [if_neg c]
          obtain ⟨h1, h2⟩ := c5 i hi
          refine ⟨?_, fun n s e => ?_⟩
          · rw [u1_1, if_neg (by omega), k3.1 108 (by simp; omega), g3.1 108 (by simp; omega)]; exact h1
          · obtain ⟨h3, h4⟩ := h2 n s e
            exact ⟨CNet_sm h3 hs (by simp; omega) (by simp; omega) (by simp; omega) (by simp; omega) (by simp; omega), CSt_sm h4 hs (by simp; omega) (by simp; omega)⟩
    · intro P hM
      obtain ⟨m1, m2, m3, m4, m5, m6⟩ := MRep_me hM (me_th (x := 0))
      have e := image_l k hk FU 0 (u1 P 109 0 (0 : Int32)) (by omega) (by have := FU_big; omega)
      have hs : sm (fun o => o == 110 || o == 111) (u1 P 109 0 (0 : Int32)) (u1 (cpy (u1 P 109 0 (0 : Int32)) 110 0 110 (1136 * (k + 1)) 0 1136) 111 k (nI 1)) := sm_u1 (sm_mono cpy_sm (fun o q => by simp at q ⊢; exact q.1)) rfl
      have hJ : ∀ j, (j < 1136 * (k + 1) ∨ 1136 * (k + 1) + 1136 ≤ j) → (u1 (cpy (u1 P 109 0 (0 : Int32)) 110 0 110 (1136 * (k + 1)) 0 1136) 111 k (nI 1)).1 110 j = (u1 P 109 0 (0 : Int32)).1 110 j := fun j hj => by
        rw [u1_1, if_neg (by omega), cpy_1, if_neg (by omega)]
      have hN : ∀ j, j < 1136 → (u1 (cpy (u1 P 109 0 (0 : Int32)) 110 0 110 (1136 * (k + 1)) 0 1136) 111 k (nI 1)).1 110 (1136 * (k + 1) + j) = (u1 P 109 0 (0 : Int32)).1 110 (0 + j) := fun j hj => by
        rw [u1_1, if_neg (by omega), cpy_1, if_pos (by omega)]
        exact congrArg ((u1 P 109 0 (0 : Int32)).1 110) (by omega)
      refine ⟨_, ?_, ⟨MNet_cp m1 (fun j hj => hJ _ (by omega)), MSt_cp m2 (fun i hi => hJ _ (by omega)), MPast_ix m3 hok.2.2.1 (fun j h1 h2 => hJ j (by omega)), MTr_sm m4 hs rfl rfl rfl, ?_, MTp_sm m6 hs rfl (by rw [hs.1 109 rfl]) (by rw [hs.1 109 rfl]) (by rw [hs.1 109 rfl])⟩, sm_trans sm_th (sm_mono hs (fun o ho => by simp [mo] at ho; simp; omega))⟩
      · unfold f_Mo_image
        have hwi : f_Mo_within (nI k).toInt64 (0 : Int64) (1 : Int64) (u1 P 109 0 (0 : Int32)) = nI 1 := by
          rw [w01, nI_ti (by omega)]
          exact if_pos (by omega)
        rw [hwi, if_neg (by decide)]
        exact e
      · intro i hi
        show _ = nI (if (if i = k then some (aV a, aS a) else aI a i) = none then 0 else 1) ∧ ∀ n s, (if i = k then some (aV a, aS a) else aI a i) = some (n, s) → _
        by_cases c : i = k
        · subst c
          rw [if_pos rfl]
          refine ⟨by rw [u1_1, if_pos ⟨rfl, rfl⟩]; rfl, fun n s e => ?_⟩
          cases e
          exact ⟨MNet_cp m1 hN, MSt_cp m2 (fun j hj => by rw [Nat.add_assoc, hN (113 + j) (by omega)]; exact congrArg ((u1 P 109 0 (0 : Int32)).1 110) (by omega))⟩
        · rw [if_neg c]
          obtain ⟨h1, h2⟩ := m5 i hi
          refine ⟨?_, fun n s e => ?_⟩
          · rw [u1_1, if_neg (by omega), cpy_1, if_neg (by omega)]; exact h1
          · obtain ⟨h3, h4⟩ := h2 n s e
            exact ⟨MNet_cp h3 (fun j hj => hJ _ (by omega)), MSt_cp h4 (fun j hj => hJ _ (by omega))⟩
    · change (if i = k then some (aV a, aS a) else aI a i) = some (n, s) at e
      split at e
      · cases e; exact ⟨hok.1, hok.2.1⟩
      · exact hok.2.2.2.2.2.1 i n s e
  · refine join (r := -nI 2) (a' := a) hM ⟨P, ?_, hC, hca, sm_refl⟩ (fun P hM => ⟨u1 P 109 0 (0 : Int32), ?_, MRep_me hM me_th, sm_th⟩) hok
    · unfold f_Yr_image
      rw [i2_cases hx]; rfl
    · have e1 : f_Mo_within x.toInt64 (0 : Int64) (1 : Int64) (u1 P 109 0 (0 : Int32)) = nI 0 := by rw [w01]; exact if_neg hx
      unfold f_Mo_image
      rw [e1]; rfl
theorem rowI_1 (P : PM) (k a b : Nat) (x : Int32) (u v : Nat) : (rowI P k a b x).1 u v = if u = k ∧ a ≤ v ∧ v < b then x else P.1 u v := rfl
theorem sm_rowI {S : Nat → Bool} {P P' : PM} {k a b : Nat} {x : Int32} (h : sm S P P') (q : S k = true) : sm S P (rowI P' k a b x) := by
  refine ⟨fun o ho => ?_, fun o ho => h.2 o ho⟩
  rw [← h.1 o ho]
  funext v
  rw [rowI_1, if_neg]
  rintro ⟨rfl, _⟩
  rw [q] at ho
  cases ho
/-- rows that a net taken over changes -/
def tor (o : Nat) : Bool := (14 ≤ o && o ≤ 18) || o == 21 || o == 22 || o == 31 || o == 59
theorem takeOver_C {P : PM} {a : AS} {b c : Nat} {v : NV} {s : SV} (h14 : 22 < b) (h21 : 22 < c) (hn : CNet P b v) (hs : CSt P c s)
    (h3 : CPast P (aP a)) (h4 : CTr P (aT a)) (h5 : CIm P (aI a)) {f : Nat} {by_ : Nat → Nat} {k q : Int32} (h6 : CTp P f by_ k q) (h60 : ∀ t, t < 7 → ∃ d, d ≤ 9 ∧ P.1 60 t = nI d) :
    ∃ P', f_Yr_takeOver b c P = some P' ∧ CNet P' 14 v ∧ CSt P' 21 s ∧ CPast P' [] ∧ CTr P' (aT a) ∧ CIm P' (aI a) ∧ CTp P' f by_ k q ∧ CCa P' v ∧ sm tor P P' := by
  obtain ⟨P1, g1, g2, g3⟩ := ncopy_C (o := 14) hn (Or.inr (by omega))
  have s1 : CSt P1 c s := CSt_sm hs g3 (by simp; omega) (by simp; omega)
  obtain ⟨P2, k1, k2, k3⟩ := copy_C (o := 21) s1 (by omega) (by omega) (by omega) (by omega)
  obtain ⟨P3, hP3⟩ : ∃ P3, P3 = rowI (u1 P2 31 5 (0 : Int32)) 59 0 1960 (-2) := ⟨_, rfl⟩
  have q3 : sm (fun o => o == 31 || o == 59) P2 P3 := by rw [hP3]; exact sm_rowI (sm_u1 sm_refl rfl) rfl
  have hall : sm tor P P3 := sm_trans (sm_mono g3 (fun o q => by simp [tor] at q; simp; omega)) (sm_trans (sm_mono k3 (fun o q => by simp [tor] at q; simp; omega)) (sm_mono q3 (fun o q => by simp [tor] at q; simp; omega)))
  refine ⟨P3, ?_, CNet_sm (CNet_sm g2 k3 rfl rfl rfl rfl rfl) q3 rfl rfl rfl rfl rfl, CSt_sm k2 q3 rfl rfl, ?_, CTr_sm h4 hall rfl rfl (fun j hj => by simp [tor]; omega), CIm_sm h5 hall (fun o h1 h2 => by simp [tor]; omega), CTp_sm h6 hall rfl rfl, ?_, hall⟩
  · unfold f_Yr_takeOver f_De_forgetPast
    rw [g1, Option.bind_some, k1, Option.bind_some, Option.bind_some, fAllRow, hP3]
    rfl
  · obtain ⟨hd, j1, j2, j3, j4⟩ := h3
    refine ⟨hd, j1, ?_, ?_, fun j hj => by cases hj⟩
    · rw [hP3, rowI_1, if_neg (by omega), u1_1, if_neg (by omega), k3.1 31 rfl, g3.1 31 rfl]; exact j2
    · rw [hP3, rowI_1, if_neg (by omega), u1_1, if_pos ⟨rfl, rfl⟩]; rfl
  · intro t ht
    obtain ⟨d, d1, d2⟩ := h60 t ht
    refine ⟨d, d1, by rw [hall.1 60 rfl]; exact d2, fun p hp => Or.inl ?_⟩
    rw [hP3, rowI_1, if_pos (by omega)]
    rfl
theorem CCa_60 {P : PM} {v : NV} (h : CCa P v) : ∀ t, t < 7 → ∃ d, d ≤ 9 ∧ P.1 60 t = nI d := fun t ht => by
  obtain ⟨d, h1, h2, _⟩ := h t ht
  exact ⟨d, h1, h2⟩
theorem restore_ok {P : PM} {a : AS} {x : Int32} (hC : CRep P a) (hM : MRep P a) (hca : CCa P (aV a)) (hok : AOk a) :
    ∃ v P1 P2, f_Yr_restore x P = some (v, P1) ∧ f_Mo_restore x P1 = some (v, P2) ∧ Inv P2 := by
  rcases i_cases x 2 (by omega) with ⟨k, hk, rfl⟩ | hx
  · have hC' := hC
    obtain ⟨c1, c2, c3, c4, c5, c6⟩ := hC
    have hwi : ∀ P, f_Mo_within (nI k).toInt64 (0 : Int64) (1 : Int64) P = nI 1 := fun P => by
      rw [w01, nI_ti (by omega)]
      exact if_pos (by omega)
    cases hi : aI a k with
    | none =>
      refine join (r := -nI 5) (a' := a) hM ⟨P, ?_, hC', hca, sm_refl⟩ (fun P hM => ⟨u1 P 109 0 (0 : Int32), ?_, MRep_me hM me_th, sm_th⟩) hok
      · have h1 := (c5 k hk).1
        rw [hi, if_pos rfl] at h1
        unfold f_Yr_restore
        rw [if_neg (by simp (disch := omega) only [z_add, z_mul, z_sub, z_subm, z_addm, z_lt_t, z_lt_f, z_le_t, z_le_f, z_eq_t, z_eq_f, z_eqm, z_meq, z_mm, z_ltm, z_mlt, z_lem, z_mle, z_cl, z_ck, u1_1, u1_2, u2_1, u2_2, ↓reduceIte, Option.bind_some, Option.bind_none, bd2_some, lb_eq, and_true, and_false, true_and, false_and, not_true_eq_false, not_false_eq_true, eq_self_iff_true, if_true, if_false, Nat.reduceEqDiff, Nat.reduceAdd, Nat.reduceMul, Nat.reduceSub, Bool.false_eq_true, zl0, zl1, zl2, zl3, zl4, zl5, zl6, zl7, zl8, zl9, zl10, zl11, zl12, zl13, zl14, zl15, zl16, zl17, zl18, zl19, zl20, zl22, zl23, zl24, zl25, zl30, zl31, zl32, zl33, zl34, zl35, zl36, zl37, zl38, zl39, zl40, zl41, zl42, zl43, zl45, zl48, zl49, zl57, zl58, zl59, zl60, zl61, zl62, zl63, zl64, zl91, zl93, zl97, zl98, zl99, zl100, zl113, zl114, zl115, zl116, zl117, zl122, zl124, zl125, zl127, zl128, zl136, zl200, zl201, zl202, zl203, zl204, zl205, zl206, zl207, zl208, zl209, zl210, zl211, zl212, zl213, zl214, zl215, zl216, zl217, zl218, zl219, zl220, zl235, zl236, zl255, zl280, zl287, zl900, zl999, zl1000, zl1001, zl1136, zl1960, zl3000, zl3001, zl3002, zl3003, zl3004, zl3005, zl3006, zl3007, zl3008, zl3009, zl268435456, zl1000000000]), if_pos (by simp (disch := omega) only [z_add, z_mul, z_sub, z_subm, z_addm, z_lt_t, z_lt_f, z_le_t, z_le_f, z_eq_t, z_eq_f, z_eqm, z_meq, z_mm, z_ltm, z_mlt, z_lem, z_mle, z_cl, z_ck, u1_1, u1_2, u2_1, u2_2, ↓reduceIte, Option.bind_some, Option.bind_none, bd2_some, lb_eq, and_true, and_false, true_and, false_and, not_true_eq_false, not_false_eq_true, eq_self_iff_true, if_true, if_false, Nat.reduceEqDiff, Nat.reduceAdd, Nat.reduceMul, Nat.reduceSub, Bool.false_eq_true, zl0, zl1, zl2, zl3, zl4, zl5, zl6, zl7, zl8, zl9, zl10, zl11, zl12, zl13, zl14, zl15, zl16, zl17, zl18, zl19, zl20, zl22, zl23, zl24, zl25, zl30, zl31, zl32, zl33, zl34, zl35, zl36, zl37, zl38, zl39, zl40, zl41, zl42, zl43, zl45, zl48, zl49, zl57, zl58, zl59, zl60, zl61, zl62, zl63, zl64, zl91, zl93, zl97, zl98, zl99, zl100, zl113, zl114, zl115, zl116, zl117, zl122, zl124, zl125, zl127, zl128, zl136, zl200, zl201, zl202, zl203, zl204, zl205, zl206, zl207, zl208, zl209, zl210, zl211, zl212, zl213, zl214, zl215, zl216, zl217, zl218, zl219, zl220, zl235, zl236, zl255, zl280, zl287, zl900, zl999, zl1000, zl1001, zl1136, zl1960, zl3000, zl3001, zl3002, zl3003, zl3004, zl3005, zl3006, zl3007, zl3008, zl3009, zl268435456, zl1000000000]), z_ck (by omega) (by omega), z_cl (by omega), h1]
        rfl
      · have h1 := ((MRep_me hM (me_th (x := 0))).2.2.2.2.1 k hk).1
        rw [hi, if_pos rfl] at h1
        unfold f_Mo_restore
        rw [hwi, if_neg (by decide), z_ck (by omega) (by omega), z_cl (by omega), h1]
        rfl
    | some ns =>
      obtain ⟨n, s⟩ := ns
      refine join (r := nI 0) (a' := setR a n s) hM ?_ ?_ ⟨(hok.2.2.2.2.2.1 k n s hi).1, (hok.2.2.2.2.2.1 k n s hi).2, (by show 0 ≤ 10; omega), (fun j hj => by cases hj), hok.2.2.2.2.1, hok.2.2.2.2.2.1, hok.2.2.2.2.2.2⟩
      · obtain ⟨h1, h2⟩ := c5 k hk
        obtain ⟨h3, h4⟩ := h2 n s hi
        rw [hi, if_neg (by simp)] at h1
        obtain ⟨P1, g1, g2, g3, g4, g5, g6, g7, g8, g9⟩ := takeOver_C (a := a) (by omega) (by omega) h3 h4 c3 c4 c5 c6 (CCa_60 hca)
        refine ⟨P1, ?_, ⟨g2, g3, g4, g5, g6, g7⟩, g8, sm_mono g9 (fun o ho => by simp [cl] at ho; simp [tor]; omega)⟩
        unfold f_Yr_restore
        rw [if_neg (by simp (disch := omega) only [z_add, z_mul, z_sub, z_subm, z_addm, z_lt_t, z_lt_f, z_le_t, z_le_f, z_eq_t, z_eq_f, z_eqm, z_meq, z_mm, z_ltm, z_mlt, z_lem, z_mle, z_cl, z_ck, u1_1, u1_2, u2_1, u2_2, ↓reduceIte, Option.bind_some, Option.bind_none, bd2_some, lb_eq, and_true, and_false, true_and, false_and, not_true_eq_false, not_false_eq_true, eq_self_iff_true, if_true, if_false, Nat.reduceEqDiff, Nat.reduceAdd, Nat.reduceMul, Nat.reduceSub, Bool.false_eq_true, zl0, zl1, zl2, zl3, zl4, zl5, zl6, zl7, zl8, zl9, zl10, zl11, zl12, zl13, zl14, zl15, zl16, zl17, zl18, zl19, zl20, zl22, zl23, zl24, zl25, zl30, zl31, zl32, zl33, zl34, zl35, zl36, zl37, zl38, zl39, zl40, zl41, zl42, zl43, zl45, zl48, zl49, zl57, zl58, zl59, zl60, zl61, zl62, zl63, zl64, zl91, zl93, zl97, zl98, zl99, zl100, zl113, zl114, zl115, zl116, zl117, zl122, zl124, zl125, zl127, zl128, zl136, zl200, zl201, zl202, zl203, zl204, zl205, zl206, zl207, zl208, zl209, zl210, zl211, zl212, zl213, zl214, zl215, zl216, zl217, zl218, zl219, zl220, zl235, zl236, zl255, zl280, zl287, zl900, zl999, zl1000, zl1001, zl1136, zl1960, zl3000, zl3001, zl3002, zl3003, zl3004, zl3005, zl3006, zl3007, zl3008, zl3009, zl268435456, zl1000000000]), if_pos (by simp (disch := omega) only [z_add, z_mul, z_sub, z_subm, z_addm, z_lt_t, z_lt_f, z_le_t, z_le_f, z_eq_t, z_eq_f, z_eqm, z_meq, z_mm, z_ltm, z_mlt, z_lem, z_mle, z_cl, z_ck, u1_1, u1_2, u2_1, u2_2, ↓reduceIte, Option.bind_some, Option.bind_none, bd2_some, lb_eq, and_true, and_false, true_and, false_and, not_true_eq_false, not_false_eq_true, eq_self_iff_true, if_true, if_false, Nat.reduceEqDiff, Nat.reduceAdd, Nat.reduceMul, Nat.reduceSub, Bool.false_eq_true, zl0, zl1, zl2, zl3, zl4, zl5, zl6, zl7, zl8, zl9, zl10, zl11, zl12, zl13, zl14, zl15, zl16, zl17, zl18, zl19, zl20, zl22, zl23, zl24, zl25, zl30, zl31, zl32, zl33, zl34, zl35, zl36, zl37, zl38, zl39, zl40, zl41, zl42, zl43, zl45, zl48, zl49, zl57, zl58, zl59, zl60, zl61, zl62, zl63, zl64, zl91, zl93, zl97, zl98, zl99, zl100, zl113, zl114, zl115, zl116, zl117, zl122, zl124, zl125, zl127, zl128, zl136, zl200, zl201, zl202, zl203, zl204, zl205, zl206, zl207, zl208, zl209, zl210, zl211, zl212, zl213, zl214, zl215, zl216, zl217, zl218, zl219, zl220, zl235, zl236, zl255, zl280, zl287, zl900, zl999, zl1000, zl1001, zl1136, zl1960, zl3000, zl3001, zl3002, zl3003, zl3004, zl3005, zl3006, zl3007, zl3008, zl3009, zl268435456, zl1000000000]), z_ck (by omega) (by omega), z_cl (by omega), h1, if_neg (by decide), z_ck (by omega) (by omega), z_ck (by omega) (by omega), g1]
        rfl
      · intro P hM
        obtain ⟨m1, m2, m3, m4, m5, m6⟩ := MRep_me hM (me_th (x := 0))
        obtain ⟨h1, h2⟩ := m5 k hk
        obtain ⟨h3, h4⟩ := h2 n s hi
        rw [hi, if_neg (by simp)] at h1
        have e := restore_l k hk FU 0 (u1 P 109 0 (0 : Int32)) (by omega) (by have := FU_big; omega)
        have hs : sm (fun o => o == 110) (u1 P 109 0 (0 : Int32)) (u1 (cpy (u1 P 109 0 (0 : Int32)) 110 (1136 * (k + 1)) 110 0 0 1136) 110 124 (nI 0)) := sm_u1 cpy_sm rfl
        have hJ : ∀ j, 1136 ≤ j → (u1 (cpy (u1 P 109 0 (0 : Int32)) 110 (1136 * (k + 1)) 110 0 0 1136) 110 124 (nI 0)).1 110 j = (u1 P 109 0 (0 : Int32)).1 110 j := fun j hj => by
          rw [u1_1, if_neg (by omega), cpy_1, if_neg (by omega)]
        have hN : ∀ j, j < 1136 → j ≠ 124 → (u1 (cpy (u1 P 109 0 (0 : Int32)) 110 (1136 * (k + 1)) 110 0 0 1136) 110 124 (nI 0)).1 110 j = (u1 P 109 0 (0 : Int32)).1 110 (1136 * (k + 1) + j) := fun j hj h => by
          rw [u1_1, if_neg (by omega), cpy_1, if_pos (by omega)]
          rfl
        have n0 : MNet (cpy (u1 P 109 0 (0 : Int32)) 110 (1136 * (k + 1)) 110 0 0 1136) 110 0 n := MNet_cp h3 (fun j hj => by
          rw [cpy_1, if_pos (by omega)]
          exact congrArg ((u1 P 109 0 (0 : Int32)).1 110) (by omega))
        refine ⟨_, ?_, ⟨MNet_ix n0 (fun j hj => by rw [u1_1, if_neg (by omega)]), MSt_cp h4 (fun i hi => by rw [hN _ (by omega) (by omega), Nat.add_assoc]), ⟨by rw [u1_1, if_pos ⟨rfl, rfl⟩]; rfl, fun j hj => by cases hj⟩, MTr_sm m4 hs rfl rfl rfl, MIm_ix m5 (hs.1 111 rfl) (fun j hj => hJ j hj), MTp_sm m6 hs rfl (by rw [hs.1 109 rfl]) (by rw [hs.1 109 rfl]) (by rw [hs.1 109 rfl])⟩, sm_trans sm_th (sm_mono hs (fun o ho => by simp [mo] at ho; simp; omega))⟩
        unfold f_Mo_restore
        rw [hwi, if_neg (by decide), z_ck (by omega) (by omega), z_cl (by omega), h1, if_neg (by decide)]
        exact e
  · refine join (r := -nI 2) (a' := a) hM ⟨P, ?_, hC, hca, sm_refl⟩ (fun P hM => ⟨u1 P 109 0 (0 : Int32), ?_, MRep_me hM me_th, sm_th⟩) hok
    · unfold f_Yr_restore
      rw [i2_cases hx]; rfl
    · have e1 : f_Mo_within x.toInt64 (0 : Int64) (1 : Int64) (u1 P 109 0 (0 : Int32)) = nI 0 := by rw [w01]; exact if_neg hx
      unfold f_Mo_restore
      rw [e1]; rfl
