/-! told routes: refusals, whom to try -/
/-- a row tells stations only -/
def tellsSt (v : NV) (t : TV) (k : Nat) : Prop := ∀ i, i < (t k).2.1 → 0 ≤ ((t k).2.2 i).toInt ∧ ((t k).2.2 i).toInt < vN v
theorem tells_C {P : PM} {v : NV} {t : TV} {k : Nat} (hv : NVok v) (hn : CNet P 14 v) (ht : CTr P t) (hk : k < 4) (h40 : (t k).2.1 ≤ 40) :
    ∀ (m q i : Nat), i + m = (t k).2.1 → m < q → (∀ j, j < i → 0 ≤ ((t k).2.2 j).toInt ∧ ((t k).2.2 j).toInt < vN v) →
    (tellsSt v t k ∧ l_De_tellsStations_2 q (nI k) (nI i) P = some (nI 1)) ∨ (¬ tellsSt v t k ∧ l_De_tellsStations_2 q (nI k) (nI i) P = some (nI 0)) := by
  have hN := hv.1
  intro m
  induction m with
  | zero =>
    intro q i hi hq h
    obtain ⟨q, rfl⟩ : ∃ r, q = r + 1 := ⟨q - 1, by omega⟩
    rw [l_De_tellsStations_2, len_C ht hk, Option.bind_some, if_pos (nI_le (by omega) (by omega))]
    exact Or.inl ⟨fun j hj => h j (by omega), rfl⟩
  | succ m ih =>
    intro q i hi hq h
    obtain ⟨q, rfl⟩ : ∃ r, q = r + 1 := ⟨q - 1, by omega⟩
    rw [l_De_tellsStations_2, len_C ht hk, Option.bind_some, if_neg (nI_ge (by omega) (by omega)), num_C ht hk (by omega) (by omega), Option.bind_some, hn.1]
    by_cases c1 : lg_cmp ((t k).2.2 i) 0 < 0
    · have := (lgc_lt _ _).mp c1
      rw [show (0 : Int64).toInt = 0 from rfl] at this
      rw [if_pos c1]
      exact Or.inr ⟨fun q => by have := (q i (by omega)).1; omega, rfl⟩
    · have c1' : ¬ ((t k).2.2 i).toInt < 0 := fun q => c1 ((lgc_lt _ _).mpr q)
      rw [if_neg c1]
      by_cases c2 : lg_cmp ((t k).2.2 i) (nI (vN v)).toInt64 < 0
      · have := (lgc_lt _ _).mp c2
        rw [tl_ti, nI_ti (by omega)] at this
        rw [if_pos c2, show (1 : Int32) = nI 1 from rfl, nI_add]
        exact ih q (i + 1) (by omega) (by omega) (fun j hj => by
          by_cases e : j = i
          · subst e; omega
          · exact h j (by omega))
      · have c2' : ¬ ((t k).2.2 i).toInt < (nI (vN v)).toInt64.toInt := fun q => c2 ((lgc_lt _ _).mpr q)
        rw [tl_ti, nI_ti (by omega)] at c2'
        rw [if_neg c2]
        exact Or.inr ⟨fun q => by have := (q i (by omega)).2; omega, rfl⟩

/-- the refusal of a told route; 0: none -/
def rfT (a : AS) (x g y r : Int32) : Prop :=
  ((¬ (0 ≤ x.toInt ∧ x.toInt < 4) ∨ ¬ (0 ≤ g.toInt ∧ g.toInt < vN (aV a))) ∧ r = -nI 2) ∨
  ∃ k j, k < 4 ∧ x = nI k ∧ j < vN (aV a) ∧ g = nI j ∧
    (((aT a k).1 = none ∧ r = -nI 6) ∨
     ((aT a k).1 ≠ none ∧ ¬ (1 ≤ (aT a k).2.1 ∧ (aT a k).2.1 ≤ 10) ∧ r = -nI 4) ∨
     ((aT a k).1 ≠ none ∧ 1 ≤ (aT a k).2.1 ∧ (aT a k).2.1 ≤ 10 ∧ (¬ tellsSt (aV a) (aT a) k ∨ ¬ (1 ≤ y.toInt ∧ y.toInt ≤ 40)) ∧ r = -nI 3) ∨
     ((aT a k).1 ≠ none ∧ 1 ≤ (aT a k).2.1 ∧ (aT a k).2.1 ≤ 10 ∧ tellsSt (aV a) (aT a) k ∧ (1 ≤ y.toInt ∧ y.toInt ≤ 40) ∧ ((sW (aS a) = none ∧ r = -nI 5) ∨ ∃ w, sW (aS a) = some w ∧ r = nI 0)))
theorem rfT_C {P : PM} {a : AS} {x g y : Int32} (hC : CRep P a) (hok : AOk a) : ∃ r, rfT a x g y r ∧ f_Yr_refusalTold x g y P = some r := by
  have hN := hok.1.1
  have hq := fun k => (hok.2.2.2.2.1 k).2.1
  unfold f_Yr_refusalTold
  rcases i_cases x 4 (by omega) with ⟨k, hk, rfl⟩ | hx
  · rw [tray_t hk, if_neg (by decide)]
    rcases i_cases g (vN (aV a)) (by omega) with ⟨j, hj, rfl⟩ | hg
    · have h40 := (hok.2.2.2.2.1 k).1
      rw [isSt_C hC.1 hok.1 (by omega), if_pos hj, if_neg (by decide), miss_C hC.2.2.2.1 hk (hq k)]
      by_cases c0 : (aT a k).1 = none
      · rw [if_pos c0]
        exact ⟨-nI 6, Or.inr ⟨k, j, hk, rfl, hj, rfl, Or.inl ⟨c0, rfl⟩⟩, rfl⟩
      · rw [if_neg c0, Option.bind_some, if_pos (by decide), len_C hC.2.2.2.1 hk, Option.bind_some, Option.bind_some]
        by_cases c1 : 1 ≤ (aT a k).2.1 ∧ (aT a k).2.1 ≤ 10
        · rw [if_neg (by simp (disch := omega) only [z_add, z_mul, z_sub, z_subm, z_addm, z_lt_t, z_lt_f, z_le_t, z_le_f, z_eq_t, z_eq_f, z_eqm, z_meq, z_mm, z_ltm, z_mlt, z_lem, z_mle, z_cl, z_ck, u1_1, u1_2, u2_1, u2_2, ↓reduceIte, Option.bind_some, Option.bind_none, bd2_some, lb_eq, and_true, and_false, true_and, false_and, not_true_eq_false, not_false_eq_true, eq_self_iff_true, if_true, if_false, Nat.reduceEqDiff, Nat.reduceAdd, Nat.reduceMul, Nat.reduceSub, Bool.false_eq_true, zl0, zl1, zl2, zl3, zl4, zl5, zl6, zl7, zl8, zl9, zl10, zl11, zl12, zl13, zl14, zl15, zl16, zl17, zl18, zl19, zl20, zl22, zl23, zl24, zl25, zl30, zl31, zl32, zl33, zl34, zl35, zl36, zl37, zl38, zl39, zl40, zl41, zl42, zl43, zl45, zl48, zl49, zl57, zl58, zl59, zl60, zl61, zl62, zl63, zl64, zl91, zl93, zl97, zl98, zl99, zl100, zl113, zl114, zl115, zl116, zl117, zl122, zl124, zl125, zl127, zl128, zl136, zl200, zl201, zl202, zl203, zl204, zl205, zl206, zl207, zl208, zl209, zl210, zl211, zl212, zl213, zl214, zl215, zl216, zl217, zl218, zl219, zl220, zl235, zl236, zl255, zl280, zl287, zl900, zl999, zl1000, zl1001, zl1136, zl1960, zl3000, zl3001, zl3002, zl3003, zl3004, zl3005, zl3006, zl3007, zl3008, zl3009, zl268435456, zl1000000000]), if_pos (by simp (disch := omega) only [z_add, z_mul, z_sub, z_subm, z_addm, z_lt_t, z_lt_f, z_le_t, z_le_f, z_eq_t, z_eq_f, z_eqm, z_meq, z_mm, z_ltm, z_mlt, z_lem, z_mle, z_cl, z_ck, u1_1, u1_2, u2_1, u2_2, ↓reduceIte, Option.bind_some, Option.bind_none, bd2_some, lb_eq, and_true, and_false, true_and, false_and, not_true_eq_false, not_false_eq_true, eq_self_iff_true, if_true, if_false, Nat.reduceEqDiff, Nat.reduceAdd, Nat.reduceMul, Nat.reduceSub, Bool.false_eq_true, zl0, zl1, zl2, zl3, zl4, zl5, zl6, zl7, zl8, zl9, zl10, zl11, zl12, zl13, zl14, zl15, zl16, zl17, zl18, zl19, zl20, zl22, zl23, zl24, zl25, zl30, zl31, zl32, zl33, zl34, zl35, zl36, zl37, zl38, zl39, zl40, zl41, zl42, zl43, zl45, zl48, zl49, zl57, zl58, zl59, zl60, zl61, zl62, zl63, zl64, zl91, zl93, zl97, zl98, zl99, zl100, zl113, zl114, zl115, zl116, zl117, zl122, zl124, zl125, zl127, zl128, zl136, zl200, zl201, zl202, zl203, zl204, zl205, zl206, zl207, zl208, zl209, zl210, zl211, zl212, zl213, zl214, zl215, zl216, zl217, zl218, zl219, zl220, zl235, zl236, zl255, zl280, zl287, zl900, zl999, zl1000, zl1001, zl1136, zl1960, zl3000, zl3001, zl3002, zl3003, zl3004, zl3005, zl3006, zl3007, zl3008, zl3009, zl268435456, zl1000000000])]
          have e1 : j_Yr_refusalTold_91 (1 : Int32) P = some (-nI 3) := rfl
          by_cases c2 : 1 ≤ y.toInt ∧ y.toInt ≤ 40
          · have e2 : f_Yr_isSize y P = nI 1 := by rw [isSz_C]; exact if_pos c2
            rw [e2, if_neg (by decide)]
            rcases tells_C hok.1 hC.1 hC.2.2.2.1 hk h40 (aT a k).2.1 FU 0 (by omega) (by have := FU_big; omega) (fun j hj => by omega) with ⟨t1, t2⟩ | ⟨t1, t2⟩
            · rw [show f_De_tellsStations (nI k) P = some (nI 1) from t2, Option.bind_some, if_neg (by decide)]
              cases hw : sW (aS a) with
              | none => exact ⟨-nI 5, Or.inr ⟨k, j, hk, rfl, hj, rfl, Or.inr (Or.inr (Or.inr ⟨c0, c1.1, c1.2, t1, c2, Or.inl ⟨hw, rfl⟩⟩))⟩, by rw [rfn_C hC.2.1 hw]⟩
              | some w => exact ⟨nI 0, Or.inr ⟨k, j, hk, rfl, hj, rfl, Or.inr (Or.inr (Or.inr ⟨c0, c1.1, c1.2, t1, c2, Or.inr ⟨w, hw, rfl⟩⟩))⟩, by rw [refus_C hC.2.1 hw (by have := (hok.2.1.1 w hw).1; omega)]; rfl⟩
            · rw [show f_De_tellsStations (nI k) P = some (nI 0) from t2, Option.bind_some, if_pos (by decide), e1]
              exact ⟨-nI 3, Or.inr ⟨k, j, hk, rfl, hj, rfl, Or.inr (Or.inr (Or.inl ⟨c0, c1.1, c1.2, Or.inl t1, rfl⟩))⟩, rfl⟩
          · have e2 : f_Yr_isSize y P = nI 0 := by rw [isSz_C]; exact if_neg c2
            rw [e2, if_pos (by decide), e1]
            exact ⟨-nI 3, Or.inr ⟨k, j, hk, rfl, hj, rfl, Or.inr (Or.inr (Or.inl ⟨c0, c1.1, c1.2, Or.inr c2, rfl⟩))⟩, rfl⟩
        · refine ⟨-nI 4, Or.inr ⟨k, j, hk, rfl, hj, rfl, Or.inr (Or.inl ⟨c0, c1, rfl⟩)⟩, ?_⟩
          by_cases c2 : (aT a k).2.1 < 1
          · rw [if_pos (by simp (disch := omega) only [z_add, z_mul, z_sub, z_subm, z_addm, z_lt_t, z_lt_f, z_le_t, z_le_f, z_eq_t, z_eq_f, z_eqm, z_meq, z_mm, z_ltm, z_mlt, z_lem, z_mle, z_cl, z_ck, u1_1, u1_2, u2_1, u2_2, ↓reduceIte, Option.bind_some, Option.bind_none, bd2_some, lb_eq, and_true, and_false, true_and, false_and, not_true_eq_false, not_false_eq_true, eq_self_iff_true, if_true, if_false, Nat.reduceEqDiff, Nat.reduceAdd, Nat.reduceMul, Nat.reduceSub, Bool.false_eq_true, zl0, zl1, zl2, zl3, zl4, zl5, zl6, zl7, zl8, zl9, zl10, zl11, zl12, zl13, zl14, zl15, zl16, zl17, zl18, zl19, zl20, zl22, zl23, zl24, zl25, zl30, zl31, zl32, zl33, zl34, zl35, zl36, zl37, zl38, zl39, zl40, zl41, zl42, zl43, zl45, zl48, zl49, zl57, zl58, zl59, zl60, zl61, zl62, zl63, zl64, zl91, zl93, zl97, zl98, zl99, zl100, zl113, zl114, zl115, zl116, zl117, zl122, zl124, zl125, zl127, zl128, zl136, zl200, zl201, zl202, zl203, zl204, zl205, zl206, zl207, zl208, zl209, zl210, zl211, zl212, zl213, zl214, zl215, zl216, zl217, zl218, zl219, zl220, zl235, zl236, zl255, zl280, zl287, zl900, zl999, zl1000, zl1001, zl1136, zl1960, zl3000, zl3001, zl3002, zl3003, zl3004, zl3005, zl3006, zl3007, zl3008, zl3009, zl268435456, zl1000000000])]; rfl
          · rw [if_neg (by simp (disch := omega) only [z_add, z_mul, z_sub, z_subm, z_addm, z_lt_t, z_lt_f, z_le_t, z_le_f, z_eq_t, z_eq_f, z_eqm, z_meq, z_mm, z_ltm, z_mlt, z_lem, z_mle, z_cl, z_ck, u1_1, u1_2, u2_1, u2_2, ↓reduceIte, Option.bind_some, Option.bind_none, bd2_some, lb_eq, and_true, and_false, true_and, false_and, not_true_eq_false, not_false_eq_true, eq_self_iff_true, if_true, if_false, Nat.reduceEqDiff, Nat.reduceAdd, Nat.reduceMul, Nat.reduceSub, Bool.false_eq_true, zl0, zl1, zl2, zl3, zl4, zl5, zl6, zl7, zl8, zl9, zl10, zl11, zl12, zl13, zl14, zl15, zl16, zl17, zl18, zl19, zl20, zl22, zl23, zl24, zl25, zl30, zl31, zl32, zl33, zl34, zl35, zl36, zl37, zl38, zl39, zl40, zl41, zl42, zl43, zl45, zl48, zl49, zl57, zl58, zl59, zl60, zl61, zl62, zl63, zl64, zl91, zl93, zl97, zl98, zl99, zl100, zl113, zl114, zl115, zl116, zl117, zl122, zl124, zl125, zl127, zl128, zl136, zl200, zl201, zl202, zl203, zl204, zl205, zl206, zl207, zl208, zl209, zl210, zl211, zl212, zl213, zl214, zl215, zl216, zl217, zl218, zl219, zl220, zl235, zl236, zl255, zl280, zl287, zl900, zl999, zl1000, zl1001, zl1136, zl1960, zl3000, zl3001, zl3002, zl3003, zl3004, zl3005, zl3006, zl3007, zl3008, zl3009, zl268435456, zl1000000000]), if_neg (by simp (disch := omega) only [z_add, z_mul, z_sub, z_subm, z_addm, z_lt_t, z_lt_f, z_le_t, z_le_f, z_eq_t, z_eq_f, z_eqm, z_meq, z_mm, z_ltm, z_mlt, z_lem, z_mle, z_cl, z_ck, u1_1, u1_2, u2_1, u2_2, ↓reduceIte, Option.bind_some, Option.bind_none, bd2_some, lb_eq, and_true, and_false, true_and, false_and, not_true_eq_false, not_false_eq_true, eq_self_iff_true, if_true, if_false, Nat.reduceEqDiff, Nat.reduceAdd, Nat.reduceMul, Nat.reduceSub, Bool.false_eq_true, zl0, zl1, zl2, zl3, zl4, zl5, zl6, zl7, zl8, zl9, zl10, zl11, zl12, zl13, zl14, zl15, zl16, zl17, zl18, zl19, zl20, zl22, zl23, zl24, zl25, zl30, zl31, zl32, zl33, zl34, zl35, zl36, zl37, zl38, zl39, zl40, zl41, zl42, zl43, zl45, zl48, zl49, zl57, zl58, zl59, zl60, zl61, zl62, zl63, zl64, zl91, zl93, zl97, zl98, zl99, zl100, zl113, zl114, zl115, zl116, zl117, zl122, zl124, zl125, zl127, zl128, zl136, zl200, zl201, zl202, zl203, zl204, zl205, zl206, zl207, zl208, zl209, zl210, zl211, zl212, zl213, zl214, zl215, zl216, zl217, zl218, zl219, zl220, zl235, zl236, zl255, zl280, zl287, zl900, zl999, zl1000, zl1001, zl1136, zl1960, zl3000, zl3001, zl3002, zl3003, zl3004, zl3005, zl3006, zl3007, zl3008, zl3009, zl268435456, zl1000000000])]; rfl
    · rw [isSt_Cn hC.1 hok.1 hg, if_pos (by decide)]
      exact ⟨-nI 2, Or.inl ⟨Or.inr hg, rfl⟩, rfl⟩
  · rw [tray_f hx, if_pos (by decide)]
    exact ⟨-nI 2, Or.inl ⟨Or.inl hx, rfl⟩, rfl⟩
theorem rfT_u {a : AS} {x g y r r' : Int32} (hok : AOk a) (h : rfT a x g y r) (h' : rfT a x g y r') : r = r' := by
  have hN := hok.1.1
  rcases h with ⟨h1, rfl⟩ | ⟨k, j, hk, rfl, hj, rfl, h⟩
  · rcases h' with ⟨_, rfl⟩ | ⟨k, j, hk, rfl, hj, rfl, h⟩
    · rfl
    · exfalso
      rcases h1 with h1 | h1
      · exact h1 (by rw [nI_ti (by omega)]; omega)
      · exact h1 (by rw [nI_ti (by omega)]; omega)
  · rcases h' with ⟨h1, rfl⟩ | ⟨k', j', hk', e1, hj', e2, h'⟩
    · exfalso
      rcases h1 with h1 | h1
      · exact h1 (by rw [nI_ti (by omega)]; omega)
      · exact h1 (by rw [nI_ti (by omega)]; omega)
    · obtain rfl : k = k' := (nI_eq (by omega) (by omega)).mp e1
      rcases h with ⟨a1, rfl⟩ | ⟨a1, a2, rfl⟩ | ⟨a1, a2, a3, a4, rfl⟩ | ⟨a1, a2, a3, a4, a5, a6⟩
      · rcases h' with ⟨b1, rfl⟩ | ⟨b1, b2, rfl⟩ | ⟨b1, b2, b3, b4, rfl⟩ | ⟨b1, b2, b3, b4, b5, b6⟩
        · rfl
        · exact absurd a1 b1
        · exact absurd a1 b1
        · exact absurd a1 b1
      · rcases h' with ⟨b1, rfl⟩ | ⟨b1, b2, rfl⟩ | ⟨b1, b2, b3, b4, rfl⟩ | ⟨b1, b2, b3, b4, b5, b6⟩
        · exact absurd b1 a1
        · rfl
        · exact absurd ⟨b2, b3⟩ a2
        · exact absurd ⟨b2, b3⟩ a2
      · rcases h' with ⟨b1, rfl⟩ | ⟨b1, b2, rfl⟩ | ⟨b1, b2, b3, b4, rfl⟩ | ⟨b1, b2, b3, b4, b5, b6⟩
        · exact absurd b1 a1
        · exact absurd ⟨a2, a3⟩ b2
        · rfl
        · rcases a4 with a4 | a4
          · exact absurd b4 a4
          · exact absurd b5 a4
      · rcases h' with ⟨b1, rfl⟩ | ⟨b1, b2, rfl⟩ | ⟨b1, b2, b3, b4, rfl⟩ | ⟨b1, b2, b3, b4, b5, b6⟩
        · exact absurd b1 a1
        · exact absurd ⟨a2, a3⟩ b2
        · rcases b4 with b4 | b4
          · exact absurd a4 b4
          · exact absurd a5 b4
        · rcases a6 with ⟨a6, rfl⟩ | ⟨w, a6, rfl⟩
          · rcases b6 with ⟨b6, rfl⟩ | ⟨w', b6, rfl⟩
            · rfl
            · rw [a6] at b6; cases b6
          · rcases b6 with ⟨b6, rfl⟩ | ⟨w', b6, rfl⟩
            · rw [a6] at b6; cases b6
            · rfl
theorem noDulls_l {P : PM} {a : AS} {k j : Nat} {y : Int32} (hM : MRep P a) (hok : AOk a) (hk : k < 4) (hj : j < vN (aV a)) (c0 : (aT a k).1 ≠ none) (c1 : 1 ≤ (aT a k).2.1 ∧ (aT a k).2.1 ≤ 10) :
    ∀ (m q i : Nat), i + m = (aT a k).2.1 → m < q → (∀ l, l < i → 0 ≤ ((aT a k).2.2 l).toInt ∧ ((aT a k).2.2 l).toInt < vN (aV a)) →
    ∃ r, rfT a (nI k) (nI j) y r ∧ l_Mo_noDulls_62 q (nI k) y (nI i) P = some r := by
  have hN := hok.1.1
  have ht := hM.2.2.2.1
  intro m
  induction m with
  | zero =>
    intro q i hi hq h
    obtain ⟨q, rfl⟩ : ∃ r, q = r + 1 := ⟨q - 1, by omega⟩
    have t1 : tellsSt (aV a) (aT a) k := fun l hl => h l (by omega)
    rw [l_Mo_noDulls_62, z_ck (by omega) (by omega), z_cl (by omega), (ht k hk).2.1, if_pos (nI_le (by omega) (by omega)), isSize_M, tl_ti, m113 hM.2.1]
    by_cases c2 : 1 ≤ y.toInt ∧ y.toInt ≤ 40
    · rw [if_pos c2, Option.bind_some, if_neg (by decide)]
      cases hw : sW (aS a) with
      | none => exact ⟨-nI 5, Or.inr ⟨k, j, hk, rfl, hj, rfl, Or.inr (Or.inr (Or.inr ⟨c0, c1.1, c1.2, t1, c2, Or.inl ⟨hw, rfl⟩⟩))⟩, rfl⟩
      | some w =>
        have := (hok.2.1.1 w hw).1
        exact ⟨nI 0, Or.inr ⟨k, j, hk, rfl, hj, rfl, Or.inr (Or.inr (Or.inr ⟨c0, c1.1, c1.2, t1, c2, Or.inr ⟨w, hw, rfl⟩⟩))⟩, by rw [oI_s, if_neg (by simp (disch := omega) only [z_add, z_mul, z_sub, z_subm, z_addm, z_lt_t, z_lt_f, z_le_t, z_le_f, z_eq_t, z_eq_f, z_eqm, z_meq, z_mm, z_ltm, z_mlt, z_lem, z_mle, z_cl, z_ck, u1_1, u1_2, u2_1, u2_2, ↓reduceIte, Option.bind_some, Option.bind_none, bd2_some, lb_eq, and_true, and_false, true_and, false_and, not_true_eq_false, not_false_eq_true, eq_self_iff_true, if_true, if_false, Nat.reduceEqDiff, Nat.reduceAdd, Nat.reduceMul, Nat.reduceSub, Bool.false_eq_true, zl0, zl1, zl2, zl3, zl4, zl5, zl6, zl7, zl8, zl9, zl10, zl11, zl12, zl13, zl14, zl15, zl16, zl17, zl18, zl19, zl20, zl22, zl23, zl24, zl25, zl30, zl31, zl32, zl33, zl34, zl35, zl36, zl37, zl38, zl39, zl40, zl41, zl42, zl43, zl45, zl48, zl49, zl57, zl58, zl59, zl60, zl61, zl62, zl63, zl64, zl91, zl93, zl97, zl98, zl99, zl100, zl113, zl114, zl115, zl116, zl117, zl122, zl124, zl125, zl127, zl128, zl136, zl200, zl201, zl202, zl203, zl204, zl205, zl206, zl207, zl208, zl209, zl210, zl211, zl212, zl213, zl214, zl215, zl216, zl217, zl218, zl219, zl220, zl235, zl236, zl255, zl280, zl287, zl900, zl999, zl1000, zl1001, zl1136, zl1960, zl3000, zl3001, zl3002, zl3003, zl3004, zl3005, zl3006, zl3007, zl3008, zl3009, zl268435456, zl1000000000])]; rfl⟩
    · rw [if_neg c2]
      exact ⟨-nI 3, Or.inr ⟨k, j, hk, rfl, hj, rfl, Or.inr (Or.inr (Or.inl ⟨c0, c1.1, c1.2, Or.inr c2, rfl⟩))⟩, rfl⟩
  | succ m ih =>
    intro q i hi hq h
    obtain ⟨q, rfl⟩ : ∃ r, q = r + 1 := ⟨q - 1, by omega⟩
    rw [l_Mo_noDulls_62, z_ck (by omega) (by omega), z_cl (by omega), (ht k hk).2.1, if_neg (nI_ge (by omega) (by omega)), show (40 : Int32) = nI 40 from rfl, pk_mul, nI_add, z_ck (by omega) (by omega), z_cl (by omega), (ht k hk).2.2 i (by omega), isStation_M _ hM.1.1 hN]
    by_cases c : 0 ≤ ((aT a k).2.2 i).toInt ∧ ((aT a k).2.2 i).toInt < vN (aV a)
    · rw [if_pos c, Option.bind_some, if_neg (by decide), show (1 : Int32) = nI 1 from rfl, nI_add]
      exact ih q (i + 1) (by omega) (by omega) (fun l hl => by
        by_cases e : l = i
        · subst e; exact c
        · exact h l (by omega))
    · rw [if_neg c]
      exact ⟨-nI 3, Or.inr ⟨k, j, hk, rfl, hj, rfl, Or.inr (Or.inr (Or.inl ⟨c0, c1.1, c1.2, Or.inl (fun q => c (q i (by omega))), rfl⟩))⟩, rfl⟩
theorem rfT_M {P : PM} {a : AS} {x g y : Int32} (hM : MRep P a) (hok : AOk a) : ∃ r, rfT a x g y r ∧ f_Mo_noDulls x g y P = some r := by
  have hN := hok.1.1
  have hq := fun k => (hok.2.2.2.2.1 k).2.1
  unfold f_Mo_noDulls
  rcases i_cases x 4 (by omega) with ⟨k, hk, rfl⟩ | hx
  · have e0 : f_Mo_within (nI k).toInt64 (0 : Int64) (3 : Int64) P = nI 1 := by
      rw [w03, nI_ti (by omega)]
      exact if_pos (by omega)
    rw [e0, if_neg (by decide), isStation_M _ hM.1.1 hN, tl_ti]
    rcases i_cases g (vN (aV a)) (by omega) with ⟨j, hj, rfl⟩ | hg
    · have h40 := (hok.2.2.2.2.1 k).1
      rw [nI_ti (by omega), if_pos (by omega), Option.bind_some, if_neg (by decide), noTray_k hM.2.2.2.1 hk (hq k)]
      by_cases c0 : (aT a k).1 = none
      · rw [if_pos c0]
        exact ⟨-nI 6, Or.inr ⟨k, j, hk, rfl, hj, rfl, Or.inl ⟨c0, rfl⟩⟩, rfl⟩
      · rw [if_neg c0, Option.bind_some, if_pos (by decide), z_ck (by omega) (by omega), z_cl (by omega), (hM.2.2.2.1 k hk).2.1]
        have e1 : f_Mo_within (nI (aT a k).2.1).toInt64 (1 : Int64) (10 : Int64) P = if 1 ≤ (aT a k).2.1 ∧ (aT a k).2.1 ≤ 10 then nI 1 else nI 0 := by
          rw [within_i, tl_ti, nI_ti (by omega), show (1 : Int64).toInt = 1 from rfl, show (10 : Int64).toInt = 10 from rfl]
          by_cases c : 1 ≤ (aT a k).2.1 ∧ (aT a k).2.1 ≤ 10
          · rw [if_pos c, if_pos (by omega)]
          · rw [if_neg c, if_neg (by omega)]
        rw [e1]
        by_cases c1 : 1 ≤ (aT a k).2.1 ∧ (aT a k).2.1 ≤ 10
        · rw [if_pos c1, if_neg (by decide)]
          exact noDulls_l hM hok hk hj c0 c1 (aT a k).2.1 FU 0 (by omega) (by have := FU_big; omega) (fun l hl => by omega)
        · rw [if_neg c1, if_pos (by decide)]
          exact ⟨-nI 4, Or.inr ⟨k, j, hk, rfl, hj, rfl, Or.inr (Or.inl ⟨c0, c1, rfl⟩)⟩, rfl⟩
    · rw [if_neg hg]
      exact ⟨-nI 2, Or.inl ⟨Or.inr hg, rfl⟩, rfl⟩
  · have e0 : f_Mo_within x.toInt64 (0 : Int64) (3 : Int64) P = nI 0 := by
      rw [w03]
      exact if_neg hx
    rw [e0, if_pos (by decide)]
    exact ⟨-nI 2, Or.inl ⟨Or.inl hx, rfl⟩, rfl⟩
theorem nm_ex {v : NV} {t : TV} {k : Nat} (hv : NVok v) (h : tellsSt v t k) : ∀ i, i < (t k).2.1 → (t k).2.2 i = lN ((t k).2.2 i).toInt.toNat ∧ ((t k).2.2 i).toInt.toNat < vN v := by
  intro i hi
  have hN := hv.1
  obtain ⟨h1, h2⟩ := h i hi
  refine ⟨?_, by omega⟩
  apply Int64.toInt_inj.mp
  rw [lN_ti (by omega)]
  omega
/-- when the refusal is 0 -/
theorem rfT_0 {a : AS} {x g y r : Int32} (hok : AOk a) (h : rfT a x g y r) : (∃ k j l w, k < 4 ∧ x = nI k ∧ j < vN (aV a) ∧ g = nI j ∧ y = nI l ∧ 1 ≤ l ∧ l ≤ 40 ∧ (aT a k).2.1 ≤ 10 ∧ tellsSt (aV a) (aT a) k ∧ sW (aS a) = some w ∧ w < vN (aV a) ∧ r = nI 0) ∨ ∃ c, 0 < c ∧ c < 100 ∧ r = -nI c := by
  rcases h with ⟨h1, rfl⟩ | ⟨k, j, hk, rfl, hj, rfl, h⟩
  · exact Or.inr ⟨2, by omega, by omega, rfl⟩
  · rcases h with ⟨a1, rfl⟩ | ⟨a1, a2, rfl⟩ | ⟨a1, a2, a3, a4, rfl⟩ | ⟨a1, a2, a3, a4, a5, a6⟩
    · exact Or.inr ⟨6, by omega, by omega, rfl⟩
    · exact Or.inr ⟨4, by omega, by omega, rfl⟩
    · exact Or.inr ⟨3, by omega, by omega, rfl⟩
    · rcases a6 with ⟨a6, rfl⟩ | ⟨w, a6, rfl⟩
      · exact Or.inr ⟨5, by omega, by omega, rfl⟩
      · obtain ⟨l, hl, rfl⟩ : ∃ l, l < 41 ∧ y = nI l := (i_cases y 41 (by omega)).resolve_right (fun q => q (by omega))
        rw [nI_ti (by omega)] at a5
        exact Or.inl ⟨k, j, l, w, hk, rfl, hj, rfl, rfl, by omega, by omega, a3, a4, a6, (hok.2.1.1 w a6).1, rfl⟩
theorem c1920 {P P1 : PM} {a : AS} (hC : CRep P a) (hca : CCa P (aV a)) (g2 : sm (fun o => o == 19 || o == 20) P P1) : CRep P1 a ∧ CCa P1 (aV a) ∧ sm cl P P1 :=
  ⟨CRep_ce hC (ce_sm g2 (fun o e => by simp [esr] at e; simp; omega) (by rw [g2.1 31 rfl]) (by rw [g2.1 31 rfl])), CCa_ro hca (g2.1 59 rfl) (g2.1 60 rfl), sm_mono g2 (fun o ho => by simp [cl] at ho; simp; omega)⟩
theorem dullsOf_M {P : PM} {a : AS} {k j l w : Nat} (hM : MRep P a) (hok : AOk a) (hk : k < 4) (hj : j < vN (aV a)) (h1 : 1 ≤ l) (h40 : l ≤ 40) (h10 : (aT a k).2.1 ≤ 10) (ht : tellsSt (aV a) (aT a) k) (hw : sW (aS a) = some w) (hwN : w < vN (aV a)) :
    ∃ P', f_Mo_dullsOf (nI k) (nI j) (nI l) P = some (nI (bo (dls (aV a) (aS a) (fun i => ((aT a k).2.2 i).toInt.toNat) (aT a k).2.1 w j l) 10), P') ∧ MRep P' a ∧ sm mo P P' := by
  have hN := hok.1.1
  have hd := hM.2.1.2.2.2.2 j (by omega)
  obtain ⟨P1, g1, g2, g3⟩ := dls_M (nm := fun i => ((aT a k).2.2 i).toInt.toNat) hok.1 hk (by omega) (nm_ex hok.1 ht) (show j < 7 by omega) hok.2.1 hw (by omega) h1 h40 (P.1 110 (117 + j)) 10 FU 0 P (by omega) (by have := FU_big; omega) hM.1 hM.2.2.2.1 (fun i a1 a2 a3 P0 hP => by
    have hM2 := hM.2.1
    by_cases c : i < 117
    · obtain rfl | rfl | rfl | rfl : i = 113 ∨ i = 114 ∨ i = 115 ∨ i = 116 := by omega
      · rw [hM2.1, hP.1]
      · rw [show P.1 110 114 = nI (sZ (aS a)) from hM2.2.1, show P0.1 110 114 = nI (sZ (aS a)) from hP.2.1]
      · rw [show P.1 110 115 = sH (aS a) from hM2.2.2.1, show P0.1 110 115 = sH (aS a) from hP.2.2.1]
      · rw [show P.1 110 116 = nI (sA (aS a)) from hM2.2.2.2.1, show P0.1 110 116 = nI (sA (aS a)) from hP.2.2.2.1]
    · have e1 := hM2.2.2.2.2 (i - 117) (by omega)
      have e2 := hP.2.2.2.2 (i - 117) (by omega)
      rw [show 113 + 4 + (i - 117) = i by omega] at e1 e2
      rw [e1, e2])
  refine ⟨P1, ?_, MRep_md hM g2 g3, md_mo g2⟩
  unfold f_Mo_dullsOf
  rw [show (117 : Int32) = nI 117 from rfl, nI_add, z_ck (by omega) (by omega), z_cl (by omega), lb_eq]
  exact g1
theorem dulls_ok {P : PM} {a : AS} {x g y : Int32} (hC : CRep P a) (hM : MRep P a) (hca : CCa P (aV a)) (hok : AOk a) :
    ∃ v P1 P2, f_Yr_dulls x g y P = some (v, P1) ∧ f_Mo_dulls x g y P1 = some (v, P2) ∧ Inv P2 := by
  have hN := hok.1.1
  obtain ⟨r, hr, hf⟩ := rfT_C (x := x) (g := g) (y := y) hC hok
  have hfM : ∀ P, MRep P a → f_Mo_noDulls x g y P = some r := fun P hM => by
    obtain ⟨r', hr', hf'⟩ := rfT_M (x := x) (g := g) (y := y) hM hok
    rw [rfT_u hok hr hr']; exact hf'
  rcases rfT_0 hok hr with ⟨k, j, l, w, hk, rfl, hj, rfl, rfl, h1, h40, h10, ht, hw, hwN, rfl⟩ | ⟨c, c1, c2, rfl⟩
  · refine join (r := nI (bo (dls (aV a) (aS a) (fun i => ((aT a k).2.2 i).toInt.toNat) (aT a k).2.1 w j l) 10)) (a' := a) hM ?_ (fun P hM => ?_) hok
    · obtain ⟨P1, g1, g2⟩ := dls_C (nm := fun i => ((aT a k).2.2 i).toInt.toNat) hok.1 hk (by omega) (nm_ex hok.1 ht) (show j < 7 by omega) hok.2.1 hw (by omega) h1 h40 10 FU 0 P (by omega) (by have := FU_big; omega) hC.1 hC.2.2.2.1 hC.2.1
      refine ⟨P1, ?_, c1920 hC hca g2⟩
      unfold f_Yr_dulls
      rw [hf, Option.bind_some, if_pos (by decide), show f_De_dullsTold (nI k) (nI j) (nI l) P = _ from g1]
      rfl
    · have hM1 : MRep (u1 P 109 0 (0 : Int32)) a := MRep_me hM me_th
      obtain ⟨P1, g1, g2, g3⟩ := dullsOf_M hM1 hok hk hj h1 h40 h10 ht hw hwN
      refine ⟨P1, ?_, g2, sm_trans sm_th g3⟩
      unfold f_Mo_dulls
      rw [hfM _ hM1, Option.bind_some, if_pos (by decide), g1]
      rfl
  · refine join (r := -nI c) (a' := a) hM ⟨P, ?_, hC, hca, sm_refl⟩ (fun P hM => ⟨u1 P 109 0 (0 : Int32), ?_, MRep_me hM me_th, sm_th⟩) hok
    · unfold f_Yr_dulls
      rw [hf, Option.bind_some, if_neg (by simp (disch := omega) only [z_add, z_mul, z_sub, z_subm, z_addm, z_lt_t, z_lt_f, z_le_t, z_le_f, z_eq_t, z_eq_f, z_eqm, z_meq, z_mm, z_ltm, z_mlt, z_lem, z_mle, z_cl, z_ck, u1_1, u1_2, u2_1, u2_2, ↓reduceIte, Option.bind_some, Option.bind_none, bd2_some, lb_eq, and_true, and_false, true_and, false_and, not_true_eq_false, not_false_eq_true, eq_self_iff_true, if_true, if_false, Nat.reduceEqDiff, Nat.reduceAdd, Nat.reduceMul, Nat.reduceSub, Bool.false_eq_true, zl0, zl1, zl2, zl3, zl4, zl5, zl6, zl7, zl8, zl9, zl10, zl11, zl12, zl13, zl14, zl15, zl16, zl17, zl18, zl19, zl20, zl22, zl23, zl24, zl25, zl30, zl31, zl32, zl33, zl34, zl35, zl36, zl37, zl38, zl39, zl40, zl41, zl42, zl43, zl45, zl48, zl49, zl57, zl58, zl59, zl60, zl61, zl62, zl63, zl64, zl91, zl93, zl97, zl98, zl99, zl100, zl113, zl114, zl115, zl116, zl117, zl122, zl124, zl125, zl127, zl128, zl136, zl200, zl201, zl202, zl203, zl204, zl205, zl206, zl207, zl208, zl209, zl210, zl211, zl212, zl213, zl214, zl215, zl216, zl217, zl218, zl219, zl220, zl235, zl236, zl255, zl280, zl287, zl900, zl999, zl1000, zl1001, zl1136, zl1960, zl3000, zl3001, zl3002, zl3003, zl3004, zl3005, zl3006, zl3007, zl3008, zl3009, zl268435456, zl1000000000])]
    · unfold f_Mo_dulls
      rw [hfM _ (MRep_me hM me_th), Option.bind_some, if_neg (by simp (disch := omega) only [z_add, z_mul, z_sub, z_subm, z_addm, z_lt_t, z_lt_f, z_le_t, z_le_f, z_eq_t, z_eq_f, z_eqm, z_meq, z_mm, z_ltm, z_mlt, z_lem, z_mle, z_cl, z_ck, u1_1, u1_2, u2_1, u2_2, ↓reduceIte, Option.bind_some, Option.bind_none, bd2_some, lb_eq, and_true, and_false, true_and, false_and, not_true_eq_false, not_false_eq_true, eq_self_iff_true, if_true, if_false, Nat.reduceEqDiff, Nat.reduceAdd, Nat.reduceMul, Nat.reduceSub, Bool.false_eq_true, zl0, zl1, zl2, zl3, zl4, zl5, zl6, zl7, zl8, zl9, zl10, zl11, zl12, zl13, zl14, zl15, zl16, zl17, zl18, zl19, zl20, zl22, zl23, zl24, zl25, zl30, zl31, zl32, zl33, zl34, zl35, zl36, zl37, zl38, zl39, zl40, zl41, zl42, zl43, zl45, zl48, zl49, zl57, zl58, zl59, zl60, zl61, zl62, zl63, zl64, zl91, zl93, zl97, zl98, zl99, zl100, zl113, zl114, zl115, zl116, zl117, zl122, zl124, zl125, zl127, zl128, zl136, zl200, zl201, zl202, zl203, zl204, zl205, zl206, zl207, zl208, zl209, zl210, zl211, zl212, zl213, zl214, zl215, zl216, zl217, zl218, zl219, zl220, zl235, zl236, zl255, zl280, zl287, zl900, zl999, zl1000, zl1001, zl1136, zl1960, zl3000, zl3001, zl3002, zl3003, zl3004, zl3005, zl3006, zl3007, zl3008, zl3009, zl268435456, zl1000000000])]
