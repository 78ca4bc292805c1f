theorem slp_M {a : AS} {w g x : Nat} (hok : AOk a) (hw : sW (aS a) = some w) (hg : g < vN (aV a)) (hx : x < 2) :
    ∀ (m n b : Nat) (P : PM), b + m = 2 ^ vN (aV a) → m < n → MRep P a →
    ∃ P', l_Mo_sleepers_46 n (nI g) (nI x) (oI (lst2 (fun b => slv a w g b && decide (b &&& sA (aS a) = 0)) b)) (nI b) P =
        some (match lst2 (fun b => slv a w g b && decide (b &&& sA (aS a) = 0)) (2 ^ vN (aV a)) with | none => -nI 1 | some c => if x = 1 then nI c else nI (pc 7 c), P') ∧ MRep P' a ∧ sm lyr P P' := by
  have hN := hok.1.1
  have h7 := pw_le hN
  have hA := hok.2.1.2.2.2.1
  obtain ⟨_, _, hw7⟩ := pl_ok hok.1 hok.2.1 hw
  intro m
  induction m with
  | zero =>
    intro n b P hb hn q1
    obtain ⟨n, rfl⟩ : ∃ r, n = r + 1 := ⟨n - 1, by omega⟩
    obtain rfl : b = 2 ^ vN (aV a) := by omega
    rw [l_Mo_sleepers_46, show P.1 110 (1 : Int32).toNatClampNeg = nI (vN (aV a)) from q1.1.1, sh_1 _ (by omega), if_pos (nI_le (Nat.le_refl _) (by omega))]
    unfold j_Mo_sleepers_159
    cases e : lst2 (fun b => slv a w g b && decide (b &&& sA (aS a) = 0)) (2 ^ vN (aV a)) with
    | none => exact ⟨P, rfl, q1, sm_refl⟩
    | some c =>
      have hc := (lst2_some e).1
      rw [oI_s, if_neg (by simp (disch := omega) only [z_add, z_mul, z_sub, z_subm, z_addm, z_lt_t, z_lt_f, z_le_t, z_le_f, z_eq_t, z_eq_f, z_eqm, z_meq, z_mm, z_ltm, z_mlt, z_lem, z_mle, z_cl, z_ck, u1_1, u1_2, u2_1, u2_2, ↓reduceIte, Option.bind_some, Option.bind_none, bd2_some, lb_eq, and_true, and_false, true_and, false_and, not_true_eq_false, not_false_eq_true, eq_self_iff_true, if_true, if_false, Nat.reduceEqDiff, Nat.reduceAdd, Nat.reduceMul, Nat.reduceSub, Bool.false_eq_true, zl0, zl1, zl2, zl3, zl4, zl5, zl6, zl7, zl8, zl9, zl10, zl11, zl12, zl13, zl14, zl15, zl16, zl17, zl18, zl19, zl20, zl22, zl23, zl24, zl25, zl30, zl31, zl32, zl33, zl34, zl35, zl36, zl37, zl38, zl39, zl40, zl41, zl42, zl43, zl45, zl48, zl49, zl57, zl58, zl59, zl60, zl61, zl62, zl63, zl64, zl91, zl93, zl97, zl98, zl99, zl100, zl113, zl114, zl115, zl116, zl117, zl122, zl124, zl125, zl127, zl128, zl136, zl200, zl201, zl202, zl203, zl204, zl205, zl206, zl207, zl208, zl209, zl210, zl211, zl212, zl213, zl214, zl215, zl216, zl217, zl218, zl219, zl220, zl235, zl236, zl255, zl280, zl287, zl900, zl999, zl1000, zl1001, zl1136, zl1960, zl3000, zl3001, zl3002, zl3003, zl3004, zl3005, zl3006, zl3007, zl3008, zl3009, zl268435456, zl1000000000])]
      by_cases cx : x = 1
      · subst cx
        rw [if_pos (by decide)]
        exact ⟨P, by rfl, q1, sm_refl⟩
      · rw [if_neg (by simp (disch := omega) only [z_add, z_mul, z_sub, z_subm, z_addm, z_lt_t, z_lt_f, z_le_t, z_le_f, z_eq_t, z_eq_f, z_eqm, z_meq, z_mm, z_ltm, z_mlt, z_lem, z_mle, z_cl, z_ck, u1_1, u1_2, u2_1, u2_2, ↓reduceIte, Option.bind_some, Option.bind_none, bd2_some, lb_eq, and_true, and_false, true_and, false_and, not_true_eq_false, not_false_eq_true, eq_self_iff_true, if_true, if_false, Nat.reduceEqDiff, Nat.reduceAdd, Nat.reduceMul, Nat.reduceSub, Bool.false_eq_true, zl0, zl1, zl2, zl3, zl4, zl5, zl6, zl7, zl8, zl9, zl10, zl11, zl12, zl13, zl14, zl15, zl16, zl17, zl18, zl19, zl20, zl22, zl23, zl24, zl25, zl30, zl31, zl32, zl33, zl34, zl35, zl36, zl37, zl38, zl39, zl40, zl41, zl42, zl43, zl45, zl48, zl49, zl57, zl58, zl59, zl60, zl61, zl62, zl63, zl64, zl91, zl93, zl97, zl98, zl99, zl100, zl113, zl114, zl115, zl116, zl117, zl122, zl124, zl125, zl127, zl128, zl136, zl200, zl201, zl202, zl203, zl204, zl205, zl206, zl207, zl208, zl209, zl210, zl211, zl212, zl213, zl214, zl215, zl216, zl217, zl218, zl219, zl220, zl235, zl236, zl255, zl280, zl287, zl900, zl999, zl1000, zl1001, zl1136, zl1960, zl3000, zl3001, zl3002, zl3003, zl3004, zl3005, zl3006, zl3007, zl3008, zl3009, zl268435456, zl1000000000]), bitsOf_M (by omega)]
        refine ⟨P, ?_, q1, sm_refl⟩
        show some (nI (pc 7 c), P) = some (if x = 1 then nI c else nI (pc 7 c), P)
        rw [if_neg cx]
  | succ m ih =>
    intro n b P hb hn q1
    obtain ⟨n, rfl⟩ : ∃ r, n = r + 1 := ⟨n - 1, by omega⟩
    have hbN : b < 2 ^ vN (aV a) := by omega
    have keep : ¬ ((slv a w g b && decide (b &&& sA (aS a) = 0)) = true ∧ ∀ c, lst2 (fun b => slv a w g b && decide (b &&& sA (aS a) = 0)) b = some c → pc 7 b < pc 7 c) → ∀ P1, MRep P1 a →
        ∃ P', l_Mo_sleepers_46 n (nI g) (nI x) (oI (lst2 (fun b => slv a w g b && decide (b &&& sA (aS a) = 0)) b)) (nI (b + 1)) P1 =
        some (match lst2 (fun b => slv a w g b && decide (b &&& sA (aS a) = 0)) (2 ^ vN (aV a)) with | none => -nI 1 | some c => if x = 1 then nI c else nI (pc 7 c), P') ∧ MRep P' a ∧ sm lyr P1 P' := fun h P1 r1 => by
      have e : lst2 (fun b => slv a w g b && decide (b &&& sA (aS a) = 0)) (b + 1) = lst2 (fun b => slv a w g b && decide (b &&& sA (aS a) = 0)) b := by rw [lst2, if_neg h]
      have := ih n (b + 1) P1 (by omega) (by omega) r1
      rw [e] at this
      exact this
    have h118 : (b.testBit g = false ∧ b.testBit w = false ∧ b &&& sA (aS a) = 0) → (∀ c, lst2 (fun b => slv a w g b && decide (b &&& sA (aS a) = 0)) b = some c → pc 7 b < pc 7 c) →
        ∃ P', j_Mo_sleepers_118 (fun z0 z1 z2 z3 Pz => l_Mo_sleepers_46 n z0 z1 z2 z3 Pz) (nI g) (nI x) (oI (lst2 (fun b => slv a w g b && decide (b &&& sA (aS a) = 0)) b)) (nI b) P =
        some (match lst2 (fun b => slv a w g b && decide (b &&& sA (aS a) = 0)) (2 ^ vN (aV a)) with | none => -nI 1 | some c => if x = 1 then nI c else nI (pc 7 c), P') ∧ MRep P' a ∧ sm lyr P P' := by
      rintro ⟨c1, c2, c3⟩ c4
      obtain ⟨P1, b1, b2, b3⟩ := reachBy_M q1 hok hw (Nat.or_lt_two_pow hA hbN)
      unfold j_Mo_sleepers_118 j_Mo_sleepers_143
      rw [m116 q1.2.1, nx_or, b1, bd2_some, inR_M (by omega), show (1 : Int32) = nI 1 from rfl, nI_add]
      by_cases c5 : rS (aV a) (aS a) w (sA (aS a) ||| b) g = true
      · rw [if_pos c5, if_neg (by decide)]
        obtain ⟨P2, r1, r2, r3⟩ := keep (fun q => by
          have := q.1
          unfold slv at this
          rw [c5] at this
          simp at this) P1 b2
        exact ⟨P2, r1, r2, sm_trans b3 r3⟩
      · have hs : (slv a w g b && decide (b &&& sA (aS a) = 0)) = true := by
          unfold slv
          simp [hbN, c1, c2, c3, c5]
        have e : lst2 (fun b => slv a w g b && decide (b &&& sA (aS a) = 0)) (b + 1) = some b := by rw [lst2, if_pos ⟨hs, c4⟩]
        obtain ⟨P2, r1, r2, r3⟩ := ih n (b + 1) P1 (by omega) (by omega) b2
        rw [e] at r1
        rw [if_neg c5, if_pos (by decide)]
        exact ⟨P2, r1, r2, sm_trans b3 r3⟩
    rw [l_Mo_sleepers_46, show P.1 110 (1 : Int32).toNatClampNeg = nI (vN (aV a)) from q1.1.1, sh_1 _ (by omega), if_neg (nI_ge hbN (by omega)), isIn_n (by omega) (by omega), m113 q1.2.1, hw, oI_s, isIn_n (by omega) (by omega), m116 q1.2.1, nx_and]
    have h143 : ∀ P1, j_Mo_sleepers_143 (fun z0 z1 z2 z3 Pz => l_Mo_sleepers_46 n z0 z1 z2 z3 Pz) (nI g) (nI x) (oI (lst2 (fun b => slv a w g b && decide (b &&& sA (aS a) = 0)) b)) (nI b) P1 = l_Mo_sleepers_46 n (nI g) (nI x) (oI (lst2 (fun b => slv a w g b && decide (b &&& sA (aS a) = 0)) b)) (nI (b + 1)) P1 := fun P1 => by
      unfold j_Mo_sleepers_143
      rw [show (1 : Int32) = nI 1 from rfl, nI_add]
    by_cases c1 : b.testBit g = true
    · rw [if_pos c1, if_neg (by decide), h143]
      exact keep (fun q => by have := q.1; unfold slv at this; simp [c1] at this) P q1
    rw [if_neg c1, if_pos (by decide)]
    by_cases c2 : b.testBit w = true
    · rw [if_pos c2, if_neg (by decide), h143]
      exact keep (fun q => by have := q.1; unfold slv at this; simp [c2] at this) P q1
    rw [if_neg c2, if_pos (by decide)]
    have hand : b &&& sA (aS a) < 2 ^ 7 := Nat.and_lt_two_pow _ (by omega)
    by_cases c3 : b &&& sA (aS a) = 0
    · rw [if_pos (by rw [c3]; rfl)]
      have c1' : b.testBit g = false := Bool.eq_false_iff.mpr c1
      have c2' : b.testBit w = false := Bool.eq_false_iff.mpr c2
      cases e : lst2 (fun b => slv a w g b && decide (b &&& sA (aS a) = 0)) b with
      | none =>
        rw [oI_n, if_pos (by decide)]
        have := h118 ⟨c1', c2', c3⟩ (fun c hc => by rw [e] at hc; cases hc)
        rw [e] at this
        exact this
      | some c =>
        have hc := (lst2_some e).1
        have p1 := pc_le b (by omega)
        have p2 := pc_le c (by omega)
        rw [oI_s, if_neg (by simp (disch := omega) only [z_add, z_mul, z_sub, z_subm, z_addm, z_lt_t, z_lt_f, z_le_t, z_le_f, z_eq_t, z_eq_f, z_eqm, z_meq, z_mm, z_ltm, z_mlt, z_lem, z_mle, z_cl, z_ck, u1_1, u1_2, u2_1, u2_2, ↓reduceIte, Option.bind_some, Option.bind_none, bd2_some, lb_eq, and_true, and_false, true_and, false_and, not_true_eq_false, not_false_eq_true, eq_self_iff_true, if_true, if_false, Nat.reduceEqDiff, Nat.reduceAdd, Nat.reduceMul, Nat.reduceSub, Bool.false_eq_true, zl0, zl1, zl2, zl3, zl4, zl5, zl6, zl7, zl8, zl9, zl10, zl11, zl12, zl13, zl14, zl15, zl16, zl17, zl18, zl19, zl20, zl22, zl23, zl24, zl25, zl30, zl31, zl32, zl33, zl34, zl35, zl36, zl37, zl38, zl39, zl40, zl41, zl42, zl43, zl45, zl48, zl49, zl57, zl58, zl59, zl60, zl61, zl62, zl63, zl64, zl91, zl93, zl97, zl98, zl99, zl100, zl113, zl114, zl115, zl116, zl117, zl122, zl124, zl125, zl127, zl128, zl136, zl200, zl201, zl202, zl203, zl204, zl205, zl206, zl207, zl208, zl209, zl210, zl211, zl212, zl213, zl214, zl215, zl216, zl217, zl218, zl219, zl220, zl235, zl236, zl255, zl280, zl287, zl900, zl999, zl1000, zl1001, zl1136, zl1960, zl3000, zl3001, zl3002, zl3003, zl3004, zl3005, zl3006, zl3007, zl3008, zl3009, zl268435456, zl1000000000]), bitsOf_M (by omega), Option.bind_some, bitsOf_M (by omega), Option.bind_some]
        by_cases c4 : pc 7 b < pc 7 c
        · rw [if_pos (nI_lt c4 (by omega))]
          have := h118 ⟨c1', c2', c3⟩ (fun c' hc' => by rw [e] at hc'; cases hc'; exact c4)
          rw [e] at this
          exact this
        · rw [if_neg (nI_nlt (by omega) (by omega))]
          have k := keep (fun q => c4 (q.2 c e)) P q1
          have h := h143 P
          rw [e] at k h
          rw [show nI c = oI (some c) from rfl, h]
          exact k
    · rw [if_neg (by simp (disch := omega) only [z_add, z_mul, z_sub, z_subm, z_addm, z_lt_t, z_lt_f, z_le_t, z_le_f, z_eq_t, z_eq_f, z_eqm, z_meq, z_mm, z_ltm, z_mlt, z_lem, z_mle, z_cl, z_ck, u1_1, u1_2, u2_1, u2_2, ↓reduceIte, Option.bind_some, Option.bind_none, bd2_some, lb_eq, and_true, and_false, true_and, false_and, not_true_eq_false, not_false_eq_true, eq_self_iff_true, if_true, if_false, Nat.reduceEqDiff, Nat.reduceAdd, Nat.reduceMul, Nat.reduceSub, Bool.false_eq_true, zl0, zl1, zl2, zl3, zl4, zl5, zl6, zl7, zl8, zl9, zl10, zl11, zl12, zl13, zl14, zl15, zl16, zl17, zl18, zl19, zl20, zl22, zl23, zl24, zl25, zl30, zl31, zl32, zl33, zl34, zl35, zl36, zl37, zl38, zl39, zl40, zl41, zl42, zl43, zl45, zl48, zl49, zl57, zl58, zl59, zl60, zl61, zl62, zl63, zl64, zl91, zl93, zl97, zl98, zl99, zl100, zl113, zl114, zl115, zl116, zl117, zl122, zl124, zl125, zl127, zl128, zl136, zl200, zl201, zl202, zl203, zl204, zl205, zl206, zl207, zl208, zl209, zl210, zl211, zl212, zl213, zl214, zl215, zl216, zl217, zl218, zl219, zl220, zl235, zl236, zl255, zl280, zl287, zl900, zl999, zl1000, zl1001, zl1136, zl1960, zl3000, zl3001, zl3002, zl3003, zl3004, zl3005, zl3006, zl3007, zl3008, zl3009, zl268435456, zl1000000000]), h143]
      exact keep (fun q => by have := q.1; simp [c3] at this) P q1
theorem sleepers_ok {P : PM} {a : AS} {x y : Int32} (hC : CRep P a) (hM : MRep P a) (hca : CCa P (aV a)) (hok : AOk a) :
    ∃ v P1 P2, f_Yr_sleepers x y P = some (v, P1) ∧ f_Mo_sleepers x y P1 = some (v, P2) ∧ Inv P2 := by
  have hN := hok.1.1
  have h7 := pw_le hN
  have e25 : ∀ P, j_Yr_sleepers_25 x y P = some (-nI 2, P) := fun P => rfl
  by_cases hx : (0 ≤ x.toInt ∧ x.toInt < vN (aV a)) ∧ (0 ≤ y.toInt ∧ y.toInt < 2)
  · obtain ⟨g, hg, rfl⟩ : ∃ k, k < vN (aV a) ∧ x = nI k := (i_cases x (vN (aV a)) (by omega)).resolve_right (fun q => q hx.1)
    obtain ⟨z, hz, rfl⟩ : ∃ k, k < 2 ∧ y = nI k := (i_cases y 2 (by omega)).resolve_right (fun q => q hx.2)
    have h21 : ∀ P, f_Ne_isStation 14 (nI g) P = (1 : Int32) → f_Yr_sleepers (nI g) (nI z) P = j_Yr_sleepers_26 (nI g) (nI z) (1 : Int32) P := fun P e => by
      unfold f_Yr_sleepers j_Yr_sleepers_21
      rw [e, if_neg (by decide)]
      obtain rfl | rfl : z = 0 ∨ z = 1 := by omega
      · rw [if_pos (by decide)]
      · rw [if_neg (by decide), if_pos (by decide)]
    have hwi : ∀ P, f_Mo_within (nI z).toInt64 (0 : Int64) (1 : Int64) P = nI 1 := fun P => by rw [w01]; exact if_pos hx.2
    cases hw : sW (aS a) with
    | none =>
      refine join (r := -nI 5) (a' := a) hM ⟨P, ?_, hC, hca, sm_refl⟩ (fun P hM => ⟨u1 P 109 0 (0 : Int32), ?_, MRep_me hM me_th, sm_th⟩) hok
      · rw [h21 P (isStK hC.1 hok.1 hg)]
        unfold j_Yr_sleepers_26
        rw [rfn_C hC.2.1 hw]
        rfl
      · have hM1 : MRep (u1 P 109 0 (0 : Int32)) a := MRep_me hM me_th
        unfold f_Mo_sleepers
        rw [isSt_Mk hM1 hok hg, Option.bind_some, if_neg (by decide), hwi, if_neg (by decide), m113 hM1.2.1, hw]
        rfl
    | some w =>
      obtain ⟨_, _, hw7⟩ := pl_ok hok.1 hok.2.1 hw
      refine join (r := match lst2 (fun b => slv a w g b && decide (b &&& sA (aS a) = 0)) (2 ^ vN (aV a)) with | none => -nI 1 | some c => if z = 1 then nI c else nI (pc 7 c)) (a' := a) hM ?_ (fun P hM => ?_) hok
      · obtain ⟨P1, g1, g2, g3, g4⟩ := least_C hC hok hca hw hg
        rw [lst2_eq hok (by omega)] at g1
        refine ⟨P1, ?_, g2, g3, xr_cl g4⟩
        rw [h21 P (isStK hC.1 hok.1 hg)]
        unfold j_Yr_sleepers_26 j_Yr_sleepers_58
        rw [refus_C hC.2.1 hw hw7, lb_eq, if_pos rfl, g1, bd2_some]
        cases e : lst2 (fun b => slv a w g b && decide (b &&& sA (aS a) = 0)) (2 ^ vN (aV a)) with
        | none => rfl
        | some c =>
          have hc := (lst2_some e).1
          rw [oI_s, if_neg (by simp (disch := omega) only [z_add, z_mul, z_sub, z_subm, z_addm, z_lt_t, z_lt_f, z_le_t, z_le_f, z_eq_t, z_eq_f, z_eqm, z_meq, z_mm, z_ltm, z_mlt, z_lem, z_mle, z_cl, z_ck, u1_1, u1_2, u2_1, u2_2, ↓reduceIte, Option.bind_some, Option.bind_none, bd2_some, lb_eq, and_true, and_false, true_and, false_and, not_true_eq_false, not_false_eq_true, eq_self_iff_true, if_true, if_false, Nat.reduceEqDiff, Nat.reduceAdd, Nat.reduceMul, Nat.reduceSub, Bool.false_eq_true, zl0, zl1, zl2, zl3, zl4, zl5, zl6, zl7, zl8, zl9, zl10, zl11, zl12, zl13, zl14, zl15, zl16, zl17, zl18, zl19, zl20, zl22, zl23, zl24, zl25, zl30, zl31, zl32, zl33, zl34, zl35, zl36, zl37, zl38, zl39, zl40, zl41, zl42, zl43, zl45, zl48, zl49, zl57, zl58, zl59, zl60, zl61, zl62, zl63, zl64, zl91, zl93, zl97, zl98, zl99, zl100, zl113, zl114, zl115, zl116, zl117, zl122, zl124, zl125, zl127, zl128, zl136, zl200, zl201, zl202, zl203, zl204, zl205, zl206, zl207, zl208, zl209, zl210, zl211, zl212, zl213, zl214, zl215, zl216, zl217, zl218, zl219, zl220, zl235, zl236, zl255, zl280, zl287, zl900, zl999, zl1000, zl1001, zl1136, zl1960, zl3000, zl3001, zl3002, zl3003, zl3004, zl3005, zl3006, zl3007, zl3008, zl3009, zl268435456, zl1000000000])]
          obtain rfl | rfl : z = 0 ∨ z = 1 := by omega
          · rw [if_neg (by decide), bitCount_n (by omega)]; rfl
          · rw [if_pos (by decide)]; rfl
      · have hM1 : MRep (u1 P 109 0 (0 : Int32)) a := MRep_me hM me_th
        obtain ⟨P1, g1, g2, g3⟩ := slp_M (x := z) hok hw hg hz (2 ^ vN (aV a)) FU 0 (u1 P 109 0 (0 : Int32)) (by omega) (by have := FU_big; omega) hM1
        refine ⟨P1, ?_, g2, sm_trans sm_th (ly_mo g3)⟩
        unfold f_Mo_sleepers
        rw [isSt_Mk hM1 hok hg, Option.bind_some, if_neg (by decide), hwi, if_neg (by decide), m113 hM1.2.1, hw, oI_s, if_neg (by simp (disch := omega) only [z_add, z_mul, z_sub, z_subm, z_addm, z_lt_t, z_lt_f, z_le_t, z_le_f, z_eq_t, z_eq_f, z_eqm, z_meq, z_mm, z_ltm, z_mlt, z_lem, z_mle, z_cl, z_ck, u1_1, u1_2, u2_1, u2_2, ↓reduceIte, Option.bind_some, Option.bind_none, bd2_some, lb_eq, and_true, and_false, true_and, false_and, not_true_eq_false, not_false_eq_true, eq_self_iff_true, if_true, if_false, Nat.reduceEqDiff, Nat.reduceAdd, Nat.reduceMul, Nat.reduceSub, Bool.false_eq_true, zl0, zl1, zl2, zl3, zl4, zl5, zl6, zl7, zl8, zl9, zl10, zl11, zl12, zl13, zl14, zl15, zl16, zl17, zl18, zl19, zl20, zl22, zl23, zl24, zl25, zl30, zl31, zl32, zl33, zl34, zl35, zl36, zl37, zl38, zl39, zl40, zl41, zl42, zl43, zl45, zl48, zl49, zl57, zl58, zl59, zl60, zl61, zl62, zl63, zl64, zl91, zl93, zl97, zl98, zl99, zl100, zl113, zl114, zl115, zl116, zl117, zl122, zl124, zl125, zl127, zl128, zl136, zl200, zl201, zl202, zl203, zl204, zl205, zl206, zl207, zl208, zl209, zl210, zl211, zl212, zl213, zl214, zl215, zl216, zl217, zl218, zl219, zl220, zl235, zl236, zl255, zl280, zl287, zl900, zl999, zl1000, zl1001, zl1136, zl1960, zl3000, zl3001, zl3002, zl3003, zl3004, zl3005, zl3006, zl3007, zl3008, zl3009, zl268435456, zl1000000000])]
        exact g1
  · refine join (r := -nI 2) (a' := a) hM ⟨P, ?_, hC, hca, sm_refl⟩ (fun P hM => ⟨u1 P 109 0 (0 : Int32), ?_, MRep_me hM me_th, sm_th⟩) hok
    · unfold f_Yr_sleepers
      rcases i_cases x (vN (aV a)) (by omega) with ⟨g, hg, rfl⟩ | hy
      · have n0 : ¬ y = 0 := fun q => hx ⟨by rw [nI_ti (by omega)]; omega, by rw [q]; decide⟩
        have n1 : ¬ y = 1 := fun q => hx ⟨by rw [nI_ti (by omega)]; omega, by rw [q]; decide⟩
        rw [isStK hC.1 hok.1 hg, if_neg (by decide), if_neg n0, if_neg n1]
        rfl
      · rw [isSt_Cn hC.1 hok.1 hy, if_pos (by decide)]
        rfl
    · have hM1 : MRep (u1 P 109 0 (0 : Int32)) a := MRep_me hM me_th
      unfold f_Mo_sleepers
      by_cases c : 0 ≤ x.toInt ∧ x.toInt < vN (aV a)
      · obtain ⟨g, hg, rfl⟩ : ∃ k, k < vN (aV a) ∧ x = nI k := (i_cases x (vN (aV a)) (by omega)).resolve_right (fun q => q c)
        have e1 : f_Mo_within y.toInt64 (0 : Int64) (1 : Int64) (u1 P 109 0 (0 : Int32)) = nI 0 := by rw [w01]; exact if_neg (fun q => hx ⟨c, q⟩)
        rw [isSt_Mk hM1 hok hg, Option.bind_some, if_neg (by decide), e1]
        rfl
      · rw [isSt_Mn hM1 hok c]
        rfl
