/-! chance, likeliest -/
abbrev dok (n : Int32) : Prop := 0 ≤ n.toInt ∧ n.toInt ≤ 6
theorem isDr_1 {n : Int32} (h : dok n) (P : PM) : f_Yr_isDraws n P = 1 := by
  unfold f_Yr_isDraws
  rw [if_neg (fun q => by have := Int32.lt_iff_toInt_lt.mp q; rw [show (0 : Int32).toInt = 0 from rfl] at this; have := h.1; omega), if_neg (fun q => by have := Int32.lt_iff_toInt_lt.mp q; rw [show (6 : Int32).toInt = 6 from rfl] at this; have := h.2; omega)]
theorem isDr_0 {n : Int32} (h : ¬ dok n) (P : PM) : f_Yr_isDraws n P = 0 := by
  unfold f_Yr_isDraws j_Yr_isDraws_14
  by_cases h1 : n < 0
  · rw [if_pos h1]
  · rw [if_neg h1]
    have h1' : ¬ n.toInt < (0 : Int32).toInt := fun q => h1 (Int32.lt_iff_toInt_lt.mpr q)
    rw [show (0 : Int32).toInt = 0 from rfl] at h1'
    rw [if_pos (Int32.lt_iff_toInt_lt.mpr (by rw [show (6 : Int32).toInt = 6 from rfl]; exact Int.not_le.mp (fun q => h ⟨by omega, q⟩)))]
theorem within6 {n : Int32} {P : PM} : f_Mo_within n.toInt64 (0 : Int64) (6 : Int64) P = if dok n then nI 1 else nI 0 := by
  rw [within_i, tl_ti, show (0 : Int64).toInt = 0 from rfl, show (6 : Int64).toInt = 6 from rfl]
abbrev wok (n : Int32) : Prop := 0 ≤ n.toInt ∧ n.toInt ≤ 1
theorem within1 {n : Int32} {P : PM} : f_Mo_within n.toInt64 (0 : Int64) (1 : Int64) P = if wok n then nI 1 else nI 0 := by
  rw [within_i, tl_ti, show (0 : Int64).toInt = 0 from rfl, show (1 : Int64).toInt = 1 from rfl]
theorem wok_c {n : Int32} (h : wok n) : n = nI 0 ∨ n = nI 1 := by
  obtain ⟨k, hk, e, _⟩ := i_n (x := n) (c := 1) h (by omega)
  rcases (show k = 0 ∨ k = 1 by omega) with rfl | rfl
  · exact Or.inl e
  · exact Or.inr e
theorem likeliestM_l {a : AS} {p0 N : Nat} (hok : AOk a) (hN : N ≤ 6) :
    ∀ (m n t : Nat) (P : PM), t + m = vN (aV a) → m < n → MRep P a → L287 P 125 (shr (aV a) (aS a) p0 N) →
    l_Mo_likeliest_43 n (oI (lk (shs (aV a) (aS a) p0 N) t)) (nI t) P = some (oI (lk (shs (aV a) (aS a) p0 N) (vN (aV a))), P) := by
  have hN7 := hok.1.1
  have h6 := ten6 hN
  have hS : ∀ st, st < 7 → shs (aV a) (aS a) p0 N st ≤ 1000000 := fun st hst => Nat.le_trans (shs_le hst) h6
  intro m
  induction m with
  | zero =>
    intro n t P ht hn hM h
    obtain ⟨n, rfl⟩ : ∃ r, n = r + 1 := ⟨n - 1, by omega⟩
    obtain rfl : t = vN (aV a) := by omega
    rw [l_Mo_likeliest_43, show P.1 110 (1 : Int32).toNatClampNeg = nI (vN (aV a)) from hM.1.1, if_pos (nI_le (by omega) (by omega))]
  | succ m ih =>
    intro n t P ht hn hM h
    obtain ⟨n, rfl⟩ : ∃ r, n = r + 1 := ⟨n - 1, by omega⟩
    have ht7 := hS t (by omega)
    have r := ih n (t + 1) P (by omega) (by omega) hM h
    have step : ∀ c, c = lkS (shs (aV a) (aS a) p0 N) (lk (shs (aV a) (aS a) p0 N) t) → c ≤ 1000000 →
        j_Mo_likeliest_72 (fun z0 z1 Pz => l_Mo_likeliest_43 n z0 z1 Pz) (oI (lk (shs (aV a) (aS a) p0 N) t)) (nI t) (lN (shs (aV a) (aS a) p0 N t)) (lN c) P = some (oI (lk (shs (aV a) (aS a) p0 N) (vN (aV a))), P) := by
      intro c hc hcl
      unfold j_Mo_likeliest_72 j_Mo_likeliest_78
      rw [show (1 : Int32) = nI 1 from rfl, nI_add]
      by_cases cc : c < shs (aV a) (aS a) p0 N t
      · rw [lk_s, ← hc, if_pos cc] at r
        rw [if_neg (fun q => by have := (lgc_le _ _).mp q; rw [lN_ti (by omega), lN_ti (by omega)] at this; omega)]
        exact r
      · rw [lk_s, ← hc, if_neg cc] at r
        rw [if_pos ((lgc_le _ _).mpr (by rw [lN_ti (by omega), lN_ti (by omega)]; omega))]
        exact r
    rw [l_Mo_likeliest_43, show P.1 110 (1 : Int32).toNatClampNeg = nI (vN (aV a)) from hM.1.1, if_neg (nI_ge (by omega) (by omega)), likelyAt_M h (by omega), Option.bind_some]
    cases e : lk (shs (aV a) (aS a) p0 N) t with
    | none =>
      rw [e] at step
      rw [oI_n, if_pos (by decide)]
      exact step 0 rfl (by omega)
    | some b =>
      have hb := lk_lt e
      rw [e] at step
      rw [oI_s, if_neg (by simp (disch := omega) only [z_add, z_mul, z_sub, z_subm, z_addm, z_lt_t, z_lt_f, z_le_t, z_le_f, z_eq_t, z_eq_f, z_eqm, z_meq, z_mm, z_ltm, z_mlt, z_lem, z_mle, z_cl, z_ck, u1_1, u1_2, u2_1, u2_2, ↓reduceIte, Option.bind_some, Option.bind_none, bd2_some, lb_eq, and_true, and_false, true_and, false_and, not_true_eq_false, not_false_eq_true, eq_self_iff_true, if_true, if_false, Nat.reduceEqDiff, Nat.reduceAdd, Nat.reduceMul, Nat.reduceSub, Bool.false_eq_true, zl0, zl1, zl2, zl3, zl4, zl5, zl6, zl7, zl8, zl9, zl10, zl11, zl12, zl13, zl14, zl15, zl16, zl17, zl18, zl19, zl20, zl22, zl23, zl24, zl25, zl30, zl31, zl32, zl33, zl34, zl35, zl36, zl37, zl38, zl39, zl40, zl41, zl42, zl43, zl45, zl48, zl49, zl57, zl58, zl59, zl60, zl61, zl62, zl63, zl64, zl91, zl93, zl97, zl98, zl99, zl100, zl113, zl114, zl115, zl116, zl117, zl122, zl124, zl125, zl127, zl128, zl136, zl200, zl201, zl202, zl203, zl204, zl205, zl206, zl207, zl208, zl209, zl210, zl211, zl212, zl213, zl214, zl215, zl216, zl217, zl218, zl219, zl220, zl235, zl236, zl255, zl280, zl287, zl900, zl999, zl1000, zl1001, zl1136, zl1960, zl3000, zl3001, zl3002, zl3003, zl3004, zl3005, zl3006, zl3007, zl3008, zl3009, zl268435456, zl1000000000]), likelyAt_M h (by omega), Option.bind_some]
      exact step _ rfl (hS b (by omega))
theorem likeliest_ok {P : PM} {a : AS} {n : Int32} (hC : CRep P a) (hM : MRep P a) (hca : CCa P (aV a)) (hok : AOk a) :
    ∃ v P1 P2, f_Yr_likeliest n P = some (v, P1) ∧ f_Mo_likeliest n P1 = some (v, P2) ∧ Inv P2 := by
  have hN7 := hok.1.1
  by_cases hn : dok n
  · cases hw : sW (aS a) with
    | none =>
      refine join (r := -nI 5) (a' := a) hM ⟨P, ?_, hC, hca, sm_refl⟩ (fun P1 hM1 => ⟨u1 P1 109 0 (0 : Int32), ?_, MRep_me hM1 me_th, sm_th⟩) hok
      · unfold f_Yr_likeliest
        rw [isDr_1 hn, rfn_C hC.2.1 hw]
        rfl
      · have hM2 : MRep (u1 P1 109 0 (0 : Int32)) a := MRep_me hM1 me_th
        unfold f_Mo_likeliest
        rw [within6, if_pos hn, if_neg (by decide), m113 hM2.2.1, hw]
        rfl
    | some w =>
      obtain ⟨N, hN, rfl, _⟩ := i_n (x := n) (c := 6) hn (by omega)
      obtain ⟨h280, _, h7⟩ := pl_ok hok.1 hok.2.1 hw
      refine join (r := oI (lk (shs (aV a) (aS a) (pl (aS a) w) N) (vN (aV a)))) (a' := a) hM ?_ (fun P1 hM1 => ?_) hok
      · obtain ⟨P1, g1, g2, g3, g4, g5⟩ := drawLots_C (N := N) hC hok hca hw hN
        refine ⟨P1, ?_, g3, g4, g5⟩
        unfold f_Yr_likeliest
        rw [isDr_1 hn, refus_C hC.2.1 hw h7, lb_eq, if_pos rfl, g1, Option.bind_some, greatest_C hok.1 g3.1 g2 hN, Option.bind_some]
      · have hM2 : MRep (u1 P1 109 0 (0 : Int32)) a := MRep_me hM1 me_th
        obtain ⟨P2, g1, g2, g3, g4⟩ := laysLikely_M (N := N) hM2 hok hw hN
        refine ⟨P2, ?_, g3, sm_trans sm_th (lyk_mo g4)⟩
        unfold f_Mo_likeliest
        rw [within6, if_pos hn, if_neg (by decide), m113 hM2.2.1, hw, oI_s, if_neg (by simp (disch := omega) only [z_add, z_mul, z_sub, z_subm, z_addm, z_lt_t, z_lt_f, z_le_t, z_le_f, z_eq_t, z_eq_f, z_eqm, z_meq, z_mm, z_ltm, z_mlt, z_lem, z_mle, z_cl, z_ck, u1_1, u1_2, u2_1, u2_2, ↓reduceIte, Option.bind_some, Option.bind_none, bd2_some, lb_eq, and_true, and_false, true_and, false_and, not_true_eq_false, not_false_eq_true, eq_self_iff_true, if_true, if_false, Nat.reduceEqDiff, Nat.reduceAdd, Nat.reduceMul, Nat.reduceSub, Bool.false_eq_true, zl0, zl1, zl2, zl3, zl4, zl5, zl6, zl7, zl8, zl9, zl10, zl11, zl12, zl13, zl14, zl15, zl16, zl17, zl18, zl19, zl20, zl22, zl23, zl24, zl25, zl30, zl31, zl32, zl33, zl34, zl35, zl36, zl37, zl38, zl39, zl40, zl41, zl42, zl43, zl45, zl48, zl49, zl57, zl58, zl59, zl60, zl61, zl62, zl63, zl64, zl91, zl93, zl97, zl98, zl99, zl100, zl113, zl114, zl115, zl116, zl117, zl122, zl124, zl125, zl127, zl128, zl136, zl200, zl201, zl202, zl203, zl204, zl205, zl206, zl207, zl208, zl209, zl210, zl211, zl212, zl213, zl214, zl215, zl216, zl217, zl218, zl219, zl220, zl235, zl236, zl255, zl280, zl287, zl900, zl999, zl1000, zl1001, zl1136, zl1960, zl3000, zl3001, zl3002, zl3003, zl3004, zl3005, zl3006, zl3007, zl3008, zl3009, zl268435456, zl1000000000]), g1, Option.bind_some]
        exact likeliestM_l hok hN (vN (aV a)) FU 0 P2 (by omega) (by have := FU_big; omega) g3 g2
  · refine join (r := -nI 3) (a' := a) hM ⟨P, ?_, hC, hca, sm_refl⟩ (fun P1 hM1 => ⟨u1 P1 109 0 (0 : Int32), ?_, MRep_me hM1 me_th, sm_th⟩) hok
    · unfold f_Yr_likeliest
      rw [isDr_0 hn]
      rfl
    · unfold f_Mo_likeliest
      rw [within6, if_neg hn, if_pos (by decide)]
      rfl
theorem chance_ok {P : PM} {a : AS} {x n y : Int32} (hC : CRep P a) (hM : MRep P a) (hca : CCa P (aV a)) (hok : AOk a) :
    ∃ v P1 P2, f_Yr_chance x n y P = some (v, P1) ∧ f_Mo_chance x n y P1 = some (v, P2) ∧ Inv P2 := by
  have hN7 := hok.1.1
  have no2 : f_Yr_chance x n y P = j_Yr_chance_25 x n y P → (∀ P1, MRep P1 a → f_Mo_chance x n y P1 = some ((-2 : Int64), u1 P1 109 0 (0 : Int32))) →
      ∃ v P1 P2, f_Yr_chance x n y P = some (v, P1) ∧ f_Mo_chance x n y P1 = some (v, P2) ∧ Inv P2 := fun h1 h2 =>
    joinG (r := (-2 : Int64)) (a' := a) hM ⟨P, by rw [h1]; rfl, hC, hca, sm_refl⟩ (fun P1 hM1 => ⟨_, h2 P1 hM1, MRep_me hM1 me_th, sm_th⟩) hok
  rcases i_cases x (vN (aV a)) (by omega) with ⟨k, hk, rfl⟩ | hx
  · by_cases hy : wok y
    · have h26 : f_Yr_chance (nI k) n y P = j_Yr_chance_26 (nI k) n y (1 : Int32) P := by
        unfold f_Yr_chance
        rw [isStK hC.1 hok.1 hk, if_neg (by decide)]
        rcases wok_c hy with rfl | rfl
        · rw [if_pos (by decide)]; rfl
        · rw [if_neg (by decide), if_pos (by decide)]; rfl
      by_cases hn : dok n
      · cases hw : sW (aS a) with
        | none =>
          refine joinG (r := (-nI 5).toInt64) (a' := a) hM ⟨P, ?_, hC, hca, sm_refl⟩ (fun P1 hM1 => ⟨u1 P1 109 0 (0 : Int32), ?_, MRep_me hM1 me_th, sm_th⟩) hok
          · rw [h26]
            unfold j_Yr_chance_26
            rw [isDr_1 hn, rfn_C hC.2.1 hw]
            rfl
          · have hM2 : MRep (u1 P1 109 0 (0 : Int32)) a := MRep_me hM1 me_th
            unfold f_Mo_chance
            rw [isSt_Mk hM2 hok hk, Option.bind_some, if_neg (by decide), within1, if_pos hy, if_neg (by decide), within6, if_pos hn, if_neg (by decide), m113 hM2.2.1, hw]
            rfl
        | some w =>
          obtain ⟨N, hN, rfl, _⟩ := i_n (x := n) (c := 6) hn (by omega)
          obtain ⟨h280, _, h7⟩ := pl_ok hok.1 hok.2.1 hw
          have h6 := ten6 hN
          have ht0 : 0 < 10 ^ N := Nat.pow_pos (by decide)
          have hsh := Nat.le_trans (shs_le (v := aV a) (s := aS a) (p0 := pl (aS a) w) (k := N) (show k < 7 by omega)) h6
          have hg0 : 0 < Nat.gcd (shs (aV a) (aS a) (pl (aS a) w) N k) (10 ^ N) := Nat.gcd_pos_of_pos_right _ ht0
          have hg1 : Nat.gcd (shs (aV a) (aS a) (pl (aS a) w) N k) (10 ^ N) ≤ 10 ^ N := Nat.gcd_le_right _ ht0
          have d1 : ¬ nI (Nat.gcd (shs (aV a) (aS a) (pl (aS a) w) N k) (10 ^ N)) = (0 : Int32) := by simp (disch := omega) only [z_add, z_mul, z_sub, z_subm, z_addm, z_lt_t, z_lt_f, z_le_t, z_le_f, z_eq_t, z_eq_f, z_eqm, z_meq, z_mm, z_ltm, z_mlt, z_lem, z_mle, z_cl, z_ck, u1_1, u1_2, u2_1, u2_2, ↓reduceIte, Option.bind_some, Option.bind_none, bd2_some, lb_eq, and_true, and_false, true_and, false_and, not_true_eq_false, not_false_eq_true, eq_self_iff_true, if_true, if_false, Nat.reduceEqDiff, Nat.reduceAdd, Nat.reduceMul, Nat.reduceSub, Bool.false_eq_true, zl0, zl1, zl2, zl3, zl4, zl5, zl6, zl7, zl8, zl9, zl10, zl11, zl12, zl13, zl14, zl15, zl16, zl17, zl18, zl19, zl20, zl22, zl23, zl24, zl25, zl30, zl31, zl32, zl33, zl34, zl35, zl36, zl37, zl38, zl39, zl40, zl41, zl42, zl43, zl45, zl48, zl49, zl57, zl58, zl59, zl60, zl61, zl62, zl63, zl64, zl91, zl93, zl97, zl98, zl99, zl100, zl113, zl114, zl115, zl116, zl117, zl122, zl124, zl125, zl127, zl128, zl136, zl200, zl201, zl202, zl203, zl204, zl205, zl206, zl207, zl208, zl209, zl210, zl211, zl212, zl213, zl214, zl215, zl216, zl217, zl218, zl219, zl220, zl235, zl236, zl255, zl280, zl287, zl900, zl999, zl1000, zl1001, zl1136, zl1960, zl3000, zl3001, zl3002, zl3003, zl3004, zl3005, zl3006, zl3007, zl3008, zl3009, zl268435456, zl1000000000]
          have d2 : ¬ lN (Nat.gcd (shs (aV a) (aS a) (pl (aS a) w) N k) (10 ^ N)) = (0 : Int64) := fun e => by
            have := (pk_lEQ (a := Nat.gcd (shs (aV a) (aS a) (pl (aS a) w) N k) (10 ^ N)) (b := 0) (by omega) (by omega)).mp e
            omega
          have q1 : ∀ c, c ≤ 1000000 → (nI c / nI (Nat.gcd (shs (aV a) (aS a) (pl (aS a) w) N k) (10 ^ N))).toInt64 = lN (c / Nat.gcd (shs (aV a) (aS a) (pl (aS a) w) N k) (10 ^ N)) := fun c hc => by
            have := Nat.div_le_self c (Nat.gcd (shs (aV a) (aS a) (pl (aS a) w) N k) (10 ^ N))
            rw [pk_div (by omega) (by omega) (by omega), tl_n (by omega)]
          have q2 : ∀ c, c ≤ 1000000 → lN c / lN (Nat.gcd (shs (aV a) (aS a) (pl (aS a) w) N k) (10 ^ N)) = lN (c / Nat.gcd (shs (aV a) (aS a) (pl (aS a) w) N k) (10 ^ N)) := fun c hc => pk_lDiv (by omega) (by omega) (by omega)
          obtain ⟨P1, g1, g2, g3, g4, g5⟩ := drawLots_C (N := N) hC hok hca hw hN
          have hmo : ∀ P1, MRep P1 a → ∃ P6, f_Mo_laysLikely (nI N) (u1 P1 109 0 (0 : Int32)) = some P6 ∧ MRep P6 a ∧ sm mo P1 P6 ∧ f_Mo_chance (nI k) (nI N) y P1 = if y = (0 : Int32) then some (lN (shs (aV a) (aS a) (pl (aS a) w) N k / Nat.gcd (shs (aV a) (aS a) (pl (aS a) w) N k) (10 ^ N)), P6) else some (lN (10 ^ N / Nat.gcd (shs (aV a) (aS a) (pl (aS a) w) N k) (10 ^ N)), P6) := by
            intro P1 hM1
            have hM2 : MRep (u1 P1 109 0 (0 : Int32)) a := MRep_me hM1 me_th
            obtain ⟨P6, b1, b2, b3, b4⟩ := laysLikely_M (N := N) hM2 hok hw hN
            refine ⟨P6, b1, b3, sm_trans sm_th (lyk_mo b4), ?_⟩
            unfold f_Mo_chance j_Mo_chance_84
            rw [isSt_Mk hM2 hok hk, Option.bind_some, if_neg (by decide), within1, if_pos hy, if_neg (by decide), within6, if_pos hn, if_neg (by decide), m113 hM2.2.1, hw, oI_s, if_neg (by simp (disch := omega) only [z_add, z_mul, z_sub, z_subm, z_addm, z_lt_t, z_lt_f, z_le_t, z_le_f, z_eq_t, z_eq_f, z_eqm, z_meq, z_mm, z_ltm, z_mlt, z_lem, z_mle, z_cl, z_ck, u1_1, u1_2, u2_1, u2_2, ↓reduceIte, Option.bind_some, Option.bind_none, bd2_some, lb_eq, and_true, and_false, true_and, false_and, not_true_eq_false, not_false_eq_true, eq_self_iff_true, if_true, if_false, Nat.reduceEqDiff, Nat.reduceAdd, Nat.reduceMul, Nat.reduceSub, Bool.false_eq_true, zl0, zl1, zl2, zl3, zl4, zl5, zl6, zl7, zl8, zl9, zl10, zl11, zl12, zl13, zl14, zl15, zl16, zl17, zl18, zl19, zl20, zl22, zl23, zl24, zl25, zl30, zl31, zl32, zl33, zl34, zl35, zl36, zl37, zl38, zl39, zl40, zl41, zl42, zl43, zl45, zl48, zl49, zl57, zl58, zl59, zl60, zl61, zl62, zl63, zl64, zl91, zl93, zl97, zl98, zl99, zl100, zl113, zl114, zl115, zl116, zl117, zl122, zl124, zl125, zl127, zl128, zl136, zl200, zl201, zl202, zl203, zl204, zl205, zl206, zl207, zl208, zl209, zl210, zl211, zl212, zl213, zl214, zl215, zl216, zl217, zl218, zl219, zl220, zl235, zl236, zl255, zl280, zl287, zl900, zl999, zl1000, zl1001, zl1136, zl1960, zl3000, zl3001, zl3002, zl3003, zl3004, zl3005, zl3006, zl3007, zl3008, zl3009, zl268435456, zl1000000000]), b1, Option.bind_some, likelyAt_M b2 (by omega), Option.bind_some, wholeOf_M hN, Option.bind_some, Option.bind_some, common_M hsh h6, Option.bind_some, decide_eq_true d2, ck_t rfl, q2 _ hsh]
            split
            · rfl
            · rw [Option.bind_some, common_M hsh h6, Option.bind_some, decide_eq_true d2, ck_t rfl, q2 _ h6]
          rcases wok_c hy with rfl | rfl
          · refine joinG (r := lN (shs (aV a) (aS a) (pl (aS a) w) N k / Nat.gcd (shs (aV a) (aS a) (pl (aS a) w) N k) (10 ^ N))) (a' := a) hM ⟨P1, ?_, g3, g4, g5⟩ (fun P1 hM1 => ?_) hok
            · rw [h26]
              unfold j_Yr_chance_26
              rw [isDr_1 hn, refus_C hC.2.1 hw h7, lb_eq, if_pos rfl, g1, Option.bind_some, shareOf_C g2 (by omega), Option.bind_some, sharesIn_C hN, Option.bind_some, common_C hsh h6 ht0, Option.bind_some, if_pos (by decide), decide_eq_true d1, ck_t rfl, q1 _ hsh]
            · obtain ⟨P6, _, c1, c2, c3⟩ := hmo P1 hM1
              exact ⟨P6, by rw [c3, if_pos (by decide)], c1, c2⟩
          · refine joinG (r := lN (10 ^ N / Nat.gcd (shs (aV a) (aS a) (pl (aS a) w) N k) (10 ^ N))) (a' := a) hM ⟨P1, ?_, g3, g4, g5⟩ (fun P1 hM1 => ?_) hok
            · rw [h26]
              unfold j_Yr_chance_26
              rw [isDr_1 hn, refus_C hC.2.1 hw h7, lb_eq, if_pos rfl, g1, Option.bind_some, shareOf_C g2 (by omega), Option.bind_some, sharesIn_C hN, Option.bind_some, common_C hsh h6 ht0, Option.bind_some, if_neg (by decide), decide_eq_true d1, ck_t rfl, q1 _ h6]
            · obtain ⟨P6, _, c1, c2, c3⟩ := hmo P1 hM1
              exact ⟨P6, by rw [c3, if_neg (by decide)], c1, c2⟩
      · refine joinG (r := (-nI 3).toInt64) (a' := a) hM ⟨P, ?_, hC, hca, sm_refl⟩ (fun P1 hM1 => ⟨u1 P1 109 0 (0 : Int32), ?_, MRep_me hM1 me_th, sm_th⟩) hok
        · rw [h26]
          unfold j_Yr_chance_26
          rw [isDr_0 hn]
          rfl
        · have hM2 : MRep (u1 P1 109 0 (0 : Int32)) a := MRep_me hM1 me_th
          unfold f_Mo_chance
          rw [isSt_Mk hM2 hok hk, Option.bind_some, if_neg (by decide), within1, if_pos hy, if_neg (by decide), within6, if_neg hn]
          rfl
    · refine no2 ?_ (fun P1 hM1 => ?_)
      · unfold f_Yr_chance
        rw [isStK hC.1 hok.1 hk, if_neg (by decide), if_neg (fun e => hy (by rw [e]; decide)), if_neg (fun e => hy (by rw [e]; decide))]
      · have hM2 : MRep (u1 P1 109 0 (0 : Int32)) a := MRep_me hM1 me_th
        unfold f_Mo_chance
        rw [isSt_Mk hM2 hok hk, Option.bind_some, if_neg (by decide), within1, if_neg hy]
        rfl
  · refine no2 ?_ (fun P1 hM1 => ?_)
    · unfold f_Yr_chance
      rw [isSt_Cn hC.1 hok.1 hx]
      rfl
    · have hM2 : MRep (u1 P1 109 0 (0 : Int32)) a := MRep_me hM1 me_th
      unfold f_Mo_chance
      rw [isSt_Mn hM2 hok hx]
      rfl
