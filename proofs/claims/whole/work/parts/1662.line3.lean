/-! reading a net: stations -/
theorem nbc_flag {γ : GT} {f p : Nat} {x : Int32} {P : PM} (h : NBc γ f p P) : f_Nr_readFlag x P = some (nI 0, P) := by
  unfold f_Nr_readFlag
  rw [lb_eq, h.2.1.2.2.1, if_neg (by decide), if_neg (by decide), if_neg (by decide)]; rfl
theorem nbm_flag {γ : GT} {f p : Nat} {x : Int32} {P : PM} (h : NBm γ f p P) : f_Mo_readFlag x P = some (nI 0, P) := by
  unfold f_Mo_readFlag
  rw [show (6 : Int32) = nI 6 from rfl, eats_0 (nbm_is h (by omega) (by omega)), bd2_some, if_pos rfl, show (7 : Int32) = nI 7 from rfl, eats_0 (nbm_is h (by omega) (by omega)), bd2_some, if_pos rfl, show (8 : Int32) = nI 8 from rfl, eats_0 (nbm_is h (by omega) (by omega)), bd2_some, if_pos rfl]; rfl
theorem flag83 (P : PM) : j_Mo_readFlag_83 P = some (if P.1 109 11 = nI 0 then nI 1 else nI 0, P) := by
  unfold j_Mo_readFlag_83
  by_cases c : P.1 109 11 = nI 0
  · rw [if_pos (show P.1 109 11 = (0 : Int32) from c), if_pos c]; rfl
  · rw [if_neg (show ¬ P.1 109 11 = (0 : Int32) from c), if_neg c]; rfl
theorem setDull_C {i : Nat} (hi : i < 7) (w : Int32) (P : PM) : f_Sa_setDull 11 (nI i) w P = some (u1 P 12 i w) := by
  unfold f_Sa_setDull
  rw [if_neg (by simp (disch := omega) only [z_add, z_mul, z_sub, z_subm, z_addm, z_lt_t, z_lt_f, z_le_t, z_le_f, z_eq_t, z_eq_f, z_eqm, z_meq, z_mm, z_ltm, z_mlt, z_lem, z_mle, z_cl, z_ck, u1_1, u1_2, u2_1, u2_2, ↓reduceIte, Option.bind_some, Option.bind_none, bd2_some, lb_eq, and_true, and_false, true_and, false_and, not_true_eq_false, not_false_eq_true, eq_self_iff_true, if_true, if_false, Nat.reduceEqDiff, Nat.reduceAdd, Nat.reduceMul, Nat.reduceSub, Bool.false_eq_true, zl0, zl1, zl2, zl3, zl4, zl5, zl6, zl7, zl8, zl9, zl10, zl11, zl12, zl13, zl14, zl15, zl16, zl17, zl18, zl19, zl20, zl22, zl23, zl24, zl25, zl30, zl31, zl32, zl33, zl34, zl35, zl36, zl37, zl38, zl39, zl40, zl41, zl42, zl43, zl45, zl48, zl49, zl57, zl58, zl59, zl60, zl61, zl62, zl63, zl64, zl91, zl93, zl97, zl98, zl99, zl100, zl113, zl114, zl115, zl116, zl117, zl122, zl124, zl125, zl127, zl128, zl136, zl200, zl201, zl202, zl203, zl204, zl205, zl206, zl207, zl208, zl209, zl210, zl211, zl212, zl213, zl214, zl215, zl216, zl217, zl218, zl219, zl220, zl235, zl236, zl255, zl280, zl287, zl900, zl999, zl1000, zl1001, zl1136, zl1960, zl3000, zl3001, zl3002, zl3003, zl3004, zl3005, zl3006, zl3007, zl3008, zl3009, zl268435456, zl1000000000]), if_neg (by simp (disch := omega) only [z_add, z_mul, z_sub, z_subm, z_addm, z_lt_t, z_lt_f, z_le_t, z_le_f, z_eq_t, z_eq_f, z_eqm, z_meq, z_mm, z_ltm, z_mlt, z_lem, z_mle, z_cl, z_ck, u1_1, u1_2, u2_1, u2_2, ↓reduceIte, Option.bind_some, Option.bind_none, bd2_some, lb_eq, and_true, and_false, true_and, false_and, not_true_eq_false, not_false_eq_true, eq_self_iff_true, if_true, if_false, Nat.reduceEqDiff, Nat.reduceAdd, Nat.reduceMul, Nat.reduceSub, Bool.false_eq_true, zl0, zl1, zl2, zl3, zl4, zl5, zl6, zl7, zl8, zl9, zl10, zl11, zl12, zl13, zl14, zl15, zl16, zl17, zl18, zl19, zl20, zl22, zl23, zl24, zl25, zl30, zl31, zl32, zl33, zl34, zl35, zl36, zl37, zl38, zl39, zl40, zl41, zl42, zl43, zl45, zl48, zl49, zl57, zl58, zl59, zl60, zl61, zl62, zl63, zl64, zl91, zl93, zl97, zl98, zl99, zl100, zl113, zl114, zl115, zl116, zl117, zl122, zl124, zl125, zl127, zl128, zl136, zl200, zl201, zl202, zl203, zl204, zl205, zl206, zl207, zl208, zl209, zl210, zl211, zl212, zl213, zl214, zl215, zl216, zl217, zl218, zl219, zl220, zl235, zl236, zl255, zl280, zl287, zl900, zl999, zl1000, zl1001, zl1136, zl1960, zl3000, zl3001, zl3002, zl3003, zl3004, zl3005, zl3006, zl3007, zl3008, zl3009, zl268435456, zl1000000000]), z_ck (by omega) (by omega), z_cl (by omega)]
/-- what a flag may change -/
def FRl (i : Nat) (s : SV) (v : NV) (s' : SV) (v' : NV) : Prop := (∃ w, w ≤ 9 ∧ s' = sDs s i w ∧ v' = v) ∨ (∃ w, s' = s ∧ v' = vKs v i w) ∨ (s' = sAs s (sA s ||| 2 ^ i) ∧ v' = v)
theorem c29 {i : Nat} (hi : i < 7) (x : Int32) (P : PM) : j_Nr_readFlag_29 (nI i) x P = (f_Ta_next P).bind (fun P3 => if x = (201 : Int32) then (bd2 (f_Ta_takeNumber (0 : Int32) (9 : Int32) P3) (fun v9 P10 => (f_Sa_setDull 11 (nI i) v9 P10).bind (fun P11 => some ((1 : Int32), P11)))) else (if x = (202 : Int32) then (bd2 (f_Ta_takeNumber (0 : Int32) (9 : Int32) P3) (fun v6 P7 => ck (inb (nI i) 7) (some ((1 : Int32), (u1 P7 5 (nI i).toNatClampNeg v6))))) else (some ((1 : Int32), (u1 P3 11 3 ((P3.1 11 3) ||| ((1 : Int32) <<< ((nI i) &&& 31)))))))) := by
  unfold j_Nr_readFlag_29
  rw [if_neg (by simp (disch := omega) only [z_add, z_mul, z_sub, z_subm, z_addm, z_lt_t, z_lt_f, z_le_t, z_le_f, z_eq_t, z_eq_f, z_eqm, z_meq, z_mm, z_ltm, z_mlt, z_lem, z_mle, z_cl, z_ck, u1_1, u1_2, u2_1, u2_2, ↓reduceIte, Option.bind_some, Option.bind_none, bd2_some, lb_eq, and_true, and_false, true_and, false_and, not_true_eq_false, not_false_eq_true, eq_self_iff_true, if_true, if_false, Nat.reduceEqDiff, Nat.reduceAdd, Nat.reduceMul, Nat.reduceSub, Bool.false_eq_true, zl0, zl1, zl2, zl3, zl4, zl5, zl6, zl7, zl8, zl9, zl10, zl11, zl12, zl13, zl14, zl15, zl16, zl17, zl18, zl19, zl20, zl22, zl23, zl24, zl25, zl30, zl31, zl32, zl33, zl34, zl35, zl36, zl37, zl38, zl39, zl40, zl41, zl42, zl43, zl45, zl48, zl49, zl57, zl58, zl59, zl60, zl61, zl62, zl63, zl64, zl91, zl93, zl97, zl98, zl99, zl100, zl113, zl114, zl115, zl116, zl117, zl122, zl124, zl125, zl127, zl128, zl136, zl200, zl201, zl202, zl203, zl204, zl205, zl206, zl207, zl208, zl209, zl210, zl211, zl212, zl213, zl214, zl215, zl216, zl217, zl218, zl219, zl220, zl235, zl236, zl255, zl280, zl287, zl900, zl999, zl1000, zl1001, zl1136, zl1960, zl3000, zl3001, zl3002, zl3003, zl3004, zl3005, zl3006, zl3007, zl3008, zl3009, zl268435456, zl1000000000]), if_pos (by simp (disch := omega) only [z_add, z_mul, z_sub, z_subm, z_addm, z_lt_t, z_lt_f, z_le_t, z_le_f, z_eq_t, z_eq_f, z_eqm, z_meq, z_mm, z_ltm, z_mlt, z_lem, z_mle, z_cl, z_ck, u1_1, u1_2, u2_1, u2_2, ↓reduceIte, Option.bind_some, Option.bind_none, bd2_some, lb_eq, and_true, and_false, true_and, false_and, not_true_eq_false, not_false_eq_true, eq_self_iff_true, if_true, if_false, Nat.reduceEqDiff, Nat.reduceAdd, Nat.reduceMul, Nat.reduceSub, Bool.false_eq_true, zl0, zl1, zl2, zl3, zl4, zl5, zl6, zl7, zl8, zl9, zl10, zl11, zl12, zl13, zl14, zl15, zl16, zl17, zl18, zl19, zl20, zl22, zl23, zl24, zl25, zl30, zl31, zl32, zl33, zl34, zl35, zl36, zl37, zl38, zl39, zl40, zl41, zl42, zl43, zl45, zl48, zl49, zl57, zl58, zl59, zl60, zl61, zl62, zl63, zl64, zl91, zl93, zl97, zl98, zl99, zl100, zl113, zl114, zl115, zl116, zl117, zl122, zl124, zl125, zl127, zl128, zl136, zl200, zl201, zl202, zl203, zl204, zl205, zl206, zl207, zl208, zl209, zl210, zl211, zl212, zl213, zl214, zl215, zl216, zl217, zl218, zl219, zl220, zl235, zl236, zl255, zl280, zl287, zl900, zl999, zl1000, zl1001, zl1136, zl1960, zl3000, zl3001, zl3002, zl3003, zl3004, zl3005, zl3006, zl3007, zl3008, zl3009, zl268435456, zl1000000000])]
theorem nx_flag {γ : GT} (hγ : GOk γ) {nc nm i : Nat} (hi : i < 7) {s : SV} {v : NV} {c k p q d : Nat} {Pc Pm : PM} (h : NX γ nc nm s s v c k p q d Pc Pm) (hsA : sA s < 2 ^ 30) :
    ∃ rc rm Pc' Pm', f_Nr_readFlag (nI i) Pc = some (rc, Pc') ∧ f_Mo_readFlag (nI i) Pm = some (rm, Pm') ∧
      ((rc = nI 0 ∧ rm = nI 0 ∧ Pc' = Pc ∧ Pm' = Pm) ∨ (rc = nI 1 ∧ rm = nI 1 ∧ ∃ s' v' k' p' q', NX γ nc nm s' s' v' c k' p' q' (d + 1) Pc' Pm' ∧ FRl i s v s' v') ∨ (∃ f p, NBc γ f p Pc' ∧ NBm γ f p Pm' ∧ rc = nI 1 ∧ (rm = nI 0 ∨ rm = nI 1))) ∧ (k = 24 → rc = nI 0 ∧ Pc' = Pc) := by
  have h3 := h.2.2.1
  have hk := kok_n h3.2.2.1
  have i6 : f_Mo_is (6 : Int32) Pm = nI (if k = 6 then 1 else 0) := is_G (j := 6) h3.2.1 hk.2 (by omega)
  have i7 : f_Mo_is (7 : Int32) Pm = nI (if k = 7 then 1 else 0) := is_G (j := 7) h3.2.1 hk.2 (by omega)
  have i8 : f_Mo_is (8 : Int32) Pm = nI (if k = 8 then 1 else 0) := is_G (j := 8) h3.2.1 hk.2 (by omega)
  have t6 : Pc.1 1 5 = (201 : Int32) ↔ k = 6 := tk_C (j := 6) h3 (by unfold kok; omega)
  have t7 : Pc.1 1 5 = (202 : Int32) ↔ k = 7 := tk_C (j := 7) h3 (by unfold kok; omega)
  have t8 : Pc.1 1 5 = (211 : Int32) ↔ k = 8 := tk_C (j := 8) h3 (by unfold kok; omega)
  have e9 : (9 : Int32) = nI 10 - nI 1 := rfl
  by_cases c6 : k = 6
  · obtain ⟨P1, M1, a1, a2, a3, -⟩ := nx_next hγ h (by omega)
    have eC : f_Nr_readFlag (nI i) Pc = bd2 (f_Ta_takeNumber (nI 0) (nI 10 - nI 1) P1) (fun v9 P10 => (f_Sa_setDull 11 (nI i) v9 P10).bind (fun P11 => some ((1 : Int32), P11))) := by
      unfold f_Nr_readFlag
      rw [lb_eq, if_pos (t6.mpr c6), c29 hi, a1, Option.bind_some, if_pos (t6.mpr c6)]; rfl
    have eM : f_Mo_readFlag (nI i) Pm = bd2 (f_Mo_takes (nI 0) (nI 10 - nI 1) M1) (fun v13 P14 => ck (inb ((117 : Int32) + nI i) 1136) (j_Mo_readFlag_83 (u1 P14 113 ((117 : Int32) + nI i).toNatClampNeg v13))) := by
      unfold f_Mo_readFlag
      rw [eats_1 (show f_Mo_is (6 : Int32) Pm = nI 1 from by rw [i6, if_pos c6]), a2]; rfl
    have ix : ∀ (w : Int32) (M : PM), ck (inb ((117 : Int32) + nI i) 1136) (j_Mo_readFlag_83 (u1 M 113 ((117 : Int32) + nI i).toNatClampNeg w)) = some (if M.1 109 11 = nI 0 then nI 1 else nI 0, u1 M 113 (117 + i) w) := fun w M => by
      rw [show (117 : Int32) = nI 117 from rfl, z_add, z_ck (by omega) (by omega), z_cl (by omega), flag83, u1r (by omega)]
    rw [eC, eM]
    rcases a3 with ⟨k', p', q', a3⟩ | ⟨f, p', a3, a5⟩
    · obtain ⟨wc, wm, P2, M2, b1, b2, b3⟩ := nx_takes hγ (lo := 0) (hb := 10) (by omega) (by omega) a3
      rw [b1, b2, bd2_some, bd2_some, setDull_C hi, Option.bind_some, ix]
      refine ⟨_, _, _, _, rfl, rfl, ?_, fun e => by omega⟩
      rcases b3 with ⟨w, k2, p2, q2, w1, w2, rfl, rfl, g1, g2, g3, g4, g5, g6, g7⟩ | ⟨f, p2, g1, g2, g3, g4⟩
      · refine Or.inr (Or.inl ⟨rfl, by rw [if_pos g3.2.1.1], sDs s i w, v, k2, p2, q2, ⟨FLc_u g1 (by omega), FLm_u g2, TG_um (TG_uc g3 (by omega)), npc_dull g4, npm_dull g5 hi, by omega, g7⟩, Or.inl ⟨w, by omega, rfl, rfl⟩⟩)
      · refine Or.inr (Or.inr ⟨f, p2, NBc_u g1 (by omega), NBm_u g2, rfl, ?_⟩)
        split
        · exact Or.inr rfl
        · exact Or.inl rfl
    · obtain ⟨P2, b1, b2⟩ := nbc_take (lo := nI 0) (hi := nI 10 - nI 1) a3
      obtain ⟨w, M2, d1, d2, d3⟩ := nbm_take (lo := nI 0) (hi := nI 10 - nI 1) a5
      rw [b1, d1, bd2_some, bd2_some, setDull_C hi, Option.bind_some, ix, if_neg d3]
      exact ⟨_, _, _, _, rfl, rfl, Or.inr (Or.inr ⟨f, p', NBc_u b2 (by omega), NBm_u d2, rfl, Or.inl rfl⟩), fun e => by omega⟩
  have m6 : f_Mo_readFlag (nI i) Pm = bd2 (f_Mo_eats (7 : Int32) Pm) (fun v4 P5 => if v4 = (0 : Int32) then (bd2 (f_Mo_eats (8 : Int32) P5) (fun v7 P8 => if v7 = (0 : Int32) then (some ((0 : Int32), P8)) else (j_Mo_readFlag_83 (u1 P8 113 (116 : Int32).toNatClampNeg ((P8.1 113 (116 : Int32).toNatClampNeg) ||| ((1 : Int32) <<< ((nI i) &&& 31))))))) else (bd2 (f_Mo_takes (0 : Int32) (9 : Int32) P5) (fun v10 P11 => ck (inb ((8 : Int32) + nI i) 1136) (j_Mo_readFlag_83 (u1 P11 113 ((8 : Int32) + nI i).toNatClampNeg v10))))) := by
    unfold f_Mo_readFlag
    rw [eats_0 (show f_Mo_is (6 : Int32) Pm = nI 0 from by rw [i6, if_neg c6]), bd2_some, if_pos rfl]
  by_cases c7 : k = 7
  · obtain ⟨P1, M1, a1, a2, a3, -⟩ := nx_next hγ h (by omega)
    have eC : f_Nr_readFlag (nI i) Pc = bd2 (f_Ta_takeNumber (nI 0) (nI 10 - nI 1) P1) (fun v6 P7 => ck (inb (nI i) 7) (some ((1 : Int32), (u1 P7 5 (nI i).toNatClampNeg v6)))) := by
      unfold f_Nr_readFlag
      rw [lb_eq, if_neg (fun e => c6 (t6.mp e)), if_pos (t7.mpr c7), c29 hi, a1, Option.bind_some, if_neg (fun e => c6 (t6.mp e)), if_pos (t7.mpr c7)]; rfl
    have eM : f_Mo_readFlag (nI i) Pm = bd2 (f_Mo_takes (nI 0) (nI 10 - nI 1) M1) (fun v10 P11 => ck (inb ((8 : Int32) + nI i) 1136) (j_Mo_readFlag_83 (u1 P11 113 ((8 : Int32) + nI i).toNatClampNeg v10))) := by
      rw [m6, eats_1 (show f_Mo_is (7 : Int32) Pm = nI 1 from by rw [i7, if_pos c7]), a2]; rfl
    have ix : ∀ (w : Int32) (M : PM), ck (inb ((8 : Int32) + nI i) 1136) (j_Mo_readFlag_83 (u1 M 113 ((8 : Int32) + nI i).toNatClampNeg w)) = some (if M.1 109 11 = nI 0 then nI 1 else nI 0, u1 M 113 (8 + i) w) := fun w M => by
      rw [show (8 : Int32) = nI 8 from rfl, z_add, z_ck (by omega) (by omega), z_cl (by omega), flag83, u1r (by omega)]
    have iy : ∀ (w : Int32) (M : PM), ck (inb (nI i) 7) (some ((1 : Int32), (u1 M 5 (nI i).toNatClampNeg w))) = some (nI 1, u1 M 5 i w) := fun w M => by
      rw [z_ck (by omega) (by omega), z_cl (by omega)]; rfl
    rw [eC, eM]
    rcases a3 with ⟨k', p', q', a3⟩ | ⟨f, p', a3, a5⟩
    · obtain ⟨wc, wm, P2, M2, b1, b2, b3⟩ := nx_takes hγ (lo := 0) (hb := 10) (by omega) (by omega) a3
      rw [b1, b2, bd2_some, bd2_some, iy, ix]
      refine ⟨_, _, _, _, rfl, rfl, ?_, fun e => by omega⟩
      rcases b3 with ⟨w, k2, p2, q2, w1, w2, rfl, rfl, g1, g2, g3, g4, g5, g6, g7⟩ | ⟨f, p2, g1, g2, g3, g4⟩
      · refine Or.inr (Or.inl ⟨rfl, by rw [if_pos g3.2.1.1], s, vKs v i (nI w), k2, p2, q2, ⟨FLc_u g1 (by omega), FLm_u g2, TG_um (TG_uc g3 (by omega)), npc_kind g4, npm_kind g5 hi, by omega, g7⟩, Or.inr (Or.inl ⟨nI w, rfl, rfl⟩)⟩)
      · refine Or.inr (Or.inr ⟨f, p2, NBc_u g1 (by omega), NBm_u g2, rfl, ?_⟩)
        split
        · exact Or.inr rfl
        · exact Or.inl rfl
    · obtain ⟨P2, b1, b2⟩ := nbc_take (lo := nI 0) (hi := nI 10 - nI 1) a3
      obtain ⟨w, M2, d1, d2, d3⟩ := nbm_take (lo := nI 0) (hi := nI 10 - nI 1) a5
      rw [b1, d1, bd2_some, bd2_some, iy, ix, if_neg d3]
      exact ⟨_, _, _, _, rfl, rfl, Or.inr (Or.inr ⟨f, p', NBc_u b2 (by omega), NBm_u d2, rfl, Or.inl rfl⟩), fun e => by omega⟩
  have m7 : f_Mo_readFlag (nI i) Pm = bd2 (f_Mo_eats (8 : Int32) Pm) (fun v7 P8 => if v7 = (0 : Int32) then (some ((0 : Int32), P8)) else (j_Mo_readFlag_83 (u1 P8 113 (116 : Int32).toNatClampNeg ((P8.1 113 (116 : Int32).toNatClampNeg) ||| ((1 : Int32) <<< ((nI i) &&& 31)))))) := by
    rw [m6, eats_0 (show f_Mo_is (7 : Int32) Pm = nI 0 from by rw [i7, if_neg c7]), bd2_some, if_pos rfl]
  by_cases c8 : k = 8
  · obtain ⟨P1, M1, a1, a2, a3, -⟩ := nx_next hγ h (by omega)
    have eC : f_Nr_readFlag (nI i) Pc = some (nI 1, u1 P1 11 3 (P1.1 11 3 ||| nI (2 ^ i))) := by
      unfold f_Nr_readFlag
      rw [lb_eq, if_neg (fun e => c6 (t6.mp e)), if_neg (fun e => c7 (t7.mp e)), if_pos (t8.mpr c8), c29 hi, a1, Option.bind_some, if_neg (fun e => c6 (t6.mp e)), if_neg (fun e => c7 (t7.mp e)), sh_1 i (by omega)]; rfl
    have eM : f_Mo_readFlag (nI i) Pm = some (if M1.1 109 11 = nI 0 then nI 1 else nI 0, u1 M1 113 116 (M1.1 113 116 ||| nI (2 ^ i))) := by
      rw [m7, eats_1 (show f_Mo_is (8 : Int32) Pm = nI 1 from by rw [i8, if_pos c8]), a2, Option.bind_some, bd2_some, if_neg (by decide), sh_1 i (by omega), flag83, u1r (by omega)]; rfl
    rw [eC, eM]
    refine ⟨_, _, _, _, rfl, rfl, ?_, fun e => by omega⟩
    rcases a3 with ⟨k2, p2, q2, g1, g2, g3, g4, g5, g6, g7⟩ | ⟨f, p', a3, a5⟩
    · have s1 : P1.1 11 3 = nI (sA s) := g4.2.2.2.2.2.2.2.2.2.2.2.1
      have s2 : M1.1 113 116 = nI (sA s) := g5.2.2.2.2.2.2.2.2.2.2.2.1
      rw [s1, s2, nx_or]
      exact Or.inr (Or.inl ⟨rfl, by rw [if_pos g3.2.1.1], sAs s (sA s ||| 2 ^ i), v, k2, p2, q2, ⟨FLc_u g1 (by omega), FLm_u g2, TG_um (TG_uc g3 (by omega)), npc_asleep g4, npm_asleep g5, by omega, g7⟩, Or.inr (Or.inr ⟨rfl, rfl⟩)⟩)
    · refine Or.inr (Or.inr ⟨f, p', NBc_u a3 (by omega), NBm_u a5, rfl, ?_⟩)
      split
      · exact Or.inr rfl
      · exact Or.inl rfl
  · refine ⟨nI 0, nI 0, Pc, Pm, ?_, ?_, Or.inl ⟨rfl, rfl, rfl, rfl⟩, fun _ => ⟨rfl, rfl⟩⟩
    · unfold f_Nr_readFlag
      rw [lb_eq, if_neg (fun e => c6 (t6.mp e)), if_neg (fun e => c7 (t7.mp e)), if_neg (fun e => c8 (t8.mp e))]; rfl
    · rw [m7, eats_0 (show f_Mo_is (8 : Int32) Pm = nI 0 from by rw [i8, if_neg c8]), bd2_some, if_pos rfl]; rfl
/-- stations: what holds while one is told -/
def SI (N : Nat) (v : NV) (s : SV) : Prop := NVok v ∧ vN v = N ∧ (∀ k, sW s = some k → k < N ∧ 1 ≤ sZ s) ∧ (sW s = none → sZ s = 0) ∧ sZ s ≤ 40 ∧ sA s < 2 ^ (N + 1) ∧ ∀ i, sD s i ≤ 9
theorem SI_F {N : Nat} {v v' : NV} {s s' : SV} (h : SI N v s) (g : FRl N s v s' v') : SI N v' s' := by
  obtain ⟨h1, h2, h3, h4, h5, h6, h7⟩ := h
  rcases g with ⟨w, hw, rfl, rfl⟩ | ⟨w, rfl, rfl⟩ | ⟨rfl, rfl⟩
  · refine ⟨h1, h2, h3, h4, h5, h6, fun i => ?_⟩
    show (if i = N then w else sD s i) ≤ 9
    split
    · exact hw
    · exact h7 i
  · exact ⟨h1, h2, h3, h4, h5, h6, h7⟩
  · exact ⟨h1, h2, h3, h4, h5, Nat.or_lt_two_pow h6 (Nat.pow_lt_pow_right (by omega) (by omega)), h7⟩
def NL (γ : GT) (d : Nat) (Pc Pm : PM) : Prop := (∃ v s c k p q, NX γ (vN v) (vN v) s s v c k p q d Pc Pm ∧ NVok v ∧ SVok v s) ∨ ∃ f p, NBc γ f p Pc ∧ NBm γ f p Pm
theorem st_bC {γ : GT} {f p cnt : Nat} (hc : cnt ≤ 900) {x m : Int32} {P : PM} (h : NBc γ f p P) (n : Nat) : l_Nr_readStation_47 (n + 2) x m (nI cnt) P = some P := by
  rw [l_Nr_readStation_47]
  split
  · rfl
  · split
    · rfl
    · rw [nbc_flag h, bd2_some, l_Nr_readStation_47]
      split
      · rfl
      · rw [if_pos (by rfl)]
theorem st_48 {γ : GT} {f p : Nat} {P : PM} (h : NBm γ f p P) : ∃ P', j_Mo_readStation_48 P = some P' ∧ NBm γ f p P' := by
  unfold j_Mo_readStation_48
  split
  · exact ⟨_, rfl, NBm_u h⟩
  · exact ⟨P, rfl, h⟩
theorem st_bM {γ : GT} {f p : Nat} {x : Int32} {P : PM} (h : NBm γ f p P) (n : Nat) : ∃ P', l_Mo_readStation_30 (n + 1) x P = some P' ∧ NBm γ f p P' := by
  rw [l_Mo_readStation_30]
  split
  · rw [nbm_flag h, bd2_some, if_pos (by rfl)]
    exact st_48 h
  · exact st_48 h
theorem st_loop {γ : GT} (hγ : GOk γ) {N c : Nat} (hN : N < 7) : ∀ (M cnt f g d : Nat) (v : NV) (s : SV) (k p q : Nat) (Pc Pm : PM), cnt + M = 900 → M + 2 < f → M + 2 < g → cnt ≤ d → NX γ (N + 1) N s s v c k p q d Pc Pm → SI N v s →
    ∃ Pc' Pm', l_Nr_readStation_47 f (nI N) (nI 1) (nI cnt) Pc = some Pc' ∧ l_Mo_readStation_30 g (nI N) Pm = some Pm' ∧ ((∃ v' s' k' p' q', NX γ (N + 1) (N + 1) s' s' v' c k' p' q' d Pc' Pm' ∧ SI N v' s') ∨ ∃ f p, NBc γ f p Pc' ∧ NBm γ f p Pm') := by
  have hn := hγ.1.1
  intro M
  induction M with
  | zero =>
    intro cnt f g d v s k p q Pc Pm h1 h2 h3 h4 hX hS
    obtain ⟨f, rfl⟩ : ∃ z, f = z + 1 := ⟨f - 1, by omega⟩
    obtain ⟨g, rfl⟩ : ∃ z, g = z + 1 := ⟨g - 1, by omega⟩
    have ht := hX.2.2.1
    have hd := hX.2.2.2.2.2.1
    have hq := ht.2.2.2
    have hk : k = 24 := by
      by_cases e : k = 24
      · exact e
      · have := hq.2.2.1 e
        omega
    have hsA : sA s < 2 ^ 30 := Nat.lt_of_lt_of_le hS.2.2.2.2.2.1 (Nat.pow_le_pow_right (by omega) (by omega))
    obtain ⟨rc, rm, P1, M1, a1, a2, a3, a4⟩ := nx_flag hγ (i := N) hN hX hsA
    obtain ⟨b1, b2⟩ := a4 hk
    have hm : rm = nI 0 ∧ M1 = Pm := by
      rcases a3 with ⟨_, q1, _, q2⟩ | ⟨q1, _⟩ | ⟨f', p', _, _, q1, _⟩
      · exact ⟨q1, q2⟩
      · rw [b1] at q1; exact absurd q1 (by decide)
      · rw [b1] at q1; exact absurd q1 (by decide)
    refine ⟨Pc, u1 Pm 113 1 (nI (N + 1)), ?_, ?_, Or.inl ⟨v, s, k, p, q, ?_, hS⟩⟩
    · rw [l_Nr_readStation_47, if_pos (by simp (disch := omega) only [z_add, z_mul, z_sub, z_subm, z_addm, z_lt_t, z_lt_f, z_le_t, z_le_f, z_eq_t, z_eq_f, z_eqm, z_meq, z_mm, z_ltm, z_mlt, z_lem, z_mle, z_cl, z_ck, u1_1, u1_2, u2_1, u2_2, ↓reduceIte, Option.bind_some, Option.bind_none, bd2_some, lb_eq, and_true, and_false, true_and, false_and, not_true_eq_false, not_false_eq_true, eq_self_iff_true, if_true, if_false, Nat.reduceEqDiff, Nat.reduceAdd, Nat.reduceMul, Nat.reduceSub, Bool.false_eq_true, zl0, zl1, zl2, zl3, zl4, zl5, zl6, zl7, zl8, zl9, zl10, zl11, zl12, zl13, zl14, zl15, zl16, zl17, zl18, zl19, zl20, zl22, zl23, zl24, zl25, zl30, zl31, zl32, zl33, zl34, zl35, zl36, zl37, zl38, zl39, zl40, zl41, zl42, zl43, zl45, zl48, zl49, zl57, zl58, zl59, zl60, zl61, zl62, zl63, zl64, zl91, zl93, zl97, zl98, zl99, zl100, zl113, zl114, zl115, zl116, zl117, zl122, zl124, zl125, zl127, zl128, zl136, zl200, zl201, zl202, zl203, zl204, zl205, zl206, zl207, zl208, zl209, zl210, zl211, zl212, zl213, zl214, zl215, zl216, zl217, zl218, zl219, zl220, zl235, zl236, zl255, zl280, zl287, zl900, zl999, zl1000, zl1001, zl1136, zl1960, zl3000, zl3001, zl3002, zl3003, zl3004, zl3005, zl3006, zl3007, zl3008, zl3009, zl268435456, zl1000000000])]
    · rw [l_Mo_readStation_30, if_pos (show Pm.1 109 11 = (0 : Int32) from ht.2.1.1), a2, bd2_some, if_pos (by rw [hm.1]; rfl), hm.2]
      unfold j_Mo_readStation_48
      rw [if_pos (show Pm.1 109 11 = (0 : Int32) from ht.2.1.1), show (1 : Int32).toNatClampNeg = 1 from rfl, hX.2.2.2.2.1.1.1, z_one]
    · obtain ⟨g1, g2, g3, g4, g5, g6, g7⟩ := hX
      exact ⟨g1, FLm_u g2, TG_um g3, g4, npm_N g5, g6, g7⟩
  | succ M ih =>
    intro cnt f g d v s k p q Pc Pm h1 h2 h3 h4 hX hS
    obtain ⟨f, rfl⟩ : ∃ z, f = z + 1 := ⟨f - 1, by omega⟩
    obtain ⟨g, rfl⟩ : ∃ z, g = z + 1 := ⟨g - 1, by omega⟩
    have ht := hX.2.2.1
    have hsA : sA s < 2 ^ 30 := Nat.lt_of_lt_of_le hS.2.2.2.2.2.1 (Nat.pow_le_pow_right (by omega) (by omega))
    obtain ⟨rc, rm, P1, M1, a1, a2, a3, -⟩ := nx_flag hγ (i := N) hN hX hsA
    have eC : l_Nr_readStation_47 (f + 1) (nI N) (nI 1) (nI cnt) Pc = l_Nr_readStation_47 f (nI N) rc (nI (cnt + 1)) P1 := by
      rw [l_Nr_readStation_47, if_neg (by simp (disch := omega) only [z_add, z_mul, z_sub, z_subm, z_addm, z_lt_t, z_lt_f, z_le_t, z_le_f, z_eq_t, z_eq_f, z_eqm, z_meq, z_mm, z_ltm, z_mlt, z_lem, z_mle, z_cl, z_ck, u1_1, u1_2, u2_1, u2_2, ↓reduceIte, Option.bind_some, Option.bind_none, bd2_some, lb_eq, and_true, and_false, true_and, false_and, not_true_eq_false, not_false_eq_true, eq_self_iff_true, if_true, if_false, Nat.reduceEqDiff, Nat.reduceAdd, Nat.reduceMul, Nat.reduceSub, Bool.false_eq_true, zl0, zl1, zl2, zl3, zl4, zl5, zl6, zl7, zl8, zl9, zl10, zl11, zl12, zl13, zl14, zl15, zl16, zl17, zl18, zl19, zl20, zl22, zl23, zl24, zl25, zl30, zl31, zl32, zl33, zl34, zl35, zl36, zl37, zl38, zl39, zl40, zl41, zl42, zl43, zl45, zl48, zl49, zl57, zl58, zl59, zl60, zl61, zl62, zl63, zl64, zl91, zl93, zl97, zl98, zl99, zl100, zl113, zl114, zl115, zl116, zl117, zl122, zl124, zl125, zl127, zl128, zl136, zl200, zl201, zl202, zl203, zl204, zl205, zl206, zl207, zl208, zl209, zl210, zl211, zl212, zl213, zl214, zl215, zl216, zl217, zl218, zl219, zl220, zl235, zl236, zl255, zl280, zl287, zl900, zl999, zl1000, zl1001, zl1136, zl1960, zl3000, zl3001, zl3002, zl3003, zl3004, zl3005, zl3006, zl3007, zl3008, zl3009, zl268435456, zl1000000000]), if_neg (by decide), a1, bd2_some, z_one]
    have eM : l_Mo_readStation_30 (g + 1) (nI N) Pm = if rm = (0 : Int32) then j_Mo_readStation_48 M1 else l_Mo_readStation_30 g (nI N) M1 := by
      rw [l_Mo_readStation_30, if_pos (show Pm.1 109 11 = (0 : Int32) from ht.2.1.1), a2, bd2_some]
    rw [eC, eM]
    rcases a3 with ⟨rfl, rfl, rfl, rfl⟩ | ⟨rfl, rfl, s', v', k', p', q', b1, b2⟩ | ⟨f', p', b1, b2, rfl, b3⟩
    · obtain ⟨f, rfl⟩ : ∃ z, f = z + 1 := ⟨f - 1, by omega⟩
      refine ⟨P1, u1 M1 113 1 (nI (N + 1)), ?_, ?_, Or.inl ⟨v, s, k, p, q, ?_, hS⟩⟩
      · rw [l_Nr_readStation_47]
        split
        · rfl
        · rw [if_pos (by rfl)]
      · rw [if_pos (by rfl)]
        unfold j_Mo_readStation_48
        rw [if_pos (show M1.1 109 11 = (0 : Int32) from ht.2.1.1), show (1 : Int32).toNatClampNeg = 1 from rfl, hX.2.2.2.2.1.1.1, z_one]
      · obtain ⟨g1, g2, g3, g4, g5, g6, g7⟩ := hX
        exact ⟨g1, FLm_u g2, TG_um g3, g4, npm_N g5, g6, g7⟩
    · rw [if_neg (by decide)]
      obtain ⟨Pc', Pm', r1, r2, r3⟩ := ih (cnt + 1) f g (d + 1) v' s' k' p' q' P1 M1 (by omega) (by omega) (by omega) (by omega) b1 (SI_F hS b2)
      refine ⟨Pc', Pm', r1, r2, ?_⟩
      rcases r3 with ⟨v2, s2, k2, p2, q2, x1, x2⟩ | r3
      · exact Or.inl ⟨v2, s2, k2, p2, q2, NX_d x1 (by omega), x2⟩
      · exact Or.inr r3
    · obtain ⟨f, rfl⟩ : ∃ z, f = z + 2 := ⟨f - 2, by omega⟩
      obtain ⟨g, rfl⟩ : ∃ z, g = z + 1 := ⟨g - 1, by omega⟩
      rw [st_bC (by omega) b1]
      rcases b3 with rfl | rfl
      · rw [if_pos (by rfl)]
        obtain ⟨M2, c1, c2⟩ := st_48 b2
        exact ⟨P1, M2, rfl, c1, Or.inr ⟨f', p', b1, c2⟩⟩
      · rw [if_neg (by decide)]
        obtain ⟨M2, c1, c2⟩ := st_bM (x := nI N) b2 g
        exact ⟨P1, M2, rfl, c1, Or.inr ⟨f', p', b1, c2⟩⟩
theorem nx_row4 {γ : GT} (hγ : GOk γ) {nc nm : Nat} {sc sm_ : SV} {v : NV} {c k p q d : Nat} {Pc Pm P1 : PM} (h : NX γ nc nm sc sm_ v c k p q d Pc Pm) (e : f_Ta_next Pc = some P1) : P1.1 4 = Pc.1 4 := by
  obtain ⟨h1, h2, ⟨⟨a1, a2, a3, a4, a5⟩, ⟨b1, b2, b3, b4⟩, t1, t2, t3, t4, t5⟩, h4, h5, h6, h7⟩ := h
  obtain ⟨Pc', Pm', c1, c2, c3, -⟩ := next_ok hγ.1 (TKC_FL hγ h1) (TKM_FL hγ h2) a1 a2 b1 a5 b4 t3
  rw [c1] at e
  cases e
  exact c3.2.1 4 (by omega)
theorem station_ok0 {γ : GT} (hγ : GOk γ) {v : NV} {s : SV} {c k p q d : Nat} {Pc Pm : PM} (hX : NX γ (vN v) (vN v) s s v c k p q d Pc Pm) (hv : NVok v) (hs : SVok v s) (hk : k ≠ 24) :
    ∃ Pc' Pm', f_Nr_readStation Pc = some Pc' ∧ f_Mo_readStation Pm = some Pm' ∧ NL γ (d + 1) Pc' Pm' := by
  have hFU := FU_big
  have hN := hv.1
  have n1 : Pc.1 4 0 = nI (vN v) := hX.2.2.2.1.1
  have n2 : Pm.1 113 1 = nI (vN v) := hX.2.2.2.2.1.1.1
  have w0 := hX.2.2.1.2.1.1
  unfold f_Nr_readStation f_Mo_readStation
  rw [lb_eq, lb_eq, n1, show (1 : Int32).toNatClampNeg = 1 from rfl, n2]
  by_cases c7 : vN v = 7
  · obtain ⟨P1, M1, a1, a2, a3, a4, a5⟩ := nx_fail hγ (f := 4) ⟨by omega, by omega⟩ hX
    refine ⟨P1, M1, ?_, ?_, Or.inr ⟨4, p, a3, a4⟩⟩
    · rw [if_neg (by simp (disch := omega) only [z_add, z_mul, z_sub, z_subm, z_addm, z_lt_t, z_lt_f, z_le_t, z_le_f, z_eq_t, z_eq_f, z_eqm, z_meq, z_mm, z_ltm, z_mlt, z_lem, z_mle, z_cl, z_ck, u1_1, u1_2, u2_1, u2_2, ↓reduceIte, Option.bind_some, Option.bind_none, bd2_some, lb_eq, and_true, and_false, true_and, false_and, not_true_eq_false, not_false_eq_true, eq_self_iff_true, if_true, if_false, Nat.reduceEqDiff, Nat.reduceAdd, Nat.reduceMul, Nat.reduceSub, Bool.false_eq_true, zl0, zl1, zl2, zl3, zl4, zl5, zl6, zl7, zl8, zl9, zl10, zl11, zl12, zl13, zl14, zl15, zl16, zl17, zl18, zl19, zl20, zl22, zl23, zl24, zl25, zl30, zl31, zl32, zl33, zl34, zl35, zl36, zl37, zl38, zl39, zl40, zl41, zl42, zl43, zl45, zl48, zl49, zl57, zl58, zl59, zl60, zl61, zl62, zl63, zl64, zl91, zl93, zl97, zl98, zl99, zl100, zl113, zl114, zl115, zl116, zl117, zl122, zl124, zl125, zl127, zl128, zl136, zl200, zl201, zl202, zl203, zl204, zl205, zl206, zl207, zl208, zl209, zl210, zl211, zl212, zl213, zl214, zl215, zl216, zl217, zl218, zl219, zl220, zl235, zl236, zl255, zl280, zl287, zl900, zl999, zl1000, zl1001, zl1136, zl1960, zl3000, zl3001, zl3002, zl3003, zl3004, zl3005, zl3006, zl3007, zl3008, zl3009, zl268435456, zl1000000000]), show (4 : Int32) = nI 4 from rfl, a1]; rfl
    · rw [if_pos (by rw [c7]; rfl), show (4 : Int32) = nI 4 from rfl, a2, Option.bind_some]
      unfold j_Mo_readStation_18
      rw [if_neg (show ¬ M1.1 109 11 = (0 : Int32) from a5)]
  · rw [if_pos (by simp (disch := omega) only [z_add, z_mul, z_sub, z_subm, z_addm, z_lt_t, z_lt_f, z_le_t, z_le_f, z_eq_t, z_eq_f, z_eqm, z_meq, z_mm, z_ltm, z_mlt, z_lem, z_mle, z_cl, z_ck, u1_1, u1_2, u2_1, u2_2, ↓reduceIte, Option.bind_some, Option.bind_none, bd2_some, lb_eq, and_true, and_false, true_and, false_and, not_true_eq_false, not_false_eq_true, eq_self_iff_true, if_true, if_false, Nat.reduceEqDiff, Nat.reduceAdd, Nat.reduceMul, Nat.reduceSub, Bool.false_eq_true, zl0, zl1, zl2, zl3, zl4, zl5, zl6, zl7, zl8, zl9, zl10, zl11, zl12, zl13, zl14, zl15, zl16, zl17, zl18, zl19, zl20, zl22, zl23, zl24, zl25, zl30, zl31, zl32, zl33, zl34, zl35, zl36, zl37, zl38, zl39, zl40, zl41, zl42, zl43, zl45, zl48, zl49, zl57, zl58, zl59, zl60, zl61, zl62, zl63, zl64, zl91, zl93, zl97, zl98, zl99, zl100, zl113, zl114, zl115, zl116, zl117, zl122, zl124, zl125, zl127, zl128, zl136, zl200, zl201, zl202, zl203, zl204, zl205, zl206, zl207, zl208, zl209, zl210, zl211, zl212, zl213, zl214, zl215, zl216, zl217, zl218, zl219, zl220, zl235, zl236, zl255, zl280, zl287, zl900, zl999, zl1000, zl1001, zl1136, zl1960, zl3000, zl3001, zl3002, zl3003, zl3004, zl3005, zl3006, zl3007, zl3008, zl3009, zl268435456, zl1000000000]), if_neg (by simp (disch := omega) only [z_add, z_mul, z_sub, z_subm, z_addm, z_lt_t, z_lt_f, z_le_t, z_le_f, z_eq_t, z_eq_f, z_eqm, z_meq, z_mm, z_ltm, z_mlt, z_lem, z_mle, z_cl, z_ck, u1_1, u1_2, u2_1, u2_2, ↓reduceIte, Option.bind_some, Option.bind_none, bd2_some, lb_eq, and_true, and_false, true_and, false_and, not_true_eq_false, not_false_eq_true, eq_self_iff_true, if_true, if_false, Nat.reduceEqDiff, Nat.reduceAdd, Nat.reduceMul, Nat.reduceSub, Bool.false_eq_true, zl0, zl1, zl2, zl3, zl4, zl5, zl6, zl7, zl8, zl9, zl10, zl11, zl12, zl13, zl14, zl15, zl16, zl17, zl18, zl19, zl20, zl22, zl23, zl24, zl25, zl30, zl31, zl32, zl33, zl34, zl35, zl36, zl37, zl38, zl39, zl40, zl41, zl42, zl43, zl45, zl48, zl49, zl57, zl58, zl59, zl60, zl61, zl62, zl63, zl64, zl91, zl93, zl97, zl98, zl99, zl100, zl113, zl114, zl115, zl116, zl117, zl122, zl124, zl125, zl127, zl128, zl136, zl200, zl201, zl202, zl203, zl204, zl205, zl206, zl207, zl208, zl209, zl210, zl211, zl212, zl213, zl214, zl215, zl216, zl217, zl218, zl219, zl220, zl235, zl236, zl255, zl280, zl287, zl900, zl999, zl1000, zl1001, zl1136, zl1960, zl3000, zl3001, zl3002, zl3003, zl3004, zl3005, zl3006, zl3007, zl3008, zl3009, zl268435456, zl1000000000])]
    unfold j_Mo_readStation_18
    obtain ⟨P1, M1, a1, a2, a3, -⟩ := nx_next hγ hX hk
    rw [if_pos (show Pm.1 109 11 = (0 : Int32) from w0), a1, a2, Option.bind_some, Option.bind_some]
    rcases a3 with ⟨k', p', q', a3⟩ | ⟨f, p', a3, a5⟩
    · have m1 : P1.1 4 0 = nI (vN v) := a3.2.2.2.1.1
      rw [m1, z_one]
      have hX2 : NX γ (vN v + 1) (vN v) s s v c k' p' q' (d + 1) (u1 P1 4 0 (nI (vN v + 1))) M1 := by
        obtain ⟨g1, g2, g3, g4, g5, g6, g7⟩ := a3
        exact ⟨FLc_u g1 (by omega), g2, TG_uc g3 (by omega), npc_N g4, g5, g6, by omega⟩
      have hS : SI (vN v) v s := ⟨hv, rfl, hs.1, hs.2.1, hs.2.2.1, Nat.lt_of_lt_of_le hs.2.2.2.1 (Nat.pow_le_pow_right (by omega) (by omega)), hs.2.2.2.2⟩
      obtain ⟨Pc', Pm', r1, r2, r3⟩ := st_loop hγ (N := vN v) (by omega) 900 0 FU FU (d + 1) v s k' p' q' _ M1 rfl (by omega) (by omega) (by omega) hX2 hS
      refine ⟨Pc', Pm', r1, r2, ?_⟩
      rcases r3 with ⟨v', s', k2, p2, q2, x1, x2, x3, x4, x5, x6, x7, x8⟩ | r3
      · refine Or.inl ⟨vNs v' (vN v + 1), s', c, k2, p2, q2, x1, ⟨by show vN v + 1 ≤ 7; omega, fun a b => ?_, x2.2.2⟩, ⟨fun k hk => ?_, x5, x6, x7, x8⟩⟩
        · obtain ⟨y1, y2, y3, y4⟩ := x2.2.1 a b
          refine ⟨y1, y2, fun h => ?_, y4⟩
          obtain ⟨z1, z2, z3⟩ := y3 h
          exact ⟨by show a < vN v + 1; omega, by show b < vN v + 1; omega, z3⟩
        · obtain ⟨z1, z2⟩ := x4 k hk
          exact ⟨by show k < vN v + 1; omega, z2⟩
      · exact Or.inr r3
    · have r4 := nx_row4 hγ hX a1
      rw [r4, n1, z_one]
      have hB : NBc γ f p' (u1 P1 4 0 (nI (vN v + 1))) := by
        obtain ⟨h1, h2, h3, c', h5, h6⟩ := a3
        refine ⟨FLc_u h1 (by omega), ?_, ⟨vN v + 1, by omega, u1e⟩, c', h5, by rw [u1c (by omega)]; exact h6⟩
        unfold Cf at *
        rw [u1r (by omega)]
        exact h2
      obtain ⟨F, hF⟩ : ∃ F, FU = F + 2 := ⟨FU - 2, by omega⟩
      obtain ⟨M2, c1, c2⟩ := st_bM (x := nI (vN v)) a5 (F + 1)
      rw [hF]
      exact ⟨_, M2, st_bC (cnt := 0) (by omega) hB F, c1, Or.inr ⟨f, p', hB, c2⟩⟩
