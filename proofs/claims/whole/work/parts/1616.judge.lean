/-! told deeds: judge, perform -/
noncomputable def dk (v : NV) (s : SV) (k : Nat) : Nat × SV :=
  if k < 10 then aps v s k else if k < 20 then asl v s (k - 10) else if 1000 ≤ k then aof v s ((k - 1000) / 100) (k % 100)
  else if 100 ≤ k ∧ k < 200 then adl v s ((k - 100) / 10) (k % 10) else (1, s)
noncomputable def dd (v : NV) (s : SV) (z : Int64) : Nat × SV := if 0 ≤ z.toInt ∧ z.toInt ≤ 1999 then dk v s z.toInt.toNat else (1, s)
theorem asl_n {v : NV} {s : SV} {t : Nat} (h : (asl v s t).1 ≠ 0) : (asl v s t).2 = s := by
  unfold asl at *
  split at h
  · exact absurd rfl h
  · rename_i c; rw [if_neg c]
theorem adl_n {v : NV} {s : SV} {t n : Nat} (h : (adl v s t n).1 ≠ 0) : (adl v s t n).2 = s := by
  unfold adl at *
  split at h
  · exact absurd rfl h
  · rename_i c; rw [if_neg c]
theorem aof_n {v : NV} {s : SV} {t n : Nat} (h : (aof v s t n).1 ≠ 0) : (aof v s t n).2 = s := by
  unfold aof at *
  split at h
  · exact absurd rfl h
  · rename_i c; rw [if_neg c]
theorem asl_lt {v : NV} {s : SV} {t : Nat} : (asl v s t).1 < 5 := by unfold asl; split <;> simp
theorem adl_lt {v : NV} {s : SV} {t n : Nat} : (adl v s t n).1 < 5 := by unfold adl; split <;> simp
theorem aof_lt {v : NV} {s : SV} {t n : Nat} : (aof v s t n).1 < 5 := by unfold aof; split <;> simp
theorem dk_lt {v : NV} {s : SV} {k : Nat} : (dk v s k).1 < 5 := by
  unfold dk
  split
  · exact aps_lt
  · split
    · exact asl_lt
    · split
      · exact aof_lt
      · split
        · exact adl_lt
        · show 1 < 5; decide
theorem dd_lt {v : NV} {s : SV} {z : Int64} : (dd v s z).1 < 5 := by
  unfold dd
  split
  · exact dk_lt
  · show 1 < 5; decide
theorem dk_ok {v : NV} {s : SV} {k : Nat} (h : SVok v s) : SVok v (dk v s k).2 := by
  unfold dk
  split
  · exact SVok_aps h
  · split
    · exact SVok_asl h
    · split
      · exact SVok_aof h
      · split
        · exact SVok_adl h
        · exact h
theorem dd_ok {v : NV} {s : SV} {z : Int64} (h : SVok v s) : SVok v (dd v s z).2 := by
  unfold dd
  split
  · exact dk_ok h
  · exact h
theorem l_cases (z : Int64) : (∃ k, k < 2000 ∧ z = lN k) ∨ ¬ (0 ≤ z.toInt ∧ z.toInt ≤ 1999) := by
  by_cases h : 0 ≤ z.toInt ∧ z.toInt ≤ 1999
  · refine Or.inl ⟨z.toInt.toNat, by omega, ?_⟩
    apply Int64.toInt_inj.mp
    rw [lN_ti (by omega)]
    omega
  · exact Or.inr h
theorem passAny_C {P : PM} {o : Nat} {v : NV} {s : SV} {t : Nat} (ho : o = 21 ∨ o = 32) (hn : CNet P 14 v) (hv : NVok v) (h : CSt P o s) (hs : SVok v s) (ht : t < 2000) :
    ∃ P', f_De_tryPass o (nI t) P = some (nI (aps v s t).1, P') ∧ CSt P' o (aps v s t).2 ∧ sm (on4 o) P P' := by
  by_cases c : t < vN v
  · exact tryPass_C ho hn hv h hs c
  · refine ⟨P, ?_, ?_, sm_refl⟩
    · unfold f_De_tryPass aps
      rw [isSt_C hn hv (by omega), if_neg c, if_neg c]
      rfl
    · unfold aps; rw [if_neg c]; exact h
theorem sleepAny_C {P : PM} {o : Nat} {v : NV} {s : SV} {t : Nat} (ho : o = 21 ∨ o = 32) (hn : CNet P 14 v) (hv : NVok v) (h : CSt P o s) (ht : t < 2000) :
    ∃ P', f_De_trySleep o (nI t) P = some (nI (asl v s t).1, P') ∧ CSt P' o (asl v s t).2 ∧ sm (on4 o) P P' := by
  by_cases c : t < vN v
  · obtain ⟨P', g1, g2, g3⟩ := trySleep_C ho hn hv h c
    refine ⟨P', ?_, g2, g3⟩
    rw [g1]; unfold asl; rw [if_pos c]
  · refine ⟨P, ?_, ?_, sm_refl⟩
    · unfold f_De_trySleep asl
      rw [isSt_C hn hv (by omega), if_neg c, if_neg c]
      rfl
    · unfold asl; rw [if_neg c]; exact h
theorem dullAny_C {P : PM} {o : Nat} {v : NV} {s : SV} {t n : Nat} (ho : o = 21 ∨ o = 32) (hn : CNet P 14 v) (hv : NVok v) (h : CSt P o s) (ht : t < 2000) (hq : n ≤ 9) :
    ∃ P', f_De_tryDull o (nI t) (nI n) P = some (nI (adl v s t n).1, P') ∧ CSt P' o (adl v s t n).2 ∧ sm (on4 o) P P' := by
  by_cases c : t < vN v
  · obtain ⟨P', g1, g2, g3⟩ := tryDull_C ho hn hv h c hq
    refine ⟨P', ?_, g2, g3⟩
    rw [g1]; unfold adl; rw [if_pos ⟨c, hq⟩]
  · have e : adl v s t n = (1, s) := by unfold adl; rw [if_neg (fun q => c q.1)]
    refine ⟨P, ?_, ?_, sm_refl⟩
    · unfold f_De_tryDull
      rw [isSt_C hn hv (by omega), if_neg c, e]
      rfl
    · rw [e]; exact h
theorem offAny_C {P : PM} {o : Nat} {v : NV} {s : SV} {t z : Nat} (ho : o = 21 ∨ o = 32) (hn : CNet P 14 v) (hv : NVok v) (h : CSt P o s) (ht : t < 2000) (hz : z < 2000) :
    ∃ P', f_De_tryOff o (nI t) (nI z) P = some (nI (aof v s t z).1, P') ∧ CSt P' o (aof v s t z).2 ∧ sm (on4 o) P P' := by
  by_cases c : t < vN v ∧ 1 ≤ z ∧ z ≤ 40
  · obtain ⟨P', g1, g2, g3⟩ := tryOff_C ho hn hv h c.1 c.2.1 c.2.2
    refine ⟨P', ?_, g2, g3⟩
    rw [g1]; unfold aof; rw [if_pos c]
  · refine ⟨P, ?_, ?_, sm_refl⟩
    · unfold f_De_tryOff aof
      rw [if_neg c]
      by_cases c1 : t < vN v
      · have e1 : f_Yr_isSize (nI z) P = nI 0 := by
          rw [isSz_C, nI_ti (by omega)]
          exact if_neg (fun q => c ⟨c1, by omega, by omega⟩)
        rw [isSt_C hn hv (by omega), if_pos c1, if_neg (by decide), e1]
        rfl
      · rw [isSt_C hn hv (by omega), if_neg c1]
        rfl
    · unfold aof; rw [if_neg c]; exact h
theorem tryDeed_C {P : PM} {o : Nat} {v : NV} {s : SV} (z : Int64) (ho : o = 21 ∨ o = 32) (hn : CNet P 14 v) (hv : NVok v) (h : CSt P o s) (hs : SVok v s) :
    ∃ P', f_De_tryDeed o z P = some (nI (dd v s z).1, P') ∧ CSt P' o (dd v s z).2 ∧ sm (on4 o) P P' := by
  rcases l_cases z with ⟨k, hk, rfl⟩ | hz
  · have hdd : dd v s (lN k) = dk v s k := by
      unfold dd
      rw [lN_ti (by omega), if_pos (by omega)]
      rfl
    have c1 : ¬ lg_cmp (lN k) 0 < 0 := fun q => by
      have := (lgc_lt _ _).mp q
      rw [lN_ti (by omega), show (0 : Int64).toInt = 0 from rfl] at this
      omega
    have c2 : lg_cmp (lN k) 1999 ≤ 0 := (lgc_le _ _).mpr (by rw [lN_ti (by omega), show (1999 : Int64).toInt = 1999 from rfl]; omega)
    rw [hdd]
    unfold f_De_tryDeed
    rw [if_neg c1, if_pos c2, lb_eq, lN_i]
    unfold dk
    by_cases h1 : k < 10
    · rw [if_neg (by simp (disch := omega) only [z_add, z_mul, z_sub, z_subm, z_addm, z_lt_t, z_lt_f, z_le_t, z_le_f, z_eq_t, z_eq_f, z_eqm, z_meq, z_mm, z_ltm, z_mlt, z_lem, z_mle, z_cl, z_ck, u1_1, u1_2, u2_1, u2_2, ↓reduceIte, Option.bind_some, Option.bind_none, bd2_some, lb_eq, and_true, and_false, true_and, false_and, not_true_eq_false, not_false_eq_true, eq_self_iff_true, if_true, if_false, Nat.reduceEqDiff, Nat.reduceAdd, Nat.reduceMul, Nat.reduceSub, Bool.false_eq_true, zl0, zl1, zl2, zl3, zl4, zl5, zl6, zl7, zl8, zl9, zl10, zl11, zl12, zl13, zl14, zl15, zl16, zl17, zl18, zl19, zl20, zl22, zl23, zl24, zl25, zl30, zl31, zl32, zl33, zl34, zl35, zl36, zl37, zl38, zl39, zl40, zl41, zl42, zl43, zl45, zl48, zl49, zl57, zl58, zl59, zl60, zl61, zl62, zl63, zl64, zl91, zl93, zl97, zl98, zl99, zl100, zl113, zl114, zl115, zl116, zl117, zl122, zl124, zl125, zl127, zl128, zl136, zl200, zl201, zl202, zl203, zl204, zl205, zl206, zl207, zl208, zl209, zl210, zl211, zl212, zl213, zl214, zl215, zl216, zl217, zl218, zl219, zl220, zl235, zl236, zl255, zl280, zl287, zl900, zl999, zl1000, zl1001, zl1136, zl1960, zl3000, zl3001, zl3002, zl3003, zl3004, zl3005, zl3006, zl3007, zl3008, zl3009, zl268435456, zl1000000000]), if_pos h1]
      obtain ⟨P', g1, g2, g3⟩ := passAny_C (t := k) ho hn hv h hs (by omega)
      exact ⟨P', by rw [g1]; rfl, g2, g3⟩
    rw [if_pos (by simp (disch := omega) only [z_add, z_mul, z_sub, z_subm, z_addm, z_lt_t, z_lt_f, z_le_t, z_le_f, z_eq_t, z_eq_f, z_eqm, z_meq, z_mm, z_ltm, z_mlt, z_lem, z_mle, z_cl, z_ck, u1_1, u1_2, u2_1, u2_2, ↓reduceIte, Option.bind_some, Option.bind_none, bd2_some, lb_eq, and_true, and_false, true_and, false_and, not_true_eq_false, not_false_eq_true, eq_self_iff_true, if_true, if_false, Nat.reduceEqDiff, Nat.reduceAdd, Nat.reduceMul, Nat.reduceSub, Bool.false_eq_true, zl0, zl1, zl2, zl3, zl4, zl5, zl6, zl7, zl8, zl9, zl10, zl11, zl12, zl13, zl14, zl15, zl16, zl17, zl18, zl19, zl20, zl22, zl23, zl24, zl25, zl30, zl31, zl32, zl33, zl34, zl35, zl36, zl37, zl38, zl39, zl40, zl41, zl42, zl43, zl45, zl48, zl49, zl57, zl58, zl59, zl60, zl61, zl62, zl63, zl64, zl91, zl93, zl97, zl98, zl99, zl100, zl113, zl114, zl115, zl116, zl117, zl122, zl124, zl125, zl127, zl128, zl136, zl200, zl201, zl202, zl203, zl204, zl205, zl206, zl207, zl208, zl209, zl210, zl211, zl212, zl213, zl214, zl215, zl216, zl217, zl218, zl219, zl220, zl235, zl236, zl255, zl280, zl287, zl900, zl999, zl1000, zl1001, zl1136, zl1960, zl3000, zl3001, zl3002, zl3003, zl3004, zl3005, zl3006, zl3007, zl3008, zl3009, zl268435456, zl1000000000]), if_neg h1]
    by_cases h2 : k < 20
    · rw [if_neg (by simp (disch := omega) only [z_add, z_mul, z_sub, z_subm, z_addm, z_lt_t, z_lt_f, z_le_t, z_le_f, z_eq_t, z_eq_f, z_eqm, z_meq, z_mm, z_ltm, z_mlt, z_lem, z_mle, z_cl, z_ck, u1_1, u1_2, u2_1, u2_2, ↓reduceIte, Option.bind_some, Option.bind_none, bd2_some, lb_eq, and_true, and_false, true_and, false_and, not_true_eq_false, not_false_eq_true, eq_self_iff_true, if_true, if_false, Nat.reduceEqDiff, Nat.reduceAdd, Nat.reduceMul, Nat.reduceSub, Bool.false_eq_true, zl0, zl1, zl2, zl3, zl4, zl5, zl6, zl7, zl8, zl9, zl10, zl11, zl12, zl13, zl14, zl15, zl16, zl17, zl18, zl19, zl20, zl22, zl23, zl24, zl25, zl30, zl31, zl32, zl33, zl34, zl35, zl36, zl37, zl38, zl39, zl40, zl41, zl42, zl43, zl45, zl48, zl49, zl57, zl58, zl59, zl60, zl61, zl62, zl63, zl64, zl91, zl93, zl97, zl98, zl99, zl100, zl113, zl114, zl115, zl116, zl117, zl122, zl124, zl125, zl127, zl128, zl136, zl200, zl201, zl202, zl203, zl204, zl205, zl206, zl207, zl208, zl209, zl210, zl211, zl212, zl213, zl214, zl215, zl216, zl217, zl218, zl219, zl220, zl235, zl236, zl255, zl280, zl287, zl900, zl999, zl1000, zl1001, zl1136, zl1960, zl3000, zl3001, zl3002, zl3003, zl3004, zl3005, zl3006, zl3007, zl3008, zl3009, zl268435456, zl1000000000]), if_pos h2, show (10 : Int32) = nI 10 from rfl, z_sub (by omega)]
      obtain ⟨P', g1, g2, g3⟩ := sleepAny_C (t := k - 10) ho hn hv h (by omega)
      exact ⟨P', by rw [g1]; rfl, g2, g3⟩
    rw [if_pos (by simp (disch := omega) only [z_add, z_mul, z_sub, z_subm, z_addm, z_lt_t, z_lt_f, z_le_t, z_le_f, z_eq_t, z_eq_f, z_eqm, z_meq, z_mm, z_ltm, z_mlt, z_lem, z_mle, z_cl, z_ck, u1_1, u1_2, u2_1, u2_2, ↓reduceIte, Option.bind_some, Option.bind_none, bd2_some, lb_eq, and_true, and_false, true_and, false_and, not_true_eq_false, not_false_eq_true, eq_self_iff_true, if_true, if_false, Nat.reduceEqDiff, Nat.reduceAdd, Nat.reduceMul, Nat.reduceSub, Bool.false_eq_true, zl0, zl1, zl2, zl3, zl4, zl5, zl6, zl7, zl8, zl9, zl10, zl11, zl12, zl13, zl14, zl15, zl16, zl17, zl18, zl19, zl20, zl22, zl23, zl24, zl25, zl30, zl31, zl32, zl33, zl34, zl35, zl36, zl37, zl38, zl39, zl40, zl41, zl42, zl43, zl45, zl48, zl49, zl57, zl58, zl59, zl60, zl61, zl62, zl63, zl64, zl91, zl93, zl97, zl98, zl99, zl100, zl113, zl114, zl115, zl116, zl117, zl122, zl124, zl125, zl127, zl128, zl136, zl200, zl201, zl202, zl203, zl204, zl205, zl206, zl207, zl208, zl209, zl210, zl211, zl212, zl213, zl214, zl215, zl216, zl217, zl218, zl219, zl220, zl235, zl236, zl255, zl280, zl287, zl900, zl999, zl1000, zl1001, zl1136, zl1960, zl3000, zl3001, zl3002, zl3003, zl3004, zl3005, zl3006, zl3007, zl3008, zl3009, zl268435456, zl1000000000]), if_neg h2]
    by_cases h3 : 1000 ≤ k
    · rw [if_neg (by simp (disch := omega) only [z_add, z_mul, z_sub, z_subm, z_addm, z_lt_t, z_lt_f, z_le_t, z_le_f, z_eq_t, z_eq_f, z_eqm, z_meq, z_mm, z_ltm, z_mlt, z_lem, z_mle, z_cl, z_ck, u1_1, u1_2, u2_1, u2_2, ↓reduceIte, Option.bind_some, Option.bind_none, bd2_some, lb_eq, and_true, and_false, true_and, false_and, not_true_eq_false, not_false_eq_true, eq_self_iff_true, if_true, if_false, Nat.reduceEqDiff, Nat.reduceAdd, Nat.reduceMul, Nat.reduceSub, Bool.false_eq_true, zl0, zl1, zl2, zl3, zl4, zl5, zl6, zl7, zl8, zl9, zl10, zl11, zl12, zl13, zl14, zl15, zl16, zl17, zl18, zl19, zl20, zl22, zl23, zl24, zl25, zl30, zl31, zl32, zl33, zl34, zl35, zl36, zl37, zl38, zl39, zl40, zl41, zl42, zl43, zl45, zl48, zl49, zl57, zl58, zl59, zl60, zl61, zl62, zl63, zl64, zl91, zl93, zl97, zl98, zl99, zl100, zl113, zl114, zl115, zl116, zl117, zl122, zl124, zl125, zl127, zl128, zl136, zl200, zl201, zl202, zl203, zl204, zl205, zl206, zl207, zl208, zl209, zl210, zl211, zl212, zl213, zl214, zl215, zl216, zl217, zl218, zl219, zl220, zl235, zl236, zl255, zl280, zl287, zl900, zl999, zl1000, zl1001, zl1136, zl1960, zl3000, zl3001, zl3002, zl3003, zl3004, zl3005, zl3006, zl3007, zl3008, zl3009, zl268435456, zl1000000000]), if_pos h3, show (1000 : Int32) = nI 1000 from rfl, z_sub (by omega), show (100 : Int32) = nI 100 from rfl, pk_div (by omega) (by omega) (by omega), pk_rem (by omega) (by omega) (by omega)]
      obtain ⟨P', g1, g2, g3⟩ := offAny_C (t := (k - 1000) / 100) (z := k % 100) ho hn hv h (by omega) (by omega)
      exact ⟨P', by rw [g1]; rfl, g2, g3⟩
    rw [if_pos (by simp (disch := omega) only [z_add, z_mul, z_sub, z_subm, z_addm, z_lt_t, z_lt_f, z_le_t, z_le_f, z_eq_t, z_eq_f, z_eqm, z_meq, z_mm, z_ltm, z_mlt, z_lem, z_mle, z_cl, z_ck, u1_1, u1_2, u2_1, u2_2, ↓reduceIte, Option.bind_some, Option.bind_none, bd2_some, lb_eq, and_true, and_false, true_and, false_and, not_true_eq_false, not_false_eq_true, eq_self_iff_true, if_true, if_false, Nat.reduceEqDiff, Nat.reduceAdd, Nat.reduceMul, Nat.reduceSub, Bool.false_eq_true, zl0, zl1, zl2, zl3, zl4, zl5, zl6, zl7, zl8, zl9, zl10, zl11, zl12, zl13, zl14, zl15, zl16, zl17, zl18, zl19, zl20, zl22, zl23, zl24, zl25, zl30, zl31, zl32, zl33, zl34, zl35, zl36, zl37, zl38, zl39, zl40, zl41, zl42, zl43, zl45, zl48, zl49, zl57, zl58, zl59, zl60, zl61, zl62, zl63, zl64, zl91, zl93, zl97, zl98, zl99, zl100, zl113, zl114, zl115, zl116, zl117, zl122, zl124, zl125, zl127, zl128, zl136, zl200, zl201, zl202, zl203, zl204, zl205, zl206, zl207, zl208, zl209, zl210, zl211, zl212, zl213, zl214, zl215, zl216, zl217, zl218, zl219, zl220, zl235, zl236, zl255, zl280, zl287, zl900, zl999, zl1000, zl1001, zl1136, zl1960, zl3000, zl3001, zl3002, zl3003, zl3004, zl3005, zl3006, zl3007, zl3008, zl3009, zl268435456, zl1000000000]), if_neg h3]
    by_cases h4 : k < 100
    · rw [if_pos (by simp (disch := omega) only [z_add, z_mul, z_sub, z_subm, z_addm, z_lt_t, z_lt_f, z_le_t, z_le_f, z_eq_t, z_eq_f, z_eqm, z_meq, z_mm, z_ltm, z_mlt, z_lem, z_mle, z_cl, z_ck, u1_1, u1_2, u2_1, u2_2, ↓reduceIte, Option.bind_some, Option.bind_none, bd2_some, lb_eq, and_true, and_false, true_and, false_and, not_true_eq_false, not_false_eq_true, eq_self_iff_true, if_true, if_false, Nat.reduceEqDiff, Nat.reduceAdd, Nat.reduceMul, Nat.reduceSub, Bool.false_eq_true, zl0, zl1, zl2, zl3, zl4, zl5, zl6, zl7, zl8, zl9, zl10, zl11, zl12, zl13, zl14, zl15, zl16, zl17, zl18, zl19, zl20, zl22, zl23, zl24, zl25, zl30, zl31, zl32, zl33, zl34, zl35, zl36, zl37, zl38, zl39, zl40, zl41, zl42, zl43, zl45, zl48, zl49, zl57, zl58, zl59, zl60, zl61, zl62, zl63, zl64, zl91, zl93, zl97, zl98, zl99, zl100, zl113, zl114, zl115, zl116, zl117, zl122, zl124, zl125, zl127, zl128, zl136, zl200, zl201, zl202, zl203, zl204, zl205, zl206, zl207, zl208, zl209, zl210, zl211, zl212, zl213, zl214, zl215, zl216, zl217, zl218, zl219, zl220, zl235, zl236, zl255, zl280, zl287, zl900, zl999, zl1000, zl1001, zl1136, zl1960, zl3000, zl3001, zl3002, zl3003, zl3004, zl3005, zl3006, zl3007, zl3008, zl3009, zl268435456, zl1000000000]), if_neg (by omega)]
      exact ⟨P, rfl, h, sm_refl⟩
    rw [if_neg (by simp (disch := omega) only [z_add, z_mul, z_sub, z_subm, z_addm, z_lt_t, z_lt_f, z_le_t, z_le_f, z_eq_t, z_eq_f, z_eqm, z_meq, z_mm, z_ltm, z_mlt, z_lem, z_mle, z_cl, z_ck, u1_1, u1_2, u2_1, u2_2, ↓reduceIte, Option.bind_some, Option.bind_none, bd2_some, lb_eq, and_true, and_false, true_and, false_and, not_true_eq_false, not_false_eq_true, eq_self_iff_true, if_true, if_false, Nat.reduceEqDiff, Nat.reduceAdd, Nat.reduceMul, Nat.reduceSub, Bool.false_eq_true, zl0, zl1, zl2, zl3, zl4, zl5, zl6, zl7, zl8, zl9, zl10, zl11, zl12, zl13, zl14, zl15, zl16, zl17, zl18, zl19, zl20, zl22, zl23, zl24, zl25, zl30, zl31, zl32, zl33, zl34, zl35, zl36, zl37, zl38, zl39, zl40, zl41, zl42, zl43, zl45, zl48, zl49, zl57, zl58, zl59, zl60, zl61, zl62, zl63, zl64, zl91, zl93, zl97, zl98, zl99, zl100, zl113, zl114, zl115, zl116, zl117, zl122, zl124, zl125, zl127, zl128, zl136, zl200, zl201, zl202, zl203, zl204, zl205, zl206, zl207, zl208, zl209, zl210, zl211, zl212, zl213, zl214, zl215, zl216, zl217, zl218, zl219, zl220, zl235, zl236, zl255, zl280, zl287, zl900, zl999, zl1000, zl1001, zl1136, zl1960, zl3000, zl3001, zl3002, zl3003, zl3004, zl3005, zl3006, zl3007, zl3008, zl3009, zl268435456, zl1000000000])]
    by_cases h5 : 200 ≤ k
    · rw [if_pos (by simp (disch := omega) only [z_add, z_mul, z_sub, z_subm, z_addm, z_lt_t, z_lt_f, z_le_t, z_le_f, z_eq_t, z_eq_f, z_eqm, z_meq, z_mm, z_ltm, z_mlt, z_lem, z_mle, z_cl, z_ck, u1_1, u1_2, u2_1, u2_2, ↓reduceIte, Option.bind_some, Option.bind_none, bd2_some, lb_eq, and_true, and_false, true_and, false_and, not_true_eq_false, not_false_eq_true, eq_self_iff_true, if_true, if_false, Nat.reduceEqDiff, Nat.reduceAdd, Nat.reduceMul, Nat.reduceSub, Bool.false_eq_true, zl0, zl1, zl2, zl3, zl4, zl5, zl6, zl7, zl8, zl9, zl10, zl11, zl12, zl13, zl14, zl15, zl16, zl17, zl18, zl19, zl20, zl22, zl23, zl24, zl25, zl30, zl31, zl32, zl33, zl34, zl35, zl36, zl37, zl38, zl39, zl40, zl41, zl42, zl43, zl45, zl48, zl49, zl57, zl58, zl59, zl60, zl61, zl62, zl63, zl64, zl91, zl93, zl97, zl98, zl99, zl100, zl113, zl114, zl115, zl116, zl117, zl122, zl124, zl125, zl127, zl128, zl136, zl200, zl201, zl202, zl203, zl204, zl205, zl206, zl207, zl208, zl209, zl210, zl211, zl212, zl213, zl214, zl215, zl216, zl217, zl218, zl219, zl220, zl235, zl236, zl255, zl280, zl287, zl900, zl999, zl1000, zl1001, zl1136, zl1960, zl3000, zl3001, zl3002, zl3003, zl3004, zl3005, zl3006, zl3007, zl3008, zl3009, zl268435456, zl1000000000]), if_neg (by omega)]
      exact ⟨P, rfl, h, sm_refl⟩
    rw [if_neg (by simp (disch := omega) only [z_add, z_mul, z_sub, z_subm, z_addm, z_lt_t, z_lt_f, z_le_t, z_le_f, z_eq_t, z_eq_f, z_eqm, z_meq, z_mm, z_ltm, z_mlt, z_lem, z_mle, z_cl, z_ck, u1_1, u1_2, u2_1, u2_2, ↓reduceIte, Option.bind_some, Option.bind_none, bd2_some, lb_eq, and_true, and_false, true_and, false_and, not_true_eq_false, not_false_eq_true, eq_self_iff_true, if_true, if_false, Nat.reduceEqDiff, Nat.reduceAdd, Nat.reduceMul, Nat.reduceSub, Bool.false_eq_true, zl0, zl1, zl2, zl3, zl4, zl5, zl6, zl7, zl8, zl9, zl10, zl11, zl12, zl13, zl14, zl15, zl16, zl17, zl18, zl19, zl20, zl22, zl23, zl24, zl25, zl30, zl31, zl32, zl33, zl34, zl35, zl36, zl37, zl38, zl39, zl40, zl41, zl42, zl43, zl45, zl48, zl49, zl57, zl58, zl59, zl60, zl61, zl62, zl63, zl64, zl91, zl93, zl97, zl98, zl99, zl100, zl113, zl114, zl115, zl116, zl117, zl122, zl124, zl125, zl127, zl128, zl136, zl200, zl201, zl202, zl203, zl204, zl205, zl206, zl207, zl208, zl209, zl210, zl211, zl212, zl213, zl214, zl215, zl216, zl217, zl218, zl219, zl220, zl235, zl236, zl255, zl280, zl287, zl900, zl999, zl1000, zl1001, zl1136, zl1960, zl3000, zl3001, zl3002, zl3003, zl3004, zl3005, zl3006, zl3007, zl3008, zl3009, zl268435456, zl1000000000]), if_pos (by omega), show (100 : Int32) = nI 100 from rfl, z_sub (by omega), show (10 : Int32) = nI 10 from rfl, pk_div (by omega) (by omega) (by omega), pk_rem (by omega) (by omega) (by omega)]
    obtain ⟨P', g1, g2, g3⟩ := dullAny_C (t := (k - 100) / 10) (n := k % 10) ho hn hv h (by omega) (by omega)
    exact ⟨P', by rw [g1]; rfl, g2, g3⟩
  · have hdd : dd v s z = (1, s) := by
      unfold dd
      rw [if_neg hz]
    rw [hdd]
    refine ⟨P, ?_, h, sm_refl⟩
    unfold f_De_tryDeed
    by_cases c1 : lg_cmp z 0 < 0
    · rw [if_pos c1]; rfl
    · have c3 : ¬ z.toInt < 0 := fun q => c1 ((lgc_lt _ _).mpr q)
      rw [if_neg c1, if_neg (fun q => by
        have := (lgc_le _ _).mp q
        rw [show (1999 : Int64).toInt = 1999 from rfl] at this
        omega)]
      rfl
/-- deeds of a row, from place i on, so many at most: why it stopped, where, and the state then -/
noncomputable def drun (v : NV) (num : Nat → Int64) : Nat → Nat → SV → Nat × Nat × SV
  | 0, i, s => (0, i, s)
  | n + 1, i, s => if (dd v s (num i)).1 = 0 then drun v num n (i + 1) (dd v s (num i)).2 else ((dd v s (num i)).1, i, s)
theorem dd_n {v : NV} {s : SV} {z : Int64} (h : (dd v s z).1 ≠ 0) : (dd v s z).2 = s := by
  unfold dd at *
  split at h
  · rename_i c
    rw [if_pos c]
    unfold dk at *
    split at h
    · rename_i c1; rw [if_pos c1]; exact aps_n h
    · rename_i c1
      rw [if_neg c1]
      split at h
      · rename_i c2; rw [if_pos c2]; exact asl_n h
      · rename_i c2
        rw [if_neg c2]
        split at h
        · rename_i c3; rw [if_pos c3]; exact aof_n h
        · rename_i c3
          rw [if_neg c3]
          split at h
          · rename_i c4; rw [if_pos c4]; exact adl_n h
          · rename_i c4; rw [if_neg c4]
  · rename_i c; rw [if_neg c]
theorem drun_lt {v : NV} {num : Nat → Int64} : ∀ {n i : Nat} {s : SV}, (drun v num n i s).1 < 5
  | 0, _, _ => by show 0 < 5; decide
  | n + 1, i, s => by
    unfold drun
    split
    · exact drun_lt
    · exact dd_lt
theorem drun_ok {v : NV} {num : Nat → Int64} : ∀ {n i : Nat} {s : SV}, SVok v s → SVok v (drun v num n i s).2.2
  | 0, _, _, h => h
  | n + 1, i, s, h => by
    unfold drun
    split
    · exact drun_ok (dd_ok h)
    · exact h
theorem drun_i {v : NV} {num : Nat → Int64} : ∀ {n i : Nat} {s : SV}, i ≤ (drun v num n i s).2.1 ∧ (drun v num n i s).2.1 ≤ i + n ∧ ((drun v num n i s).1 = 0 → (drun v num n i s).2.1 = i + n) ∧ ((drun v num n i s).1 ≠ 0 → (drun v num n i s).2.1 < i + n)
  | 0, _, _ => ⟨Nat.le_refl _, Nat.le_refl _, fun _ => rfl, fun h => absurd rfl h⟩
  | n + 1, i, s => by
    unfold drun
    split
    · have := @drun_i v num n (i + 1) (dd v s (num i)).2
      omega
    · rename_i c
      exact ⟨Nat.le_refl _, by show i ≤ _; omega, fun h => absurd h c, fun _ => by show i < _; omega⟩
theorem drun_0 {v : NV} {num : Nat → Int64} : ∀ {n i : Nat} {s : SV}, (drun v num n i s).2.1 = i → (drun v num n i s).2.2 = s
  | 0, _, _, _ => rfl
  | n + 1, i, s, h => by
    unfold drun at *
    split at h
    · have := (@drun_i v num n (i + 1) (dd v s (num i)).2).1
      omega
    · rename_i c; rw [if_neg c]
def tr4 (o : Nat) : Nat → Bool := fun q => on4 o q || q == 31
theorem tryAll_l {o k : Nat} {v : NV} {t : TV} (ho : o = 21 ∨ o = 32) (hv : NVok v) (hk : k < 4) (h40 : (t k).2.1 ≤ 40) : ∀ (m n i : Nat) (s : SV) (P : PM), i + m = (t k).2.1 → m < n → CNet P 14 v → CTr P t → CSt P o s → SVok v s → P.1 31 4 = nI 0 →
    ∃ P', l_De_tryAll_20 o n (nI k) (nI (t k).2.1) (nI i) (nI i) P = some (nI (drun v (t k).2.2 m i s).2.1, P') ∧ CSt P' o (drun v (t k).2.2 m i s).2.2 ∧ P'.1 31 4 = nI (drun v (t k).2.2 m i s).1 ∧ sm (tr4 o) P P' ∧ P'.1 31 5 = P.1 31 5 ∧ P'.1 31 7 = P.1 31 7 := by
  intro m
  induction m with
  | zero =>
    intro n i s P hi hn h1 h2 h3 hs h4
    obtain ⟨n, rfl⟩ : ∃ q, n = q + 1 := ⟨n - 1, by omega⟩
    rw [l_De_tryAll_20]
    refine ⟨P, ?_, h3, h4, sm_refl, rfl, rfl⟩
    rw [if_pos (by rw [← hi]; exact nI_le (by omega) (by omega))]
    rfl
  | succ m ih =>
    intro n i s P hi hn h1 h2 h3 hs h4
    obtain ⟨n, rfl⟩ : ∃ q, n = q + 1 := ⟨n - 1, by omega⟩
    rw [l_De_tryAll_20, if_neg (nI_ge (by omega) (by omega)), if_pos (by rw [h4]; rfl), num_C h2 hk (by omega) (by omega), Option.bind_some]
    obtain ⟨P1, g1, g2, g3⟩ := tryDeed_C ((t k).2.2 i) ho h1 hv h3 hs
    have hlt := @dd_lt v s ((t k).2.2 i)
    rw [g1, bd2_some]
    have hP2 : (u1 P1 31 4 (nI (dd v s ((t k).2.2 i)).1)).1 31 4 = nI (dd v s ((t k).2.2 i)).1 := by rw [u1_1, if_pos ⟨rfl, rfl⟩]
    have hs2 : sm (tr4 o) P (u1 P1 31 4 (nI (dd v s ((t k).2.2 i)).1)) := sm_u1 (sm_mono g3 (fun q hq => by simp [tr4] at hq; exact hq.1)) (by simp [tr4])
    have hc2 : CSt (u1 P1 31 4 (nI (dd v s ((t k).2.2 i)).1)) o (dd v s ((t k).2.2 i)).2 := CSt_sm g2 (S := fun q => q == 31) (sm_u1 sm_refl rfl) (by rcases ho with rfl | rfl <;> rfl) (by rcases ho with rfl | rfl <;> rfl)
    have h5 : (u1 P1 31 4 (nI (dd v s ((t k).2.2 i)).1)).1 31 5 = P.1 31 5 := by rw [u1_1, if_neg (by omega), g3.1 31 (by rcases ho with rfl | rfl <;> rfl)]
    have h7 : (u1 P1 31 4 (nI (dd v s ((t k).2.2 i)).1)).1 31 7 = P.1 31 7 := by rw [u1_1, if_neg (by omega), g3.1 31 (by rcases ho with rfl | rfl <;> rfl)]
    rw [hP2]
    unfold j_De_tryAll_66
    by_cases c : (dd v s ((t k).2.2 i)).1 = 0
    · have hn2 : CNet (u1 P1 31 4 (nI (dd v s ((t k).2.2 i)).1)) 14 v := CNet_sm h1 hs2 (by rcases ho with rfl | rfl <;> rfl) (by rcases ho with rfl | rfl <;> rfl) (by rcases ho with rfl | rfl <;> rfl) (by rcases ho with rfl | rfl <;> rfl) (by rcases ho with rfl | rfl <;> rfl)
      have ht2 : CTr (u1 P1 31 4 (nI (dd v s ((t k).2.2 i)).1)) t := CTr_sm h2 hs2 (by rcases ho with rfl | rfl <;> rfl) (by rcases ho with rfl | rfl <;> rfl) (fun j hj => by simp [tr4, on4]; omega)
      obtain ⟨P2, k1, k2, k3, k4, k5, k6⟩ := ih n (i + 1) (dd v s ((t k).2.2 i)).2 _ (by omega) (by omega) hn2 ht2 hc2 (dd_ok hs) (by rw [hP2, c])
      have hd : drun v (t k).2.2 (m + 1) i s = drun v (t k).2.2 m (i + 1) (dd v s ((t k).2.2 i)).2 := by
        rw [drun, if_pos c]
      rw [hd, if_pos (by rw [c]; rfl), lb_eq, show (1 : Int32) = nI 1 from rfl, nI_add]
      exact ⟨P2, k1, k2, k3, sm_trans hs2 k4, k5.trans h5, k6.trans h7⟩
    · have hd : drun v (t k).2.2 (m + 1) i s = ((dd v s ((t k).2.2 i)).1, i, s) := by
        rw [drun, if_neg c]
      obtain ⟨n, rfl⟩ : ∃ q, n = q + 1 := ⟨n - 1, by omega⟩
      rw [hd, if_neg (by simp (disch := omega) only [z_add, z_mul, z_sub, z_subm, z_addm, z_lt_t, z_lt_f, z_le_t, z_le_f, z_eq_t, z_eq_f, z_eqm, z_meq, z_mm, z_ltm, z_mlt, z_lem, z_mle, z_cl, z_ck, u1_1, u1_2, u2_1, u2_2, ↓reduceIte, Option.bind_some, Option.bind_none, bd2_some, lb_eq, and_true, and_false, true_and, false_and, not_true_eq_false, not_false_eq_true, eq_self_iff_true, if_true, if_false, Nat.reduceEqDiff, Nat.reduceAdd, Nat.reduceMul, Nat.reduceSub, Bool.false_eq_true, zl0, zl1, zl2, zl3, zl4, zl5, zl6, zl7, zl8, zl9, zl10, zl11, zl12, zl13, zl14, zl15, zl16, zl17, zl18, zl19, zl20, zl22, zl23, zl24, zl25, zl30, zl31, zl32, zl33, zl34, zl35, zl36, zl37, zl38, zl39, zl40, zl41, zl42, zl43, zl45, zl48, zl49, zl57, zl58, zl59, zl60, zl61, zl62, zl63, zl64, zl91, zl93, zl97, zl98, zl99, zl100, zl113, zl114, zl115, zl116, zl117, zl122, zl124, zl125, zl127, zl128, zl136, zl200, zl201, zl202, zl203, zl204, zl205, zl206, zl207, zl208, zl209, zl210, zl211, zl212, zl213, zl214, zl215, zl216, zl217, zl218, zl219, zl220, zl235, zl236, zl255, zl280, zl287, zl900, zl999, zl1000, zl1001, zl1136, zl1960, zl3000, zl3001, zl3002, zl3003, zl3004, zl3005, zl3006, zl3007, zl3008, zl3009, zl268435456, zl1000000000]), lb_eq, show (0 : Int32) = nI 0 from rfl, nI_add, show (1 : Int32) = nI 1 from rfl, nI_add, Nat.add_zero]
      refine ⟨_, ?_, ?_, hP2, hs2, h5, h7⟩
      · show l_De_tryAll_20 o (n + 1) _ _ _ _ _ = _
        rw [l_De_tryAll_20]
        by_cases c2 : (t k).2.1 ≤ i + 1
        · rw [if_pos (nI_le c2 (by omega))]; rfl
        · rw [if_neg (nI_ge (by omega) (by omega)), if_neg (by rw [hP2]; simp (disch := omega) only [z_add, z_mul, z_sub, z_subm, z_addm, z_lt_t, z_lt_f, z_le_t, z_le_f, z_eq_t, z_eq_f, z_eqm, z_meq, z_mm, z_ltm, z_mlt, z_lem, z_mle, z_cl, z_ck, u1_1, u1_2, u2_1, u2_2, ↓reduceIte, Option.bind_some, Option.bind_none, bd2_some, lb_eq, and_true, and_false, true_and, false_and, not_true_eq_false, not_false_eq_true, eq_self_iff_true, if_true, if_false, Nat.reduceEqDiff, Nat.reduceAdd, Nat.reduceMul, Nat.reduceSub, Bool.false_eq_true, zl0, zl1, zl2, zl3, zl4, zl5, zl6, zl7, zl8, zl9, zl10, zl11, zl12, zl13, zl14, zl15, zl16, zl17, zl18, zl19, zl20, zl22, zl23, zl24, zl25, zl30, zl31, zl32, zl33, zl34, zl35, zl36, zl37, zl38, zl39, zl40, zl41, zl42, zl43, zl45, zl48, zl49, zl57, zl58, zl59, zl60, zl61, zl62, zl63, zl64, zl91, zl93, zl97, zl98, zl99, zl100, zl113, zl114, zl115, zl116, zl117, zl122, zl124, zl125, zl127, zl128, zl136, zl200, zl201, zl202, zl203, zl204, zl205, zl206, zl207, zl208, zl209, zl210, zl211, zl212, zl213, zl214, zl215, zl216, zl217, zl218, zl219, zl220, zl235, zl236, zl255, zl280, zl287, zl900, zl999, zl1000, zl1001, zl1136, zl1960, zl3000, zl3001, zl3002, zl3003, zl3004, zl3005, zl3006, zl3007, zl3008, zl3009, zl268435456, zl1000000000])]; rfl
      · rw [dd_n c] at hc2; exact hc2
