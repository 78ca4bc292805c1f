/-! reading a net: ways, at, laws -/
theorem bd2_id (o : Option (Int32 × PM)) : bd2 o (fun v P => some (v, P)) = o := by cases o <;> rfl
theorem nbc_told {γ : GT} {f p : Nat} {x : Int32} {P : PM} (h : NBc γ f p P) : ∃ P', f_Nr_readTold x P = some (nI 0, P') ∧ NBc γ f p P' := by
  obtain ⟨P', a1, a2⟩ := nbc_take (lo := (0 : Int32)) (hi := P.1 4 0 - 1) h
  refine ⟨P', ?_, a2⟩
  unfold f_Nr_readTold j_Nr_readTold_30
  rw [if_neg (show P.1 1 5 ≠ (1 : Int32) from nbc_tk (j := 23) h (by unfold kok; omega) (by omega)), bd2_id, a1]; rfl
theorem told_C {γ : GT} {nc nm : Nat} {sc sm_ : SV} {v : NV} {c k p q d : Nat} {x : Int32} {Pc Pm : PM} (h : NX γ nc nm sc sm_ v c k p q d Pc Pm) (hx : ¬ (k = 23 ∧ Pc.1 1 6 = x)) : f_Nr_readTold x Pc = f_Ta_takeNumber (nI 0) (nI nc - nI 1) Pc := by
  have t23 : Pc.1 1 5 = (1 : Int32) ↔ k = 23 := tk_C (j := 23) h.2.2.1 (by unfold kok; omega)
  have e : j_Nr_readTold_30 Pc = f_Ta_takeNumber (nI 0) (nI nc - nI 1) Pc := by
    unfold j_Nr_readTold_30
    rw [bd2_id, h.2.2.2.1.1]; rfl
  unfold f_Nr_readTold
  by_cases c1 : k = 23
  · rw [if_pos (t23.mpr c1), if_neg (fun q => hx ⟨c1, q⟩)]; exact e
  · rw [if_neg (fun q => c1 (t23.mp q))]; exact e
theorem isS_N {N a : Nat} {P : PM} (h : P.1 4 0 = nI N) (hN : N ≤ 7) (ha : a < 2000) : f_Ne_isStation 4 (nI a) P = nI (if a < N then 1 else 0) := by
  unfold f_Ne_isStation j_Ne_isStation_16
  rw [h, if_neg (by simp (disch := omega) only [z_add, z_mul, z_sub, z_subm, z_addm, z_lt_t, z_lt_f, z_le_t, z_le_f, z_eq_t, z_eq_f, z_eqm, z_meq, z_mm, z_ltm, z_mlt, z_lem, z_mle, z_cl, z_ck, u1_1, u1_2, u2_1, u2_2, ↓reduceIte, Option.bind_some, Option.bind_none, bd2_some, lb_eq, and_true, and_false, true_and, false_and, not_true_eq_false, not_false_eq_true, eq_self_iff_true, if_true, if_false, Nat.reduceEqDiff, Nat.reduceAdd, Nat.reduceMul, Nat.reduceSub, Bool.false_eq_true, zl0, zl1, zl2, zl3, zl4, zl5, zl6, zl7, zl8, zl9, zl10, zl11, zl12, zl13, zl14, zl15, zl16, zl17, zl18, zl19, zl20, zl22, zl23, zl24, zl25, zl30, zl31, zl32, zl33, zl34, zl35, zl36, zl37, zl38, zl39, zl40, zl41, zl42, zl43, zl45, zl48, zl49, zl57, zl58, zl59, zl60, zl61, zl62, zl63, zl64, zl91, zl93, zl97, zl98, zl99, zl100, zl113, zl114, zl115, zl116, zl117, zl122, zl124, zl125, zl127, zl128, zl136, zl200, zl201, zl202, zl203, zl204, zl205, zl206, zl207, zl208, zl209, zl210, zl211, zl212, zl213, zl214, zl215, zl216, zl217, zl218, zl219, zl220, zl235, zl236, zl255, zl280, zl287, zl900, zl999, zl1000, zl1001, zl1136, zl1960, zl3000, zl3001, zl3002, zl3003, zl3004, zl3005, zl3006, zl3007, zl3008, zl3009, zl268435456, zl1000000000])]
  by_cases c : a < N
  · rw [if_neg (by simp (disch := omega) only [z_add, z_mul, z_sub, z_subm, z_addm, z_lt_t, z_lt_f, z_le_t, z_le_f, z_eq_t, z_eq_f, z_eqm, z_meq, z_mm, z_ltm, z_mlt, z_lem, z_mle, z_cl, z_ck, u1_1, u1_2, u2_1, u2_2, ↓reduceIte, Option.bind_some, Option.bind_none, bd2_some, lb_eq, and_true, and_false, true_and, false_and, not_true_eq_false, not_false_eq_true, eq_self_iff_true, if_true, if_false, Nat.reduceEqDiff, Nat.reduceAdd, Nat.reduceMul, Nat.reduceSub, Bool.false_eq_true, zl0, zl1, zl2, zl3, zl4, zl5, zl6, zl7, zl8, zl9, zl10, zl11, zl12, zl13, zl14, zl15, zl16, zl17, zl18, zl19, zl20, zl22, zl23, zl24, zl25, zl30, zl31, zl32, zl33, zl34, zl35, zl36, zl37, zl38, zl39, zl40, zl41, zl42, zl43, zl45, zl48, zl49, zl57, zl58, zl59, zl60, zl61, zl62, zl63, zl64, zl91, zl93, zl97, zl98, zl99, zl100, zl113, zl114, zl115, zl116, zl117, zl122, zl124, zl125, zl127, zl128, zl136, zl200, zl201, zl202, zl203, zl204, zl205, zl206, zl207, zl208, zl209, zl210, zl211, zl212, zl213, zl214, zl215, zl216, zl217, zl218, zl219, zl220, zl235, zl236, zl255, zl280, zl287, zl900, zl999, zl1000, zl1001, zl1136, zl1960, zl3000, zl3001, zl3002, zl3003, zl3004, zl3005, zl3006, zl3007, zl3008, zl3009, zl268435456, zl1000000000]), if_pos c]; rfl
  · rw [if_pos (by simp (disch := omega) only [z_add, z_mul, z_sub, z_subm, z_addm, z_lt_t, z_lt_f, z_le_t, z_le_f, z_eq_t, z_eq_f, z_eqm, z_meq, z_mm, z_ltm, z_mlt, z_lem, z_mle, z_cl, z_ck, u1_1, u1_2, u2_1, u2_2, ↓reduceIte, Option.bind_some, Option.bind_none, bd2_some, lb_eq, and_true, and_false, true_and, false_and, not_true_eq_false, not_false_eq_true, eq_self_iff_true, if_true, if_false, Nat.reduceEqDiff, Nat.reduceAdd, Nat.reduceMul, Nat.reduceSub, Bool.false_eq_true, zl0, zl1, zl2, zl3, zl4, zl5, zl6, zl7, zl8, zl9, zl10, zl11, zl12, zl13, zl14, zl15, zl16, zl17, zl18, zl19, zl20, zl22, zl23, zl24, zl25, zl30, zl31, zl32, zl33, zl34, zl35, zl36, zl37, zl38, zl39, zl40, zl41, zl42, zl43, zl45, zl48, zl49, zl57, zl58, zl59, zl60, zl61, zl62, zl63, zl64, zl91, zl93, zl97, zl98, zl99, zl100, zl113, zl114, zl115, zl116, zl117, zl122, zl124, zl125, zl127, zl128, zl136, zl200, zl201, zl202, zl203, zl204, zl205, zl206, zl207, zl208, zl209, zl210, zl211, zl212, zl213, zl214, zl215, zl216, zl217, zl218, zl219, zl220, zl235, zl236, zl255, zl280, zl287, zl900, zl999, zl1000, zl1001, zl1136, zl1960, zl3000, zl3001, zl3002, zl3003, zl3004, zl3005, zl3006, zl3007, zl3008, zl3009, zl268435456, zl1000000000]), if_neg c]; rfl
theorem setWay_B {γ : GT} {f p a b : Nat} {h o : Int32} {P : PM} (hB : NBc γ f p P) (ha : a < 7) (hb : b < 7) : ∃ P', f_Ne_setWay 4 (nI a) (nI b) h o P = some P' ∧ NBc γ f p P' := by
  obtain ⟨N, n1, n2⟩ := hB.2.2.1
  unfold f_Ne_setWay
  split
  · exact ⟨P, rfl, hB⟩
  · split
    · exact ⟨P, rfl, hB⟩
    · rw [show (7 : Int32) = nI 7 from rfl, z_mul, z_add, z_ck (by omega) (by omega), z_ck (by omega) (by omega)]
      exact ⟨_, rfl, NBc_u (NBc_u hB (by omega)) (by omega)⟩
theorem way_bC {γ : GT} {f p a b : Nat} {h o i : Int32} {P : PM} (hB : NBc γ f p P) (ha : a < 7) (hb : b < 7) (n : Nat) : ∃ P', l_Nr_readWay_27 (n + 1) (nI a) (nI b) h o i P = some P' ∧ NBc γ f p P' := by
  obtain ⟨P', a1, a2⟩ := setWay_B (h := h) (o := o) hB ha hb
  refine ⟨P', ?_, a2⟩
  have e : j_Nr_readWay_125 (nI a) (nI b) h o P = some P' := by
    unfold j_Nr_readWay_125
    rw [a1]; rfl
  rw [l_Nr_readWay_27]
  split
  · exact e
  · rw [hB.2.1.2.2.1, if_neg (by decide), if_neg (by decide)]; exact e
theorem way_124 {γ : GT} {f p : Nat} {x y h o : Int32} {P : PM} (hB : NBm γ f p P) (hx : P.1 109 11 = nI 0 → ∃ a b, a < 7 ∧ b < 7 ∧ x = nI a ∧ y = nI b) : ∃ P', j_Mo_readWay_124 x y h o P = some P' ∧ NBm γ f p P' := by
  unfold j_Mo_readWay_124
  by_cases c : P.1 109 11 = nI 0
  · obtain ⟨a, b, ha, hb, rfl, rfl⟩ := hx c
    rw [if_pos (show P.1 109 11 = (0 : Int32) from c), show (7 : Int32) = nI 7 from rfl, z_mul, show (15 : Int32) = nI 15 from rfl, z_add, z_add, show (64 : Int32) = nI 64 from rfl, z_add, z_add, z_ck (by omega) (by omega), z_ck (by omega) (by omega)]
    exact ⟨_, rfl, NBm_u (NBm_u hB)⟩
  · rw [if_neg (show ¬ P.1 109 11 = (0 : Int32) from c)]
    exact ⟨P, rfl, hB⟩
theorem way_bM {γ : GT} {f p : Nat} {x y h o : Int32} {P : PM} (hB : NBm γ f p P) (hx : P.1 109 11 = nI 0 → ∃ a b, a < 7 ∧ b < 7 ∧ x = nI a ∧ y = nI b) (n : Nat) : ∃ P', l_Mo_readWay_59 (n + 1) x y h o P = some P' ∧ NBm γ f p P' := by
  rw [l_Mo_readWay_59]
  split
  · rw [if_pos (show f_Mo_is (9 : Int32) P = 0 from nbm_is (j := 9) hB (by omega) (by omega)), if_pos (show f_Mo_is (10 : Int32) P = 0 from nbm_is (j := 10) hB (by omega) (by omega))]
    exact way_124 hB hx
  · exact way_124 hB hx
theorem vWs_vWs (v : NV) (a b h x o : Nat) : vWs (vWs v a b h x) a b h o = vWs v a b h o := by
  unfold vWs
  refine Prod.ext rfl (Prod.ext ?_ (Prod.ext ?_ rfl))
  · funext i j
    show (if i = a ∧ j = b then h else if i = a ∧ j = b then h else vH v i j) = if i = a ∧ j = b then h else vH v i j
    split <;> rfl
  · funext i j
    show (if i = a ∧ j = b then o else if i = a ∧ j = b then x else vO v i j) = if i = a ∧ j = b then o else vO v i j
    split <;> rfl
theorem take_v {γ : GT} (hγ : GOk γ) {nc nm : Nat} {sc sm_ : SV} {v : NV} {c k p q d : Nat} {lo hi wc : Int32} {Pc Pm P' : PM} (h : NX γ nc nm sc sm_ v c k p q d Pc Pm) (e : f_Ta_takeNumber lo hi Pc = some (wc, P')) (h7 : P'.1 1 7 = nI 0) : k = 23 ∧ Pc.1 1 6 = wc := by
  have t23 : Pc.1 1 5 = (1 : Int32) ↔ k = 23 := tk_C (j := 23) h.2.2.1 (by unfold kok; omega)
  unfold f_Ta_takeNumber j_Ta_takeNumber_30 at e
  rw [lb_eq] at e
  obtain ⟨P9, M9, y1, y2, y3, y4, y5⟩ := nx_fail hγ (f := 3) ⟨by omega, by omega⟩ h
  obtain ⟨P8, M8, x1, x2, x3, x4, x5⟩ := nx_fail hγ (f := 2) ⟨by omega, by omega⟩ h
  rw [show (3 : Int32) = nI 3 from rfl, show (2 : Int32) = nI 2 from rfl, y1, x1] at e
  have h9 : ∀ z, some (z, P9) ≠ some (wc, P') := fun z q => by
    have q2 : P9 = P' := congrArg Prod.snd (Option.some.inj q)
    rw [← q2, y3.2.1.1] at h7
    exact absurd h7 (by decide)
  have h8 : ∀ z, some (z, P8) ≠ some (wc, P') := fun z q => by
    have q2 : P8 = P' := congrArg Prod.snd (Option.some.inj q)
    rw [← q2, x3.2.1.1] at h7
    exact absurd h7 (by decide)
  by_cases c1 : k = 23
  · refine ⟨c1, ?_⟩
    rw [if_pos (t23.mpr c1)] at e
    split at e
    · exact absurd e (h9 _)
    · split at e
      · cases hx : f_Ta_next Pc with
        | none => rw [hx] at e; cases e
        | some Q =>
          rw [hx] at e
          exact congrArg Prod.fst (Option.some.inj e)
      · exact absurd e (h9 _)
  · rw [if_neg (fun q => c1 (t23.mp q))] at e
    exact absurd e (h8 _)
theorem way_end {γ : GT} {v : NV} {s : SV} {c k p q d a b h o : Nat} {Pc Pm : PM} (hX : NX γ (vN v) (vN v) s s v c k p q d Pc Pm) (hv : NVok v) (hs : SVok v s) (ha : a < vN v) (hb : b < vN v) (hab : a ≠ b) (hh : 1 ≤ h ∧ h ≤ 9) (ho : o ≤ 10) :
    ∃ Pc' Pm', j_Nr_readWay_125 (nI a) (nI b) (nI h) (nI o) Pc = some Pc' ∧ j_Mo_readWay_124 (nI a) (nI b) (nI h) (nI o) Pm = some Pm' ∧ NL γ d Pc' Pm' := by
  have hN := hv.1
  have n1 : Pc.1 4 0 = nI (vN v) := hX.2.2.2.1.1
  obtain ⟨g1, g2, g3, g4, g5, g6, g7⟩ := hX
  have hodds : NPc (vN v) s (vWs v a b h o) c (u1 (u1 Pc 6 (7 * a + b) (nI h)) 7 (7 * a + b) (nI o)) := by
    have := npc_odds (a := a) (b := b) (y := h) (x := o) (npc_hours g4 (x := h) (b := b) (a := a) (by omega) (by omega)) (by omega) (by omega) (by show (if a = a ∧ b = b then h else vH v a b) = h; rw [if_pos ⟨rfl, rfl⟩])
    rw [vWs_vWs] at this
    exact this
  refine ⟨_, _, ?_, ?_, Or.inl ⟨vWs v a b h o, s, c, k, p, q, ⟨FLc_u (FLc_u g1 (k := 6) (by omega)) (k := 7) (by omega), FLm_u (FLm_u g2), TG_um (TG_um (TG_uc (TG_uc g3 (a := 6) (by omega)) (a := 7) (by omega))), hodds, npm_way g5 (by omega) (by omega), g6, g7⟩, ⟨hN, fun x y => ?_, hv.2.2⟩, hs⟩⟩
  · unfold j_Nr_readWay_125 f_Ne_setWay
    rw [isS_N n1 hN (by omega), if_pos ha, if_neg (by decide), isS_N n1 hN (by omega), if_pos hb, if_neg (by decide), show (7 : Int32) = nI 7 from rfl, z_mul, z_add, z_ck (by omega) (by omega), z_ck (by omega) (by omega), z_cl (by omega), Nat.mul_comm a 7]; rfl
  · unfold j_Mo_readWay_124
    rw [if_pos (show Pm.1 109 11 = (0 : Int32) from g3.2.1.1), show (7 : Int32) = nI 7 from rfl, z_mul, show (15 : Int32) = nI 15 from rfl, z_add, z_add, show (64 : Int32) = nI 64 from rfl, z_add, z_add, z_ck (by omega) (by omega), z_ck (by omega) (by omega), z_cl (by omega), z_cl (by omega), Nat.add_assoc 15, Nat.add_assoc 64]
  · show (if x = a ∧ y = b then h else vH v x y) ≤ 9 ∧ (if x = a ∧ y = b then o else vO v x y) ≤ 10 ∧ ((if x = a ∧ y = b then h else vH v x y) ≠ 0 → x < vN v ∧ y < vN v ∧ x ≠ y) ∧ ((if x = a ∧ y = b then h else vH v x y) = 0 → (if x = a ∧ y = b then o else vO v x y) = 0)
    by_cases e : x = a ∧ y = b
    · rw [if_pos e, if_pos e]
      exact ⟨hh.2, ho, fun _ => ⟨by omega, by omega, by omega⟩, fun q => by omega⟩
    · rw [if_neg e, if_neg e]
      exact hv.2.1 x y
theorem way_loop {γ : GT} (hγ : GOk γ) {v : NV} {s : SV} {c a b : Nat} (hv : NVok v) (hs : SVok v s) (ha : a < vN v) (hb : b < vN v) (hab : a ≠ b) : ∀ (M i f g d h o k p q : Nat) (Pc Pm : PM), i + M = 900 → M + 1 < f → M + 1 < g → i ≤ d → NX γ (vN v) (vN v) s s v c k p q d Pc Pm → 1 ≤ h ∧ h ≤ 9 → o ≤ 10 →
    ∃ Pc' Pm', l_Nr_readWay_27 f (nI a) (nI b) (nI h) (nI o) (nI i) Pc = some Pc' ∧ l_Mo_readWay_59 g (nI a) (nI b) (nI h) (nI o) Pm = some Pm' ∧ NL γ d Pc' Pm' := by
  have hn := hγ.1.1
  have hN := hv.1
  intro M
  induction M with
  | zero =>
    intro i f g d h o k p q Pc Pm h1 h2 h3 h4 hX hh ho
    obtain ⟨f, rfl⟩ : ∃ z, f = z + 1 := ⟨f - 1, by omega⟩
    obtain ⟨g, rfl⟩ : ∃ z, g = z + 1 := ⟨g - 1, by omega⟩
    have ht := hX.2.2.1
    have hd := hX.2.2.2.2.2.1
    have hq := ht.2.2.2
    have hk : k = 24 := by
      by_cases e : k = 24
      · exact e
      · have := hq.2.2.1 e
        omega
    have hkk := kok_n ht.2.2.1
    obtain ⟨Pc', Pm', r1, r2, r3⟩ := way_end hX hv hs ha hb hab hh ho
    refine ⟨Pc', Pm', ?_, ?_, r3⟩
    · rw [l_Nr_readWay_27, if_pos (by simp (disch := omega) only [z_add, z_mul, z_sub, z_subm, z_addm, z_lt_t, z_lt_f, z_le_t, z_le_f, z_eq_t, z_eq_f, z_eqm, z_meq, z_mm, z_ltm, z_mlt, z_lem, z_mle, z_cl, z_ck, u1_1, u1_2, u2_1, u2_2, ↓reduceIte, Option.bind_some, Option.bind_none, bd2_some, lb_eq, and_true, and_false, true_and, false_and, not_true_eq_false, not_false_eq_true, eq_self_iff_true, if_true, if_false, Nat.reduceEqDiff, Nat.reduceAdd, Nat.reduceMul, Nat.reduceSub, Bool.false_eq_true, zl0, zl1, zl2, zl3, zl4, zl5, zl6, zl7, zl8, zl9, zl10, zl11, zl12, zl13, zl14, zl15, zl16, zl17, zl18, zl19, zl20, zl22, zl23, zl24, zl25, zl30, zl31, zl32, zl33, zl34, zl35, zl36, zl37, zl38, zl39, zl40, zl41, zl42, zl43, zl45, zl48, zl49, zl57, zl58, zl59, zl60, zl61, zl62, zl63, zl64, zl91, zl93, zl97, zl98, zl99, zl100, zl113, zl114, zl115, zl116, zl117, zl122, zl124, zl125, zl127, zl128, zl136, zl200, zl201, zl202, zl203, zl204, zl205, zl206, zl207, zl208, zl209, zl210, zl211, zl212, zl213, zl214, zl215, zl216, zl217, zl218, zl219, zl220, zl235, zl236, zl255, zl280, zl287, zl900, zl999, zl1000, zl1001, zl1136, zl1960, zl3000, zl3001, zl3002, zl3003, zl3004, zl3005, zl3006, zl3007, zl3008, zl3009, zl268435456, zl1000000000])]; exact r1
    · rw [l_Mo_readWay_59, if_pos (show Pm.1 109 11 = (0 : Int32) from ht.2.1.1), if_pos (show f_Mo_is (9 : Int32) Pm = 0 from (is_G (j := 9) ht.2.1 hkk.2 (by omega)).trans (by rw [if_neg (by omega)]; rfl)), if_pos (show f_Mo_is (10 : Int32) Pm = 0 from (is_G (j := 10) ht.2.1 hkk.2 (by omega)).trans (by rw [if_neg (by omega)]; rfl))]
      exact r2
  | succ M ih =>
    intro i f g d h o k p q Pc Pm h1 h2 h3 h4 hX hh ho
    obtain ⟨f, rfl⟩ : ∃ z, f = z + 1 := ⟨f - 1, by omega⟩
    obtain ⟨g, rfl⟩ : ∃ z, g = z + 1 := ⟨g - 1, by omega⟩
    have ht := hX.2.2.1
    have hkk := kok_n ht.2.2.1
    have i9 : f_Mo_is (9 : Int32) Pm = nI (if k = 9 then 1 else 0) := is_G (j := 9) ht.2.1 hkk.2 (by omega)
    have i10 : f_Mo_is (10 : Int32) Pm = nI (if k = 10 then 1 else 0) := is_G (j := 10) ht.2.1 hkk.2 (by omega)
    have t9 : Pc.1 1 5 = (205 : Int32) ↔ k = 9 := tk_C (j := 9) ht (by unfold kok; omega)
    have t10 : Pc.1 1 5 = (212 : Int32) ↔ k = 10 := tk_C (j := 10) ht (by unfold kok; omega)
    have w0 : Pm.1 109 11 = (0 : Int32) := ht.2.1.1
    by_cases c9 : k = 9
    · obtain ⟨P1, M1, a1, a2, a3, -⟩ := nx_next hγ hX (by omega)
      have eC : l_Nr_readWay_27 (f + 1) (nI a) (nI b) (nI h) (nI o) (nI i) Pc = bd2 (f_Ta_takeNumber (nI 1) (nI 10 - nI 1) P1) (fun v5 P6 => l_Nr_readWay_27 f (nI a) (nI b) v5 (nI o) (nI (i + 1)) P6) := by
        rw [l_Nr_readWay_27, if_neg (by simp (disch := omega) only [z_add, z_mul, z_sub, z_subm, z_addm, z_lt_t, z_lt_f, z_le_t, z_le_f, z_eq_t, z_eq_f, z_eqm, z_meq, z_mm, z_ltm, z_mlt, z_lem, z_mle, z_cl, z_ck, u1_1, u1_2, u2_1, u2_2, ↓reduceIte, Option.bind_some, Option.bind_none, bd2_some, lb_eq, and_true, and_false, true_and, false_and, not_true_eq_false, not_false_eq_true, eq_self_iff_true, if_true, if_false, Nat.reduceEqDiff, Nat.reduceAdd, Nat.reduceMul, Nat.reduceSub, Bool.false_eq_true, zl0, zl1, zl2, zl3, zl4, zl5, zl6, zl7, zl8, zl9, zl10, zl11, zl12, zl13, zl14, zl15, zl16, zl17, zl18, zl19, zl20, zl22, zl23, zl24, zl25, zl30, zl31, zl32, zl33, zl34, zl35, zl36, zl37, zl38, zl39, zl40, zl41, zl42, zl43, zl45, zl48, zl49, zl57, zl58, zl59, zl60, zl61, zl62, zl63, zl64, zl91, zl93, zl97, zl98, zl99, zl100, zl113, zl114, zl115, zl116, zl117, zl122, zl124, zl125, zl127, zl128, zl136, zl200, zl201, zl202, zl203, zl204, zl205, zl206, zl207, zl208, zl209, zl210, zl211, zl212, zl213, zl214, zl215, zl216, zl217, zl218, zl219, zl220, zl235, zl236, zl255, zl280, zl287, zl900, zl999, zl1000, zl1001, zl1136, zl1960, zl3000, zl3001, zl3002, zl3003, zl3004, zl3005, zl3006, zl3007, zl3008, zl3009, zl268435456, zl1000000000]), if_pos (t9.mpr c9)]
        unfold j_Nr_readWay_61 j_Nr_readWay_79 j_Nr_readWay_119
        rw [if_pos (t9.mpr c9), a1, Option.bind_some, if_neg (by decide), z_one]; rfl
      have eM : l_Mo_readWay_59 (g + 1) (nI a) (nI b) (nI h) (nI o) Pm = bd2 (f_Mo_takes (nI 1) (nI 10 - nI 1) M1) (fun v6 P7 => l_Mo_readWay_59 g (nI a) (nI b) v6 (nI o) P7) := by
        rw [l_Mo_readWay_59, if_pos w0, i9, if_neg (show ¬ nI (if k = 9 then 1 else 0) = (0 : Int32) from by rw [if_pos c9]; decide)]
        unfold j_Mo_readWay_84 j_Mo_readWay_121
        rw [lb_eq, i9, a2, Option.bind_some, if_neg (show ¬ nI (if k = 9 then 1 else 0) = (0 : Int32) from by rw [if_pos c9]; decide)]; rfl
      rw [eC, eM]
      obtain ⟨f, rfl⟩ : ∃ z, f = z + 1 := ⟨f - 1, by omega⟩
      obtain ⟨g, rfl⟩ : ∃ z, g = z + 1 := ⟨g - 1, by omega⟩
      rcases a3 with ⟨k', p', q', a3⟩ | ⟨f', p', a3, a5⟩
      · obtain ⟨wc, wm, P2, M2, b1, b2, b3⟩ := nx_takes hγ (lo := 1) (hb := 10) (by omega) (by omega) a3
        rw [b1, b2, bd2_some, bd2_some]
        rcases b3 with ⟨w, k2, p2, q2, w1, w2, rfl, rfl, b3⟩ | ⟨f', p2, g1, g2, g3, g4⟩
        · obtain ⟨Pc', Pm', r1, r2, r3⟩ := ih (i + 1) (f + 1) (g + 1) (d + 1) w o k2 p2 q2 P2 M2 (by omega) (by omega) (by omega) (by omega) (NX_d b3 (by omega)) ⟨w1, by omega⟩ ho
          refine ⟨Pc', Pm', r1, r2, ?_⟩
          rcases r3 with ⟨v2, s2, c2, k3, p3, q3, x1, x2⟩ | r3
          · exact Or.inl ⟨v2, s2, c2, k3, p3, q3, NX_d x1 (by omega), x2⟩
          · exact Or.inr r3
        · obtain ⟨Pc', r1, r2⟩ := way_bC (h := wc) (o := nI o) (i := nI (i + 1)) g1 (show a < 7 by omega) (show b < 7 by omega) f
          obtain ⟨Pm', r3, r4⟩ := way_bM (x := nI a) (y := nI b) (h := wm) (o := nI o) g2 (fun _ => ⟨a, b, by omega, by omega, rfl, rfl⟩) g
          exact ⟨Pc', Pm', r1, r3, Or.inr ⟨f', p2, r2, r4⟩⟩
      · obtain ⟨P2, b1, b2⟩ := nbc_take (lo := nI 1) (hi := nI 10 - nI 1) a3
        obtain ⟨w, M2, d1, d2, d3⟩ := nbm_take (lo := nI 1) (hi := nI 10 - nI 1) a5
        rw [b1, d1, bd2_some, bd2_some]
        obtain ⟨Pc', r1, r2⟩ := way_bC (h := nI 1) (o := nI o) (i := nI (i + 1)) b2 (show a < 7 by omega) (show b < 7 by omega) f
        obtain ⟨Pm', r3, r4⟩ := way_bM (x := nI a) (y := nI b) (h := w) (o := nI o) d2 (fun _ => ⟨a, b, by omega, by omega, rfl, rfl⟩) g
        exact ⟨Pc', Pm', r1, r3, Or.inr ⟨f', p', r2, r4⟩⟩
    by_cases c10 : k = 10
    · obtain ⟨P1, M1, a1, a2, a3, -⟩ := nx_next hγ hX (by omega)
      have eC : l_Nr_readWay_27 (f + 1) (nI a) (nI b) (nI h) (nI o) (nI i) Pc = bd2 (f_Ta_takeNumber (nI 0) (nI 11 - nI 1) P1) (fun v3 P4 => l_Nr_readWay_27 f (nI a) (nI b) (nI h) v3 (nI (i + 1)) P4) := by
        rw [l_Nr_readWay_27, if_neg (by simp (disch := omega) only [z_add, z_mul, z_sub, z_subm, z_addm, z_lt_t, z_lt_f, z_le_t, z_le_f, z_eq_t, z_eq_f, z_eqm, z_meq, z_mm, z_ltm, z_mlt, z_lem, z_mle, z_cl, z_ck, u1_1, u1_2, u2_1, u2_2, ↓reduceIte, Option.bind_some, Option.bind_none, bd2_some, lb_eq, and_true, and_false, true_and, false_and, not_true_eq_false, not_false_eq_true, eq_self_iff_true, if_true, if_false, Nat.reduceEqDiff, Nat.reduceAdd, Nat.reduceMul, Nat.reduceSub, Bool.false_eq_true, zl0, zl1, zl2, zl3, zl4, zl5, zl6, zl7, zl8, zl9, zl10, zl11, zl12, zl13, zl14, zl15, zl16, zl17, zl18, zl19, zl20, zl22, zl23, zl24, zl25, zl30, zl31, zl32, zl33, zl34, zl35, zl36, zl37, zl38, zl39, zl40, zl41, zl42, zl43, zl45, zl48, zl49, zl57, zl58, zl59, zl60, zl61, zl62, zl63, zl64, zl91, zl93, zl97, zl98, zl99, zl100, zl113, zl114, zl115, zl116, zl117, zl122, zl124, zl125, zl127, zl128, zl136, zl200, zl201, zl202, zl203, zl204, zl205, zl206, zl207, zl208, zl209, zl210, zl211, zl212, zl213, zl214, zl215, zl216, zl217, zl218, zl219, zl220, zl235, zl236, zl255, zl280, zl287, zl900, zl999, zl1000, zl1001, zl1136, zl1960, zl3000, zl3001, zl3002, zl3003, zl3004, zl3005, zl3006, zl3007, zl3008, zl3009, zl268435456, zl1000000000]), if_neg (fun e => c9 (t9.mp e)), if_pos (t10.mpr c10)]
        unfold j_Nr_readWay_61 j_Nr_readWay_79 j_Nr_readWay_119
        rw [if_neg (fun e => c9 (t9.mp e)), a1, Option.bind_some, if_pos rfl, z_one]; rfl
      have eM : l_Mo_readWay_59 (g + 1) (nI a) (nI b) (nI h) (nI o) Pm = bd2 (f_Mo_takes (nI 0) (nI 11 - nI 1) M1) (fun v4 P5 => l_Mo_readWay_59 g (nI a) (nI b) (nI h) v4 P5) := by
        rw [l_Mo_readWay_59, if_pos w0, i9, if_pos (show nI (if k = 9 then 1 else 0) = (0 : Int32) from by rw [if_neg c9]; rfl), i10, if_neg (show ¬ nI (if k = 10 then 1 else 0) = (0 : Int32) from by rw [if_pos c10]; decide)]
        unfold j_Mo_readWay_84 j_Mo_readWay_121
        rw [lb_eq, i9, a2, Option.bind_some, if_pos (show nI (if k = 9 then 1 else 0) = (0 : Int32) from by rw [if_neg c9]; rfl)]; rfl
      rw [eC, eM]
      obtain ⟨f, rfl⟩ : ∃ z, f = z + 1 := ⟨f - 1, by omega⟩
      obtain ⟨g, rfl⟩ : ∃ z, g = z + 1 := ⟨g - 1, by omega⟩
      rcases a3 with ⟨k', p', q', a3⟩ | ⟨f', p', a3, a5⟩
      · obtain ⟨wc, wm, P2, M2, b1, b2, b3⟩ := nx_takes hγ (lo := 0) (hb := 11) (by omega) (by omega) a3
        rw [b1, b2, bd2_some, bd2_some]
        rcases b3 with ⟨w, k2, p2, q2, w1, w2, rfl, rfl, b3⟩ | ⟨f', p2, g1, g2, g3, g4⟩
        · obtain ⟨Pc', Pm', r1, r2, r3⟩ := ih (i + 1) (f + 1) (g + 1) (d + 1) h w k2 p2 q2 P2 M2 (by omega) (by omega) (by omega) (by omega) (NX_d b3 (by omega)) hh (by omega)
          refine ⟨Pc', Pm', r1, r2, ?_⟩
          rcases r3 with ⟨v2, s2, c2, k3, p3, q3, x1, x2⟩ | r3
          · exact Or.inl ⟨v2, s2, c2, k3, p3, q3, NX_d x1 (by omega), x2⟩
          · exact Or.inr r3
        · obtain ⟨Pc', r1, r2⟩ := way_bC (h := nI h) (o := wc) (i := nI (i + 1)) g1 (show a < 7 by omega) (show b < 7 by omega) f
          obtain ⟨Pm', r3, r4⟩ := way_bM (x := nI a) (y := nI b) (h := nI h) (o := wm) g2 (fun _ => ⟨a, b, by omega, by omega, rfl, rfl⟩) g
          exact ⟨Pc', Pm', r1, r3, Or.inr ⟨f', p2, r2, r4⟩⟩
      · obtain ⟨P2, b1, b2⟩ := nbc_take (lo := nI 0) (hi := nI 11 - nI 1) a3
        obtain ⟨w, M2, d1, d2, d3⟩ := nbm_take (lo := nI 0) (hi := nI 11 - nI 1) a5
        rw [b1, d1, bd2_some, bd2_some]
        obtain ⟨Pc', r1, r2⟩ := way_bC (h := nI h) (o := nI 0) (i := nI (i + 1)) b2 (show a < 7 by omega) (show b < 7 by omega) f
        obtain ⟨Pm', r3, r4⟩ := way_bM (x := nI a) (y := nI b) (h := nI h) (o := w) d2 (fun _ => ⟨a, b, by omega, by omega, rfl, rfl⟩) g
        exact ⟨Pc', Pm', r1, r3, Or.inr ⟨f', p', r2, r4⟩⟩
    · obtain ⟨Pc', Pm', r1, r2, r3⟩ := way_end hX hv hs ha hb hab hh ho
      refine ⟨Pc', Pm', ?_, ?_, r3⟩
      · rw [l_Nr_readWay_27, if_neg (by simp (disch := omega) only [z_add, z_mul, z_sub, z_subm, z_addm, z_lt_t, z_lt_f, z_le_t, z_le_f, z_eq_t, z_eq_f, z_eqm, z_meq, z_mm, z_ltm, z_mlt, z_lem, z_mle, z_cl, z_ck, u1_1, u1_2, u2_1, u2_2, ↓reduceIte, Option.bind_some, Option.bind_none, bd2_some, lb_eq, and_true, and_false, true_and, false_and, not_true_eq_false, not_false_eq_true, eq_self_iff_true, if_true, if_false, Nat.reduceEqDiff, Nat.reduceAdd, Nat.reduceMul, Nat.reduceSub, Bool.false_eq_true, zl0, zl1, zl2, zl3, zl4, zl5, zl6, zl7, zl8, zl9, zl10, zl11, zl12, zl13, zl14, zl15, zl16, zl17, zl18, zl19, zl20, zl22, zl23, zl24, zl25, zl30, zl31, zl32, zl33, zl34, zl35, zl36, zl37, zl38, zl39, zl40, zl41, zl42, zl43, zl45, zl48, zl49, zl57, zl58, zl59, zl60, zl61, zl62, zl63, zl64, zl91, zl93, zl97, zl98, zl99, zl100, zl113, zl114, zl115, zl116, zl117, zl122, zl124, zl125, zl127, zl128, zl136, zl200, zl201, zl202, zl203, zl204, zl205, zl206, zl207, zl208, zl209, zl210, zl211, zl212, zl213, zl214, zl215, zl216, zl217, zl218, zl219, zl220, zl235, zl236, zl255, zl280, zl287, zl900, zl999, zl1000, zl1001, zl1136, zl1960, zl3000, zl3001, zl3002, zl3003, zl3004, zl3005, zl3006, zl3007, zl3008, zl3009, zl268435456, zl1000000000]), if_neg (fun e => c9 (t9.mp e)), if_neg (fun e => c10 (t10.mp e))]; exact r1
      · rw [l_Mo_readWay_59, if_pos w0, i9, if_pos (show nI (if k = 9 then 1 else 0) = (0 : Int32) from by rw [if_neg c9]; rfl), i10, if_pos (show nI (if k = 10 then 1 else 0) = (0 : Int32) from by rw [if_neg c10]; rfl)]
        exact r2
theorem way_bad {γ : GT} {f p a b : Nat} {x y : Int32} {P M : PM} (h1 : NBc γ f p P) (h2 : NBm γ f p M) (ha : a < 7) (hb : b < 7) (hx : M.1 109 11 = nI 0 → ∃ a b, a < 7 ∧ b < 7 ∧ x = nI a ∧ y = nI b) (d : Nat) :
    ∃ Pc' Pm', l_Nr_readWay_27 FU (nI a) (nI b) (1 : Int32) (1 : Int32) (0 : Int32) P = some Pc' ∧ l_Mo_readWay_59 FU x y (1 : Int32) (1 : Int32) M = some Pm' ∧ NL γ d Pc' Pm' := by
  obtain ⟨F, hF⟩ : ∃ F, FU = F + 1 := ⟨FU - 1, by have := FU_big; omega⟩
  rw [hF]
  obtain ⟨Pc', r1, r2⟩ := way_bC (h := (1 : Int32)) (o := (1 : Int32)) (i := (0 : Int32)) h1 ha hb F
  obtain ⟨Pm', r3, r4⟩ := way_bM (h := (1 : Int32)) (o := (1 : Int32)) h2 hx F
  exact ⟨Pc', Pm', r1, r3, Or.inr ⟨f, p, r2, r4⟩⟩
theorem way_ok0 {γ : GT} (hγ : GOk γ) {v : NV} {s : SV} {c k p q d : Nat} {Pc Pm : PM} (hX : NX γ (vN v) (vN v) s s v c k p q d Pc Pm) (hv : NVok v) (hs : SVok v s) (hk : k ≠ 24) :
    ∃ Pc' Pm', f_Nr_readWay Pc = some Pc' ∧ f_Mo_readWay Pm = some Pm' ∧ NL γ (d + 1) Pc' Pm' := by
  have hFU := FU_big
  have hN := hv.1
  obtain ⟨P1, M1, a1, a2, a3, -⟩ := nx_next hγ hX hk
  unfold f_Nr_readWay f_Mo_readWay
  rw [a1, a2, Option.bind_some, Option.bind_some]
  have hm1 : (1 : Int32).toNatClampNeg = 1 := rfl
  rcases a3 with ⟨k1, p1, q1, a3⟩ | ⟨f, p1, a3, a5⟩
  · have e1 : f_Nr_readTold (-1 : Int32) P1 = f_Ta_takeNumber (nI 0) (nI (vN v) - nI 1) P1 := told_C a3 (fun h => by
      obtain ⟨w, w1, w2, w3⟩ := a3.2.2.1.2.2.2.2.2.2 h.1
      rw [w2] at h
      have := h.2
      rw [show (-1 : Int32) = -nI 1 from rfl, z_eqm (by omega) (by omega) (by omega)] at this
      exact this)
    have e2 : M1.1 113 (1 : Int32).toNatClampNeg - (1 : Int32) = nI (vN v) - nI 1 := by rw [hm1, a3.2.2.2.2.1.1.1]; rfl
    obtain ⟨wc, wm, P2, M2, b1, b2, b3⟩ := nx_takes hγ (lo := 0) (hb := vN v) (by omega) (by omega) a3
    rw [e1, b1, e2, show (0 : Int32) = nI 0 from rfl, b2, bd2_some, bd2_some]
    rcases b3 with ⟨a, k2, p2, q2, -, ha, rfl, rfl, b3⟩ | ⟨f, p2, g1, g2, ⟨w, rfl, hw⟩, g4⟩
    · have ht := b3.2.2.1
      have hkk := kok_n ht.2.2.1
      have i23 : f_Mo_is (23 : Int32) M2 = nI (if k2 = 23 then 1 else 0) := is_G (j := 23) ht.2.1 hkk.2 (by omega)
      have t23 : P2.1 1 5 = (1 : Int32) ↔ k2 = 23 := tk_C (j := 23) ht (by unfold kok; omega)
      have e3 : M2.1 113 (1 : Int32).toNatClampNeg - (1 : Int32) = nI (vN v) - nI 1 := by rw [hm1, b3.2.2.2.2.1.1.1]; rfl
      by_cases c2 : k2 = 23 ∧ P2.1 1 6 = nI a
      · obtain ⟨w, w1, w2, w3⟩ := ht.2.2.2.2.2.2 c2.1
        have wa : nI w = nI a := w2.symm.trans c2.2
        obtain ⟨P3, M3, d1, d2, d3, d4, d5⟩ := nx_fail hγ (f := 3) ⟨by omega, by omega⟩ b3
        obtain ⟨P4, f1, f2⟩ := nbc_take (lo := (0 : Int32)) (hi := P3.1 4 0 - 1) d3
        obtain ⟨z, M4, f3, f4, f5⟩ := nbm_take (lo := (0 : Int32)) (hi := M3.1 113 (1 : Int32).toNatClampNeg - (1 : Int32)) d4
        have eC : f_Nr_readTold (nI a) P2 = some (nI 0, P4) := by
          unfold f_Nr_readTold j_Nr_readTold_30
          rw [if_pos (t23.mpr c2.1), if_pos c2.2, show (3 : Int32) = nI 3 from rfl, d1, Option.bind_some, bd2_id, f1]; rfl
        obtain ⟨Pc', Pm', r1, r2, r3⟩ := way_bad (a := a) (b := 0) (x := nI a) (y := z) f2 f4 (by omega) (by omega) (fun e => absurd e f5) (d + 1)
        refine ⟨Pc', Pm', ?_, ?_, r3⟩
        · rw [eC, bd2_some]; exact r1
        · rw [i23, if_neg (show ¬ nI (if k2 = 23 then 1 else 0) = nI 0 from by rw [if_pos c2.1]; decide), if_pos (w3.trans wa), show (3 : Int32) = nI 3 from rfl, d2, Option.bind_some]
          unfold j_Mo_readWay_40
          rw [f3, bd2_some]; exact r2
      · have eM : (if f_Mo_is (23 : Int32) M2 = nI 0 then j_Mo_readWay_40 (nI a) M2 else if M2.1 109 10 = nI a then (f_Mo_fails (3 : Int32) M2).bind (fun P6 => j_Mo_readWay_40 (nI a) P6) else j_Mo_readWay_40 (nI a) M2) = j_Mo_readWay_40 (nI a) M2 := by
          rw [i23]
          by_cases c3 : k2 = 23
          · obtain ⟨w, w1, w2, w3⟩ := ht.2.2.2.2.2.2 c3
            rw [if_neg (show ¬ nI (if k2 = 23 then 1 else 0) = nI 0 from by rw [if_pos c3]; decide), if_neg (fun e => c2 ⟨c3, w2.trans (w3.symm.trans e)⟩)]
          · rw [if_pos (show nI (if k2 = 23 then 1 else 0) = nI 0 from by rw [if_neg c3])]
        obtain ⟨vc, vm, P3, M3, d1, d2, d3⟩ := nx_takes hγ (lo := 0) (hb := vN v) (by omega) (by omega) b3
        rw [told_C b3 c2, d1, bd2_some]
        have eM2 : j_Mo_readWay_40 (nI a) M2 = l_Mo_readWay_59 FU (nI a) vm (1 : Int32) (1 : Int32) M3 := by
          unfold j_Mo_readWay_40
          rw [e3, show (0 : Int32) = nI 0 from rfl, d2, bd2_some]
        rw [eM, eM2]
        rcases d3 with ⟨b, k3, p3, q3, -, hb, rfl, rfl, d3⟩ | ⟨f, p3, g1, g2, ⟨w, rfl, hw⟩, g4⟩
        · by_cases hab : a = b
          · exfalso
            obtain ⟨z1, z2⟩ := take_v hγ b3 d1 d3.2.2.1.1.1
            exact c2 ⟨z1, by rw [z2, hab]⟩
          · obtain ⟨Pc', Pm', r1, r2, r3⟩ := way_loop hγ hv hs ha hb hab 900 0 FU FU (d + 1) 1 1 k3 p3 q3 P3 M3 rfl (by omega) (by omega) (by omega) (NX_d d3 (by omega)) ⟨by omega, by omega⟩ (by omega)
            exact ⟨Pc', Pm', r1, r2, r3⟩
        · exact way_bad g1 g2 (by omega) (by omega) (fun e => by
            obtain ⟨b, h1, h2, h3⟩ := g4 e
            exact ⟨a, b, by omega, by omega, rfl, h3⟩) (d + 1)
    · -- the first number was none
      obtain ⟨P4, f1, f2⟩ := nbc_told (x := nI w) g1
      rw [f1, bd2_some, if_pos (show f_Mo_is (23 : Int32) M2 = nI 0 from nbm_is (j := 23) g2 (by omega) (by omega))]
      unfold j_Mo_readWay_40
      obtain ⟨z, M4, f3, f4, f5⟩ := nbm_take (lo := (0 : Int32)) (hi := M2.1 113 (1 : Int32).toNatClampNeg - (1 : Int32)) g2
      rw [f3, bd2_some]
      exact way_bad f2 f4 (by omega) (by omega) (fun e => absurd e f5) (d + 1)
  · obtain ⟨P2, b1, b2⟩ := nbc_told (x := (-1 : Int32)) a3
    obtain ⟨z, M2, b3, b4, b5⟩ := nbm_take (lo := (0 : Int32)) (hi := M1.1 113 (1 : Int32).toNatClampNeg - (1 : Int32)) a5
    rw [b1, b3, bd2_some, bd2_some]
    obtain ⟨P4, f1, f2⟩ := nbc_told (x := nI 0) b2
    rw [f1, bd2_some, if_pos (show f_Mo_is (23 : Int32) M2 = 0 from nbm_is (j := 23) b4 (by omega) (by omega))]
    unfold j_Mo_readWay_40
    obtain ⟨z2, M4, f3, f4, f5⟩ := nbm_take (lo := (0 : Int32)) (hi := M2.1 113 (1 : Int32).toNatClampNeg - (1 : Int32)) b4
    rw [f3, bd2_some]
    exact way_bad f2 f4 (by omega) (by omega) (fun e => absurd e f5) (d + 1)
