/-! reading a net: its lines, and net() -/
theorem nb_skip {γ : GT} {f p j : Nat} (hj : kok j) (hj2 : j ≠ 24) {Pc Pm : PM} (h1 : NBc γ f p Pc) (h2 : NBm γ f p Pm) : ∃ Pc' Pm', f_Ta_skip (nI (kt j)) Pc = some Pc' ∧
    (∀ {β : Type} (K : PM → Option β), bd2 (f_Mo_eats (nI j) Pm) (fun v P2 => if v = (0 : Int32) then (f_Mo_fails (2 : Int32) P2).bind K else K P2) = K Pm') ∧ NBc γ f p Pc' ∧ NBm γ f p Pm' ∧ Pm'.1 109 11 ≠ nI 0 := by
  have hjn := kok_n hj
  obtain ⟨Pc', a1, a2⟩ := nbc_fail (x := nI 2) h1
  obtain ⟨Pm', b1, b2, b3⟩ := nbm_fail (x := nI 2) h2
  refine ⟨Pc', Pm', ?_, fun K => ?_, a2, b2, b3⟩
  · unfold f_Ta_skip
    rw [if_neg (nbc_tk h1 hj hj2), show (2 : Int32) = nI 2 from rfl, a1]; rfl
  · rw [eats_0 (nbm_is h2 hjn.2 hjn.1), bd2_some, if_pos rfl, show (2 : Int32) = nI 2 from rfl, b1]; rfl
theorem NBc_l {γ : GT} {f p : Nat} {x : Int32} {P : PM} (h : NBc γ f p P) : NBc γ f p (u1 P 4 1 x) := by
  obtain ⟨h1, h2, ⟨N, h3, h4⟩, c, h5, h6⟩ := h
  exact ⟨FLc_u h1 (by omega), Cf_ro h2 (u1r (by omega)), ⟨N, h3, by rw [u1c (by omega)]; exact h4⟩, c, h5, by rw [u1c (by omega)]; exact h6⟩
/-- behind a line: the sign and the count of lines -/
theorem ends_ok {γ : GT} (hγ : GOk γ) {d : Nat} {Pc Pm : PM} (h : NL γ d Pc Pm) : ∃ Pc' Pm', f_Ta_skip (59 : Int32) Pc = some Pc' ∧ f_Mo_ends Pm = some Pm' ∧ NL γ d (u1 Pc' 4 1 (Pc'.1 4 1 + (1 : Int32))) Pm' := by
  have e14 : ∀ M : PM, j_Mo_ends_14 M = some (u1 M 113 0 (M.1 113 0 + 1)) := fun M => rfl
  unfold f_Mo_ends
  rcases h with ⟨v, s, c, k, p, q, h, hv, hs⟩ | ⟨f, p, h1, h2⟩
  · obtain ⟨P1, M1, a1, a2, a3⟩ := nx_skip hγ (j := 30) (by unfold kok; omega) (by omega) (Or.inl ⟨k, p, q, h⟩)
    refine ⟨P1, u1 M1 113 0 (M1.1 113 0 + 1), a1, (a2 (fun P => j_Mo_ends_14 P)).trans (e14 M1), ?_⟩
    rcases a3 with ⟨k', p', q', g1, g2, g3, g4, g5, g6, g7⟩ | ⟨f, p', g1, g2⟩
    · have l1 : P1.1 4 1 = vL v := g4.2.1
      have l2 : M1.1 113 0 = vL v := g5.2.1
      rw [l1, l2]
      exact Or.inl ⟨vLs v (vL v + 1), s, c, k', p', q', ⟨FLc_u g1 (by omega), FLm_u g2, TG_um (TG_uc g3 (by omega)), npc_lines g4, npm_lines g5, g6, g7⟩, hv, hs⟩
    · exact Or.inr ⟨f, p', NBc_l g1, NBm_u g2⟩
  · obtain ⟨P1, M1, a1, a2, a3, a4, -⟩ := nb_skip (j := 30) (by unfold kok; omega) (by omega) h1 h2
    exact ⟨P1, u1 M1 113 0 (M1.1 113 0 + 1), a1, (a2 (fun P => j_Mo_ends_14 P)).trans (e14 M1), Or.inr ⟨f, p, NBc_l a3, NBm_u a4⟩⟩
theorem NL_d {γ : GT} {d d' : Nat} {Pc Pm : PM} (h : NL γ d Pc Pm) (hd : d' ≤ d) : NL γ d' Pc Pm := by
  rcases h with ⟨v, s, c, k, p, q, h, h2⟩ | h
  · exact Or.inl ⟨v, s, c, k, p, q, NX_d h hd, h2⟩
  · exact Or.inr h
theorem law18_t (P : PM) : j_Mo_readLaw_18 (nI 0) P = (g_Mo_readTruth (nI 0) P).bind (fun P3 => j_Mo_readLaw_45 (nI 0) (P.1 113 235) P3) := by
  unfold j_Mo_readLaw_18
  rw [lb_eq, if_neg (by decide)]; rfl
theorem law18_s (P : PM) : j_Mo_readLaw_18 (nI 1) P = (g_Mo_readSum (nI 0) P).bind (fun P3 => j_Mo_readLaw_45 (nI 1) (P.1 113 235) P3) := by
  unfold j_Mo_readLaw_18
  rw [lb_eq, if_pos (by rfl)]; rfl
/-- one line -/
theorem line_ok0 {γ : GT} (hγ : GOk γ) {v : NV} {s : SV} {c k p q d i : Nat} {Pc Pm : PM} (hX : NX γ (vN v) (vN v) s s v c k p q d Pc Pm) (hv : NVok v) (hs : SVok v s) (hk : k ≠ 24) (hi : i < 900) (f : Nat) :
    ∃ P1 M1, l_Nr_read_51 (f + 1) (nI i) Pc = j_Nr_read_175 (fun z0 Pz => l_Nr_read_51 f z0 Pz) (nI i) P1 ∧ f_Mo_readLine Pm = some M1 ∧ ((∃ v s c k p q, NX γ (vN v) (vN v) s s v c k p q (d + 1) P1 M1 ∧ NVok v ∧ SVok v s) ∨ ∃ f p, NBc γ f p P1 ∧ NBm γ f p M1) := by
  have ht := hX.2.2.1
  have hkk := kok_n ht.2.2.1
  have w0 : Pm.1 109 11 = (0 : Int32) := ht.2.1.1
  have i1 : f_Mo_is (1 : Int32) Pm = nI (if k = 1 then 1 else 0) := is_G (j := 1) ht.2.1 hkk.2 (by omega)
  have i2 : f_Mo_is (2 : Int32) Pm = nI (if k = 2 then 1 else 0) := is_G (j := 2) ht.2.1 hkk.2 (by omega)
  have i3 : f_Mo_is (3 : Int32) Pm = nI (if k = 3 then 1 else 0) := is_G (j := 3) ht.2.1 hkk.2 (by omega)
  have i4 : f_Mo_is (4 : Int32) Pm = nI (if k = 4 then 1 else 0) := is_G (j := 4) ht.2.1 hkk.2 (by omega)
  have i5 : f_Mo_is (5 : Int32) Pm = nI (if k = 5 then 1 else 0) := is_G (j := 5) ht.2.1 hkk.2 (by omega)
  have t24 : Pc.1 1 5 = (0 : Int32) ↔ k = 24 := tk_C (j := 24) ht (by unfold kok; omega)
  have t1 : Pc.1 1 5 = (200 : Int32) ↔ k = 1 := tk_C (j := 1) ht (by unfold kok; omega)
  have t2 : Pc.1 1 5 = (207 : Int32) ↔ k = 2 := tk_C (j := 2) ht (by unfold kok; omega)
  have t3 : Pc.1 1 5 = (208 : Int32) ↔ k = 3 := tk_C (j := 3) ht (by unfold kok; omega)
  have t4 : Pc.1 1 5 = (209 : Int32) ↔ k = 4 := tk_C (j := 4) ht (by unfold kok; omega)
  have t5 : Pc.1 1 5 = (210 : Int32) ↔ k = 5 := tk_C (j := 5) ht (by unfold kok; omega)
  have z1 : ∀ j : Nat, k = j → ¬ nI (if k = j then 1 else 0) = (0 : Int32) := fun j e => by rw [if_pos e]; decide
  have z0 : ∀ j : Nat, k ≠ j → nI (if k = j then 1 else 0) = (0 : Int32) := fun j e => by rw [if_neg e]; rfl
  have h9 : ¬ (900 : Int32) ≤ nI i := by simp (disch := omega) only [z_add, z_mul, z_sub, z_subm, z_addm, z_lt_t, z_lt_f, z_le_t, z_le_f, z_eq_t, z_eq_f, z_eqm, z_meq, z_mm, z_ltm, z_mlt, z_lem, z_mle, z_cl, z_ck, u1_1, u1_2, u2_1, u2_2, ↓reduceIte, Option.bind_some, Option.bind_none, bd2_some, lb_eq, and_true, and_false, true_and, false_and, not_true_eq_false, not_false_eq_true, eq_self_iff_true, if_true, if_false, Nat.reduceEqDiff, Nat.reduceAdd, Nat.reduceMul, Nat.reduceSub, Bool.false_eq_true, zl0, zl1, zl2, zl3, zl4, zl5, zl6, zl7, zl8, zl9, zl10, zl11, zl12, zl13, zl14, zl15, zl16, zl17, zl18, zl19, zl20, zl22, zl23, zl24, zl25, zl30, zl31, zl32, zl33, zl34, zl35, zl36, zl37, zl38, zl39, zl40, zl41, zl42, zl43, zl45, zl48, zl49, zl57, zl58, zl59, zl60, zl61, zl62, zl63, zl64, zl91, zl93, zl97, zl98, zl99, zl100, zl113, zl114, zl115, zl116, zl117, zl122, zl124, zl125, zl127, zl128, zl136, zl200, zl201, zl202, zl203, zl204, zl205, zl206, zl207, zl208, zl209, zl210, zl211, zl212, zl213, zl214, zl215, zl216, zl217, zl218, zl219, zl220, zl235, zl236, zl255, zl280, zl287, zl900, zl999, zl1000, zl1001, zl1136, zl1960, zl3000, zl3001, zl3002, zl3003, zl3004, zl3005, zl3006, zl3007, zl3008, zl3009, zl268435456, zl1000000000]
  have h24 : ¬ Pc.1 1 5 = (0 : Int32) := fun e => hk (t24.mp e)
  unfold f_Mo_readLine
  rw [l_Nr_read_51, if_neg h9, if_neg h24, if_pos w0, i1]
  by_cases c1 : k = 1
  · obtain ⟨P1, M1, a1, a2, a3⟩ := station_ok0 hγ hX hv hs hk
    rw [if_pos (t1.mpr c1), a1, if_neg (z1 1 c1), a2]
    exact ⟨P1, M1, rfl, rfl, a3⟩
  rw [if_neg (fun e => c1 (t1.mp e)), if_pos (z0 1 c1), i2]
  by_cases c2 : k = 2
  · obtain ⟨P1, M1, a1, a2, a3⟩ := way_ok0 hγ hX hv hs hk
    have e2 := t2.mpr c2
    rw [e2, a1, if_neg (z1 2 c2), a2]
    exact ⟨P1, M1, rfl, rfl, a3⟩
  rw [if_pos (z0 2 c2), i3]
  by_cases c3 : k = 3
  · obtain ⟨P1, M1, a1, a2, a3⟩ := at_ok0 hγ hX hv hs hk
    have e2 := t3.mpr c3
    rw [e2, a1, if_neg (z1 3 c3), a2]
    exact ⟨P1, M1, rfl, rfl, a3⟩
  rw [if_pos (z0 3 c3), i4]
  by_cases c4 : k = 4
  · obtain ⟨P1, M1, a1, a2, a3⟩ := law_ok0 (r := 0) (m := 35) (τ := true) (RC := g_Lr_readTruth (nI 0)) (RM := g_Mo_readTruth (nI 0)) hγ hX hv hs hk (by omega) (by omega) (fun γ' h => truth0_ok h) (Or.inl ⟨rfl, rfl⟩) law18_t
    have e2 := t4.mpr c4
    have a1' : f_Nr_readTakes Pc = some P1 := a1
    have e69 : j_Mo_readLine_69 Pm = some M1 := by
      unfold j_Mo_readLine_69
      rw [ht.2.1.2.1, show nI k - (4 : Int32) = nI 0 from by rw [c4]; rfl, a2]; rfl
    rw [e2, a1', if_neg (z1 4 c4), e69]
    exact ⟨P1, M1, rfl, rfl, a3⟩
  rw [if_pos (z0 4 c4), i5]
  by_cases c5 : k = 5
  · obtain ⟨P1, M1, a1, a2, a3⟩ := law_ok0 (r := 1) (m := 32) (τ := false) (RC := g_Lr_readSum (nI 0)) (RM := g_Mo_readSum (nI 0)) hγ hX hv hs hk (by omega) (by omega) (fun γ' h => sum0_ok h) (Or.inr ⟨rfl, rfl⟩) law18_s
    have e2 := t5.mpr c5
    have a1' : f_Nr_readPasses Pc = some P1 := a1
    have e69 : j_Mo_readLine_69 Pm = some M1 := by
      unfold j_Mo_readLine_69
      rw [ht.2.1.2.1, show nI k - (4 : Int32) = nI 1 from by rw [c5]; rfl, a2]; rfl
    rw [e2, a1', if_neg (z1 5 c5), e69]
    exact ⟨P1, M1, rfl, rfl, a3⟩
  rw [if_pos (z0 5 c5)]
  obtain ⟨P1, M1, a1, a2, a3, a4, -⟩ := nx_fail hγ (f := 2) ⟨by omega, by omega⟩ hX
  have d2 : ¬ Pc.1 1 5 = (207 : Int32) := fun e => c2 (t2.mp e)
  have d3 : ¬ Pc.1 1 5 = (208 : Int32) := fun e => c3 (t3.mp e)
  have d4 : ¬ Pc.1 1 5 = (209 : Int32) := fun e => c4 (t4.mp e)
  have d5 : ¬ Pc.1 1 5 = (210 : Int32) := fun e => c5 (t5.mp e)
  refine ⟨P1, M1, ?_, by rw [show (2 : Int32) = nI 2 from rfl, a2]; rfl, Or.inr ⟨2, p, a3, a4⟩⟩
  rw [if_neg d2, if_neg d3, if_neg d4, if_neg d5, show (2 : Int32) = nI 2 from rfl, a1]
  simp only [Option.bind_some, ite_self]
/-- how reading ends -/
def Fin_ (γ : GT) (P M : PM) : Prop := (∃ v s c k p q d, NX γ (vN v) (vN v) s s v c k p q d P M ∧ NVok v ∧ SVok v s) ∨ ∃ f p, NBc γ f p P ∧ NBm γ f p M ∧ M.1 109 11 ≠ nI 0
theorem loop_bC {γ : GT} {f p : Nat} {i : Int32} {P : PM} (h : NBc γ f p P) (n : Nat) : l_Nr_read_51 (n + 1) i P = j_Nr_read_203 P := by
  rw [l_Nr_read_51]
  by_cases c : (900 : Int32) ≤ i
  · rw [if_pos c]
  · rw [if_neg c, if_pos (show P.1 1 5 = (0 : Int32) from h.2.1.2.2.1)]
theorem loop_bM {γ : GT} {f p : Nat} {P : PM} (h : NBm γ f p P) (n : Nat) : ∃ P', l_Mo_net_70 (n + 2) P = j_Mo_net_97 P' ∧ NBm γ f p P' ∧ P'.1 109 11 ≠ nI 0 := by
  by_cases c : P.1 109 11 = (0 : Int32)
  · have hk : ¬ P.1 109 9 = (24 : Int32) := by
      rcases h.2.1 with ⟨b1, b2⟩ | ⟨b0, b1, b2, b3⟩
      · have hf := h.2.2
        rw [b1] at c
        exact absurd ((nI_eq (b := 0) (by omega) (by omega)).mp c) (by omega)
      · rw [b2]; decide
    obtain ⟨P1, a1, a2, a3⟩ := nbm_fail (x := nI 2) h
    have eL : f_Mo_readLine P = some P1 := by
      unfold f_Mo_readLine
      rw [if_pos c, if_pos (show f_Mo_is (1 : Int32) P = 0 from nbm_is (j := 1) h (by omega) (by omega)), if_pos (show f_Mo_is (2 : Int32) P = 0 from nbm_is (j := 2) h (by omega) (by omega)), if_pos (show f_Mo_is (3 : Int32) P = 0 from nbm_is (j := 3) h (by omega) (by omega)), if_pos (show f_Mo_is (4 : Int32) P = 0 from nbm_is (j := 4) h (by omega) (by omega)), if_pos (show f_Mo_is (5 : Int32) P = 0 from nbm_is (j := 5) h (by omega) (by omega)), show (2 : Int32) = nI 2 from rfl, a1]; rfl
    obtain ⟨P2, b1, b2, b3⟩ := nbm_fail (x := nI 2) a2
    have eE : f_Mo_ends P1 = some (u1 P2 113 0 (P2.1 113 0 + 1)) := by
      unfold f_Mo_ends
      rw [show (30 : Int32) = nI 30 from rfl, eats_0 (nbm_is a2 (by omega) (by omega)), bd2_some, if_pos rfl, show (2 : Int32) = nI 2 from rfl, b1]; rfl
    have w : (u1 P2 113 0 (P2.1 113 0 + 1)).1 109 11 ≠ nI 0 := by rw [u1r (by omega)]; exact b3
    refine ⟨_, ?_, NBm_u b2, w⟩
    rw [l_Mo_net_70, if_pos c, if_neg hk, eL, Option.bind_some, eE, Option.bind_some, l_Mo_net_70, if_neg (show ¬ _ = (0 : Int32) from w)]
  · refine ⟨P, ?_, h, c⟩
    rw [l_Mo_net_70, if_neg c]
theorem lines_ok {γ : GT} (hγ : GOk γ) : ∀ (M i f g d : Nat) (Pc Pm : PM), i + M = 900 → M + 3 < f → M + 3 < g → i ≤ d → NL γ d Pc Pm →
    ∃ P' M', l_Nr_read_51 f (nI i) Pc = j_Nr_read_203 P' ∧ l_Mo_net_70 g Pm = j_Mo_net_97 M' ∧ Fin_ γ P' M' := by
  have hn := hγ.1.1
  intro M
  induction M with
  | zero =>
    intro i f g d Pc Pm h1 h2 h3 h4 hL
    obtain ⟨f, rfl⟩ : ∃ z, f = z + 1 := ⟨f - 1, by omega⟩
    obtain ⟨g, rfl⟩ : ∃ z, g = z + 2 := ⟨g - 2, by omega⟩
    rcases hL with ⟨v, s, c, k, p, q, hX, hv, hs⟩ | ⟨f', p, h1, h2⟩
    · have ht := hX.2.2.1
      have hd := hX.2.2.2.2.2.1
      have hq := ht.2.2.2
      have hk : k = 24 := by
        by_cases e : k = 24
        · exact e
        · have := hq.2.2.1 e
          omega
      refine ⟨Pc, Pm, ?_, ?_, Or.inl ⟨v, s, c, k, p, q, d, hX, hv, hs⟩⟩
      · rw [l_Nr_read_51, if_pos (by simp (disch := omega) only [z_add, z_mul, z_sub, z_subm, z_addm, z_lt_t, z_lt_f, z_le_t, z_le_f, z_eq_t, z_eq_f, z_eqm, z_meq, z_mm, z_ltm, z_mlt, z_lem, z_mle, z_cl, z_ck, u1_1, u1_2, u2_1, u2_2, ↓reduceIte, Option.bind_some, Option.bind_none, bd2_some, lb_eq, and_true, and_false, true_and, false_and, not_true_eq_false, not_false_eq_true, eq_self_iff_true, if_true, if_false, Nat.reduceEqDiff, Nat.reduceAdd, Nat.reduceMul, Nat.reduceSub, Bool.false_eq_true, zl0, zl1, zl2, zl3, zl4, zl5, zl6, zl7, zl8, zl9, zl10, zl11, zl12, zl13, zl14, zl15, zl16, zl17, zl18, zl19, zl20, zl22, zl23, zl24, zl25, zl30, zl31, zl32, zl33, zl34, zl35, zl36, zl37, zl38, zl39, zl40, zl41, zl42, zl43, zl45, zl48, zl49, zl57, zl58, zl59, zl60, zl61, zl62, zl63, zl64, zl91, zl93, zl97, zl98, zl99, zl100, zl113, zl114, zl115, zl116, zl117, zl122, zl124, zl125, zl127, zl128, zl136, zl200, zl201, zl202, zl203, zl204, zl205, zl206, zl207, zl208, zl209, zl210, zl211, zl212, zl213, zl214, zl215, zl216, zl217, zl218, zl219, zl220, zl235, zl236, zl255, zl280, zl287, zl900, zl999, zl1000, zl1001, zl1136, zl1960, zl3000, zl3001, zl3002, zl3003, zl3004, zl3005, zl3006, zl3007, zl3008, zl3009, zl268435456, zl1000000000])]
      · rw [l_Mo_net_70, if_pos (show Pm.1 109 11 = (0 : Int32) from ht.2.1.1), if_pos (by rw [ht.2.1.2.1, hk]; rfl)]
    · obtain ⟨M', a1, a2, a3⟩ := loop_bM h2 g
      exact ⟨Pc, M', loop_bC h1 f, a1, Or.inr ⟨f', p, h1, a2, a3⟩⟩
  | succ M ih =>
    intro i f g d Pc Pm h1 h2 h3 h4 hL
    obtain ⟨f, rfl⟩ : ∃ z, f = z + 1 := ⟨f - 1, by omega⟩
    obtain ⟨g, rfl⟩ : ∃ z, g = z + 2 := ⟨g - 2, by omega⟩
    rcases hL with ⟨v, s, c, k, p, q, hX, hv, hs⟩ | ⟨f', p, h1, h2⟩
    · have ht := hX.2.2.1
      have t24 : Pc.1 1 5 = (0 : Int32) ↔ k = 24 := tk_C (j := 24) ht (by unfold kok; omega)
      have w0 : Pm.1 109 11 = (0 : Int32) := ht.2.1.1
      have hkk := kok_n ht.2.2.1
      by_cases hk : k = 24
      · refine ⟨Pc, Pm, ?_, ?_, Or.inl ⟨v, s, c, k, p, q, d, hX, hv, hs⟩⟩
        · rw [l_Nr_read_51, if_neg (by simp (disch := omega) only [z_add, z_mul, z_sub, z_subm, z_addm, z_lt_t, z_lt_f, z_le_t, z_le_f, z_eq_t, z_eq_f, z_eqm, z_meq, z_mm, z_ltm, z_mlt, z_lem, z_mle, z_cl, z_ck, u1_1, u1_2, u2_1, u2_2, ↓reduceIte, Option.bind_some, Option.bind_none, bd2_some, lb_eq, and_true, and_false, true_and, false_and, not_true_eq_false, not_false_eq_true, eq_self_iff_true, if_true, if_false, Nat.reduceEqDiff, Nat.reduceAdd, Nat.reduceMul, Nat.reduceSub, Bool.false_eq_true, zl0, zl1, zl2, zl3, zl4, zl5, zl6, zl7, zl8, zl9, zl10, zl11, zl12, zl13, zl14, zl15, zl16, zl17, zl18, zl19, zl20, zl22, zl23, zl24, zl25, zl30, zl31, zl32, zl33, zl34, zl35, zl36, zl37, zl38, zl39, zl40, zl41, zl42, zl43, zl45, zl48, zl49, zl57, zl58, zl59, zl60, zl61, zl62, zl63, zl64, zl91, zl93, zl97, zl98, zl99, zl100, zl113, zl114, zl115, zl116, zl117, zl122, zl124, zl125, zl127, zl128, zl136, zl200, zl201, zl202, zl203, zl204, zl205, zl206, zl207, zl208, zl209, zl210, zl211, zl212, zl213, zl214, zl215, zl216, zl217, zl218, zl219, zl220, zl235, zl236, zl255, zl280, zl287, zl900, zl999, zl1000, zl1001, zl1136, zl1960, zl3000, zl3001, zl3002, zl3003, zl3004, zl3005, zl3006, zl3007, zl3008, zl3009, zl268435456, zl1000000000]), if_pos (t24.mpr hk)]
        · rw [l_Mo_net_70, if_pos w0, if_pos (by rw [ht.2.1.2.1, hk]; rfl)]
      · obtain ⟨P1, M1, a1, a2, a3⟩ := line_ok0 hγ hX hv hs hk (show i < 900 by omega) f
        obtain ⟨P2, M2, b1, b2, b3⟩ := ends_ok hγ (d := d + 1) (show NL γ (d + 1) P1 M1 from a3)
        obtain ⟨P', M', r1, r2, r3⟩ := ih (i + 1) f (g + 1) (d + 1) _ M2 (by omega) (by omega) (by omega) (by omega) b3
        refine ⟨P', M', ?_, ?_, r3⟩
        · rw [a1]
          unfold j_Nr_read_175
          rw [b1, Option.bind_some, z_one]
          exact r1
        · rw [l_Mo_net_70, if_pos w0, if_neg (by rw [ht.2.1.2.1]; simp (disch := omega) only [z_add, z_mul, z_sub, z_subm, z_addm, z_lt_t, z_lt_f, z_le_t, z_le_f, z_eq_t, z_eq_f, z_eqm, z_meq, z_mm, z_ltm, z_mlt, z_lem, z_mle, z_cl, z_ck, u1_1, u1_2, u2_1, u2_2, ↓reduceIte, Option.bind_some, Option.bind_none, bd2_some, lb_eq, and_true, and_false, true_and, false_and, not_true_eq_false, not_false_eq_true, eq_self_iff_true, if_true, if_false, Nat.reduceEqDiff, Nat.reduceAdd, Nat.reduceMul, Nat.reduceSub, Bool.false_eq_true, zl0, zl1, zl2, zl3, zl4, zl5, zl6, zl7, zl8, zl9, zl10, zl11, zl12, zl13, zl14, zl15, zl16, zl17, zl18, zl19, zl20, zl22, zl23, zl24, zl25, zl30, zl31, zl32, zl33, zl34, zl35, zl36, zl37, zl38, zl39, zl40, zl41, zl42, zl43, zl45, zl48, zl49, zl57, zl58, zl59, zl60, zl61, zl62, zl63, zl64, zl91, zl93, zl97, zl98, zl99, zl100, zl113, zl114, zl115, zl116, zl117, zl122, zl124, zl125, zl127, zl128, zl136, zl200, zl201, zl202, zl203, zl204, zl205, zl206, zl207, zl208, zl209, zl210, zl211, zl212, zl213, zl214, zl215, zl216, zl217, zl218, zl219, zl220, zl235, zl236, zl255, zl280, zl287, zl900, zl999, zl1000, zl1001, zl1136, zl1960, zl3000, zl3001, zl3002, zl3003, zl3004, zl3005, zl3006, zl3007, zl3008, zl3009, zl268435456, zl1000000000]), a2, Option.bind_some, b2, Option.bind_some]
          exact r2
    · obtain ⟨M', a1, a2, a3⟩ := loop_bM h2 g
      exact ⟨Pc, M', loop_bC h1 f, a1, Or.inr ⟨f', p, h1, a2, a3⟩⟩
