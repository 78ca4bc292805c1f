/-! net() -/
def v0 : NV := (0, fun _ _ => 0, fun _ _ => 0, fun _ => 0, [], [], 0)
theorem v0_ok : NVok v0 := ⟨Nat.zero_le _, fun s t => ⟨Nat.zero_le _, Nat.zero_le _, fun h => absurd rfl h, fun _ => rfl⟩, fun h => absurd rfl h, fun h => absurd rfl h⟩
theorem s0_ok : SVok v0 s0 := ⟨(fun k h => by cases h), fun _ => rfl, Nat.zero_le _, by decide, fun _ => Nat.zero_le _⟩
theorem rowI_r {P : PM} {o k a b : Nat} {x : Int32} (h : o ≠ k) : (rowI P k a b x).1 o = P.1 o := by
  funext w
  rw [rowI_1, if_neg (fun c => h c.1)]
theorem clear_C (P : PM) : ∃ P', f_Ne_clear 4 P = some P' ∧ P'.2 = P.2 ∧ (∀ o, o ≠ 4 → o ≠ 5 → o ≠ 6 → o ≠ 7 → P'.1 o = P.1 o) ∧ P'.1 4 0 = nI 0 ∧ P'.1 4 1 = nI 0 ∧ P'.1 4 6 = nI 0 ∧ P'.1 4 7 = nI 0 ∧ P'.1 4 8 = nI 0 ∧ P'.1 4 9 = nI 0 ∧ P'.1 4 10 = nI 0 ∧ (∀ i, i < 7 → P'.1 5 i = nI 0) ∧ (∀ i, i < 49 → P'.1 6 i = nI 0) ∧ ∀ i, i < 49 → P'.1 7 i = nI 0 := by
  obtain ⟨Q, hQ⟩ : ∃ Q, Q = u1 (u1 (u1 (u1 (u1 (u1 (u1 P 4 0 (0 : Int32)) 4 1 (0 : Int32)) 4 6 (0 : Int32)) 4 7 (0 : Int32)) 4 8 (0 : Int32)) 4 9 (0 : Int32)) 4 10 (0 : Int32) := ⟨_, rfl⟩
  have q4 : ∀ j, (j = 0 ∨ j = 1 ∨ j = 6 ∨ j = 7 ∨ j = 8 ∨ j = 9 ∨ j = 10) → (rowI (rowI (rowI Q (4 + 1) 0 7 (0 : Int32)) (4 + 2) 0 49 (0 : Int32)) (4 + 3) 0 49 (0 : Int32)).1 4 j = nI 0 := fun j hj => by
    rw [rowI_r (by omega), rowI_r (by omega), rowI_r (by omega), hQ]
    rcases hj with rfl | rfl | rfl | rfl | rfl | rfl | rfl <;> (simp [u1_1]; rfl)
  refine ⟨rowI (rowI (rowI Q (4 + 1) 0 7 (0 : Int32)) (4 + 2) 0 49 (0 : Int32)) (4 + 3) 0 49 (0 : Int32), ?_, by rw [hQ]; rfl, fun o h1 h2 h3 h4 => ?_, q4 0 (by omega), q4 1 (by omega), q4 6 (by omega), q4 7 (by omega), q4 8 (by omega), q4 9 (by omega), q4 10 (by omega), fun i hi => ?_, fun i hi => ?_, fun i hi => ?_⟩
  · unfold f_Ne_clear
    rw [← hQ, fillAII (by omega), Option.bind_some, fillAII (by omega), Option.bind_some, fillAII (by omega), Option.bind_some]
  · rw [rowI_r (by omega), rowI_r (by omega), rowI_r (by omega), hQ, u1r h1, u1r h1, u1r h1, u1r h1, u1r h1, u1r h1, u1r h1]
  · rw [rowI_r (by omega), rowI_r (by omega), rowI_1, if_pos (by omega)]; rfl
  · rw [rowI_r (by omega), rowI_1, if_pos (by omega)]; rfl
  · rw [rowI_1, if_pos (by omega)]; rfl
theorem sclear_C (P : PM) : ∃ P', f_Sa_clear 11 P = some P' ∧ P'.2 = P.2 ∧ (∀ o, o ≠ 11 → o ≠ 12 → P'.1 o = P.1 o) ∧ CSt P' 11 s0 := by
  refine ⟨rowI (u1 (u1 (u1 (u1 P 11 0 (-1 : Int32)) 11 1 (0 : Int32)) 11 2 (0 : Int32)) 11 3 (0 : Int32)) (11 + 1) 0 7 (0 : Int32), ?_, rfl, fun o h1 h2 => ?_, ?_, ?_, ?_, ?_, fun i hi => ?_⟩
  · unfold f_Sa_clear
    rw [fillAII (by omega), Option.bind_some]
  · rw [rowI_r (by omega), u1r h1, u1r h1, u1r h1, u1r h1]
  · rw [rowI_r (by omega)]; simp [u1_1]; rfl
  · rw [rowI_r (by omega)]; simp [u1_1]; rfl
  · rw [rowI_r (by omega)]; simp [u1_1]; rfl
  · rw [rowI_r (by omega)]; simp [u1_1]; rfl
  · rw [rowI_1, if_pos (by omega)]; rfl
theorem tplain_l : ∀ (m x n : Nat) (P : PM), x + m = 1136 → m < n → l_Mo_plain_2 113 1136 n (nI x) P = some (u1 (rowI P 113 x 1136 0) 113 113 (-1 : Int32)) := by
  intro m
  induction m with
  | zero =>
    intro x n P hx hn
    obtain ⟨n, rfl⟩ : ∃ z, n = z + 1 := ⟨n - 1, by omega⟩
    obtain rfl : x = 1136 := by omega
    have e : rowI P 113 1136 1136 0 = P := PM_ext (fun u w => by rw [rowI_1, if_neg (by omega)]) (fun _ _ => rfl)
    rw [l_Mo_plain_2, if_pos (by decide), e, show (113 : Int32) = nI 113 from rfl, z_ck (by omega) (by omega), z_cl (by omega)]
  | succ m ih =>
    intro x n P hx hn
    obtain ⟨n, rfl⟩ : ∃ z, n = z + 1 := ⟨n - 1, by omega⟩
    rw [l_Mo_plain_2, if_neg (by simp (disch := omega) only [z_add, z_mul, z_sub, z_subm, z_addm, z_lt_t, z_lt_f, z_le_t, z_le_f, z_eq_t, z_eq_f, z_eqm, z_meq, z_mm, z_ltm, z_mlt, z_lem, z_mle, z_cl, z_ck, u1_1, u1_2, u2_1, u2_2, ↓reduceIte, Option.bind_some, Option.bind_none, bd2_some, lb_eq, and_true, and_false, true_and, false_and, not_true_eq_false, not_false_eq_true, eq_self_iff_true, if_true, if_false, Nat.reduceEqDiff, Nat.reduceAdd, Nat.reduceMul, Nat.reduceSub, Bool.false_eq_true, zl0, zl1, zl2, zl3, zl4, zl5, zl6, zl7, zl8, zl9, zl10, zl11, zl12, zl13, zl14, zl15, zl16, zl17, zl18, zl19, zl20, zl22, zl23, zl24, zl25, zl30, zl31, zl32, zl33, zl34, zl35, zl36, zl37, zl38, zl39, zl40, zl41, zl42, zl43, zl45, zl48, zl49, zl57, zl58, zl59, zl60, zl61, zl62, zl63, zl64, zl91, zl93, zl97, zl98, zl99, zl100, zl113, zl114, zl115, zl116, zl117, zl122, zl124, zl125, zl127, zl128, zl136, zl200, zl201, zl202, zl203, zl204, zl205, zl206, zl207, zl208, zl209, zl210, zl211, zl212, zl213, zl214, zl215, zl216, zl217, zl218, zl219, zl220, zl235, zl236, zl255, zl280, zl287, zl900, zl999, zl1000, zl1001, zl1136, zl1960, zl3000, zl3001, zl3002, zl3003, zl3004, zl3005, zl3006, zl3007, zl3008, zl3009, zl268435456, zl1000000000]), z_ck (by omega) (by omega), z_cl (by omega), z_one, ih (x + 1) n _ (by omega) (by omega)]
    congr 2
    refine PM_ext (fun u w => ?_) (fun _ _ => rfl)
    rw [rowI_1, rowI_1, u1_1]
    by_cases c1 : u = 113 ∧ x + 1 ≤ w ∧ w < 1136
    · rw [if_pos c1, if_pos (by omega)]
    · rw [if_neg c1]
      by_cases c2 : u = 113 ∧ w = x
      · rw [if_pos c2, if_pos (by omega)]
      · rw [if_neg c2, if_neg (by omega)]
theorem read_ok {n : Nat} {b : Nat → Nat} (hb : Bk b n) {Pc Pm : PM} (hC : ∀ i, i < n → Pc.1 2 i &&& 255 = nI (b i)) (hM : ∀ i, i < n → Pm.1 112 i = nI (b i)) :
    ∃ γ P' M', GOk γ ∧ f_Nr_read (nI n) Pc = j_Nr_read_203 P' ∧ (f_Mo_plain 113 1136 (u1 (u1 (u1 (u1 Pm 109 8 (nI n)) 109 5 (0 : Int32)) 109 7 (0 : Int32)) 109 11 (0 : Int32))).bind (fun P2 => (f_Mo_next P2).bind (fun P3 => bd2 (f_Mo_eats (0 : Int32) P3) (fun v4 P5 => if v4 = (0 : Int32) then ((f_Mo_fails (2 : Int32) P5).bind (fun P7 => j_Mo_net_66 P7)) else (j_Mo_net_66 P5)))) = j_Mo_net_97 M' ∧ Fin_ γ P' M' ∧
      P'.2 = Pc.2 ∧ (∀ o, ¬ (o = 1 ∨ (4 ≤ o ∧ o ≤ 12)) → P'.1 o = Pc.1 o) ∧ M'.2 = Pm.2 ∧ (∀ o, o ≠ 109 → o ≠ 113 → M'.1 o = Pm.1 o) ∧ M'.1 109 5 = nI 0 := by
  have hn := hb.1
  have hFU := FU_big
  obtain ⟨P1, a1, a2, a3, b0, b1, b6, b7, b8, b9, b10, r5, r6, r7⟩ := clear_C Pc
  obtain ⟨P2, c1, c2, c3, c4⟩ := sclear_C P1
  obtain ⟨Q, hQ⟩ : ∃ Q, Q = u1 (u1 (u1 (u1 P2 1 2 (nI n)) 1 3 (0 : Int32)) 1 7 (0 : Int32)) 1 8 (-1 : Int32) := ⟨_, rfl⟩
  have q1 : ∀ o, o ≠ 1 → Q.1 o = P2.1 o := fun o h => by rw [hQ, u1r h, u1r h, u1r h, u1r h]
  have hmn : mn (nI n) (900 : Int32) = nI n := by
    unfold mn
    rw [if_neg]
    simp (disch := omega) only [z_add, z_mul, z_sub, z_subm, z_addm, z_lt_t, z_lt_f, z_le_t, z_le_f, z_eq_t, z_eq_f, z_eqm, z_meq, z_mm, z_ltm, z_mlt, z_lem, z_mle, z_cl, z_ck, u1_1, u1_2, u2_1, u2_2, ↓reduceIte, Option.bind_some, Option.bind_none, bd2_some, lb_eq, and_true, and_false, true_and, false_and, not_true_eq_false, not_false_eq_true, eq_self_iff_true, if_true, if_false, Nat.reduceEqDiff, Nat.reduceAdd, Nat.reduceMul, Nat.reduceSub, Bool.false_eq_true, zl0, zl1, zl2, zl3, zl4, zl5, zl6, zl7, zl8, zl9, zl10, zl11, zl12, zl13, zl14, zl15, zl16, zl17, zl18, zl19, zl20, zl22, zl23, zl24, zl25, zl30, zl31, zl32, zl33, zl34, zl35, zl36, zl37, zl38, zl39, zl40, zl41, zl42, zl43, zl45, zl48, zl49, zl57, zl58, zl59, zl60, zl61, zl62, zl63, zl64, zl91, zl93, zl97, zl98, zl99, zl100, zl113, zl114, zl115, zl116, zl117, zl122, zl124, zl125, zl127, zl128, zl136, zl200, zl201, zl202, zl203, zl204, zl205, zl206, zl207, zl208, zl209, zl210, zl211, zl212, zl213, zl214, zl215, zl216, zl217, zl218, zl219, zl220, zl235, zl236, zl255, zl280, zl287, zl900, zl999, zl1000, zl1001, zl1136, zl1960, zl3000, zl3001, zl3002, zl3003, zl3004, zl3005, zl3006, zl3007, zl3008, zl3009, zl268435456, zl1000000000]
  have q2 : Q.1 1 2 = nI n := by rw [hQ, u1c (by omega), u1c (by omega), u1c (by omega), u1e]
  have q3 : Q.1 1 3 = nI 0 := by rw [hQ, u1c (by omega), u1c (by omega), u1e]; rfl
  have q7 : Q.1 1 7 = nI 0 := by rw [hQ, u1c (by omega), u1e]; rfl
  have q8 : Q.1 1 8 = -nI 1 := by rw [hQ, u1e]; rfl
  obtain ⟨X, hX⟩ : ∃ X, X = u1 (u1 (u1 (u1 Pm 109 8 (nI n)) 109 5 (0 : Int32)) 109 7 (0 : Int32)) 109 11 (0 : Int32) := ⟨_, rfl⟩
  have x1 : ∀ o, o ≠ 109 → X.1 o = Pm.1 o := fun o h => by rw [hX, u1r h, u1r h, u1r h, u1r h]
  obtain ⟨M, hMd⟩ : ∃ M, M = u1 (rowI X 113 0 1136 0) 113 113 (-1 : Int32) := ⟨_, rfl⟩
  have hpl : f_Mo_plain 113 1136 X = some M := by
    unfold f_Mo_plain
    rw [hMd]
    exact tplain_l 1136 0 FU X rfl (by omega)
  have m1 : ∀ o, o ≠ 113 → M.1 o = X.1 o := fun o h => by rw [hMd, u1r h, rowI_r h]
  have m2 : ∀ j, j < 1136 → j ≠ 113 → M.1 113 j = nI 0 := fun j h1 h2 => by rw [hMd, u1c h2, rowI_1, if_pos (by omega)]; rfl
  have m3 : M.1 113 113 = -nI 1 := by rw [hMd, u1e]; rfl
  have e8 : M.1 109 8 = nI n := by rw [m1 109 (by omega), hX, u1c (by omega), u1c (by omega), u1c (by omega), u1e]
  have e5 : M.1 109 5 = nI 0 := by rw [m1 109 (by omega), hX, u1c (by omega), u1c (by omega), u1e]; rfl
  have e7 : M.1 109 7 = nI 0 := by rw [m1 109 (by omega), hX, u1c (by omega), u1e]; rfl
  have e11 : M.1 109 11 = nI 0 := by rw [m1 109 (by omega), hX, u1e]; rfl
  have hTC : TKC b n Q := ⟨q2, fun i hi => by rw [q1 2 (by omega), c3 2 (by omega) (by omega), a3 2 (by omega) (by omega) (by omega) (by omega)]; exact hC i hi⟩
  have hTM : TKM b n M := ⟨e8, fun i hi => by rw [m1 112 (by omega), x1 112 (by omega)]; exact hM i hi⟩
  obtain ⟨γ, hγd⟩ : ∃ γ : GT, γ = (b, n, 0, Q, M) := ⟨_, rfl⟩
  have hγ : GOk γ := by rw [hγd]; exact ⟨hb, hTC, hTM, Nat.zero_le _⟩
  have hq4 : ∀ o, o ≠ 1 → o ≠ 11 → o ≠ 12 → Q.1 o = P1.1 o := fun o h1 h2 h3 => (q1 o h1).trans (c3 o h2 h3)
  have hNc : NPc 0 s0 v0 0 Q := by
    unfold NPc CL2 CSt
    rw [hq4 4 (by omega) (by omega) (by omega), hq4 5 (by omega) (by omega) (by omega), hq4 6 (by omega) (by omega) (by omega), hq4 7 (by omega) (by omega) (by omega), q1 11 (by omega), q1 (11 + 1) (by omega)]
    exact ⟨b0, b1, r5, fun a c ha hc => r6 _ (by omega), fun a c ha hc => r7 _ (by omega), ⟨0, b7, b8, Nat.le_refl _, (fun j hj => by cases hj)⟩, ⟨0, b9, b10, Nat.le_refl _, (fun j hj => by cases hj)⟩, b6, c4⟩
  have hNm : NPm 0 s0 v0 0 M := ⟨⟨m2 1 (by omega) (by omega), m2 124 (by omega) (by omega)⟩, m2 0 (by omega) (by omega), fun i hi => m2 _ (by omega) (by omega), fun a c ha hc => m2 _ (by omega) (by omega), fun a c ha hc => m2 _ (by omega) (by omega), ⟨m2 _ (by omega) (by omega), fun h => absurd rfl h⟩, ⟨m2 _ (by omega) (by omega), fun h => absurd rfl h⟩, m2 235 (by omega) (by omega), m3, m2 _ (by omega) (by omega), m2 _ (by omega) (by omega), m2 _ (by omega) (by omega), fun i hi => m2 _ (by omega) (by omega)⟩
  have hFc : FLc γ Q := by rw [hγd]; exact ⟨rfl, fun _ _ => rfl, fun _ _ => rfl⟩
  have hFm : FLm γ M := by rw [hγd]; exact ⟨rfl, fun _ _ _ => rfl, fun _ _ => rfl⟩
  obtain ⟨Pc', Pm', d1, d2, d3, d4, p, d5, d6, d7⟩ := next_ok hb hTC hTM q7 q8 e11 q3 e7 (Nat.zero_le _)
  have hO : NOut γ 0 0 s0 s0 v0 0 0 Pc' Pm' := by
    rcases d7 with ⟨k', q', d7⟩ | ⟨d7, d8⟩
    · exact Or.inl ⟨k', p, q', FLc_f hFc d3, FLm_f hFm d4, by rw [hγd]; exact d7, NPc_f hNc d3, NPm_f hNm d4, by omega, by omega⟩
    · exact Or.inr ⟨1, p, ⟨FLc_f hFc d3, d7, ⟨0, by omega, (NPc_f hNc d3).1⟩, 0, by omega, (NPc_f hNc d3).2.2.2.2.2.2.2.1⟩, FLm_f hFm d4, Or.inr ⟨rfl, d8⟩, by omega, by omega⟩
  obtain ⟨P3, M3, f1, f2, f3⟩ := nx_skip hγ (j := 0) (by unfold kok; omega) (by omega) hO
  have hL3 : NL γ 0 P3 M3 := by
    rcases f3 with ⟨k', p', q', f3⟩ | f3
    · exact Or.inl ⟨v0, s0, 0, k', p', q', f3, v0_ok, s0_ok⟩
    · exact Or.inr f3
  obtain ⟨P4, M4, g1, g2, g3⟩ := nx_skip hγ (j := 30) (by unfold kok; omega) (by omega) f3
  have e14 : ∀ M : PM, j_Mo_ends_14 M = some (u1 M 113 0 (M.1 113 0 + 1)) := fun M => rfl
  have hEnds : f_Mo_ends M3 = some (u1 M4 113 0 (M4.1 113 0 + 1)) := by
    unfold f_Mo_ends
    exact (g2 (fun P => j_Mo_ends_14 P)).trans (e14 M4)
  have hL4 : NL γ 0 (u1 P4 4 1 (1 : Int32)) (u1 M4 113 0 (M4.1 113 0 + 1)) := by
    rcases g3 with ⟨k', p', q', h1, h2, h3, h4, h5, h6, h7⟩ | ⟨f, p', h1, h2⟩
    · have l2 : M4.1 113 0 = 0 := h5.2.1
      rw [l2]
      exact Or.inl ⟨vLs v0 1, s0, 0, k', p', q', ⟨FLc_u h1 (by omega), FLm_u h2, TG_um (TG_uc h3 (by omega)), npc_lines h4, npm_lines h5, h6, h7⟩, v0_ok, s0_ok⟩
    · exact Or.inr ⟨f, p', NBc_l h1, NBm_u h2⟩
  obtain ⟨P', M', k1, k2, k3⟩ := lines_ok hγ 900 0 FU FU 0 _ _ rfl (by omega) (by omega) (by omega) hL4
  have hfr : FLc γ P' ∧ FLm γ M' := by
    rcases k3 with ⟨v, s, c, k, p, q, d, k3, _⟩ | ⟨f, p, k3, k4, _⟩
    · exact ⟨k3.1, k3.2.1⟩
    · exact ⟨k3.1, k4.1⟩
  rw [hγd] at hfr
  obtain ⟨⟨y1, y2, y3⟩, z1, z2, z3⟩ := hfr
  refine ⟨γ, P', M', hγ, ?_, ?_, k3, ?_, fun o ho => ?_, ?_, fun o h1 h2 => ?_, ?_⟩
  · unfold f_Nr_read f_Ta_open
    rw [a1, Option.bind_some, c1, Option.bind_some, hmn, ← hQ, d1, Option.bind_some, Option.bind_some, show (206 : Int32) = nI (kt 0) from rfl, f1, Option.bind_some, show (59 : Int32) = nI (kt 30) from rfl, g1, Option.bind_some]
    exact k1
  · rw [← hX, hpl, Option.bind_some, d2, Option.bind_some, show (0 : Int32) = nI 0 from rfl]
    refine (f2 (fun P => j_Mo_net_66 P)).trans ?_
    unfold j_Mo_net_66
    rw [hEnds, Option.bind_some]
    exact k2
  · rw [y1]
    show Q.2 = _
    rw [hQ]
    exact c2.trans a2
  · rw [y2 o ho]
    show Q.1 o = _
    rw [hq4 o (by omega) (by omega) (by omega), a3 o (by omega) (by omega) (by omega) (by omega)]
  · rw [z1]
    show M.2 = _
    rw [hMd, hX]
    rfl
  · rw [z2 o h1 h2]
    show M.1 o = _
    rw [m1 o h2, x1 o h1]
  · rw [z3 5 (by omega)]
    exact e5
