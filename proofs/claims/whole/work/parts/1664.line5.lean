/-! reading a net: at, the laws, lines -/
theorem at_ok0 {γ : GT} (hγ : GOk γ) {v : NV} {s : SV} {c k p q d : Nat} {Pc Pm : PM} (hX : NX γ (vN v) (vN v) s s v c k p q d Pc Pm) (hv : NVok v) (hs : SVok v s) (hk : k ≠ 24) :
    ∃ Pc' Pm', f_Nr_readAt Pc = some Pc' ∧ f_Mo_readAt Pm = some Pm' ∧ NL γ (d + 1) Pc' Pm' := by
  have hN := hv.1
  have hm1 : (1 : Int32).toNatClampNeg = 1 := rfl
  have h40 : (40 : Int32) = nI 41 - nI 1 := rfl
  obtain ⟨P1, M1, a1, a2, a3, -⟩ := nx_next hγ hX hk
  unfold f_Nr_readAt f_Mo_readAt
  rw [a1, a2, Option.bind_some, Option.bind_some]
  -- behind a fault
  have bad : ∀ (f p : Nat) (w : Nat) (x : Int32) (P M : PM), NBc γ f p P → NBm γ f p M →
      ∃ Pc' Pm', (f_Ta_skip (203 : Int32) (u1 P 11 0 (nI w))).bind (fun P4 => bd2 (f_Ta_takeNumber (1 : Int32) (40 : Int32) P4) (fun v5 P6 => some (u1 P6 11 1 v5))) = some Pc' ∧
        bd2 (f_Mo_eats (11 : Int32) M) (fun v4 P5 => if v4 = (0 : Int32) then ((f_Mo_fails (2 : Int32) P5).bind (fun P7 => j_Mo_readAt_32 x P7)) else (j_Mo_readAt_32 x P5)) = some Pm' ∧ NL γ (d + 1) Pc' Pm' := by
    intro f p w x P M h1 h2
    obtain ⟨P2, M2, b1, b2, b3⟩ := nx_skip (nc := 0) (nm := 0) (sc := s0) (sm_ := s0) (v := v) (c := 0) (d := 0) hγ (j := 11) (by unfold kok; omega) (by omega) (Or.inr ⟨f, p, NBc_u h1 (k := 11) (j := 0) (x := nI w) (by omega), h2⟩)
    rw [show (203 : Int32) = nI (kt 11) from rfl, b1, Option.bind_some, show (11 : Int32) = nI 11 from rfl, b2 (fun P => j_Mo_readAt_32 x P)]
    have hbad : ∃ f p, NBc γ f p P2 ∧ NBm γ f p M2 := by
      rcases b3 with ⟨k', p', q', b3⟩ | b3
      · -- it was faulty and stays so
        exfalso
        have e1 := b3.2.2.1.1.1
        have hB := NBc_u h1 (k := 11) (j := 0) (x := nI w) (by omega)
        obtain ⟨P9, y1, y2⟩ := nbc_fail (x := nI 2) hB
        have : f_Ta_skip (nI (kt 11)) (u1 P 11 0 (nI w)) = some P9 := by
          unfold f_Ta_skip
          rw [if_neg (nbc_tk hB (by unfold kok; omega) (by omega)), show (2 : Int32) = nI 2 from rfl, y1]; rfl
        rw [this] at b1
        have e2 : P9 = P2 := Option.some.inj b1
        have e3 := y2.2.1.1
        rw [e2, e1] at e3
        have e4 := y2.2.1.2.2.2.1
        have e5 := y2.2.1.2.2.2.2.1
        have := (nI_eq (by omega) (by omega)).mp e3
        omega
      · exact b3
    obtain ⟨f', p', g1, g2⟩ := hbad
    obtain ⟨P3, d1, d2⟩ := nbc_take (lo := (1 : Int32)) (hi := (40 : Int32)) g1
    obtain ⟨z, M3, d3, d4, d5⟩ := nbm_take (lo := (1 : Int32)) (hi := (40 : Int32)) g2
    unfold j_Mo_readAt_32
    rw [d1, d3, bd2_some, bd2_some, if_neg (show ¬ M3.1 109 11 = (0 : Int32) from d5)]
    exact ⟨_, _, rfl, rfl, Or.inr ⟨f', p', NBc_u d2 (by omega), d4⟩⟩
  rcases a3 with ⟨k1, p1, q1, a3⟩ | ⟨f, p1, a3, a5⟩
  · have e1 : f_Nr_readTold (-1 : Int32) P1 = f_Ta_takeNumber (nI 0) (nI (vN v) - nI 1) P1 := told_C a3 (fun h => by
      obtain ⟨w, w1, w2, w3⟩ := a3.2.2.1.2.2.2.2.2.2 h.1
      rw [w2] at h
      have := h.2
      rw [show (-1 : Int32) = -nI 1 from rfl, z_eqm (by omega) (by omega) (by omega)] at this
      exact this)
    have e2 : M1.1 113 (1 : Int32).toNatClampNeg - (1 : Int32) = nI (vN v) - nI 1 := by rw [hm1, a3.2.2.2.2.1.1.1]; rfl
    obtain ⟨wc, wm, P2, M2, b1, b2, b3⟩ := nx_takes hγ (lo := 0) (hb := vN v) (by omega) (by omega) a3
    rw [e1, b1, e2, show (0 : Int32) = nI 0 from rfl, b2, bd2_some, bd2_some]
    rcases b3 with ⟨a, k2, p2, q2, -, ha, rfl, rfl, g1, g2, g3, g4, g5, g6, g7⟩ | ⟨f, p2, g1, g2, ⟨w, rfl, hw⟩, g4⟩
    · have hX2 : NX γ (vN v) (vN v) (sWs s (some a)) s v c k2 p2 q2 (d + 1 + 1) (u1 P2 11 0 (nI a)) M2 := ⟨FLc_u g1 (by omega), g2, TG_uc g3 (by omega), npc_where g4, g5, g6, g7⟩
      obtain ⟨P3, M3, c1, c2, c3⟩ := nx_skip hγ (j := 11) (by unfold kok; omega) (by omega) (Or.inl ⟨k2, p2, q2, hX2⟩)
      rw [show (203 : Int32) = nI (kt 11) from rfl, c1, Option.bind_some, show (11 : Int32) = nI 11 from rfl]
      have c2' := c2 (fun P => j_Mo_readAt_32 (nI a) P)
      rw [show (nI 0) = (0 : Int32) from rfl, c2', h40, show (1 : Int32) = nI 1 from rfl]
      rcases c3 with ⟨k3, p3, q3, c3⟩ | ⟨f, p3, c3, c5⟩
      · obtain ⟨vc, vm, P4, M4, d1, d2, d3⟩ := nx_takes hγ (lo := 1) (hb := 41) (by omega) (by omega) c3
        unfold j_Mo_readAt_32
        rw [h40, show (1 : Int32) = nI 1 from rfl, d1, d2, bd2_some, bd2_some]
        rcases d3 with ⟨w, k4, p4, q4, hw1, hw2, rfl, rfl, m1, m2, m3, m4, m5, m6, m7⟩ | ⟨f, p4, m1, m2, ⟨w, rfl, hw⟩, m4⟩
        · refine ⟨_, _, rfl, by rw [if_pos (show M4.1 109 11 = (0 : Int32) from m3.2.1.1)]; rfl, Or.inl ⟨v, sZs (sWs s (some a)) w, c, k4, p4, q4, ⟨FLc_u m1 (by omega), FLm_u (FLm_u m2), TG_um (TG_um (TG_uc m3 (by omega))), npc_size m4, npm_at m5, by omega, m7⟩, hv, ⟨fun k hk => ?_, (fun h => by cases h), (by show w ≤ 40; omega), hs.2.2.2⟩⟩⟩
          have : a = k := Option.some.inj hk
          exact ⟨by omega, hw1⟩
        · by_cases e : M4.1 109 11 = (0 : Int32)
          · rw [if_pos e]
            exact ⟨_, _, rfl, rfl, Or.inr ⟨f, p4, NBc_u m1 (by omega), NBm_u (NBm_u m2)⟩⟩
          · rw [if_neg e]
            exact ⟨_, _, rfl, rfl, Or.inr ⟨f, p4, NBc_u m1 (by omega), m2⟩⟩
      · obtain ⟨P4, d1, d2⟩ := nbc_take (lo := nI 1) (hi := nI 41 - nI 1) c3
        obtain ⟨z, M4, d3, d4, d5⟩ := nbm_take (lo := nI 1) (hi := nI 41 - nI 1) c5
        unfold j_Mo_readAt_32
        rw [h40, show (1 : Int32) = nI 1 from rfl, d1, d3, bd2_some, bd2_some, if_neg (show ¬ M4.1 109 11 = (0 : Int32) from d5)]
        exact ⟨_, _, rfl, rfl, Or.inr ⟨f, p3, NBc_u d2 (by omega), d4⟩⟩
    · exact bad f p2 w wm P2 M2 g1 g2
  · obtain ⟨P2, b1, b2⟩ := nbc_told (x := (-1 : Int32)) a3
    obtain ⟨z, M2, b3, b4, b5⟩ := nbm_take (lo := (0 : Int32)) (hi := M1.1 113 (1 : Int32).toNatClampNeg - (1 : Int32)) a5
    rw [b1, b3, bd2_some, bd2_some]
    exact bad f p1 0 z P2 M2 b2 b4
theorem Cf_ro {f p : Nat} {P P' : PM} (h : Cf f p P) (e : P'.1 1 = P.1 1) : Cf f p P' := by
  unfold Cf at *
  rw [e]
  exact h
theorem Mf_ro {f p : Nat} {P P' : PM} (h : Mf f p P) (e : P'.1 109 = P.1 109) : Mf f p P' := by
  unfold Mf Mh at *
  rw [e]
  exact h
theorem law_ok0 {γ : GT} (hγ : GOk γ) {v : NV} {s : SV} {c k p q d r m : Nat} {τ : Bool} {RC RM : PM → Option PM} {Pc Pm : PM} (hX : NX γ (vN v) (vN v) s s v c k p q d Pc Pm) (hv : NVok v) (hs : SVok v s) (hk : k ≠ 24) (hr : r < 2) (hm : m < 64)
    (hR : ∀ γ', GOk γ' → Rd γ' RC RM τ m) (hτ : (r = 0 ∧ τ = true) ∨ (r = 1 ∧ τ = false)) (h18 : ∀ P, j_Mo_readLaw_18 (nI r) P = (RM P).bind (fun P3 => j_Mo_readLaw_45 (nI r) (P.1 113 235) P3)) :
    ∃ Pc' Pm', (f_Ta_next Pc).bind (fun P1 => (f_Ta_skip (58 : Int32) P1).bind (fun P2 => (RC (u1 P2 4 (7 + 2 * r) (P2.1 4 6))).bind (fun P3 => some (u1 P3 4 (8 + 2 * r) (P3.1 4 6))))) = some Pc' ∧ f_Mo_readLaw (nI r) Pm = some Pm' ∧ NL γ (d + 1) Pc' Pm' := by
  have hn := hγ.1.1
  obtain ⟨x1, x2, x3, x4, x5, x6, x7⟩ := hX
  have hpq := x3.2.2.2
  have c6 : Pc.1 4 6 = nI c := x4.2.2.2.2.2.2.2.1
  have m6 : Pm.1 113 235 = nI c := x5.2.2.2.2.2.2.2.1
  have hγ1 : GOk (γ.1, γ.2.1, c, Pc, Pm) := ⟨hγ.1, TKC_FL hγ x1, TKM_FL hγ x2, by show c ≤ 900; omega⟩
  have hG : LG (γ.1, γ.2.1, c, Pc, Pm) d [] k p q Pc Pm := ⟨⟨rfl, fun _ _ _ _ => rfl, fun _ _ => rfl, fun _ _ => rfl, fun _ _ => rfl⟩, ⟨rfl, fun _ _ _ => rfl, fun _ _ => rfl, fun _ _ => rfl⟩, x3, ⟨c6, m6, (fun j hj => by cases hj), (fun j hj => by cases hj)⟩, x6⟩
  obtain ⟨o1, P1, M1, a1, a2, a3, a4, -⟩ := ls_next hγ1 hG hk
  obtain ⟨o2, P2, M2, b1, b2, b3, b4⟩ := ls_skip hγ1 (j := 31) (by unfold kok; omega) (by omega) a3
  obtain ⟨Q, hQ⟩ : ∃ Q, Q = u1 P2 4 (7 + 2 * r) (P2.1 4 6) := ⟨_, rfl⟩
  -- frames of what stands now
  have fr2 : LF (γ.1, γ.2.1, c, Pc, Pm) P2 ∧ LM (γ.1, γ.2.1, c, Pc, Pm) M2 := by
    cases o2 with
    | inl es => obtain ⟨_, _, _, h1, h2, _⟩ := b3; exact ⟨h1, h2⟩
    | inr x => exact ⟨b3.1.1, b3.2.1⟩
  have hFQ : FLc γ Q := by
    rw [hQ]
    refine FLc_u ⟨fr2.1.1.trans x1.1, fun o ho => ?_, fun j hj => (fr2.1.2.2.1 j hj).trans (x1.2.2 j hj)⟩ (by omega)
    exact (fr2.1.2.1 o (by omega) (by omega) (by omega)).trans (x1.2.1 o ho)
  have hFM : FLm γ M2 := ⟨fr2.2.1.trans x2.1, fun o h1 h2 => (fr2.2.2.1 o h1 h2).trans (x2.2.1 o h1 h2), fun j hj => (fr2.2.2.2.1 j hj).trans (x2.2.2 j hj)⟩
  have hγ2 : GOk (γ.1, γ.2.1, c, Q, M2) := ⟨hγ.1, TKC_FL hγ hFQ, TKM_FL hγ hFM, by show c ≤ 900; omega⟩
  have q1 : Q.1 1 = P2.1 1 := by rw [hQ]; exact u1r (by omega)
  have q6 : Q.1 4 6 = P2.1 4 6 := by rw [hQ]; exact u1c (by omega)
  have hL2 : LSt (γ.1, γ.2.1, c, Q, M2) (d + 1) o2 Q M2 := by
    cases o2 with
    | inl es =>
      have he : es = [] := by
        cases o1 with
        | inl es1 =>
          have h1 : es1 = [] := a4
          have h2 : es = es1 := b4
          rw [h2, h1]
        | inr x => exact b4.elim
      subst he
      obtain ⟨k', p', q', h1, h2, h3, h4, h5⟩ := b3
      exact ⟨k', p', q', ⟨rfl, fun _ _ _ _ => rfl, fun _ _ => rfl, fun _ _ => rfl, fun _ _ => rfl⟩, ⟨rfl, fun _ _ _ => rfl, fun _ _ => rfl, fun _ _ => rfl⟩, TG_ro h3 q1 rfl, ⟨q6.trans h4.1, h4.2.1, (fun j hj => by cases hj), (fun j hj => by cases hj)⟩, h5⟩
    | inr x =>
      obtain ⟨⟨h1, h2, c', h3, h4, h5⟩, g1, g2, g3, g4, g5, g6⟩ := b3
      exact ⟨⟨⟨rfl, fun _ _ _ _ => rfl, fun _ _ => rfl, fun _ _ => rfl, fun _ _ => rfl⟩, Cf_ro h2 q1, c', h3, h4, q6.trans h5⟩, ⟨rfl, fun _ _ _ => rfl, fun _ _ => rfl, fun _ _ => rfl⟩, g2, g3, g4, g5, g6⟩
  obtain ⟨o3, P3, M3, d1, d2, d3, d4⟩ := hR _ hγ2 (d + 1) o2 Q M2 hL2
  have eC : (f_Ta_next Pc).bind (fun P1 => (f_Ta_skip (58 : Int32) P1).bind (fun P2 => (RC (u1 P2 4 (7 + 2 * r) (P2.1 4 6))).bind (fun P3 => some (u1 P3 4 (8 + 2 * r) (P3.1 4 6))))) = some (u1 P3 4 (8 + 2 * r) (P3.1 4 6)) := by
    rw [a1, Option.bind_some, show (58 : Int32) = nI (kt 31) from rfl, b1, Option.bind_some, ← hQ, d1]; rfl
  have eM : f_Mo_readLaw (nI r) Pm = j_Mo_readLaw_45 (nI r) (M2.1 113 235) M3 := by
    unfold f_Mo_readLaw
    rw [a2, Option.bind_some, show (31 : Int32) = nI 31 from rfl, b2 (fun P => j_Mo_readLaw_18 (nI r) P), h18, d2]; rfl
  rw [eC, eM]
  have fr3 : LF (γ.1, γ.2.1, c, Q, M2) P3 ∧ LM (γ.1, γ.2.1, c, Q, M2) M3 := by
    cases o3 with
    | inl es => obtain ⟨_, _, _, h1, h2, _⟩ := d3; exact ⟨h1, h2⟩
    | inr x => exact ⟨d3.1.1, d3.2.1⟩
  have hF3 : FLc γ (u1 P3 4 (8 + 2 * r) (P3.1 4 6)) := by
    refine FLc_u ⟨fr3.1.1.trans hFQ.1, fun o ho => ?_, fun j hj => (fr3.1.2.2.1 j hj).trans (hFQ.2.2 j hj)⟩ (by omega)
    exact (fr3.1.2.1 o (by omega) (by omega) (by omega)).trans (hFQ.2.1 o ho)
  have hM3 : FLm γ M3 := ⟨fr3.2.1.trans hFM.1, fun o h1 h2 => (fr3.2.2.1 o h1 h2).trans (hFM.2.1 o h1 h2), fun j hj => (fr3.2.2.2.1 j hj).trans (hFM.2.2 j hj)⟩
  -- cells of the class's net as they were
  have r4 : ∀ j, j ≠ 6 → j ≠ 7 + 2 * r → P3.1 4 j = Pc.1 4 j := fun j h1 h2 => by
    rw [fr3.1.2.2.2.1 j h1]
    show Q.1 4 j = _
    rw [hQ, u1c h2]
    exact fr2.1.2.2.2.1 j h1
  have rr : ∀ o, o ≠ 1 → o ≠ 4 → o ≠ 8 → P3.1 o = Pc.1 o := fun o h1 h2 h3 => by
    rw [fr3.1.2.1 o h1 h2 h3]
    show Q.1 o = _
    rw [hQ, u1r h2]
    exact fr2.1.2.1 o h1 h2 h3
  have r8 : ∀ j, j < c → P3.1 8 j = Pc.1 8 j := fun j hj => by
    rw [fr3.1.2.2.2.2 j hj]
    show Q.1 8 j = _
    rw [hQ, u1r (by omega)]
    exact fr2.1.2.2.2.2 j hj
  have r7 : P3.1 4 (7 + 2 * r) = P2.1 4 6 := by
    rw [fr3.1.2.2.2.1 _ (by omega)]
    show Q.1 4 (7 + 2 * r) = _
    rw [hQ, u1e]
  have rm : ∀ j, (j < 235 ∨ (236 ≤ j ∧ j < 236 + c)) → M3.1 113 j = Pm.1 113 j := fun j hj => (fr3.2.2.2.2 j hj).trans (fr2.2.2.2.2 j hj)
  have n0 : P3.1 4 0 = nI (vN v) := (r4 0 (by omega) (by omega)).trans x4.1
  cases o3 with
  | inl es =>
    have ho2 : o2 = .inl [] := by
      cases o2 with
      | inl es2 =>
        cases o1 with
        | inl es1 =>
          have h1 : es1 = [] := a4
          have h2 : es2 = es1 := b4
          rw [h2, h1]
        | inr x => exact b4.elim
      | inr x => exact d4.elim
    subst ho2
    obtain ⟨k', p', q', g1, g2, g3, ⟨e1, e2, e3, e4⟩, g5⟩ := d3
    obtain ⟨_, _, _, w1, w2, w3, ⟨w4, w5, _, _⟩, w6⟩ := b3
    obtain ⟨fs, hfs, hty⟩ := d4
    have hes : es = fs := by rw [hfs]; rfl
    have hty0 := hty [] (by simp only [List.length_nil]; omega)
    rw [← hes] at hty0
    have hne : es ≠ [] := fun e => by
      rw [e] at hty0
      exact absurd hty0 (by simp [cts])
    have hp' := g3.2.2.2
    have w4' : P2.1 4 6 = nI c := w4
    have w5' : M2.1 113 235 = nI c := w5
    have e1' : P3.1 4 6 = nI (c + es.length) := e1
    have e2' : M3.1 113 235 = nI (c + es.length) := e2
    have e3' : ∀ j, j < es.length → P3.1 8 (c + j) = cc (es.getD j 0) := e3
    have e4' : ∀ j, j < es.length → M3.1 113 (236 + c + j) = nI (es.getD j 0) := e4
    have g5' : c + es.length + (d + 1) ≤ p' := g5
    obtain ⟨y0, y1, y2, y3, y4, y5, y6, y7, z0, z1, z2, z3, z4⟩ := x4
    obtain ⟨u0, t1, t2, t3, t4, t5, t6, t7, s0_, s1, s2, s3, s4⟩ := x5
    have keepC : ∀ q2 es2, q2 < 2 → q2 ≠ r → CL2 Pc q2 es2 c → CL2 (u1 P3 4 (8 + 2 * r) (P3.1 4 6)) q2 es2 (c + es.length) := by
      intro q2 es2 h1 h2 ⟨f, k1, k2, k3, k4⟩
      refine ⟨f, ?_, ?_, by omega, fun j hj => ?_⟩
      · rw [u1c (by omega), r4 _ (by omega) (by omega)]; exact k1
      · rw [u1c (by omega), r4 _ (by omega) (by omega)]; exact k2
      · rw [u1r (by omega), r8 _ (by omega)]; exact k4 j hj
    have newC : CL2 (u1 P3 4 (8 + 2 * r) (P3.1 4 6)) r es (c + es.length) := by
      refine ⟨c, ?_, ?_, Nat.le_refl _, fun j hj => ?_⟩
      · rw [u1c (by omega), r7, w4']
      · rw [u1e, e1']
      · rw [u1r (by omega)]; exact e3' j hj
    obtain ⟨Z, hZ⟩ : ∃ Z, Z = u1 (u1 (u1 M3 113 (2 + r) (nI 1)) 113 (4 + r) (nI c)) 113 (6 + r) (nI es.length) := ⟨_, rfl⟩
    have k0 : ∀ j, (j ≠ 2 + r ∧ j ≠ 4 + r ∧ j ≠ 6 + r) → Z.1 113 j = M3.1 113 j := fun j hj => by rw [hZ, u1c (by omega), u1c (by omega), u1c (by omega)]
    have k1 : ∀ j, (j ≠ 2 + r ∧ j ≠ 4 + r ∧ j ≠ 6 + r) → (j < 235 ∨ (236 ≤ j ∧ j < 236 + c)) → Z.1 113 j = Pm.1 113 j := fun j h1 h2 => (k0 j h1).trans (rm j h2)
    have keepM : ∀ q2 es2, q2 < 2 → q2 ≠ r → ML2 Pm q2 es2 c → ML2 Z q2 es2 (c + es.length) := by
      intro q2 es2 h1 h2 h3
      refine ⟨(k1 _ (by omega) (by omega)).trans h3.1, fun he => ?_⟩
      obtain ⟨f, j1, j2, j3, j4⟩ := h3.2 he
      exact ⟨f, (k1 _ (by omega) (by omega)).trans j1, (k1 _ (by omega) (by omega)).trans j2, by omega, fun j hj => (k1 _ (by omega) (by omega)).trans (j4 j hj)⟩
    have newM : ML2 Z r es (c + es.length) := by
      refine ⟨?_, fun _ => ⟨c, ?_, ?_, Nat.le_refl _, fun j hj => ?_⟩⟩
      · rw [hZ, u1c (by omega), u1c (by omega), u1e, if_neg hne]
      · rw [hZ, u1c (by omega), u1e]
      · rw [hZ, u1e]
      · rw [k0 _ (by omega)]; exact e4' j hj
    have w0 : M3.1 109 11 = nI 0 := g3.2.1.1
    have h45 : j_Mo_readLaw_45 (nI r) (M2.1 113 235) M3 = some Z := by
      unfold j_Mo_readLaw_45
      rw [if_pos (show M3.1 109 11 = (0 : Int32) from w0), show (2 : Int32) = nI 2 from rfl, show (4 : Int32) = nI 4 from rfl, show (6 : Int32) = nI 6 from rfl, z_add, z_add, z_add, z_ck (by omega) (by omega), z_ck (by omega) (by omega), z_ck (by omega) (by omega), z_cl (by omega), z_cl (by omega), z_cl (by omega), show (235 : Int32).toNatClampNeg = 235 from rfl, u1c (by omega), u1c (by omega), e2', w5', z_sub (by omega), Nat.add_sub_cancel_left, hZ]
      rfl
    refine ⟨_, Z, rfl, h45, Or.inl ⟨vTs v r es, s, c + es.length, k', p', q', ⟨hF3, by rw [hZ]; exact FLm_u (FLm_u (FLm_u hM3)), TG_ro g3 (u1r (by omega)) (by rw [hZ, u1r (by omega), u1r (by omega), u1r (by omega)]), ?_, ?_, by omega, x7⟩, ⟨hv.1, hv.2.1, ?_, ?_⟩, hs⟩⟩
    · refine ⟨?_, ?_, fun i hi => ?_, fun a b ha hb => ?_, fun a b ha hb => ?_, ?_, ?_, ?_, ?_⟩
      · rw [u1c (by omega)]; exact n0
      · rw [u1c (by omega), r4 1 (by omega) (by omega)]; exact y1
      · rw [u1r (by omega), rr 5 (by omega) (by omega) (by omega)]; exact y2 i hi
      · rw [u1r (by omega), rr 6 (by omega) (by omega) (by omega)]; exact y3 a b ha hb
      · rw [u1r (by omega), rr 7 (by omega) (by omega) (by omega)]; exact y4 a b ha hb
      · show CL2 _ 0 (if r = 0 then es else vT v) _
        by_cases e : r = 0
        · rw [if_pos e]; rw [e] at newC ⊢; exact newC
        · rw [if_neg e]; exact keepC 0 _ (by omega) (by omega) y5
      · show CL2 _ 1 (if r = 0 then vP v else es) _
        by_cases e : r = 0
        · rw [if_pos e]; exact keepC 1 _ (by omega) (by omega) y6
        · rw [if_neg e]
          obtain rfl : r = 1 := by omega
          exact newC
      · rw [u1c (by omega)]; exact e1'
      · have hrow : ∀ o, o ≠ 1 → o ≠ 4 → o ≠ 8 → (u1 P3 4 (8 + 2 * r) (P3.1 4 6)).1 o = Pc.1 o := fun o h1 h2 h3 => by rw [u1r h2]; exact rr o h1 h2 h3
        exact CSt_ro ⟨z0, z1, z2, z3, z4⟩ (hrow 11 (by omega) (by omega) (by omega)) (hrow (11 + 1) (by omega) (by omega) (by omega))
    · refine ⟨⟨(k1 1 (by omega) (by omega)).trans u0.1, (k1 124 (by omega) (by omega)).trans u0.2⟩, (k1 0 (by omega) (by omega)).trans t1, fun i hi => (k1 _ (by omega) (by omega)).trans (t2 i hi), fun a b ha hb => (k1 _ (by omega) (by omega)).trans (t3 a b ha hb), fun a b ha hb => (k1 _ (by omega) (by omega)).trans (t4 a b ha hb), ?_, ?_, (k0 235 (by omega)).trans e2', (k1 _ (by omega) (by omega)).trans s0_, (k1 _ (by omega) (by omega)).trans s1, (k1 _ (by omega) (by omega)).trans s2, (k1 _ (by omega) (by omega)).trans s3, fun i hi => (k1 _ (by omega) (by omega)).trans (s4 i hi)⟩
      · show ML2 _ 0 (if r = 0 then es else vT v) _
        by_cases e : r = 0
        · rw [if_pos e]; rw [e] at newM; exact newM
        · rw [if_neg e]; exact keepM 0 _ (by omega) (by omega) t5
      · show ML2 _ 1 (if r = 0 then vP v else es) _
        by_cases e : r = 0
        · rw [if_pos e]; exact keepM 1 _ (by omega) (by omega) t6
        · rw [if_neg e]
          obtain rfl : r = 1 := by omega
          exact newM
    · show (if r = 0 then es else vT v) ≠ [] → cts (if r = 0 then es else vT v) [] = some [true]
      by_cases e : r = 0
      · rw [if_pos e]
        intro _
        rcases hτ with ⟨_, rfl⟩ | ⟨h, _⟩
        · exact hty0
        · omega
      · rw [if_neg e]; exact hv.2.2.1
    · show (if r = 0 then vP v else es) ≠ [] → cts (if r = 0 then vP v else es) [] = some [false]
      by_cases e : r = 0
      · rw [if_pos e]; exact hv.2.2.2
      · rw [if_neg e]
        intro _
        rcases hτ with ⟨h, _⟩ | ⟨_, rfl⟩
        · omega
        · exact hty0
  | inr x =>
    obtain ⟨⟨g1, g2, c', g3, g4, g5⟩, j1, j2, j3, j4, j5, j6⟩ := d3
    have hBc : NBc γ x.1 x.2 (u1 P3 4 (8 + 2 * r) (P3.1 4 6)) := ⟨hF3, Cf_ro g2 (u1r (by omega)), ⟨vN v, x7, by rw [u1c (by omega)]; exact n0⟩, c', g4, by rw [u1c (by omega)]; exact g5⟩
    have hBm : NBm γ x.1 x.2 M3 := ⟨hM3, j2, j4, j5⟩
    unfold j_Mo_readLaw_45
    split
    · rw [show (2 : Int32) = nI 2 from rfl, show (4 : Int32) = nI 4 from rfl, show (6 : Int32) = nI 6 from rfl, z_add, z_add, z_add, z_ck (by omega) (by omega), z_ck (by omega) (by omega), z_ck (by omega) (by omega)]
      exact ⟨_, _, rfl, rfl, Or.inr ⟨x.1, x.2, hBc, NBm_u (NBm_u (NBm_u hBm))⟩⟩
    · exact ⟨_, _, rfl, rfl, Or.inr ⟨x.1, x.2, hBc, hBm⟩⟩
