/-! reading laws: units, atoms, all of them -/
theorem tk_B {γ : GT} {f p j : Nat} {P : PM} (h : LBc γ f p P) (hj : kok j) (hj2 : j ≠ 24) : P.1 1 5 ≠ nI (kt j) := by
  have hj3 := kok_n hj
  have l2 := kt_lt j hj3.2
  rw [h.2.1.2.2.1]
  intro e
  have e2 := (nI_eq (by omega) (by omega)).mp e
  exact hj2 (kt_inj j hj3.2 24 (by omega) hj (by unfold kok; omega) (e2.symm.trans rfl))
theorem comp_ok {γ : GT} (hγ : GOk γ) {rC rM : Nat → Int32 → PM → Option PM} {e : Int32} {m : Nat} (h : Rd γ (rC 4 e) (rM 3 e) false m) :
    Rd γ (f_Lr_readComparison rC e) (fun P => (rM 3 e P).bind (fun P3 => if (f_Mo_is (39 : Int32) P3) = (0 : Int32) then (if (f_Mo_is (40 : Int32) P3) = (0 : Int32) then (j_Mo_readUnit_111 rM e (3005 : Int32) P3) else (j_Mo_readUnit_111 rM e (3004 : Int32) P3)) else (j_Mo_readUnit_111 rM e (3003 : Int32) P3))) true (m + 1) := by
  intro d o Pc Pm hL
  obtain ⟨o1, Pc1, Pm1, a1, a2, a3, a4⟩ := h d o Pc Pm hL
  cases o1 with
  | inl es1 =>
    obtain ⟨k, p, q, h0⟩ := id a3
    have h3 := h0.2.2.1
    have hkk := kok_n h3.2.2.1
    have i39 : f_Mo_is (39 : Int32) Pm1 = nI (if k = 39 then 1 else 0) := is_G (j := 39) h3.2.1 hkk.2 (by omega)
    have i40 : f_Mo_is (40 : Int32) Pm1 = nI (if k = 40 then 1 else 0) := is_G (j := 40) h3.2.1 hkk.2 (by omega)
    have i41 : f_Mo_is (41 : Int32) Pm1 = nI (if k = 41 then 1 else 0) := is_G (j := 41) h3.2.1 hkk.2 (by omega)
    have t39 : Pc1.1 1 5 = (61 : Int32) ↔ k = 39 := tk_C (j := 39) h3 (by unfold kok; omega)
    have t40 : Pc1.1 1 5 = (60 : Int32) ↔ k = 40 := tk_C (j := 40) h3 (by unfold kok; omega)
    have t41 : Pc1.1 1 5 = (62 : Int32) ↔ k = 41 := tk_C (j := 41) h3 (by unfold kok; omega)
    by_cases c : k = 39 ∨ k = 40 ∨ k = 41
    · -- a comparison stands there
      obtain ⟨o2, Pc2, Pm2, b1, b2, b3, b4, -⟩ := ls_next hγ h0 (by omega)
      obtain ⟨o3, Pc3, Pm3, c1, c2, c3, c4⟩ := h (d + 1) o2 Pc2 Pm2 b3
      have fin : ∀ op x : Nat, (∀ ts, ct op (false :: false :: ts) = some (true :: ts)) → cc op = -nI x → Pc1.1 1 5 = nI x →
          (∀ (Q : PM → Option PM), j_Lr_readComparison_40 rC e (Pc1.1 1 5) Pc1 = Q Pc1 → f_Lr_readComparison rC e Pc = Q Pc1) →
          ∃ o' Pc' Pm', f_Lr_readComparison rC e Pc = some Pc' ∧ j_Mo_readUnit_139 rM e (nI op) Pm1 = some Pm' ∧ LSt γ d o' Pc' Pm' ∧ ro true (m + 1) o o' := by
        intro op x hop hcc htk hC
        obtain ⟨Pc4, Pm4, g1, g2, g3⟩ := ls_code hγ (e := op) c3
        refine ⟨ap o3 op, Pc4, Pm4, ?_, ?_, g3, ?_⟩
        · have := hC (fun _ => some Pc4) (by
            unfold j_Lr_readComparison_40
            rw [b1, Option.bind_some, c1, Option.bind_some, htk, ← hcc, g1]; rfl)
          exact this
        · unfold j_Mo_readUnit_139 j_Mo_readUnit_151
          rw [b2, Option.bind_some, c2, Option.bind_some, g2]; rfl
        · have hx := ro_sr b4 c4
          cases o3 with
          | inl es3 =>
            obtain ⟨fs, x1, x2⟩ := hx
            cases o with
            | inl es0 =>
              obtain ⟨fs0, z1, z2⟩ := a4
              refine ⟨fs0 ++ (fs ++ [op]), by rw [x1, z1]; simp, fun ts ht => ?_⟩
              rw [cts_app (z2 ts (by omega)), cts_app (x2 (false :: ts) (by simp only [List.length_cons]; omega)), cts_one]
              exact hop ts
            | inr y => exact a4.elim
          | inr y =>
            cases o with
            | inl es0 => trivial
            | inr z => exact a4.elim
      have hCeq : f_Lr_readComparison rC e Pc = if Pc1.1 1 5 = (61 : Int32) then j_Lr_readComparison_40 rC e (Pc1.1 1 5) Pc1 else if Pc1.1 1 5 = (60 : Int32) then j_Lr_readComparison_40 rC e (Pc1.1 1 5) Pc1 else if Pc1.1 1 5 = (62 : Int32) then j_Lr_readComparison_40 rC e (Pc1.1 1 5) Pc1 else (f_Ta_fail (2 : Int32) Pc1).bind (fun P6 => some P6) := by
        unfold f_Lr_readComparison
        rw [a1, Option.bind_some, lb_eq]
      have hM : (rM 3 e Pm).bind (fun P3 => if (f_Mo_is (39 : Int32) P3) = (0 : Int32) then (if (f_Mo_is (40 : Int32) P3) = (0 : Int32) then (j_Mo_readUnit_111 rM e (3005 : Int32) P3) else (j_Mo_readUnit_111 rM e (3004 : Int32) P3)) else (j_Mo_readUnit_111 rM e (3003 : Int32) P3)) = j_Mo_readUnit_139 rM e (nI (if k = 39 then 3003 else if k = 40 then 3004 else 3005)) Pm1 := by
        rw [a2, Option.bind_some, i39, i40]
        unfold j_Mo_readUnit_111
        rw [i39, i40, i41]
        rcases c with rfl | rfl | rfl <;> rfl
      show ∃ o' Pc' Pm', _ ∧ (rM 3 e Pm).bind _ = _ ∧ _
      rw [hM]
      rcases c with rfl | rfl | rfl
      · exact fin 3003 61 (fun ts => rfl) rfl h3.1.2.2.1 (fun Q hQ => by rw [hCeq, if_pos (t39.mpr rfl)]; exact hQ)
      · exact fin 3004 60 (fun ts => rfl) rfl h3.1.2.2.1 (fun Q hQ => by rw [hCeq, if_neg (fun q => by have := t39.mp q; omega), if_pos (t40.mpr rfl)]; exact hQ)
      · exact fin 3005 62 (fun ts => rfl) rfl h3.1.2.2.1 (fun Q hQ => by rw [hCeq, if_neg (fun q => by have := t39.mp q; omega), if_neg (fun q => by have := t40.mp q; omega), if_pos (t41.mpr rfl)]; exact hQ)
    · obtain ⟨x, Pc2, Pm2, b1, b2, b3, b4⟩ := ls_fail (d' := d + 1) hγ (f := 2) ⟨by omega, by omega⟩ a3
      obtain ⟨Pm3, c1, c2⟩ := rd_bm h b3.1 b3.2
      obtain ⟨Pm4, d1, d2⟩ := bm_code (x := nI 3005) c2
      refine ⟨.inr x, Pc2, Pm4, ?_, ?_, ⟨b3.1, d2⟩, ?_⟩
      · unfold f_Lr_readComparison
        rw [a1, Option.bind_some, lb_eq, if_neg (fun q => by have := t39.mp q; omega), if_neg (fun q => by have := t40.mp q; omega), if_neg (fun q => by have := t41.mp q; omega), show (2 : Int32) = nI 2 from rfl, b1]; rfl
      · show (rM 3 e Pm).bind _ = _
        rw [a2, Option.bind_some, i39, if_pos (by rw [if_neg (by omega)]; rfl), i40, if_pos (by rw [if_neg (by omega)]; rfl)]
        unfold j_Mo_readUnit_111
        rw [i39, if_pos (by rw [if_neg (by omega)]; rfl), i40, if_pos (by rw [if_neg (by omega)]; rfl), i41, if_pos (by rw [if_neg (by omega)]; rfl), show (2 : Int32) = nI 2 from rfl, b2, Option.bind_some]
        unfold j_Mo_readUnit_151
        rw [c1, Option.bind_some, show (3005 : Int32) = nI 3005 from rfl, d1]; rfl
      · cases o with
        | inl es0 => trivial
        | inr z => exact a4.elim
  | inr x =>
    obtain ⟨h1, h2⟩ := id a3
    have hf := h2.2.1
    have hf2 : 1 ≤ x.1 ∧ x.1 ≤ 4 := ⟨h2.2.2.2.1, h2.2.2.2.2.1⟩
    have i39 : f_Mo_is (39 : Int32) Pm1 = nI 0 := is_B (j := 39) hf hf2 (by omega) (by omega)
    have i40 : f_Mo_is (40 : Int32) Pm1 = nI 0 := is_B (j := 40) hf hf2 (by omega) (by omega)
    have i41 : f_Mo_is (41 : Int32) Pm1 = nI 0 := is_B (j := 41) hf hf2 (by omega) (by omega)
    obtain ⟨Pc2, b1, b2⟩ := bc_fail (x := nI 2) h1
    obtain ⟨Pm2, c1, c2⟩ := bm_fail (d' := d + 1) (x := nI 2) h2
    obtain ⟨Pm3, d1, d2⟩ := rd_bm h b2 c2
    obtain ⟨Pm4, e1, e2⟩ := bm_code (x := nI 3005) d2
    refine ⟨.inr x, Pc2, Pm4, ?_, ?_, ⟨b2, e2⟩, ?_⟩
    · unfold f_Lr_readComparison
      rw [a1, Option.bind_some, lb_eq, if_neg (show Pc1.1 1 5 ≠ (61 : Int32) from tk_B (j := 39) h1 (by unfold kok; omega) (by omega)), if_neg (show Pc1.1 1 5 ≠ (60 : Int32) from tk_B (j := 40) h1 (by unfold kok; omega) (by omega)), if_neg (show Pc1.1 1 5 ≠ (62 : Int32) from tk_B (j := 41) h1 (by unfold kok; omega) (by omega)), show (2 : Int32) = nI 2 from rfl, b1]; rfl
    · show (rM 3 e Pm).bind _ = _
      rw [a2, Option.bind_some, i39, if_pos (by rfl), i40, if_pos (by rfl)]
      unfold j_Mo_readUnit_111
      rw [i39, if_pos (by rfl), i40, if_pos (by rfl), i41, if_pos (by rfl), show (2 : Int32) = nI 2 from rfl, c1, Option.bind_some]
      unfold j_Mo_readUnit_151
      rw [d1, Option.bind_some, show (3005 : Int32) = nI 3005 from rfl, e1]; rfl
    · cases o with
      | inl es0 => trivial
      | inr z => exact a4
theorem unit_ok {γ : GT} (hγ : GOk γ) {rC rC' rM : Nat → Int32 → PM → Option PM} {e m : Nat} (he : e ≤ 6) (h3 : ∀ P, rC 3 (nI e) P = f_Lr_readComparison rC' (nI e) P) (hS : Rd γ (rC' 4 (nI e)) (rM 3 (nI e)) false m)
    (hU : e < 6 → Rd γ (rC 2 (nI (e + 1))) (rM 4 (nI (e + 1))) true (m + 1)) (hT : e < 6 → Rd γ (rC 0 (nI (e + 1))) (rM 6 (nI (e + 1))) true (m + 1)) :
    Rd γ (f_Lr_readUnit rC (nI e)) (f_Mo_readUnit rM (nI e)) true (m + 1) := by
  intro d o Pc Pm hL
  have hcomp := comp_ok hγ hS d o Pc Pm hL
  have elseM : f_Mo_is (19 : Int32) Pm = nI 0 → f_Mo_is (37 : Int32) Pm = nI 0 → Pc.1 1 5 ≠ (219 : Int32) → Pc.1 1 5 ≠ (91 : Int32) →
      ∃ o' Pc' Pm', f_Lr_readUnit rC (nI e) Pc = some Pc' ∧ f_Mo_readUnit rM (nI e) Pm = some Pm' ∧ LSt γ d o' Pc' Pm' ∧ ro true (m + 1) o o' := by
    intro h1 h2 h4 h5
    obtain ⟨o', Pc', Pm', r1, r2, r3, r4⟩ := hcomp
    refine ⟨o', Pc', Pm', ?_, ?_, r3, r4⟩
    · unfold f_Lr_readUnit
      rw [if_neg h4, if_neg h5, h3, r1]; rfl
    · unfold f_Mo_readUnit
      rw [h1, if_pos (by rfl), h2, if_pos (by rfl)]
      exact r2
  cases o with
  | inl es =>
    obtain ⟨k, p, q, h0⟩ := id hL
    have ht := h0.2.2.1
    have hkk := kok_n ht.2.2.1
    have i19 : f_Mo_is (19 : Int32) Pm = nI (if k = 19 then 1 else 0) := is_G (j := 19) ht.2.1 hkk.2 (by omega)
    have i37 : f_Mo_is (37 : Int32) Pm = nI (if k = 37 then 1 else 0) := is_G (j := 37) ht.2.1 hkk.2 (by omega)
    have t19 : Pc.1 1 5 = (219 : Int32) ↔ k = 19 := tk_C (j := 19) ht (by unfold kok; omega)
    have t37 : Pc.1 1 5 = (91 : Int32) ↔ k = 37 := tk_C (j := 37) ht (by unfold kok; omega)
    by_cases c : k = 19
    · rcases ls_opens hγ he h0 (by omega) with ⟨o1, Pc1, Pm1, g0, a1, a2, a3, a4⟩ | ⟨x, Pc1, Pm1, a1, a2, a3⟩
      · obtain ⟨o2, Pc2, Pm2, b1, b2, b3, b4⟩ := hU g0 (d + 1) o1 Pc1 Pm1 a3
        obtain ⟨Pc3, Pm3, c1, c2, c3⟩ := ls_code hγ (e := 3006) b3
        refine ⟨ap o2 3006, Pc3, Pm3, ?_, ?_, c3, ?_⟩
        · unfold f_Lr_readUnit
          rw [if_pos (t19.mpr c), a1, bd2_some, if_neg (by decide), z_one, b1, Option.bind_some, show (-219 : Int32) = cc 3006 from rfl, c1]; rfl
        · unfold f_Mo_readUnit
          rw [i19, if_neg (by rw [if_pos c]; decide), a2, bd2_some, if_neg (by decide), z_one, b2, Option.bind_some, show (3006 : Int32) = nI 3006 from rfl, c2]; rfl
        · have hx := ro_sr a4 b4
          cases o2 with
          | inl es2 =>
            obtain ⟨fs, x1, x2⟩ := hx
            refine ⟨fs ++ [3006], by rw [x1]; simp, fun ts hts => ?_⟩
            rw [cts_app (x2 ts hts), cts_one]; rfl
          | inr y => trivial
      · refine ⟨.inr x, Pc1, Pm1, ?_, ?_, a3, trivial⟩
        · unfold f_Lr_readUnit
          rw [if_pos (t19.mpr c), a1, bd2_some, if_pos (by rfl)]
        · unfold f_Mo_readUnit
          rw [i19, if_neg (by rw [if_pos c]; decide), a2, bd2_some, if_pos (by rfl)]
    · by_cases c2 : k = 37
      · rcases ls_opens hγ he h0 (by omega) with ⟨o1, Pc1, Pm1, g0, a1, a2, a3, a4⟩ | ⟨x, Pc1, Pm1, a1, a2, a3⟩
        · obtain ⟨o2, Pc2, Pm2, b1, b2, b3, b4⟩ := hT g0 (d + 1) o1 Pc1 Pm1 a3
          obtain ⟨o3, Pc3, Pm3, c1, c3, c4, c5⟩ := ls_skip hγ (j := 38) (by unfold kok; omega) (by omega) b3
          refine ⟨o3, Pc3, Pm3, ?_, ?_, LS_d c4 (by omega), sr_ro (ro_sr a4 b4) c5⟩
          · unfold f_Lr_readUnit
            rw [if_neg (fun q => c (t19.mp q)), if_pos (t37.mpr c2), a1, bd2_some, if_neg (by decide), z_one, b1, Option.bind_some, show (93 : Int32) = nI (kt 38) from rfl, c1]; rfl
          · unfold f_Mo_readUnit
            rw [i19, if_pos (by rw [if_neg c]; rfl), i37, if_neg (by rw [if_pos c2]; decide), a2, bd2_some, if_neg (by decide), z_one, b2, Option.bind_some, show (38 : Int32) = nI 38 from rfl]
            exact c3 (fun P => some P)
        · refine ⟨.inr x, Pc1, Pm1, ?_, ?_, a3, trivial⟩
          · unfold f_Lr_readUnit
            rw [if_neg (fun q => c (t19.mp q)), if_pos (t37.mpr c2), a1, bd2_some, if_pos (by rfl)]
          · unfold f_Mo_readUnit
            rw [i19, if_pos (by rw [if_neg c]; rfl), i37, if_neg (by rw [if_pos c2]; decide), a2, bd2_some, if_pos (by rfl)]
      · exact elseM (by rw [i19, if_neg c]) (by rw [i37, if_neg c2]) (fun q => c (t19.mp q)) (fun q => c2 (t37.mp q))
  | inr x =>
    obtain ⟨h1, h2⟩ := id hL
    have hf2 : 1 ≤ x.1 ∧ x.1 ≤ 4 := ⟨h2.2.2.2.1, h2.2.2.2.2.1⟩
    exact elseM (is_B (j := 19) h2.2.1 hf2 (by omega) (by omega)) (is_B (j := 37) h2.2.1 hf2 (by omega) (by omega)) (tk_B (j := 19) h1 (by unfold kok; omega) (by omega)) (tk_B (j := 37) h1 (by unfold kok; omega) (by omega))
/-- what a word in a law asks for -/
def wof (k : Nat) : Nat := if k = 1 then 0 else if k = 6 then 1 else if k = 7 then 2 else if k = 11 then 3 else if k = 16 then 4 else if k = 9 then 5 else 9
theorem wordOf_n : ∀ k, k < 42 → f_Mo_wordOf (nI k) (fun _ _ => 0, fun _ _ => 0) = if wof k = 9 then -nI 1 else nI (wof k) := by decide +kernel
theorem wordOf_k {k : Nat} (hk : k < 42) (P : PM) : f_Mo_wordOf (nI k) P = if wof k = 9 then -nI 1 else nI (wof k) := wordOf_n k hk
theorem wof_kt0 : (List.range 42).all (fun k => (wof k == 9 || (kt k == 200 + wof k && decide (wof k ≤ 5))) && (!(kokb k) || !(decide (200 ≤ kt k)) || !(decide (kt k ≤ 205)) || !(wof k == 9))) = true := by decide +kernel
theorem wof_kt (k : Nat) (hk : k < 42) : (wof k ≠ 9 → kt k = 200 + wof k ∧ wof k ≤ 5) ∧ (kok k → 200 ≤ kt k → kt k ≤ 205 → wof k ≠ 9) := by
  have h0 := wof_kt0
  rw [List.all_eq_true] at h0
  have h4 := h0 k (List.mem_range.mpr hk)
  simp only [Bool.and_eq_true, Bool.or_eq_true, Bool.not_eq_true', beq_iff_eq, decide_eq_true_eq, decide_eq_false_iff_not, beq_eq_false_iff_ne] at h4
  refine ⟨fun h => ?_, fun h1 h2 h3 => ?_⟩
  · rcases h4.1 with q | q
    · exact absurd q h
    · exact q
  · rcases h4.2 with ((q | q) | q) | q
    · rw [kokb_t.mp h1] at q; cases q
    · exact absurd h2 q
    · exact absurd h3 q
    · exact q
theorem choice_ok {γ : GT} (hγ : GOk γ) {rC rM : Nat → Int32 → PM → Option PM} {e m : Nat} (hT : Rd γ (rC 0 (nI (e + 1))) (rM 6 (nI (e + 1))) true m) (hS : Rd γ (rC 4 (nI (e + 1))) (rM 3 (nI (e + 1))) false (m - 3)) (hm : 3 ≤ m) {d : Nat} {o : OT} {Pc Pm : PM} (hL : LSt γ (d + 1) o Pc Pm) :
    ∃ o' Pc' Pm', f_Lr_readChoice rC (nI (e + 1)) Pc = some Pc' ∧ (rM 6 (nI (e + 1)) Pm).bind (fun P4 => bd2 (f_Mo_eats (13 : Int32) P4) (fun v5 P6 => if v5 = (0 : Int32) then ((f_Mo_fails (2 : Int32) P6).bind (fun P8 => j_Mo_readIf_30 rM (nI e) P8)) else (j_Mo_readIf_30 rM (nI e) P6))) = some Pm' ∧ LSt γ d o' Pc' Pm' ∧ ro false m o o' := by
  obtain ⟨o1, Pc1, Pm1, a1, a2, a3, a4⟩ := hT (d + 1) o Pc Pm hL
  obtain ⟨o2, Pc2, Pm2, b1, b2, b3, b4⟩ := ls_skip hγ (j := 13) (by unfold kok; omega) (by omega) a3
  obtain ⟨o3, Pc3, Pm3, c1, c2, c3, c4⟩ := hS (d + 1) o2 Pc2 Pm2 b3
  obtain ⟨o4, Pc4, Pm4, d1, d2, d3, d4⟩ := ls_skip hγ (j := 14) (by unfold kok; omega) (by omega) c3
  obtain ⟨o5, Pc5, Pm5, e1, e2, e3, e4⟩ := hS (d + 1) o4 Pc4 Pm4 d3
  obtain ⟨o6, Pc6, Pm6, f1, f2, f3, f4⟩ := ls_skip hγ (j := 15) (by unfold kok; omega) (by omega) e3
  obtain ⟨Pc7, Pm7, g1, g2, g3⟩ := ls_code hγ (e := 3009) f3
  refine ⟨ap o6 3009, Pc7, Pm7, ?_, ?_, g3, ?_⟩
  · unfold f_Lr_readChoice
    rw [a1, Option.bind_some, show (214 : Int32) = nI (kt 13) from rfl, b1, Option.bind_some, c1, Option.bind_some, show (215 : Int32) = nI (kt 14) from rfl, d1, Option.bind_some, e1, Option.bind_some, show (216 : Int32) = nI (kt 15) from rfl, f1, Option.bind_some, show (-213 : Int32) = cc 3009 from rfl, g1]; rfl
  · rw [a2, Option.bind_some, show (13 : Int32) = nI 13 from rfl, b2 (fun P => j_Mo_readIf_30 rM (nI e) P)]
    unfold j_Mo_readIf_30
    rw [z_one, c2, Option.bind_some, show (14 : Int32) = nI 14 from rfl, d2 (fun P => j_Mo_readIf_51 rM (nI e) P)]
    unfold j_Mo_readIf_51
    rw [z_one, e2, Option.bind_some, show (15 : Int32) = nI 15 from rfl, f2 (fun P => j_Mo_readIf_72 rM P)]
    unfold j_Mo_readIf_72
    rw [show (3009 : Int32) = nI 3009 from rfl, g2]; rfl
  · have x1 := sr_ro a4 b4
    have x2 := sr_ro c4 d4
    have x3 := sr_ro e4 f4
    cases o6 with
    | inl es6 =>
      cases o4 with
      | inl es4 =>
        cases o2 with
        | inl es2 =>
          cases o with
          | inl es0 =>
            obtain ⟨f1, y1, y2⟩ := x1
            obtain ⟨f2, y3, y4⟩ := x2
            obtain ⟨f3, y5, y6⟩ := x3
            refine ⟨f1 ++ (f2 ++ (f3 ++ [3009])), by rw [y5, y3, y1]; simp, fun ts hts => ?_⟩
            rw [cts_app (y2 ts hts), cts_app (y4 (true :: ts) (by simp only [List.length_cons]; omega)), cts_app (y6 (false :: true :: ts) (by simp only [List.length_cons]; omega)), cts_one]; rfl
          | inr z => exact x1.elim
        | inr z => exact x2.elim
      | inr z => exact x3.elim
    | inr z =>
      cases o with
      | inl es0 => trivial
      | inr y =>
        cases o2 with
        | inl es2 => exact x1.elim
        | inr y2 =>
          cases o4 with
          | inl es4 => exact x2.elim
          | inr y4 => exact Eq.trans (show y = y2 from x1) (Eq.trans (show y2 = y4 from x2) (show y4 = z from x3))
theorem atom_ok {γ : GT} (hγ : GOk γ) {rC rM rC' rM' : Nat → Int32 → PM → Option PM} {e m : Nat} (he : e ≤ 6) (hm : e < 6 → 3 ≤ m) (hS : e < 6 → Rd γ (rC 4 (nI (e + 1))) (rM 3 (nI (e + 1))) false m)
    (h7 : e < 6 → ∀ P, rC 7 (nI (e + 1)) P = f_Lr_readChoice rC' (nI (e + 1)) P) (h1 : ∀ P, rM 1 (nI e) P = f_Mo_readIf rM' (nI e) P) (hT : e < 6 → Rd γ (rC' 0 (nI (e + 1))) (rM' 6 (nI (e + 1))) true m) (hS' : e < 6 → Rd γ (rC' 4 (nI (e + 1))) (rM' 3 (nI (e + 1))) false (m - 3)) :
    Rd γ (f_Lr_readAtom rC (nI e)) (f_Mo_readAtom rM (nI e)) false m := by
  intro d o Pc Pm hL
  cases o with
  | inl es =>
    obtain ⟨k, p, q, h0⟩ := id hL
    have ht := h0.2.2.1
    have hkk := kok_n ht.2.2.1
    have hpq := ht.2.2.2
    have hn := hγ.1.1
    have hlk := kt_lt k hkk.2
    have tk : Pc.1 1 5 = nI (kt k) := ht.1.2.2.1
    have i23 : f_Mo_is (23 : Int32) Pm = nI (if k = 23 then 1 else 0) := is_G (j := 23) ht.2.1 hkk.2 (by omega)
    have i35 : f_Mo_is (35 : Int32) Pm = nI (if k = 35 then 1 else 0) := is_G (j := 35) ht.2.1 hkk.2 (by omega)
    have i12 : f_Mo_is (12 : Int32) Pm = nI (if k = 12 then 1 else 0) := is_G (j := 12) ht.2.1 hkk.2 (by omega)
    have t23 : nI (kt k) = (1 : Int32) ↔ k = 23 := by rw [← tk]; exact tk_C (j := 23) ht (by unfold kok; omega)
    have t35 : nI (kt k) = (40 : Int32) ↔ k = 35 := by rw [← tk]; exact tk_C (j := 35) ht (by unfold kok; omega)
    have t12 : nI (kt k) = (213 : Int32) ↔ k = 12 := by rw [← tk]; exact tk_C (j := 12) ht (by unfold kok; omega)
    obtain ⟨w1, w2⟩ := wof_kt k hkk.2
    have emit : ∀ x : Nat, k ≠ 24 → (∀ ts : List Bool, ts.length + m < 64 → ct x ts = some (false :: ts)) →
        ∃ o' Pc' Pm', (f_Ne_addCode 4 (cc x) Pc).bind (fun P7 => (f_Ta_next P7).bind (fun P8 => some P8)) = some Pc' ∧ (f_Mo_codes (nI x) Pm).bind (fun P6 => (f_Mo_next P6).bind (fun P7 => some P7)) = some Pm' ∧ LSt γ d o' Pc' Pm' ∧ ro false m (.inl es) o' := by
      intro x hk hx
      obtain ⟨g1, g2, g3, g4, g5⟩ := h0
      have hlt := hpq.2.2.1 hk
      obtain ⟨Pc1, Pm1, a1, a2, a3, a4, a5, a6, a7⟩ := le_code (e := x) g1 g2 g4 (by omega) g3.2.1.1
      obtain ⟨o', Pc2, Pm2, b1, b2, b3, b4, -⟩ := lg_next hγ (d := d) a3 a4 (TG_ro g3 a6 a7) a5 (by simp only [List.length_append, List.length_cons, List.length_nil]; omega)
      refine ⟨o', Pc2, Pm2, by rw [a1, Option.bind_some, b1]; rfl, by rw [a2, Option.bind_some, b2]; rfl, b3, ?_⟩
      cases o' with
      | inl es' =>
        have : es' = es ++ [x] := b4
        exact ⟨[x], this, fun ts hts => by rw [cts_one]; exact hx ts hts⟩
      | inr y => trivial
    by_cases c23 : k = 23
    · obtain ⟨v, v1, v2, v3⟩ := hpq.2.2.2 c23
      obtain ⟨o', Pc', Pm', r1, r2, r3, r4⟩ := emit v (by omega) (fun ts hts => by unfold ct; rw [if_pos (by omega), if_pos (by omega)])
      refine ⟨o', Pc', Pm', ?_, ?_, r3, r4⟩
      · unfold f_Lr_readAtom
        rw [lb_eq, tk, if_pos (t23.mpr c23), v2, show nI v = cc v from by unfold cc; rw [if_pos v1]]
        exact r1
      · unfold f_Mo_readAtom
        rw [i23, if_neg (by rw [if_pos c23]; decide), v3]
        exact r2
    by_cases cw : wof k = 9
    · have hC : f_Lr_readAtom rC (nI e) Pc = j_Lr_readAtom_70 rC (nI e) (nI (kt k)) Pc := by
        unfold f_Lr_readAtom
        rw [lb_eq, tk, if_neg (fun q => c23 (t23.mp q))]
        by_cases c : kt k < 200
        · rw [if_pos (by simp (disch := omega) only [z_add, z_mul, z_sub, z_subm, z_addm, z_lt_t, z_lt_f, z_le_t, z_le_f, z_eq_t, z_eq_f, z_eqm, z_meq, z_mm, z_ltm, z_mlt, z_lem, z_mle, z_cl, z_ck, u1_1, u1_2, u2_1, u2_2, ↓reduceIte, Option.bind_some, Option.bind_none, bd2_some, lb_eq, and_true, and_false, true_and, false_and, not_true_eq_false, not_false_eq_true, eq_self_iff_true, if_true, if_false, Nat.reduceEqDiff, Nat.reduceAdd, Nat.reduceMul, Nat.reduceSub, Bool.false_eq_true, zl0, zl1, zl2, zl3, zl4, zl5, zl6, zl7, zl8, zl9, zl10, zl11, zl12, zl13, zl14, zl15, zl16, zl17, zl18, zl19, zl20, zl22, zl23, zl24, zl25, zl30, zl31, zl32, zl33, zl34, zl35, zl36, zl37, zl38, zl39, zl40, zl41, zl42, zl43, zl45, zl48, zl49, zl57, zl58, zl59, zl60, zl61, zl62, zl63, zl64, zl91, zl93, zl97, zl98, zl99, zl100, zl113, zl114, zl115, zl116, zl117, zl122, zl124, zl125, zl127, zl128, zl136, zl200, zl201, zl202, zl203, zl204, zl205, zl206, zl207, zl208, zl209, zl210, zl211, zl212, zl213, zl214, zl215, zl216, zl217, zl218, zl219, zl220, zl235, zl236, zl255, zl280, zl287, zl900, zl999, zl1000, zl1001, zl1136, zl1960, zl3000, zl3001, zl3002, zl3003, zl3004, zl3005, zl3006, zl3007, zl3008, zl3009, zl268435456, zl1000000000])]
        · rw [if_neg (by simp (disch := omega) only [z_add, z_mul, z_sub, z_subm, z_addm, z_lt_t, z_lt_f, z_le_t, z_le_f, z_eq_t, z_eq_f, z_eqm, z_meq, z_mm, z_ltm, z_mlt, z_lem, z_mle, z_cl, z_ck, u1_1, u1_2, u2_1, u2_2, ↓reduceIte, Option.bind_some, Option.bind_none, bd2_some, lb_eq, and_true, and_false, true_and, false_and, not_true_eq_false, not_false_eq_true, eq_self_iff_true, if_true, if_false, Nat.reduceEqDiff, Nat.reduceAdd, Nat.reduceMul, Nat.reduceSub, Bool.false_eq_true, zl0, zl1, zl2, zl3, zl4, zl5, zl6, zl7, zl8, zl9, zl10, zl11, zl12, zl13, zl14, zl15, zl16, zl17, zl18, zl19, zl20, zl22, zl23, zl24, zl25, zl30, zl31, zl32, zl33, zl34, zl35, zl36, zl37, zl38, zl39, zl40, zl41, zl42, zl43, zl45, zl48, zl49, zl57, zl58, zl59, zl60, zl61, zl62, zl63, zl64, zl91, zl93, zl97, zl98, zl99, zl100, zl113, zl114, zl115, zl116, zl117, zl122, zl124, zl125, zl127, zl128, zl136, zl200, zl201, zl202, zl203, zl204, zl205, zl206, zl207, zl208, zl209, zl210, zl211, zl212, zl213, zl214, zl215, zl216, zl217, zl218, zl219, zl220, zl235, zl236, zl255, zl280, zl287, zl900, zl999, zl1000, zl1001, zl1136, zl1960, zl3000, zl3001, zl3002, zl3003, zl3004, zl3005, zl3006, zl3007, zl3008, zl3009, zl268435456, zl1000000000])]
          by_cases c2 : 205 < kt k
          · rw [if_pos (by simp (disch := omega) only [z_add, z_mul, z_sub, z_subm, z_addm, z_lt_t, z_lt_f, z_le_t, z_le_f, z_eq_t, z_eq_f, z_eqm, z_meq, z_mm, z_ltm, z_mlt, z_lem, z_mle, z_cl, z_ck, u1_1, u1_2, u2_1, u2_2, ↓reduceIte, Option.bind_some, Option.bind_none, bd2_some, lb_eq, and_true, and_false, true_and, false_and, not_true_eq_false, not_false_eq_true, eq_self_iff_true, if_true, if_false, Nat.reduceEqDiff, Nat.reduceAdd, Nat.reduceMul, Nat.reduceSub, Bool.false_eq_true, zl0, zl1, zl2, zl3, zl4, zl5, zl6, zl7, zl8, zl9, zl10, zl11, zl12, zl13, zl14, zl15, zl16, zl17, zl18, zl19, zl20, zl22, zl23, zl24, zl25, zl30, zl31, zl32, zl33, zl34, zl35, zl36, zl37, zl38, zl39, zl40, zl41, zl42, zl43, zl45, zl48, zl49, zl57, zl58, zl59, zl60, zl61, zl62, zl63, zl64, zl91, zl93, zl97, zl98, zl99, zl100, zl113, zl114, zl115, zl116, zl117, zl122, zl124, zl125, zl127, zl128, zl136, zl200, zl201, zl202, zl203, zl204, zl205, zl206, zl207, zl208, zl209, zl210, zl211, zl212, zl213, zl214, zl215, zl216, zl217, zl218, zl219, zl220, zl235, zl236, zl255, zl280, zl287, zl900, zl999, zl1000, zl1001, zl1136, zl1960, zl3000, zl3001, zl3002, zl3003, zl3004, zl3005, zl3006, zl3007, zl3008, zl3009, zl268435456, zl1000000000])]
          · exact absurd cw (w2 ht.2.2.1 (by omega) (by omega))
      have hM : f_Mo_readAtom rM (nI e) Pm = j_Mo_readAtom_66 rM (nI e) Pm := by
        unfold f_Mo_readAtom
        rw [i23, if_pos (by rw [if_neg c23]; rfl), ht.2.1.1, if_pos (by rfl), ht.2.1.2.1, wordOf_k hkk.2, if_pos cw, if_pos (by rfl)]
      rw [hC, hM]
      unfold j_Lr_readAtom_70 j_Mo_readAtom_66
      by_cases c35 : k = 35
      · rw [if_pos (t35.mpr c35), i35, if_neg (by rw [if_pos c35]; decide)]
        rcases ls_opens hγ he h0 (by omega) with ⟨o1, Pc1, Pm1, g0, a1, a2, a3, a4⟩ | ⟨x, Pc1, Pm1, a1, a2, a3⟩
        · obtain ⟨o2, Pc2, Pm2, b1, b2, b3, b4⟩ := hS g0 (d + 1) o1 Pc1 Pm1 a3
          obtain ⟨o3, Pc3, Pm3, c1, c3, c4, c5⟩ := ls_skip hγ (j := 36) (by unfold kok; omega) (by omega) b3
          refine ⟨o3, Pc3, Pm3, ?_, ?_, LS_d c4 (by omega), sr_ro (ro_sr a4 b4) c5⟩
          · rw [a1, bd2_some, if_neg (by decide), z_one, b1, Option.bind_some, show (41 : Int32) = nI (kt 36) from rfl, c1]; rfl
          · rw [a2, bd2_some, if_neg (by decide), z_one, b2, Option.bind_some, show (36 : Int32) = nI 36 from rfl]
            exact c3 (fun P => some P)
        · exact ⟨.inr x, Pc1, Pm1, by rw [a1, bd2_some, if_pos (by rfl)], by rw [a2, bd2_some, if_pos (by rfl)], a3, trivial⟩
      rw [if_neg (fun q => c35 (t35.mp q)), i35, if_pos (show nI (if k = 35 then 1 else 0) = (0 : Int32) from by rw [if_neg c35]; rfl)]
      by_cases c12 : k = 12
      · rw [if_pos (t12.mpr c12), i12, if_neg (by rw [if_pos c12]; decide), h1]
        unfold f_Mo_readIf
        rcases ls_opens hγ he h0 (by omega) with ⟨o1, Pc1, Pm1, g0, a1, a2, a3, a4⟩ | ⟨x, Pc1, Pm1, a1, a2, a3⟩
        · obtain ⟨o2, Pc2, Pm2, b1, b2, b3, b4⟩ := choice_ok hγ (e := e) (hT g0) (hS' g0) (hm g0) a3
          refine ⟨o2, Pc2, Pm2, ?_, ?_, b3, ro_sr a4 b4⟩
          · rw [a1, bd2_some, if_neg (by decide), z_one, h7 g0, b1]; rfl
          · rw [a2, bd2_some, if_neg (by decide), z_one, b2]; rfl
        · exact ⟨.inr x, Pc1, Pm1, by rw [a1, bd2_some, if_pos (by rfl)], by rw [a2, bd2_some, if_pos (by rfl)]; rfl, a3, trivial⟩
      · rw [if_neg (fun q => c12 (t12.mp q)), i12, if_pos (by rw [if_neg c12]; rfl)]
        obtain ⟨x, Pc1, Pm1, a1, a2, a3, a4⟩ := ls_fail (d' := d) hγ (f := 2) ⟨by omega, by omega⟩ hL
        exact ⟨.inr x, Pc1, Pm1, by rw [show (2 : Int32) = nI 2 from rfl, a1]; rfl, by rw [show (2 : Int32) = nI 2 from rfl, a2]; rfl, a3, trivial⟩
    · obtain ⟨u1_, u2_⟩ := w1 cw
      obtain ⟨o', Pc', Pm', r1, r2, r3, r4⟩ := emit (1000 + wof k) (fun e => by rw [e] at cw; exact cw rfl) (fun ts hts => by unfold ct; rw [if_pos (by omega), if_pos (by omega)])
      refine ⟨o', Pc', Pm', ?_, ?_, r3, r4⟩
      · unfold f_Lr_readAtom
        rw [lb_eq, tk, if_neg (fun q => c23 (t23.mp q)), if_neg (by simp (disch := omega) only [z_add, z_mul, z_sub, z_subm, z_addm, z_lt_t, z_lt_f, z_le_t, z_le_f, z_eq_t, z_eq_f, z_eqm, z_meq, z_mm, z_ltm, z_mlt, z_lem, z_mle, z_cl, z_ck, u1_1, u1_2, u2_1, u2_2, ↓reduceIte, Option.bind_some, Option.bind_none, bd2_some, lb_eq, and_true, and_false, true_and, false_and, not_true_eq_false, not_false_eq_true, eq_self_iff_true, if_true, if_false, Nat.reduceEqDiff, Nat.reduceAdd, Nat.reduceMul, Nat.reduceSub, Bool.false_eq_true, zl0, zl1, zl2, zl3, zl4, zl5, zl6, zl7, zl8, zl9, zl10, zl11, zl12, zl13, zl14, zl15, zl16, zl17, zl18, zl19, zl20, zl22, zl23, zl24, zl25, zl30, zl31, zl32, zl33, zl34, zl35, zl36, zl37, zl38, zl39, zl40, zl41, zl42, zl43, zl45, zl48, zl49, zl57, zl58, zl59, zl60, zl61, zl62, zl63, zl64, zl91, zl93, zl97, zl98, zl99, zl100, zl113, zl114, zl115, zl116, zl117, zl122, zl124, zl125, zl127, zl128, zl136, zl200, zl201, zl202, zl203, zl204, zl205, zl206, zl207, zl208, zl209, zl210, zl211, zl212, zl213, zl214, zl215, zl216, zl217, zl218, zl219, zl220, zl235, zl236, zl255, zl280, zl287, zl900, zl999, zl1000, zl1001, zl1136, zl1960, zl3000, zl3001, zl3002, zl3003, zl3004, zl3005, zl3006, zl3007, zl3008, zl3009, zl268435456, zl1000000000]), if_neg (by simp (disch := omega) only [z_add, z_mul, z_sub, z_subm, z_addm, z_lt_t, z_lt_f, z_le_t, z_le_f, z_eq_t, z_eq_f, z_eqm, z_meq, z_mm, z_ltm, z_mlt, z_lem, z_mle, z_cl, z_ck, u1_1, u1_2, u2_1, u2_2, ↓reduceIte, Option.bind_some, Option.bind_none, bd2_some, lb_eq, and_true, and_false, true_and, false_and, not_true_eq_false, not_false_eq_true, eq_self_iff_true, if_true, if_false, Nat.reduceEqDiff, Nat.reduceAdd, Nat.reduceMul, Nat.reduceSub, Bool.false_eq_true, zl0, zl1, zl2, zl3, zl4, zl5, zl6, zl7, zl8, zl9, zl10, zl11, zl12, zl13, zl14, zl15, zl16, zl17, zl18, zl19, zl20, zl22, zl23, zl24, zl25, zl30, zl31, zl32, zl33, zl34, zl35, zl36, zl37, zl38, zl39, zl40, zl41, zl42, zl43, zl45, zl48, zl49, zl57, zl58, zl59, zl60, zl61, zl62, zl63, zl64, zl91, zl93, zl97, zl98, zl99, zl100, zl113, zl114, zl115, zl116, zl117, zl122, zl124, zl125, zl127, zl128, zl136, zl200, zl201, zl202, zl203, zl204, zl205, zl206, zl207, zl208, zl209, zl210, zl211, zl212, zl213, zl214, zl215, zl216, zl217, zl218, zl219, zl220, zl235, zl236, zl255, zl280, zl287, zl900, zl999, zl1000, zl1001, zl1136, zl1960, zl3000, zl3001, zl3002, zl3003, zl3004, zl3005, zl3006, zl3007, zl3008, zl3009, zl268435456, zl1000000000]), show -nI (kt k) = cc (1000 + wof k) from by
          unfold cc
          rw [if_neg (by omega), if_pos (by omega), u1_, show 1000 + wof k - 800 = 200 + wof k from by omega]]
        exact r1
      · unfold f_Mo_readAtom
        rw [i23, if_pos (by rw [if_neg c23]; rfl), ht.2.1.1, if_pos (by rfl), ht.2.1.2.1, wordOf_k hkk.2, if_neg cw, if_neg (by simp (disch := omega) only [z_add, z_mul, z_sub, z_subm, z_addm, z_lt_t, z_lt_f, z_le_t, z_le_f, z_eq_t, z_eq_f, z_eqm, z_meq, z_mm, z_ltm, z_mlt, z_lem, z_mle, z_cl, z_ck, u1_1, u1_2, u2_1, u2_2, ↓reduceIte, Option.bind_some, Option.bind_none, bd2_some, lb_eq, and_true, and_false, true_and, false_and, not_true_eq_false, not_false_eq_true, eq_self_iff_true, if_true, if_false, Nat.reduceEqDiff, Nat.reduceAdd, Nat.reduceMul, Nat.reduceSub, Bool.false_eq_true, zl0, zl1, zl2, zl3, zl4, zl5, zl6, zl7, zl8, zl9, zl10, zl11, zl12, zl13, zl14, zl15, zl16, zl17, zl18, zl19, zl20, zl22, zl23, zl24, zl25, zl30, zl31, zl32, zl33, zl34, zl35, zl36, zl37, zl38, zl39, zl40, zl41, zl42, zl43, zl45, zl48, zl49, zl57, zl58, zl59, zl60, zl61, zl62, zl63, zl64, zl91, zl93, zl97, zl98, zl99, zl100, zl113, zl114, zl115, zl116, zl117, zl122, zl124, zl125, zl127, zl128, zl136, zl200, zl201, zl202, zl203, zl204, zl205, zl206, zl207, zl208, zl209, zl210, zl211, zl212, zl213, zl214, zl215, zl216, zl217, zl218, zl219, zl220, zl235, zl236, zl255, zl280, zl287, zl900, zl999, zl1000, zl1001, zl1136, zl1960, zl3000, zl3001, zl3002, zl3003, zl3004, zl3005, zl3006, zl3007, zl3008, zl3009, zl268435456, zl1000000000]), show (1000 : Int32) = nI 1000 from rfl, z_add]
        exact r2
  | inr x =>
    obtain ⟨g1, g2⟩ := id hL
    have hf2 : 1 ≤ x.1 ∧ x.1 ≤ 4 := ⟨g2.2.2.2.1, g2.2.2.2.2.1⟩
    have i23 : f_Mo_is (23 : Int32) Pm = nI 0 := is_B (j := 23) g2.2.1 hf2 (by omega) (by omega)
    have i35 : f_Mo_is (35 : Int32) Pm = nI 0 := is_B (j := 35) g2.2.1 hf2 (by omega) (by omega)
    have i12 : f_Mo_is (12 : Int32) Pm = nI 0 := is_B (j := 12) g2.2.1 hf2 (by omega) (by omega)
    obtain ⟨y, Pc1, Pm1, a1, a2, a3, a4⟩ := ls_fail (d' := d) hγ (f := 2) ⟨by omega, by omega⟩ hL
    refine ⟨.inr y, Pc1, Pm1, ?_, ?_, a3, a4⟩
    · unfold f_Lr_readAtom j_Lr_readAtom_70
      rw [lb_eq, g1.2.1.2.2.1, if_neg (by decide), if_pos (by decide), if_neg (by decide), if_neg (by decide), show (2 : Int32) = nI 2 from rfl, a1]; rfl
    · have hM : f_Mo_readAtom rM (nI e) Pm = j_Mo_readAtom_66 rM (nI e) Pm := by
        unfold f_Mo_readAtom
        rw [i23, if_pos (by rfl)]
        rcases g2.2.1 with ⟨b1, b2⟩ | ⟨b0, b1, b2, b3⟩
        · rw [b1, if_neg (by simp (disch := omega) only [z_add, z_mul, z_sub, z_subm, z_addm, z_lt_t, z_lt_f, z_le_t, z_le_f, z_eq_t, z_eq_f, z_eqm, z_meq, z_mm, z_ltm, z_mlt, z_lem, z_mle, z_cl, z_ck, u1_1, u1_2, u2_1, u2_2, ↓reduceIte, Option.bind_some, Option.bind_none, bd2_some, lb_eq, and_true, and_false, true_and, false_and, not_true_eq_false, not_false_eq_true, eq_self_iff_true, if_true, if_false, Nat.reduceEqDiff, Nat.reduceAdd, Nat.reduceMul, Nat.reduceSub, Bool.false_eq_true, zl0, zl1, zl2, zl3, zl4, zl5, zl6, zl7, zl8, zl9, zl10, zl11, zl12, zl13, zl14, zl15, zl16, zl17, zl18, zl19, zl20, zl22, zl23, zl24, zl25, zl30, zl31, zl32, zl33, zl34, zl35, zl36, zl37, zl38, zl39, zl40, zl41, zl42, zl43, zl45, zl48, zl49, zl57, zl58, zl59, zl60, zl61, zl62, zl63, zl64, zl91, zl93, zl97, zl98, zl99, zl100, zl113, zl114, zl115, zl116, zl117, zl122, zl124, zl125, zl127, zl128, zl136, zl200, zl201, zl202, zl203, zl204, zl205, zl206, zl207, zl208, zl209, zl210, zl211, zl212, zl213, zl214, zl215, zl216, zl217, zl218, zl219, zl220, zl235, zl236, zl255, zl280, zl287, zl900, zl999, zl1000, zl1001, zl1136, zl1960, zl3000, zl3001, zl3002, zl3003, zl3004, zl3005, zl3006, zl3007, zl3008, zl3009, zl268435456, zl1000000000])]
        · rw [b1, if_pos (by rfl), b2, wordOf_k (by omega), if_pos (by decide)]
      rw [hM]
      unfold j_Mo_readAtom_66
      rw [i35, if_pos (by rfl), i12, if_pos (by rfl), show (2 : Int32) = nI 2 from rfl, a2]; rfl
def LW (γ : GT) (r e : Nat) : Prop :=
    (∀ fc fm, 8 * r + 1 ≤ fc → 7 * r + 2 ≤ fm → Rd γ (gr_Lr_readTruth fc 6 (nI e)) (gr_Mo_readAtom fm 0 (nI e)) false (5 * r)) ∧
    (∀ fc fm, 8 * r + 2 ≤ fc → 7 * r + 3 ≤ fm → Rd γ (gr_Lr_readTruth fc 5 (nI e)) (gr_Mo_readAtom fm 2 (nI e)) false (5 * r + 1)) ∧
    (∀ fc fm, 8 * r + 3 ≤ fc → 7 * r + 4 ≤ fm → Rd γ (gr_Lr_readTruth fc 4 (nI e)) (gr_Mo_readAtom fm 3 (nI e)) false (5 * r + 2)) ∧
    (∀ fc fm, 8 * r + 5 ≤ fc → 7 * r + 5 ≤ fm → Rd γ (gr_Lr_readTruth fc 2 (nI e)) (gr_Mo_readAtom fm 4 (nI e)) true (5 * r + 3)) ∧
    (∀ fc fm, 8 * r + 6 ≤ fc → 7 * r + 6 ≤ fm → Rd γ (gr_Lr_readTruth fc 1 (nI e)) (gr_Mo_readAtom fm 5 (nI e)) true (5 * r + 4)) ∧
    (∀ fc fm, 8 * r + 7 ≤ fc → 7 * r + 7 ≤ fm → Rd γ (gr_Lr_readTruth fc 0 (nI e)) (gr_Mo_readAtom fm 6 (nI e)) true (5 * r + 5))
theorem laws_step {γ : GT} (hγ : GOk γ) {r e : Nat} (he : e + r = 6) (ih : ∀ s, r = s + 1 → LW γ s (e + 1)) : LW γ r e := by
  have hA : ∀ fc fm, 8 * r + 1 ≤ fc → 7 * r + 2 ≤ fm → Rd γ (gr_Lr_readTruth fc 6 (nI e)) (gr_Mo_readAtom fm 0 (nI e)) false (5 * r) := by
    intro fc fm h1 h2
    obtain ⟨fc, rfl⟩ : ∃ z, fc = z + 1 := ⟨fc - 1, by omega⟩
    obtain ⟨fm, rfl⟩ : ∃ z, fm = z + 1 := ⟨fm - 1, by omega⟩
    obtain ⟨gm, rfl⟩ : ∃ z, fm = z + 1 := ⟨fm - 1, by omega⟩
    refine atom_ok (rC := gr_Lr_readTruth fc) (rM := gr_Mo_readAtom (gm + 1)) (rC' := gr_Lr_readTruth (fc - 1)) (rM' := gr_Mo_readAtom gm) hγ (by omega) (fun h => by omega) (fun h => ?_) (fun h P => ?_) (fun P => rfl) (fun h => ?_) (fun h => ?_)
    · obtain ⟨s, rfl⟩ : ∃ s, r = s + 1 := ⟨r - 1, by omega⟩
      exact Rd_up ((ih s rfl).2.2.1 _ _ (by omega) (by omega)) (by omega)
    · obtain ⟨z, rfl⟩ : ∃ z, fc = z + 1 := ⟨fc - 1, by omega⟩
      rfl
    · obtain ⟨s, rfl⟩ : ∃ s, r = s + 1 := ⟨r - 1, by omega⟩
      exact Rd_up ((ih s rfl).2.2.2.2.2 _ _ (by omega) (by omega)) (by omega)
    · obtain ⟨s, rfl⟩ : ∃ s, r = s + 1 := ⟨r - 1, by omega⟩
      exact Rd_up ((ih s rfl).2.2.1 _ _ (by omega) (by omega)) (by omega)
  have hB : ∀ fc fm, 8 * r + 2 ≤ fc → 7 * r + 3 ≤ fm → Rd γ (gr_Lr_readTruth fc 5 (nI e)) (gr_Mo_readAtom fm 2 (nI e)) false (5 * r + 1) := by
    intro fc fm h1 h2
    obtain ⟨fc, rfl⟩ : ∃ z, fc = z + 1 := ⟨fc - 1, by omega⟩
    obtain ⟨fm, rfl⟩ : ∃ z, fm = z + 1 := ⟨fm - 1, by omega⟩
    exact term_ok (rC := gr_Lr_readTruth fc) (rM := gr_Mo_readAtom fm) hγ (hA _ _ (by omega) (by omega))
  have hCs : ∀ fc fm, 8 * r + 3 ≤ fc → 7 * r + 4 ≤ fm → Rd γ (gr_Lr_readTruth fc 4 (nI e)) (gr_Mo_readAtom fm 3 (nI e)) false (5 * r + 2) := by
    intro fc fm h1 h2
    obtain ⟨fc, rfl⟩ : ∃ z, fc = z + 1 := ⟨fc - 1, by omega⟩
    obtain ⟨fm, rfl⟩ : ∃ z, fm = z + 1 := ⟨fm - 1, by omega⟩
    exact sum_ok (rC := gr_Lr_readTruth fc) (rM := gr_Mo_readAtom fm) hγ (hB _ _ (by omega) (by omega))
  have hD : ∀ fc fm, 8 * r + 5 ≤ fc → 7 * r + 5 ≤ fm → Rd γ (gr_Lr_readTruth fc 2 (nI e)) (gr_Mo_readAtom fm 4 (nI e)) true (5 * r + 3) := by
    intro fc fm h1 h2
    obtain ⟨fc, rfl⟩ : ∃ z, fc = z + 1 := ⟨fc - 1, by omega⟩
    obtain ⟨fm, rfl⟩ : ∃ z, fm = z + 1 := ⟨fm - 1, by omega⟩
    refine unit_ok (rC := gr_Lr_readTruth fc) (rC' := gr_Lr_readTruth (fc - 1)) (rM := gr_Mo_readAtom fm) (m := 5 * r + 2) hγ (by omega) (fun P => ?_) (hCs _ _ (by omega) (by omega)) (fun h => ?_) (fun h => ?_)
    · obtain ⟨z, rfl⟩ : ∃ z, fc = z + 1 := ⟨fc - 1, by omega⟩
      rfl
    · obtain ⟨s, rfl⟩ : ∃ s, r = s + 1 := ⟨r - 1, by omega⟩
      exact Rd_up ((ih s rfl).2.2.2.1 _ _ (by omega) (by omega)) (by omega)
    · obtain ⟨s, rfl⟩ : ∃ s, r = s + 1 := ⟨r - 1, by omega⟩
      exact Rd_up ((ih s rfl).2.2.2.2.2 _ _ (by omega) (by omega)) (by omega)
  have hE : ∀ fc fm, 8 * r + 6 ≤ fc → 7 * r + 6 ≤ fm → Rd γ (gr_Lr_readTruth fc 1 (nI e)) (gr_Mo_readAtom fm 5 (nI e)) true (5 * r + 4) := by
    intro fc fm h1 h2
    obtain ⟨fc, rfl⟩ : ∃ z, fc = z + 1 := ⟨fc - 1, by omega⟩
    obtain ⟨fm, rfl⟩ : ∃ z, fm = z + 1 := ⟨fm - 1, by omega⟩
    exact both_ok (rC := gr_Lr_readTruth fc) (rM := gr_Mo_readAtom fm) hγ (hD _ _ (by omega) (by omega))
  refine ⟨hA, hB, hCs, hD, hE, ?_⟩
  intro fc fm h1 h2
  obtain ⟨fc, rfl⟩ : ∃ z, fc = z + 1 := ⟨fc - 1, by omega⟩
  obtain ⟨fm, rfl⟩ : ∃ z, fm = z + 1 := ⟨fm - 1, by omega⟩
  exact truth_ok (rC := gr_Lr_readTruth fc) (rM := gr_Mo_readAtom fm) hγ (hE _ _ (by omega) (by omega))
theorem laws_ok {γ : GT} (hγ : GOk γ) : ∀ r e, e + r = 6 → LW γ r e := by
  intro r
  induction r with
  | zero => intro e he; exact laws_step hγ he (fun s hs => by omega)
  | succ r ih =>
    intro e he
    refine laws_step hγ he (fun s hs => ?_)
    obtain rfl : r = s := by omega
    exact ih (e + 1) (by omega)
theorem truth0_ok {γ : GT} (hγ : GOk γ) : Rd γ (g_Lr_readTruth (nI 0)) (g_Mo_readTruth (nI 0)) true 35 :=
  (laws_ok hγ 6 0 rfl).2.2.2.2.2 FR FR (by rw [FR_eq]; omega) (by rw [FR_eq]; omega)
theorem sum0_ok {γ : GT} (hγ : GOk γ) : Rd γ (g_Lr_readSum (nI 0)) (g_Mo_readSum (nI 0)) false 32 :=
  (laws_ok hγ 6 0 rfl).2.2.1 FR FR (by rw [FR_eq]; omega) (by rw [FR_eq]; omega)
