/-! reading a net: tokens between lines and in one -/
def FLc (γ : GT) (P : PM) : Prop := P.2 = γ.2.2.2.1.2 ∧ (∀ o, ¬ (o = 1 ∨ (4 ≤ o ∧ o ≤ 12)) → P.1 o = γ.2.2.2.1.1 o) ∧ ∀ j, j < 3 → P.1 1 j = γ.2.2.2.1.1 1 j
def FLm (γ : GT) (P : PM) : Prop := P.2 = γ.2.2.2.2.2 ∧ (∀ o, o ≠ 109 → o ≠ 113 → P.1 o = γ.2.2.2.2.1 o) ∧ ∀ j, (j < 6 ∨ j = 8 ∨ 12 < j) → P.1 109 j = γ.2.2.2.2.1 109 j
theorem FLc_f {γ : GT} {P P' : PM} (h : FLc γ P) (g : fc P P') : FLc γ P' :=
  ⟨g.1.trans h.1, fun o q => (g.2.1 o (by omega)).trans (h.2.1 o q), fun j hj => (g.2.2 j hj).trans (h.2.2 j hj)⟩
theorem FLm_f {γ : GT} {P P' : PM} (h : FLm γ P) (g : fm P P') : FLm γ P' :=
  ⟨g.1.trans h.1, fun o q r => (g.2.1 o q).trans (h.2.1 o q r), fun j hj => (g.2.2 j hj).trans (h.2.2 j hj)⟩
theorem FLc_u {γ : GT} {P : PM} {k j : Nat} {x : Int32} (h : FLc γ P) (hk : 4 ≤ k ∧ k ≤ 12) : FLc γ (u1 P k j x) :=
  ⟨h.1, fun o q => (u1r (by omega)).trans (h.2.1 o q), fun i hi => by rw [u1r (by omega)]; exact h.2.2 i hi⟩
theorem FLm_u {γ : GT} {P : PM} {j : Nat} {x : Int32} (h : FLm γ P) : FLm γ (u1 P 113 j x) :=
  ⟨h.1, fun o q r => (u1r r).trans (h.2.1 o q r), fun i hi => by rw [u1r (by omega)]; exact h.2.2 i hi⟩
theorem TKC_FL {γ : GT} (hγ : GOk γ) {P : PM} (h : FLc γ P) : TKC γ.1 γ.2.1 P := by
  have := hγ.2.1
  unfold TKC at *
  rw [h.2.2 2 (by omega), h.2.1 2 (by omega)]
  exact this
theorem TKM_FL {γ : GT} (hγ : GOk γ) {P : PM} (h : FLm γ P) : TKM γ.1 γ.2.1 P := by
  have := hγ.2.2.1
  unfold TKM at *
  rw [h.2.2 8 (by omega), h.2.1 112 (by omega) (by omega)]
  exact this
def NBc (γ : GT) (f p : Nat) (P : PM) : Prop := FLc γ P ∧ Cf f p P ∧ (∃ N, N ≤ 7 ∧ P.1 4 0 = nI N) ∧ ∃ c, c ≤ 900 ∧ P.1 4 6 = nI c
def NBm (γ : GT) (f p : Nat) (P : PM) : Prop := FLm γ P ∧ Mf f p P ∧ 1 ≤ f ∧ f ≤ 4
def NX (γ : GT) (nc nm : Nat) (sc sm_ : SV) (v : NV) (c k p q d : Nat) (Pc Pm : PM) : Prop := FLc γ Pc ∧ FLm γ Pm ∧ TG γ.2.1 k p q Pc Pm ∧ NPc nc sc v c Pc ∧ NPm nm sm_ v c Pm ∧ c + d ≤ p ∧ nc ≤ 7
def NOut (γ : GT) (nc nm : Nat) (sc sm_ : SV) (v : NV) (c d : Nat) (Pc Pm : PM) : Prop := (∃ k p q, NX γ nc nm sc sm_ v c k p q d Pc Pm) ∨ ∃ f p, NBc γ f p Pc ∧ NBm γ f p Pm
theorem NX_d {γ : GT} {nc nm : Nat} {sc sm_ : SV} {v : NV} {c k p q d d' : Nat} {Pc Pm : PM} (h : NX γ nc nm sc sm_ v c k p q d Pc Pm) (hd : d' ≤ d) : NX γ nc nm sc sm_ v c k p q d' Pc Pm := by
  obtain ⟨h1, h2, h3, h4, h5, h6, h7⟩ := h
  exact ⟨h1, h2, h3, h4, h5, by omega, h7⟩
theorem NOut_d {γ : GT} {nc nm : Nat} {sc sm_ : SV} {v : NV} {c d d' : Nat} {Pc Pm : PM} (h : NOut γ nc nm sc sm_ v c d Pc Pm) (hd : d' ≤ d) : NOut γ nc nm sc sm_ v c d' Pc Pm := by
  rcases h with ⟨k, p, q, h⟩ | h
  · exact Or.inl ⟨k, p, q, NX_d h hd⟩
  · exact Or.inr h
theorem nx_next {γ : GT} (hγ : GOk γ) {nc nm : Nat} {sc sm_ : SV} {v : NV} {c k p q d : Nat} {Pc Pm : PM} (h : NX γ nc nm sc sm_ v c k p q d Pc Pm) (hk : k ≠ 24) :
    ∃ Pc' Pm', f_Ta_next Pc = some Pc' ∧ f_Mo_next Pm = some Pm' ∧ NOut γ nc nm sc sm_ v c (d + 1) Pc' Pm' ∧ Pm'.1 109 11 = nI 0 := by
  obtain ⟨h1, h2, ⟨⟨a1, a2, a3, a4, a5⟩, ⟨b1, b2, b3, b4⟩, t1, t2, t3, t4, t5⟩, h4, h5, h6, h7⟩ := h
  have hlt := t4 hk
  have hn := hγ.1.1
  obtain ⟨Pc', Pm', c1, c2, c3, c4, p', c5, c6, c7⟩ := next_ok hγ.1 (TKC_FL hγ h1) (TKM_FL hγ h2) a1 a2 b1 a5 b4 t3
  refine ⟨Pc', Pm', c1, c2, ?_⟩
  rcases c7 with ⟨k', q', c7⟩ | ⟨c7, c8⟩
  · exact ⟨Or.inl ⟨k', p', q', FLc_f h1 c3, FLm_f h2 c4, c7, NPc_f h4 c3, NPm_f h5 c4, by omega, h7⟩, c7.2.1.1⟩
  · exact ⟨Or.inr ⟨1, p', ⟨FLc_f h1 c3, c7, ⟨nc, h7, (NPc_f h4 c3).1⟩, c, by omega, (NPc_f h4 c3).2.2.2.2.2.2.2.1⟩, FLm_f h2 c4, Or.inr ⟨rfl, c8⟩, by omega, by omega⟩, c8.1⟩
theorem nx_fail {γ : GT} (hγ : GOk γ) {nc nm : Nat} {sc sm_ : SV} {v : NV} {c k p q d f : Nat} (hf : 1 ≤ f ∧ f ≤ 4) {Pc Pm : PM} (h : NX γ nc nm sc sm_ v c k p q d Pc Pm) :
    ∃ Pc' Pm', f_Ta_fail (nI f) Pc = some Pc' ∧ f_Mo_fails (nI f) Pm = some Pm' ∧ NBc γ f p Pc' ∧ NBm γ f p Pm' ∧ Pm'.1 109 11 ≠ nI 0 := by
  obtain ⟨h1, h2, h3, h4, h5, h6, h7⟩ := h
  have hn := hγ.1.1
  have hq := h3.2.2.2
  have hk := kok_n h3.2.2.1
  obtain ⟨Pc', a1, a2, a3⟩ := fail_C0 h3.1 hf (by omega)
  obtain ⟨Pm', b1, b2, b3, b4⟩ := fail_M0 (f := f) h3.2.1 hk.1 hk.2
  refine ⟨Pc', Pm', a1, b1, ⟨FLc_f h1 a2, a3, ⟨nc, h7, (NPc_f h4 a2).1⟩, c, by omega, (NPc_f h4 a2).2.2.2.2.2.2.2.1⟩, ⟨FLm_f h2 b2, Or.inl ⟨b3, b4⟩, hf.1, hf.2⟩, fun e => ?_⟩
  rw [b3] at e
  have := (nI_eq (by omega) (by omega)).mp e
  omega
theorem nbc_fail {γ : GT} {f p : Nat} {x : Int32} {P : PM} (h : NBc γ f p P) : ∃ P', f_Ta_fail x P = some P' ∧ NBc γ f p P' := by
  obtain ⟨h1, ⟨g1, g2, g3, g4, g5, g6⟩, h3, h4⟩ := h
  refine ⟨u1 P 1 5 0, ?_, FLc_f h1 (fc_u fc_refl (by omega)), ⟨?_, ?_, ?_, g4, g5, g6⟩, ?_, ?_⟩
  · unfold f_Ta_fail j_Ta_fail_20
    rw [g1, if_neg (by simp (disch := omega) only [z_add, z_mul, z_sub, z_subm, z_addm, z_lt_t, z_lt_f, z_le_t, z_le_f, z_eq_t, z_eq_f, z_eqm, z_meq, z_mm, z_ltm, z_mlt, z_lem, z_mle, z_cl, z_ck, u1_1, u1_2, u2_1, u2_2, ↓reduceIte, Option.bind_some, Option.bind_none, bd2_some, lb_eq, and_true, and_false, true_and, false_and, not_true_eq_false, not_false_eq_true, eq_self_iff_true, if_true, if_false, Nat.reduceEqDiff, Nat.reduceAdd, Nat.reduceMul, Nat.reduceSub, Bool.false_eq_true, zl0, zl1, zl2, zl3, zl4, zl5, zl6, zl7, zl8, zl9, zl10, zl11, zl12, zl13, zl14, zl15, zl16, zl17, zl18, zl19, zl20, zl22, zl23, zl24, zl25, zl30, zl31, zl32, zl33, zl34, zl35, zl36, zl37, zl38, zl39, zl40, zl41, zl42, zl43, zl45, zl48, zl49, zl57, zl58, zl59, zl60, zl61, zl62, zl63, zl64, zl91, zl93, zl97, zl98, zl99, zl100, zl113, zl114, zl115, zl116, zl117, zl122, zl124, zl125, zl127, zl128, zl136, zl200, zl201, zl202, zl203, zl204, zl205, zl206, zl207, zl208, zl209, zl210, zl211, zl212, zl213, zl214, zl215, zl216, zl217, zl218, zl219, zl220, zl235, zl236, zl255, zl280, zl287, zl900, zl999, zl1000, zl1001, zl1136, zl1960, zl3000, zl3001, zl3002, zl3003, zl3004, zl3005, zl3006, zl3007, zl3008, zl3009, zl268435456, zl1000000000])]
  · rw [u1_1, if_neg (by omega)]; exact g1
  · rw [u1_1, if_neg (by omega)]; exact g2
  · rw [u1_1, if_pos ⟨rfl, rfl⟩]; rfl
  · obtain ⟨c, c1, c2⟩ := h3
    exact ⟨c, c1, by rw [u1_1, if_neg (by omega)]; exact c2⟩
  · obtain ⟨c, c1, c2⟩ := h4
    exact ⟨c, c1, by rw [u1_1, if_neg (by omega)]; exact c2⟩
theorem nbm_fail {γ : GT} {f p : Nat} {x : Int32} {P : PM} (h : NBm γ f p P) : ∃ P', f_Mo_fails x P = some P' ∧ NBm γ f p P' ∧ P'.1 109 11 ≠ nI 0 := by
  obtain ⟨h1, h2, h3, h4⟩ := h
  have hne : nI f ≠ nI 0 := fun e => by have := (nI_eq (by omega) (by omega)).mp e; omega
  rcases h2 with ⟨a1, a2⟩ | ⟨rfl, a1, a2, a3⟩
  · refine ⟨P, ?_, ⟨h1, Or.inl ⟨a1, a2⟩, h3, h4⟩, by rw [a1]; exact hne⟩
    unfold f_Mo_fails
    rw [a1, if_neg (by simp (disch := omega) only [z_add, z_mul, z_sub, z_subm, z_addm, z_lt_t, z_lt_f, z_le_t, z_le_f, z_eq_t, z_eq_f, z_eqm, z_meq, z_mm, z_ltm, z_mlt, z_lem, z_mle, z_cl, z_ck, u1_1, u1_2, u2_1, u2_2, ↓reduceIte, Option.bind_some, Option.bind_none, bd2_some, lb_eq, and_true, and_false, true_and, false_and, not_true_eq_false, not_false_eq_true, eq_self_iff_true, if_true, if_false, Nat.reduceEqDiff, Nat.reduceAdd, Nat.reduceMul, Nat.reduceSub, Bool.false_eq_true, zl0, zl1, zl2, zl3, zl4, zl5, zl6, zl7, zl8, zl9, zl10, zl11, zl12, zl13, zl14, zl15, zl16, zl17, zl18, zl19, zl20, zl22, zl23, zl24, zl25, zl30, zl31, zl32, zl33, zl34, zl35, zl36, zl37, zl38, zl39, zl40, zl41, zl42, zl43, zl45, zl48, zl49, zl57, zl58, zl59, zl60, zl61, zl62, zl63, zl64, zl91, zl93, zl97, zl98, zl99, zl100, zl113, zl114, zl115, zl116, zl117, zl122, zl124, zl125, zl127, zl128, zl136, zl200, zl201, zl202, zl203, zl204, zl205, zl206, zl207, zl208, zl209, zl210, zl211, zl212, zl213, zl214, zl215, zl216, zl217, zl218, zl219, zl220, zl235, zl236, zl255, zl280, zl287, zl900, zl999, zl1000, zl1001, zl1136, zl1960, zl3000, zl3001, zl3002, zl3003, zl3004, zl3005, zl3006, zl3007, zl3008, zl3009, zl268435456, zl1000000000])]
  · refine ⟨u1 (u1 P 109 11 1) 109 12 (nI p), ?_, ⟨FLm_f h1 (fm_u (fm_u fm_refl (by omega)) (by omega)), Or.inl ⟨?_, ?_⟩, h3, h4⟩, ?_⟩
    · unfold f_Mo_fails j_Mo_fails_23
      rw [a1, if_pos (by rfl), a2, if_pos (by rfl), u1_1, if_neg (by omega), a3]
    · rw [u1_1, if_neg (by omega), u1_1, if_pos ⟨rfl, rfl⟩]; rfl
    · rw [u1_1, if_pos ⟨rfl, rfl⟩]
    · rw [u1_1, if_neg (by omega), u1_1, if_pos ⟨rfl, rfl⟩]
      decide
theorem nbc_tk {γ : GT} {f p j : Nat} {P : PM} (h : NBc γ f p P) (hj : kok j) (hj2 : j ≠ 24) : P.1 1 5 ≠ nI (kt j) := by
  have hj3 := kok_n hj
  have l2 := kt_lt j hj3.2
  rw [h.2.1.2.2.1]
  intro e
  have e2 := (nI_eq (by omega) (by omega)).mp e
  exact hj2 (kt_inj j hj3.2 24 (by omega) hj (by unfold kok; omega) (e2.symm.trans rfl))
theorem nbm_is {γ : GT} {f p j : Nat} {P : PM} (h : NBm γ f p P) (hj : j < 42) (hj2 : j ≠ 25) : f_Mo_is (nI j) P = nI 0 := is_B h.2.1 ⟨h.2.2.1, h.2.2.2⟩ hj hj2
theorem nx_skip {γ : GT} (hγ : GOk γ) {nc nm : Nat} {sc sm_ : SV} {v : NV} {c d j : Nat} (hj : kok j) (hj2 : j ≠ 24) {Pc Pm : PM} (h : NOut γ nc nm sc sm_ v c d Pc Pm) : ∃ Pc' Pm', f_Ta_skip (nI (kt j)) Pc = some Pc' ∧
    (∀ {β : Type} (K : PM → Option β), bd2 (f_Mo_eats (nI j) Pm) (fun v P2 => if v = (0 : Int32) then (f_Mo_fails (2 : Int32) P2).bind K else K P2) = K Pm') ∧ NOut γ nc nm sc sm_ v c d Pc' Pm' := by
  have hjn := kok_n hj
  rcases h with ⟨k, p, q, h⟩ | ⟨f, p, h1, h2⟩
  · have h3 := h.2.2.1
    have hk := kok_n h3.2.2.1
    by_cases e : k = j
    · obtain ⟨Pc', Pm', a1, a2, a3, -⟩ := nx_next hγ h (by omega)
      refine ⟨Pc', Pm', ?_, fun K => ?_, NOut_d a3 (by omega)⟩
      · unfold f_Ta_skip
        rw [if_pos ((tk_C h3 hj).mpr e), a1]; rfl
      · rw [eats_1 (by rw [is_G h3.2.1 hk.2 hjn.2, if_pos e]), a2]; rfl
    · obtain ⟨Pc', Pm', a1, a2, a3, a4, -⟩ := nx_fail hγ (f := 2) ⟨by omega, by omega⟩ h
      refine ⟨Pc', Pm', ?_, fun K => ?_, Or.inr ⟨2, p, a3, a4⟩⟩
      · unfold f_Ta_skip
        rw [if_neg (fun q => e ((tk_C h3 hj).mp q)), show (2 : Int32) = nI 2 from rfl, a1]; rfl
      · rw [eats_0 (by rw [is_G h3.2.1 hk.2 hjn.2, if_neg e]), bd2_some, if_pos rfl, show (2 : Int32) = nI 2 from rfl, a2]; rfl
  · obtain ⟨Pc', a1, a2⟩ := nbc_fail (x := nI 2) h1
    obtain ⟨Pm', b1, b2, -⟩ := nbm_fail (x := nI 2) h2
    refine ⟨Pc', Pm', ?_, fun K => ?_, Or.inr ⟨f, p, a2, b2⟩⟩
    · unfold f_Ta_skip
      rw [if_neg (nbc_tk h1 hj hj2), show (2 : Int32) = nI 2 from rfl, a1]; rfl
    · rw [eats_0 (nbm_is h2 hjn.2 hjn.1), bd2_some, if_pos rfl, show (2 : Int32) = nI 2 from rfl, b1]; rfl
theorem nbc_take {γ : GT} {f p : Nat} {lo hi : Int32} {P : PM} (h : NBc γ f p P) : ∃ P', f_Ta_takeNumber lo hi P = some (lo, P') ∧ NBc γ f p P' := by
  obtain ⟨P', a1, a2⟩ := nbc_fail (x := nI 2) h
  refine ⟨P', ?_, a2⟩
  unfold f_Ta_takeNumber
  rw [lb_eq, if_neg (show P.1 1 5 ≠ (1 : Int32) from nbc_tk (j := 23) h (by unfold kok; omega) (by omega)), show (2 : Int32) = nI 2 from rfl, a1]; rfl
theorem nbm_take {γ : GT} {f p : Nat} {lo hi : Int32} {P : PM} (h : NBm γ f p P) : ∃ w P', f_Mo_takes lo hi P = some (w, P') ∧ NBm γ f p P' ∧ P'.1 109 11 ≠ nI 0 := by
  obtain ⟨P', a1, a2, a3⟩ := nbm_fail (x := nI 2) h
  refine ⟨P'.1 109 10, P', ?_, a2, a3⟩
  unfold f_Mo_takes
  rw [if_pos (show f_Mo_is (23 : Int32) P = 0 from nbm_is (j := 23) h (by omega) (by omega)), show (2 : Int32) = nI 2 from rfl, a1, Option.bind_some]
  unfold j_Mo_takes_37
  rw [lb_eq, if_neg (show ¬ P'.1 109 11 = (0 : Int32) from a3)]
theorem hi_ti {hb : Nat} (h : hb < 2000) : (nI hb - nI 1).toInt = (hb : Int) - 1 := pk_sub_toInt (by omega) (by omega)
theorem nx_takes {γ : GT} (hγ : GOk γ) {nc nm : Nat} {sc sm_ : SV} {v : NV} {c k p q d lo hb : Nat} (hlo : lo < 2000) (hhb : hb < 2000) {Pc Pm : PM} (h : NX γ nc nm sc sm_ v c k p q d Pc Pm) :
    ∃ wc wm Pc' Pm', f_Ta_takeNumber (nI lo) (nI hb - nI 1) Pc = some (wc, Pc') ∧ f_Mo_takes (nI lo) (nI hb - nI 1) Pm = some (wm, Pm') ∧
      ((∃ w k p q, lo ≤ w ∧ w < hb ∧ wc = nI w ∧ wm = nI w ∧ NX γ nc nm sc sm_ v c k p q (d + 1) Pc' Pm') ∨
       (∃ f p, NBc γ f p Pc' ∧ NBm γ f p Pm' ∧ (∃ w, wc = nI w ∧ (w = lo ∨ (lo ≤ w ∧ w < hb))) ∧ (Pm'.1 109 11 = nI 0 → ∃ w, lo ≤ w ∧ w < hb ∧ wm = nI w))) := by
  have h3 := h.2.2.1
  have hk := kok_n h3.2.2.1
  have i23 : f_Mo_is (23 : Int32) Pm = nI (if k = 23 then 1 else 0) := is_G (j := 23) h3.2.1 hk.2 (by omega)
  have t23 : Pc.1 1 5 = (1 : Int32) ↔ k = 23 := tk_C (j := 23) h3 (by unfold kok; omega)
  unfold f_Ta_takeNumber f_Mo_takes
  rw [lb_eq]
  by_cases e : k = 23
  · obtain ⟨w, w1, w2, w3⟩ := h3.2.2.2.2.2.2 e
    rw [if_pos (t23.mpr e), i23, if_neg (show ¬ nI (if k = 23 then 1 else 0) = (0 : Int32) from by rw [if_pos e]; decide), w2, w3, within_i, tl_ti, tl_ti, tl_ti, hi_ti hhb, nI_ti (by omega), nI_ti (by omega)]
    by_cases c1 : lo ≤ w ∧ w < hb
    · obtain ⟨Pc', Pm', a1, a2, a3, a4⟩ := nx_next hγ h (by omega)
      have d1 : ¬ nI w < nI lo := by simp (disch := omega) only [z_add, z_mul, z_sub, z_subm, z_addm, z_lt_t, z_lt_f, z_le_t, z_le_f, z_eq_t, z_eq_f, z_eqm, z_meq, z_mm, z_ltm, z_mlt, z_lem, z_mle, z_cl, z_ck, u1_1, u1_2, u2_1, u2_2, ↓reduceIte, Option.bind_some, Option.bind_none, bd2_some, lb_eq, and_true, and_false, true_and, false_and, not_true_eq_false, not_false_eq_true, eq_self_iff_true, if_true, if_false, Nat.reduceEqDiff, Nat.reduceAdd, Nat.reduceMul, Nat.reduceSub, Bool.false_eq_true, zl0, zl1, zl2, zl3, zl4, zl5, zl6, zl7, zl8, zl9, zl10, zl11, zl12, zl13, zl14, zl15, zl16, zl17, zl18, zl19, zl20, zl22, zl23, zl24, zl25, zl30, zl31, zl32, zl33, zl34, zl35, zl36, zl37, zl38, zl39, zl40, zl41, zl42, zl43, zl45, zl48, zl49, zl57, zl58, zl59, zl60, zl61, zl62, zl63, zl64, zl91, zl93, zl97, zl98, zl99, zl100, zl113, zl114, zl115, zl116, zl117, zl122, zl124, zl125, zl127, zl128, zl136, zl200, zl201, zl202, zl203, zl204, zl205, zl206, zl207, zl208, zl209, zl210, zl211, zl212, zl213, zl214, zl215, zl216, zl217, zl218, zl219, zl220, zl235, zl236, zl255, zl280, zl287, zl900, zl999, zl1000, zl1001, zl1136, zl1960, zl3000, zl3001, zl3002, zl3003, zl3004, zl3005, zl3006, zl3007, zl3008, zl3009, zl268435456, zl1000000000]
      have d2 : nI w ≤ nI hb - nI 1 := Int32.le_iff_toInt_le.mpr (by rw [hi_ti hhb, nI_ti (by omega)]; omega)
      refine ⟨nI w, nI w, Pc', Pm', ?_, ?_, ?_⟩
      · rw [if_neg d1, if_pos d2, a1]; rfl
      · rw [if_neg (show ¬ (if (lo : Int) ≤ (w : Int) ∧ (w : Int) ≤ (hb : Int) - 1 then nI 1 else nI 0) = (0 : Int32) from by rw [if_pos (by omega)]; decide)]
        unfold j_Mo_takes_37
        rw [lb_eq, w3, if_pos (show Pm.1 109 11 = (0 : Int32) from h3.2.1.1), a2]; rfl
      · rcases a3 with ⟨k', p', q', a3⟩ | ⟨f, p', a3, a5⟩
        · exact Or.inl ⟨w, k', p', q', c1.1, c1.2, rfl, rfl, a3⟩
        · exact Or.inr ⟨f, p', a3, a5, ⟨w, rfl, Or.inr c1⟩, fun _ => ⟨w, c1.1, c1.2, rfl⟩⟩
    · obtain ⟨Pc', Pm', a1, a2, a3, a4, a5⟩ := nx_fail hγ (f := 3) ⟨by omega, by omega⟩ h
      have e30 : j_Ta_takeNumber_30 (nI lo) Pc = some (nI lo, Pc') := by
        unfold j_Ta_takeNumber_30
        rw [show (3 : Int32) = nI 3 from rfl, a1]; rfl
      refine ⟨nI lo, Pm'.1 109 10, Pc', Pm', ?_, ?_, Or.inr ⟨3, p, a3, a4, ⟨lo, rfl, Or.inl rfl⟩, fun q => absurd q a5⟩⟩
      · rw [e30]
        split
        · rfl
        · rename_i d1
          rw [if_neg]
          intro d2
          have d3 := Int32.le_iff_toInt_le.mp d2
          rw [hi_ti hhb, nI_ti (by omega)] at d3
          have d4 : lo ≤ w := by
            by_cases z : lo ≤ w
            · exact z
            · exact absurd (show nI w < nI lo from nI_lt (by omega) (by omega)) d1
          exact c1 ⟨d4, by omega⟩
      · rw [if_pos (show (if (lo : Int) ≤ (w : Int) ∧ (w : Int) ≤ (hb : Int) - 1 then nI 1 else nI 0) = (0 : Int32) from by rw [if_neg (by omega)]; rfl), show (3 : Int32) = nI 3 from rfl, a2, Option.bind_some]
        unfold j_Mo_takes_37
        rw [lb_eq, if_neg (show ¬ Pm'.1 109 11 = (0 : Int32) from a5)]
  · obtain ⟨Pc', Pm', a1, a2, a3, a4, a5⟩ := nx_fail hγ (f := 2) ⟨by omega, by omega⟩ h
    refine ⟨nI lo, Pm'.1 109 10, Pc', Pm', ?_, ?_, Or.inr ⟨2, p, a3, a4, ⟨lo, rfl, Or.inl rfl⟩, fun q => absurd q a5⟩⟩
    · rw [if_neg (fun q => e (t23.mp q)), show (2 : Int32) = nI 2 from rfl, a1]; rfl
    · rw [i23, if_pos (show nI (if k = 23 then 1 else 0) = (0 : Int32) from by rw [if_neg e]; rfl), show (2 : Int32) = nI 2 from rfl, a2, Option.bind_some]
      unfold j_Mo_takes_37
      rw [lb_eq, if_neg (show ¬ Pm'.1 109 11 = (0 : Int32) from a5)]
theorem NBc_u {γ : GT} {f p k j : Nat} {x : Int32} {P : PM} (h : NBc γ f p P) (hk : 5 ≤ k ∧ k ≤ 12) : NBc γ f p (u1 P k j x) := by
  obtain ⟨h1, h2, ⟨N, h3, h4⟩, c, h5, h6⟩ := h
  refine ⟨FLc_u h1 (by omega), ?_, ⟨N, h3, by rw [u1r (by omega)]; exact h4⟩, c, h5, by rw [u1r (by omega)]; exact h6⟩
  unfold Cf at *
  rw [u1r (by omega)]
  exact h2
theorem NBm_u {γ : GT} {f p j : Nat} {x : Int32} {P : PM} (h : NBm γ f p P) : NBm γ f p (u1 P 113 j x) := by
  obtain ⟨h1, h2, h3⟩ := h
  refine ⟨FLm_u h1, ?_, h3⟩
  unfold Mf Mh at *
  rw [u1r (by omega)]
  exact h2
theorem TG_uc {n k p q a j : Nat} {x : Int32} {Pc Pm : PM} (h : TG n k p q Pc Pm) (ha : a ≠ 1) : TG n k p q (u1 Pc a j x) Pm := TG_ro h (u1r (by omega)) rfl
theorem TG_um {n k p q j : Nat} {x : Int32} {Pc Pm : PM} (h : TG n k p q Pc Pm) : TG n k p q Pc (u1 Pm 113 j x) := TG_ro h rfl (u1r (by omega))
