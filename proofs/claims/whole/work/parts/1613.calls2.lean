/-! dull, undo, brings, station, way, count, fault -/
theorem dull_ok {P : PM} {a : AS} {t z : Int32} (hC : CRep P a) (hM : MRep P a) (hca : CCa P (aV a)) (hok : AOk a) :
    ∃ v P1 P2, f_Yr_dull t z P = some (v, P1) ∧ f_Mo_dull t z P1 = some (v, P2) ∧ Inv P2 := by
  have hN := hok.1.1
  by_cases hx : (0 ≤ t.toInt ∧ t.toInt < vN (aV a)) ∧ 0 ≤ z.toInt ∧ z.toInt ≤ 9
  · obtain ⟨k, hk, rfl⟩ : ∃ k, k < vN (aV a) ∧ t = nI k := (i_cases t (vN (aV a)) (by omega)).resolve_right (fun q => q hx.1)
    obtain ⟨y, hy, rfl⟩ : ∃ k, k < 10 ∧ z = nI k := (i_cases z 10 (by omega)).resolve_right (fun q => q (by omega))
    have hz := hx.2
    refine join (r := nI (sD (aS a) k)) (a' := setSP a (adl (aV a) (aS a) k y).2 ((aS a :: aP a).take 10)) hM ?_ ?_ (AOk_SP hok (SVok_adl hok.2.1))
    · obtain ⟨P1, P2, g1, g0, g3, g4, g5⟩ := deed_C (f := f_De_tryDull 21 (nI k) (nI y)) (w := 0) hC hok hca (fun P1 n1 t1 => tryDull_C (Or.inl rfl) n1 hok.1 t1 hk (by omega)) (fun h => absurd rfl h) (by omega)
      obtain ⟨P3, l1, l2, l3, l4⟩ := g5 (nI (sD (aS a) k))
      refine ⟨P3, ?_, l2, l3, l4⟩
      unfold f_Yr_dull
      rw [g1, Option.bind_some, dullOf_C g0 (by omega), Option.bind_some, g3, bd2_some, l1, bd2_some, if_pos rfl]
    · intro P hM
      have hM1 : MRep (u1 P 109 0 (0 : Int32)) a := MRep_me hM me_th
      have c2 : MSt (cpy (u1 P 109 0 (0 : Int32)) 110 113 116 0 0 11) 110 113 (aS a) := MSt_sm hM1.2.1 cpy_sm rfl
      obtain ⟨P2, hP2⟩ : ∃ P2, P2 = u1 (cpy (u1 P 109 0 (0 : Int32)) 110 113 116 0 0 11) 110 (117 + k) (nI y) := ⟨_, rfl⟩
      have k2 : MSt P2 110 113 (adl (aV a) (aS a) k y).2 := by
        unfold adl
        rw [if_pos ⟨hk, by omega⟩, hP2]
        refine ⟨?_, ?_, ?_, ?_, fun i hi => ?_⟩
        · rw [u1_1, if_neg (by omega)]; exact c2.1
        · rw [u1_1, if_neg (by omega)]; exact c2.2.1
        · rw [u1_1, if_neg (by omega)]; exact c2.2.2.1
        · rw [u1_1, if_neg (by omega)]; exact c2.2.2.2.1
        · show (if 110 = 110 ∧ 113 + 4 + i = 117 + k then nI y else (cpy (u1 P 109 0 (0 : Int32)) 110 113 116 0 0 11).1 110 (113 + 4 + i)) = nI (if i = k then y else sD (aS a) i)
          by_cases c : i = k
          · rw [if_pos (by omega), if_pos c]
          · rw [if_neg (by omega), if_neg c]; exact c2.2.2.2.2 i hi
      have k3 : mj (cpy (u1 P 109 0 (0 : Int32)) 110 113 116 0 0 11) P2 := by
        rw [hP2]
        exact mj_u1 mj_refl (by omega)
      obtain ⟨P3, l1, l2, l3, l4, l5⟩ := deed_M hM1 hok k2 k3
      refine ⟨P3, ?_, l2, sm_trans sm_th (er_mo l3)⟩
      have hwi : f_Mo_within (nI y).toInt64 (0 : Int64) (9 : Int64) (u1 P 109 0 (0 : Int32)) = nI 1 := by
        rw [within_i, tl_ti, nI_ti (by omega), if_pos]
        exact ⟨by show (0 : Int) ≤ y; omega, by show (y : Int) ≤ 9; omega⟩
      unfold f_Mo_dull
      rw [isStation_M _ hM1.1.1 hN, tl_ti, if_pos hx.1, Option.bind_some, if_neg (by decide), hwi, if_neg (by decide), keeps_M, Option.bind_some, show (117 : Int32) = nI 117 from rfl, nI_add, z_ck (by omega) (by omega), z_cl (by omega)]
      rw [← hP2, l1, Option.bind_some, show (4 : Int32) = nI 4 from rfl, nI_add, z_ck (by omega) (by omega), z_cl (by omega)]
      have := l5.2.2.2.2 k (by omega)
      rw [Nat.zero_add] at this
      rw [this]
  · refine join (r := -nI 11) (a' := a) hM ?_ ?_ hok
    · obtain ⟨P1, P2, g1, g0, g3, g4, g5⟩ := deed_C (f := f_De_tryDull 21 t z) (w := 1) (s' := aS a) hC hok hca (fun P1 n1 t1 => ⟨P1, by
        unfold f_De_tryDull
        rcases i_cases t (vN (aV a)) (by omega) with ⟨k, hk, rfl⟩ | hy
        · have hz : ¬ (0 ≤ z.toInt ∧ z.toInt ≤ 9) := fun q => hx ⟨by rw [nI_ti (by omega)]; omega, q⟩
          rw [isSt_C n1 hok.1 (by omega), if_pos hk, if_neg (by decide)]
          by_cases c : z < 0
          · rw [if_pos c]; rfl
          · have c1 : ¬ z.toInt < 0 := fun q => c (Int32.lt_iff_toInt_lt.mpr q)
            rw [if_neg c, if_neg]
            · rfl
            · intro q
              have := Int32.lt_iff_toInt_lt.mp q
              have e10 : (10 : Int32).toInt = 10 := rfl
              omega
        · rw [isSt_Cn n1 hok.1 hy]; rfl, t1, sm_refl⟩) (fun _ => rfl) (by omega)
      have hdl : ∃ d, f_Sa_dullOf 21 t P1 = some d := by
        unfold f_Sa_dullOf j_Sa_dullOf_19
        split
        · exact ⟨_, rfl⟩
        · rename_i h0
          split
          · exact ⟨_, rfl⟩
          · rename_i h7
            obtain ⟨j, hj, rfl⟩ : ∃ j, j < 7 ∧ t = nI j := by
              rcases pk_ix t (n := 7) (by omega) with h | h | h
              · exact absurd h h0
              · exact absurd h h7
              · exact h
            rw [z_ck hj (by omega)]
            exact ⟨_, rfl⟩
      obtain ⟨d, hd⟩ := hdl
      obtain ⟨P3, l1, l2, l3, l4⟩ := g5 d
      refine ⟨P3, ?_, l2, l3, l4⟩
      unfold f_Yr_dull
      rw [g1, Option.bind_some, hd, Option.bind_some, g3, bd2_some, l1, bd2_some]
      rfl
    · intro P hM
      have hM1 : MRep (u1 P 109 0 (0 : Int32)) a := MRep_me hM me_th
      refine ⟨u1 P 109 0 (0 : Int32), ?_, hM1, sm_th⟩
      unfold f_Mo_dull
      rw [isStation_M _ hM1.1.1 hN, tl_ti]
      by_cases c : 0 ≤ t.toInt ∧ t.toInt < vN (aV a)
      · have hwi : f_Mo_within z.toInt64 (0 : Int64) (9 : Int64) (u1 P 109 0 (0 : Int32)) = nI 0 := by
          rw [within_i, tl_ti, if_neg]
          exact fun q => hx ⟨c, q⟩
        rw [if_pos c, Option.bind_some, if_neg (by decide), hwi]
        rfl
      · rw [if_neg c]
        rfl
theorem AOk_un {a : AS} {n : Nat} (h : AOk a) (h1 : 1 ≤ n) (hn : n ≤ (aP a).length) : AOk (setSP a ((aP a).getD (n - 1) s0) ((aP a).drop n)) := by
  refine ⟨h.1, h.2.2.2.1 _ (by omega), ?_, fun j hj => ?_, h.2.2.2.2.1, h.2.2.2.2.2.1, h.2.2.2.2.2.2⟩
  · show ((aP a).drop n).length ≤ 10
    have := h.2.2.1
    rw [List.length_drop]; omega
  · change j < ((aP a).drop n).length at hj
    rw [List.length_drop] at hj
    have e1 : ((aP a).drop n).getD j s0 = (aP a).getD (n + j) s0 := by
      simp only [List.getD_eq_getElem?_getD, List.getElem?_drop]
    show SVok (aV a) (((aP a).drop n).getD j s0)
    rw [e1]
    exact h.2.2.2.1 _ (by omega)
theorem undo_ok {P : PM} {a : AS} {n : Int32} (hC : CRep P a) (hM : MRep P a) (hca : CCa P (aV a)) (hok : AOk a) :
    ∃ v P1 P2, f_Yr_undo n P = some (v, P1) ∧ f_Mo_undo n P1 = some (v, P2) ∧ Inv P2 := by
  have hl := hok.2.2.1
  have hC' := hC
  obtain ⟨c1, c2, c3, c4, c5, c6⟩ := hC
  have hk5 : P.1 31 5 = nI (aP a).length := by obtain ⟨hd, _, _, h, _⟩ := c3; exact h
  by_cases hx : 1 ≤ n.toInt ∧ n.toInt ≤ (aP a).length
  · obtain ⟨k, hk, rfl⟩ : ∃ k, k < 11 ∧ n = nI k := (i_cases n 11 (by omega)).resolve_right (fun q => q (by omega))
    rw [nI_ti (by omega)] at hx
    refine join (r := nI ((aP a).length - k)) (a' := setSP a ((aP a).getD (k - 1) s0) ((aP a).drop k)) hM ?_ ?_ (AOk_un hok (by omega) (by omega))
    · obtain ⟨P1, g1, g2, g3, g4⟩ := takeBack_C c3 hl (show 1 ≤ k by omega) (by omega)
      refine ⟨P1, ?_, ⟨CNet_sm c1 g4 rfl rfl rfl rfl rfl, g2, g3, CTr_sm c4 g4 rfl rfl (fun k hk => by simp; omega), CIm_sm c5 g4 (fun o h1 h2 => by simp; omega), CTp_sm c6 g4 rfl rfl⟩, CCa_ro hca (g4.1 59 rfl) (g4.1 60 rfl), sm_mono g4 (fun o ho => by simp [cl] at ho; simp; omega)⟩
      unfold f_Yr_undo
      rw [show (1 : Int32) = nI 1 from rfl, if_neg (nI_nlt (by omega) (by omega)), hk5, if_pos (nI_le (by omega) (by omega)), g1, Option.bind_some]
      obtain ⟨hd, _, _, h, _⟩ := g3
      rw [h, List.length_drop]
    · intro P hM
      have hM1 : MRep (u1 P 109 0 (0 : Int32)) a := MRep_me hM me_th
      obtain ⟨m1, m2, m3, m4, m5, m6⟩ := hM1
      obtain ⟨P2, g1, g2, g3, g4, g5⟩ := undo_M m3 hl (show 1 ≤ k by omega) (by omega)
      refine ⟨P2, ?_, ⟨MNet_ix m1 (fun j hj => g5 _ (by omega)), g2, g3, MTr_sm m4 g4 rfl rfl rfl, MIm_ix m5 (g4.1 111 rfl) (fun j hj => g5 j (by omega)), MTp_sm m6 g4 rfl (by rw [g4.1 109 rfl]) (by rw [g4.1 109 rfl]) (by rw [g4.1 109 rfl])⟩, sm_trans sm_th (sm_mono g4 (fun o ho => by simp [mo] at ho; simp; omega))⟩
      have hwi : f_Mo_within (nI k).toInt64 (1 : Int64) (10 : Int64) (u1 P 109 0 (0 : Int32)) = nI 1 := by
        rw [within_i, tl_ti, nI_ti (by omega), if_pos]
        exact ⟨by show (1 : Int) ≤ k; omega, by show (k : Int) ≤ 10; omega⟩
      unfold f_Mo_undo
      rw [hwi, if_neg (by decide), show (u1 P 109 0 (0 : Int32)).1 110 (124 : Int32).toNatClampNeg = nI (aP a).length from m3.1, if_pos (nI_le (by omega) (by omega)), z_sub (by omega)]
      exact g1
  · refine join (r := -nI 3) (a' := a) hM ⟨P, ?_, hC', hca, sm_refl⟩ ?_ hok
    · unfold f_Yr_undo
      by_cases c : n < 1
      · rw [if_pos c]; rfl
      · have e1 : (1 : Int32).toInt = 1 := rfl
        have c1 : ¬ n.toInt < 1 := fun q => c (Int32.lt_iff_toInt_lt.mpr (by omega))
        rw [if_neg c, if_neg]
        · rfl
        · intro q
          have := Int32.le_iff_toInt_le.mp q
          rw [hk5, nI_ti (by omega)] at this
          exact hx ⟨by omega, this⟩
    · intro P hM
      have hM1 : MRep (u1 P 109 0 (0 : Int32)) a := MRep_me hM me_th
      refine ⟨u1 P 109 0 (0 : Int32), ?_, hM1, sm_th⟩
      unfold f_Mo_undo
      rw [within_i, tl_ti, show (1 : Int64).toInt = 1 from rfl, show (10 : Int64).toInt = 10 from rfl, show (u1 P 109 0 (0 : Int32)).1 110 (124 : Int32).toNatClampNeg = nI (aP a).length from hM1.2.2.1.1]
      by_cases c : 1 ≤ n.toInt ∧ n.toInt ≤ 10
      · have e1 : ¬ n ≤ nI (aP a).length := by
          intro q
          have := Int32.le_iff_toInt_le.mp q
          rw [nI_ti (by omega)] at this
          exact hx ⟨c.1, this⟩
        rw [if_pos c, if_neg (by decide), if_neg e1]
        rfl
      · rw [if_neg c]
        rfl
/-- what a passing now would bring: none where it can't be -/
noncomputable def szN (v : NV) (s : SV) (t : Nat) : Option Nat := if whyP v s t = 0 then some (szP v s t) else none
theorem szP_le {v : NV} {s : SV} {t : Nat} (h : SVok v s) : szP v s t ≤ 40 := by
  unfold szP
  split
  · omega
  · exact pss_le h.2.2.1
theorem sizeAt_C {P : PM} {v : NV} {s : SV} {t : Nat} (hn : CNet P 14 v) (hv : NVok v) (h : CSt P 21 s) (hs : SVok v s) (ht : t < vN v) :
    ∃ P', f_De_sizeAt (nI t) P = some (oI (szN v s t), P') ∧ sm (fun o => o == 19 || o == 20) P P' := by
  have hN := hv.1
  unfold f_De_sizeAt szN
  rw [h.1]
  cases hw : sW s with
  | none =>
    refine ⟨P, ?_, sm_refl⟩
    have : whyP v s t = 2 := by unfold whyP; rw [hw]
    rw [this]
    rfl
  | some w =>
    obtain ⟨hwN, hz1⟩ := hs.1 w hw
    have hw2 : whyP v s t = why v w (sZ s) t (sD s t) (sA s) := by unfold whyP; rw [hw]
    have hsz : szP v s t = pss v w (sZ s) t (sD s t) := by unfold szP; rw [hw]
    rw [oI_s, if_neg (by simp (disch := omega) only [z_add, z_mul, z_sub, z_subm, z_addm, z_lt_t, z_lt_f, z_le_t, z_le_f, z_eq_t, z_eq_f, z_eqm, z_meq, z_mm, z_ltm, z_mlt, z_lem, z_mle, z_cl, z_ck, u1_1, u1_2, u2_1, u2_2, ↓reduceIte, Option.bind_some, Option.bind_none, bd2_some, lb_eq, and_true, and_false, true_and, false_and, not_true_eq_false, not_false_eq_true, eq_self_iff_true, if_true, if_false, Nat.reduceEqDiff, Nat.reduceAdd, Nat.reduceMul, Nat.reduceSub, Bool.false_eq_true, zl0, zl1, zl2, zl3, zl4, zl5, zl6, zl7, zl8, zl9, zl10, zl11, zl12, zl13, zl14, zl15, zl16, zl17, zl18, zl19, zl20, zl22, zl23, zl24, zl25, zl30, zl31, zl32, zl33, zl34, zl35, zl36, zl37, zl38, zl39, zl40, zl41, zl42, zl43, zl45, zl48, zl49, zl57, zl58, zl59, zl60, zl61, zl62, zl63, zl64, zl91, zl93, zl97, zl98, zl99, zl100, zl113, zl114, zl115, zl116, zl117, zl122, zl124, zl125, zl127, zl128, zl136, zl200, zl201, zl202, zl203, zl204, zl205, zl206, zl207, zl208, zl209, zl210, zl211, zl212, zl213, zl214, zl215, zl216, zl217, zl218, zl219, zl220, zl235, zl236, zl255, zl280, zl287, zl900, zl999, zl1000, zl1001, zl1136, zl1960, zl3000, zl3001, zl3002, zl3003, zl3004, zl3005, zl3006, zl3007, zl3008, zl3009, zl268435456, zl1000000000]), asleep_C h hv hs (by omega), dullOf_C h (by omega), h.2.1, hw2, hsz]
    unfold why
    by_cases c1 : (sA s).testBit t = true
    · rw [if_neg (by rw [if_pos c1]; decide), if_pos c1]
      refine ⟨P, ?_, sm_refl⟩
      by_cases c0 : vH v w t = 0
      · rw [if_pos c0]; rfl
      · rw [if_neg c0]; rfl
    · rw [if_pos (by rw [if_neg c1]; decide), if_neg c1]
      obtain ⟨P1, g1, g2⟩ := carried_C (z := sZ s) (d := sD s t) hn hv (show w < 7 by omega) (show t < 7 by omega)
      rw [Option.bind_some, g1, bd2_some]
      refine ⟨P1, ?_, g2⟩
      unfold car
      by_cases c0 : vH v w t = 0
      · rw [if_pos c0, if_pos c0]; rfl
      · rw [if_neg c0, if_neg c0]
        by_cases c2 : tks v w (sZ s) t (sD s t) = true
        · rw [if_pos c2, if_pos c2]; rfl
        · rw [if_neg c2, if_neg c2]; rfl
theorem brings_ok {P : PM} {a : AS} {t : Int32} (hC : CRep P a) (hM : MRep P a) (hca : CCa P (aV a)) (hok : AOk a) :
    ∃ v P1 P2, f_Yr_brings t P = some (v, P1) ∧ f_Mo_brings t P1 = some (v, P2) ∧ Inv P2 := by
  have hN := hok.1.1
  rcases i_cases t (vN (aV a)) (by omega) with ⟨k, hk, rfl⟩ | hx
  · have hle := szP_le (t := k) hok.2.1
    refine join (r := match szN (aV a) (aS a) k with | none => -nI 5 | some z => nI z) (a' := a) hM ?_ ?_ hok
    · obtain ⟨P1, g1, g2⟩ := sizeAt_C hC.1 hok.1 hC.2.1 hok.2.1 hk
      refine ⟨P1, ?_, CRep_ce hC (ce_sm g2 (fun o e => by simp [esr] at e; simp; omega) (by rw [g2.1 31 rfl]) (by rw [g2.1 31 rfl])), CCa_ro hca (g2.1 59 rfl) (g2.1 60 rfl), sm_mono g2 (fun o ho => by simp [cl] at ho; simp; omega)⟩
      unfold f_Yr_brings
      rw [isSt_C hC.1 hok.1 (by omega), if_pos hk, if_neg (by decide), g1, bd2_some]
      unfold szN
      by_cases c : whyP (aV a) (aS a) k = 0
      · rw [if_pos c, oI_s, if_neg (by simp (disch := omega) only [z_add, z_mul, z_sub, z_subm, z_addm, z_lt_t, z_lt_f, z_le_t, z_le_f, z_eq_t, z_eq_f, z_eqm, z_meq, z_mm, z_ltm, z_mlt, z_lem, z_mle, z_cl, z_ck, u1_1, u1_2, u2_1, u2_2, ↓reduceIte, Option.bind_some, Option.bind_none, bd2_some, lb_eq, and_true, and_false, true_and, false_and, not_true_eq_false, not_false_eq_true, eq_self_iff_true, if_true, if_false, Nat.reduceEqDiff, Nat.reduceAdd, Nat.reduceMul, Nat.reduceSub, Bool.false_eq_true, zl0, zl1, zl2, zl3, zl4, zl5, zl6, zl7, zl8, zl9, zl10, zl11, zl12, zl13, zl14, zl15, zl16, zl17, zl18, zl19, zl20, zl22, zl23, zl24, zl25, zl30, zl31, zl32, zl33, zl34, zl35, zl36, zl37, zl38, zl39, zl40, zl41, zl42, zl43, zl45, zl48, zl49, zl57, zl58, zl59, zl60, zl61, zl62, zl63, zl64, zl91, zl93, zl97, zl98, zl99, zl100, zl113, zl114, zl115, zl116, zl117, zl122, zl124, zl125, zl127, zl128, zl136, zl200, zl201, zl202, zl203, zl204, zl205, zl206, zl207, zl208, zl209, zl210, zl211, zl212, zl213, zl214, zl215, zl216, zl217, zl218, zl219, zl220, zl235, zl236, zl255, zl280, zl287, zl900, zl999, zl1000, zl1001, zl1136, zl1960, zl3000, zl3001, zl3002, zl3003, zl3004, zl3005, zl3006, zl3007, zl3008, zl3009, zl268435456, zl1000000000])]
      · rw [if_neg c]; rfl
    · intro P hM
      have hM1 : MRep (u1 P 109 0 (0 : Int32)) a := MRep_me hM me_th
      obtain ⟨P1, g1, g2⟩ := whyPass_M hM1.1 hok.1 hM1.2.1 hok.2.1 (show k < 100 by omega)
      have hM2 : MRep P1 a := MRep_14 hM1 g2
      have hap : (aps (aV a) (aS a) k).1 = whyP (aV a) (aS a) k := by unfold aps; rw [if_pos hk]
      have := @whyP_lt (aV a) (aS a) k
      unfold f_Mo_brings
      rw [isStation_M _ hM1.1.1 hN, tl_ti, nI_ti (by omega), if_pos (by omega), Option.bind_some, if_neg (by decide), nI_l (by omega), g1, bd2_some, hap]
      unfold szN
      by_cases c : whyP (aV a) (aS a) k = 0
      · rw [if_pos c, if_pos (by rw [c]; rfl), m113 hM2.2.1, m114 hM2.2.1]
        cases hw : sW (aS a) with
        | none => unfold whyP at c; rw [hw] at c; cases c
        | some w =>
          obtain ⟨hwN, hz1⟩ := hok.2.1.1 w hw
          have hsz : szP (aV a) (aS a) k = pss (aV a) w (sZ (aS a)) k (sD (aS a) k) := by unfold szP; rw [hw]
          have hd : P1.1 110 (117 + k) = nI (sD (aS a) k) := hM2.2.1.2.2.2.2 k (by omega)
          obtain ⟨P2, k1, k2⟩ := passedTo_M (z := sZ (aS a)) hM2.1 hok.1 (show w < 7 by omega) (show k < 7 by omega) hok.2.1.2.2.1 hd
          rw [oI_s, k1, bd2_some, hsz]
          exact ⟨P2, rfl, MRep_14 hM2 k2, sm_trans sm_th (sm_trans (r14_mo g2) (r14_mo k2))⟩
      · rw [if_neg c, if_neg (by simp (disch := omega) only [z_add, z_mul, z_sub, z_subm, z_addm, z_lt_t, z_lt_f, z_le_t, z_le_f, z_eq_t, z_eq_f, z_eqm, z_meq, z_mm, z_ltm, z_mlt, z_lem, z_mle, z_cl, z_ck, u1_1, u1_2, u2_1, u2_2, ↓reduceIte, Option.bind_some, Option.bind_none, bd2_some, lb_eq, and_true, and_false, true_and, false_and, not_true_eq_false, not_false_eq_true, eq_self_iff_true, if_true, if_false, Nat.reduceEqDiff, Nat.reduceAdd, Nat.reduceMul, Nat.reduceSub, Bool.false_eq_true, zl0, zl1, zl2, zl3, zl4, zl5, zl6, zl7, zl8, zl9, zl10, zl11, zl12, zl13, zl14, zl15, zl16, zl17, zl18, zl19, zl20, zl22, zl23, zl24, zl25, zl30, zl31, zl32, zl33, zl34, zl35, zl36, zl37, zl38, zl39, zl40, zl41, zl42, zl43, zl45, zl48, zl49, zl57, zl58, zl59, zl60, zl61, zl62, zl63, zl64, zl91, zl93, zl97, zl98, zl99, zl100, zl113, zl114, zl115, zl116, zl117, zl122, zl124, zl125, zl127, zl128, zl136, zl200, zl201, zl202, zl203, zl204, zl205, zl206, zl207, zl208, zl209, zl210, zl211, zl212, zl213, zl214, zl215, zl216, zl217, zl218, zl219, zl220, zl235, zl236, zl255, zl280, zl287, zl900, zl999, zl1000, zl1001, zl1136, zl1960, zl3000, zl3001, zl3002, zl3003, zl3004, zl3005, zl3006, zl3007, zl3008, zl3009, zl268435456, zl1000000000])]
        exact ⟨P1, rfl, hM2, sm_trans sm_th (r14_mo g2)⟩
  · refine join (r := -nI 2) (a' := a) hM ⟨P, ?_, hC, hca, sm_refl⟩ ?_ hok
    · unfold f_Yr_brings
      rw [isSt_Cn hC.1 hok.1 hx]; rfl
    · intro P hM
      have hM1 : MRep (u1 P 109 0 (0 : Int32)) a := MRep_me hM me_th
      refine ⟨u1 P 109 0 (0 : Int32), ?_, hM1, sm_th⟩
      unfold f_Mo_brings
      rw [isStation_M _ hM1.1.1 hN, tl_ti, if_neg hx]
      rfl
theorem fault_ok {P : PM} {a : AS} {w : Int32} (hC : CRep P a) (hM : MRep P a) (hca : CCa P (aV a)) (hok : AOk a) :
    ∃ P2, f_Mo_fault w P = some (f_Yr_fault w P, P2) ∧ Inv P2 := by
  have hM1 : MRep (u1 P 109 0 (0 : Int32)) a := MRep_me hM me_th
  have e1 : (u1 P 109 0 (0 : Int32)).1 109 13 = P.1 1 7 := hM1.2.2.2.2.2.2.2.1.trans hC.2.2.2.2.2.2.2.1.symm
  have e2 : (u1 P 109 0 (0 : Int32)).1 109 14 = P.1 1 8 := hM1.2.2.2.2.2.2.2.2.trans hC.2.2.2.2.2.2.2.2.symm
  refine ⟨u1 P 109 0 (0 : Int32), ?_, a, hok, CRep_hi hC sm_th, hM1, CCa_hi hca sm_th⟩
  unfold f_Mo_fault f_Yr_fault
  rw [e1, e2]
  split
  · rfl
  · split <;> rfl
