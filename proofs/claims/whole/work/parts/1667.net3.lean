/-! net() as a call -/
def setN (a : AS) (v : NV) (s : SV) (p : List SV) (k q : Int32) : AS := (v, s, p, a.2.2.2.1, a.2.2.2.2.1, 0, a.2.2.2.2.2.2.1, k, q)
theorem takeOver_C2 {P : PM} {a : AS} {v : NV} {s : SV} (hn : CNet P 4 v) (hs : CSt P 11 s)
    (h3 : CPast P (aP a)) (h4 : CTr P (aT a)) (h5 : CIm P (aI a)) {f : Nat} {by_ : Nat → Nat} {k q : Int32} (h6 : CTp P f by_ k q) (h60 : ∀ t, t < 7 → ∃ d, d ≤ 9 ∧ P.1 60 t = nI d) :
    ∃ P', f_Yr_takeOver 4 11 P = some P' ∧ CNet P' 14 v ∧ CSt P' 21 s ∧ CPast P' [] ∧ CTr P' (aT a) ∧ CIm P' (aI a) ∧ CTp P' f by_ k q ∧ CCa P' v ∧ sm tor P P' := by
  obtain ⟨P1, g1, g2, g3⟩ := ncopy_C (o := 14) hn (Or.inl (by omega))
  have s1 : CSt P1 11 s := CSt_sm hs g3 (by simp) (by simp)
  obtain ⟨P2, k1, k2, k3⟩ := copy_C (o := 21) s1 (by omega) (by omega) (by omega) (by omega)
  obtain ⟨P3, hP3⟩ : ∃ P3, P3 = rowI (u1 P2 31 5 (0 : Int32)) 59 0 1960 (-2) := ⟨_, rfl⟩
  have q3 : sm (fun o => o == 31 || o == 59) P2 P3 := by rw [hP3]; exact sm_rowI (sm_u1 sm_refl rfl) rfl
  have hall : sm tor P P3 := sm_trans (sm_mono g3 (fun o q => by simp [tor] at q; simp; omega)) (sm_trans (sm_mono k3 (fun o q => by simp [tor] at q; simp; omega)) (sm_mono q3 (fun o q => by simp [tor] at q; simp; omega)))
  refine ⟨P3, ?_, CNet_sm (CNet_sm g2 k3 rfl rfl rfl rfl rfl) q3 rfl rfl rfl rfl rfl, CSt_sm k2 q3 rfl rfl, ?_, CTr_sm h4 hall rfl rfl (fun j hj => by simp [tor]; omega), CIm_sm h5 hall (fun o h1 h2 => by simp [tor]; omega), CTp_sm h6 hall rfl rfl, ?_, hall⟩
  · unfold f_Yr_takeOver f_De_forgetPast
    rw [g1, Option.bind_some, k1, Option.bind_some, Option.bind_some, fAllRow, hP3]
    rfl
  · obtain ⟨hd, j1, j2, j3, j4⟩ := h3
    refine ⟨hd, j1, ?_, ?_, fun j hj => by cases hj⟩
    · rw [hP3, rowI_1, if_neg (by omega), u1_1, if_neg (by omega), k3.1 31 rfl, g3.1 31 rfl]; exact j2
    · rw [hP3, rowI_1, if_neg (by omega), u1_1, if_pos ⟨rfl, rfl⟩]; rfl
  · intro t ht
    obtain ⟨d, d1, d2⟩ := h60 t ht
    refine ⟨d, d1, by rw [hall.1 60 rfl]; exact d2, fun p hp => Or.inl ?_⟩
    rw [hP3, rowI_1, if_pos (by omega)]
    rfl
theorem net_l : ∀ (m x n : Nat) (P : PM), x + m = 1136 → m < n → l_Mo_net_141 n (nI x) P = some ((cpy P 113 0 110 0 x 1136).1 110 0, cpy P 113 0 110 0 x 1136) := by
  intro m
  induction m with
  | zero =>
    intro x n P hx hn
    obtain ⟨n, rfl⟩ : ∃ z, n = z + 1 := ⟨n - 1, by omega⟩
    obtain rfl : x = 1136 := by omega
    rw [l_Mo_net_141, if_pos (by decide), cpy_nil (by omega)]
    rfl
  | succ m ih =>
    intro x n P hx hn
    obtain ⟨n, rfl⟩ : ∃ z, n = z + 1 := ⟨n - 1, by omega⟩
    have := ih (x + 1) n (u1 P 110 (0 + x) (P.1 113 (0 + x))) (by omega) (by omega)
    rw [cpy_s (show x < 1136 by omega) (Or.inl (by omega)), Nat.zero_add] at this
    rw [l_Mo_net_141, if_neg (by simp (disch := omega) only [z_add, z_mul, z_sub, z_subm, z_addm, z_lt_t, z_lt_f, z_le_t, z_le_f, z_eq_t, z_eq_f, z_eqm, z_meq, z_mm, z_ltm, z_mlt, z_lem, z_mle, z_cl, z_ck, u1_1, u1_2, u2_1, u2_2, ↓reduceIte, Option.bind_some, Option.bind_none, bd2_some, lb_eq, and_true, and_false, true_and, false_and, not_true_eq_false, not_false_eq_true, eq_self_iff_true, if_true, if_false, Nat.reduceEqDiff, Nat.reduceAdd, Nat.reduceMul, Nat.reduceSub, Bool.false_eq_true, zl0, zl1, zl2, zl3, zl4, zl5, zl6, zl7, zl8, zl9, zl10, zl11, zl12, zl13, zl14, zl15, zl16, zl17, zl18, zl19, zl20, zl22, zl23, zl24, zl25, zl30, zl31, zl32, zl33, zl34, zl35, zl36, zl37, zl38, zl39, zl40, zl41, zl42, zl43, zl45, zl48, zl49, zl57, zl58, zl59, zl60, zl61, zl62, zl63, zl64, zl91, zl93, zl97, zl98, zl99, zl100, zl113, zl114, zl115, zl116, zl117, zl122, zl124, zl125, zl127, zl128, zl136, zl200, zl201, zl202, zl203, zl204, zl205, zl206, zl207, zl208, zl209, zl210, zl211, zl212, zl213, zl214, zl215, zl216, zl217, zl218, zl219, zl220, zl235, zl236, zl255, zl280, zl287, zl900, zl999, zl1000, zl1001, zl1136, zl1960, zl3000, zl3001, zl3002, zl3003, zl3004, zl3005, zl3006, zl3007, zl3008, zl3009, zl268435456, zl1000000000]), z_ck (by omega) (by omega), z_ck (by omega) (by omega), z_cl (by omega), z_one]
    exact this
/-- rows of the class that net() may change, a fault being told -/
def nfr (o : Nat) : Bool := o == 1 || (4 ≤ o && o ≤ 12)
theorem net_ok {P : PM} {a : AS} {x : Int32} (hC : CRep P a) (hM : MRep P a) (hca : CCa P (aV a)) (hok : AOk a) :
    ∃ v P1 P2, f_Yr_net x P = some (v, P1) ∧ f_Mo_net x P1 = some (v, P2) ∧ Inv P2 := by
  have hfed : P.1 1 1 = nI (aF a) := hC.2.2.2.2.2.1
  have hf9 : aF a ≤ 900 := hok.2.2.2.2.2.2.1
  have hb256 : ∀ i, aB a i < 256 := hok.2.2.2.2.2.2.2
  have hFU := FU_big
  have hMth : ∀ P', MRep P' a → MRep (u1 P' 109 0 (0 : Int32)) a := fun P' h => MRep_me h me_th
  rcases i_cases x (aF a + 1) (by omega) with ⟨n, hn, rfl⟩ | hx
  · have hb : Bk (aB a) n := ⟨by omega, hb256⟩
    have hwi : ∀ P', (u1 P' 109 0 (0 : Int32)).1 109 5 = nI (aF a) → f_Mo_within (nI n).toInt64 (0 : Int64) (((u1 P' 109 0 (0 : Int32)).1 109 5).toInt64) (u1 P' 109 0 (0 : Int32)) = nI 1 := fun P' h => by
      rw [h, within_i, tl_ti, tl_ti, nI_ti (by omega), nI_ti (by omega), show (0 : Int64).toInt = 0 from rfl, if_pos (by omega)]
    have hby : ∀ i, i < n → P.1 2 i &&& 255 = nI (aB a i) := fun i hi => hC.2.2.2.2.2.2.1 i (by omega)
    -- the class, whatever the reference's memory is
    have hMb : ∀ P', MRep P' a → ∀ i, i < n → (u1 P' 109 0 (0 : Int32)).1 112 i = nI (aB a i) := fun P' h i hi => (hMth P' h).2.2.2.2.2.2.1 i (by omega)
    have hM5 : ∀ P', MRep P' a → (u1 P' 109 0 (0 : Int32)).1 109 5 = nI (aF a) := fun P' h => (hMth P' h).2.2.2.2.2.1
    have hnetM : ∀ P' M', MRep P' a → (f_Mo_plain 113 1136 (u1 (u1 (u1 (u1 (u1 P' 109 0 (0 : Int32)) 109 8 (nI n)) 109 5 (0 : Int32)) 109 7 (0 : Int32)) 109 11 (0 : Int32))).bind (fun P2 => (f_Mo_next P2).bind (fun P3 => bd2 (f_Mo_eats (0 : Int32) P3) (fun v4 P5 => if v4 = (0 : Int32) then ((f_Mo_fails (2 : Int32) P5).bind (fun P7 => j_Mo_net_66 P7)) else (j_Mo_net_66 P5)))) = j_Mo_net_97 M' → f_Mo_net (nI n) P' = j_Mo_net_97 M' := fun P' M' h1 h2 => by
      unfold f_Mo_net
      rw [hwi P' (hM5 P' h1), if_neg (by decide)]
      exact h2
    have hnetC : f_Yr_net (nI n) P = bd2 (f_Nr_read (nI n) P) (fun v3 P4 => if v3 = (0 : Int32) then some (((-30 : Int32) - ((u1 P4 1 1 (0 : Int32)).1 1 7)), (u1 P4 1 1 (0 : Int32))) else ((f_Yr_takeOver 4 11 (u1 P4 1 1 (0 : Int32))).bind (fun P6 => some ((P6.1 14 1), P6)))) := by
      unfold f_Yr_net
      rw [if_neg (by simp (disch := omega) only [z_add, z_mul, z_sub, z_subm, z_addm, z_lt_t, z_lt_f, z_le_t, z_le_f, z_eq_t, z_eq_f, z_eqm, z_meq, z_mm, z_ltm, z_mlt, z_lem, z_mle, z_cl, z_ck, u1_1, u1_2, u2_1, u2_2, ↓reduceIte, Option.bind_some, Option.bind_none, bd2_some, lb_eq, and_true, and_false, true_and, false_and, not_true_eq_false, not_false_eq_true, eq_self_iff_true, if_true, if_false, Nat.reduceEqDiff, Nat.reduceAdd, Nat.reduceMul, Nat.reduceSub, Bool.false_eq_true, zl0, zl1, zl2, zl3, zl4, zl5, zl6, zl7, zl8, zl9, zl10, zl11, zl12, zl13, zl14, zl15, zl16, zl17, zl18, zl19, zl20, zl22, zl23, zl24, zl25, zl30, zl31, zl32, zl33, zl34, zl35, zl36, zl37, zl38, zl39, zl40, zl41, zl42, zl43, zl45, zl48, zl49, zl57, zl58, zl59, zl60, zl61, zl62, zl63, zl64, zl91, zl93, zl97, zl98, zl99, zl100, zl113, zl114, zl115, zl116, zl117, zl122, zl124, zl125, zl127, zl128, zl136, zl200, zl201, zl202, zl203, zl204, zl205, zl206, zl207, zl208, zl209, zl210, zl211, zl212, zl213, zl214, zl215, zl216, zl217, zl218, zl219, zl220, zl235, zl236, zl255, zl280, zl287, zl900, zl999, zl1000, zl1001, zl1136, zl1960, zl3000, zl3001, zl3002, zl3003, zl3004, zl3005, zl3006, zl3007, zl3008, zl3009, zl268435456, zl1000000000]), hfed, if_pos (by simp (disch := omega) only [z_add, z_mul, z_sub, z_subm, z_addm, z_lt_t, z_lt_f, z_le_t, z_le_f, z_eq_t, z_eq_f, z_eqm, z_meq, z_mm, z_ltm, z_mlt, z_lem, z_mle, z_cl, z_ck, u1_1, u1_2, u2_1, u2_2, ↓reduceIte, Option.bind_some, Option.bind_none, bd2_some, lb_eq, and_true, and_false, true_and, false_and, not_true_eq_false, not_false_eq_true, eq_self_iff_true, if_true, if_false, Nat.reduceEqDiff, Nat.reduceAdd, Nat.reduceMul, Nat.reduceSub, Bool.false_eq_true, zl0, zl1, zl2, zl3, zl4, zl5, zl6, zl7, zl8, zl9, zl10, zl11, zl12, zl13, zl14, zl15, zl16, zl17, zl18, zl19, zl20, zl22, zl23, zl24, zl25, zl30, zl31, zl32, zl33, zl34, zl35, zl36, zl37, zl38, zl39, zl40, zl41, zl42, zl43, zl45, zl48, zl49, zl57, zl58, zl59, zl60, zl61, zl62, zl63, zl64, zl91, zl93, zl97, zl98, zl99, zl100, zl113, zl114, zl115, zl116, zl117, zl122, zl124, zl125, zl127, zl128, zl136, zl200, zl201, zl202, zl203, zl204, zl205, zl206, zl207, zl208, zl209, zl210, zl211, zl212, zl213, zl214, zl215, zl216, zl217, zl218, zl219, zl220, zl235, zl236, zl255, zl280, zl287, zl900, zl999, zl1000, zl1001, zl1136, zl1960, zl3000, zl3001, zl3002, zl3003, zl3004, zl3005, zl3006, zl3007, zl3008, zl3009, zl268435456, zl1000000000])]
    obtain ⟨γ, P', M', r0, r1, r2, r3, r4, r5, r6, r7, r8⟩ := read_ok hb hby (hMb P hM)
    obtain ⟨Q, hQ⟩ : ∃ Q, Q = u1 P' 1 1 (0 : Int32) := ⟨_, rfl⟩
    have hsm : sm nfr P Q := by
      rw [hQ]
      refine sm_u1 ⟨fun o ho => r5 o (fun c => ?_), fun o _ => by rw [r4]⟩ rfl
      simp [nfr] at ho
      omega
    have c3 : CPast Q (aP a) := CPast_sm hC.2.2.1 hsm (fun o ho => by simp [ps] at ho; simp [nfr]; omega) (by rw [hsm.1 31 rfl]) (by rw [hsm.1 31 rfl])
    have c4 : CTr Q (aT a) := CTr_sm hC.2.2.2.1 hsm rfl rfl (fun k hk => by simp [nfr]; omega)
    have c5 : CIm Q (aI a) := CIm_sm hC.2.2.2.2.1 hsm (fun o h1 h2 => by simp [nfr]; omega)
    have hok2 : ∀ v s p k q, NVok v → SVok v s → p.length ≤ 10 → (∀ j, j < p.length → SVok v (p.getD j s0)) → AOk (setN a v s p k q) := fun v s p k q h1 h2 h3 h4 =>
      ⟨h1, h2, h3, h4, hok.2.2.2.2.1, hok.2.2.2.2.2.1, Nat.zero_le _, hb256⟩
    -- the reference behind the class's memory
    have second : ∀ P1, MRep P1 a → ∃ γ2 P2' M2, GOk γ2 ∧ f_Nr_read (nI n) P = j_Nr_read_203 P2' ∧ f_Mo_net (nI n) P1 = j_Mo_net_97 M2 ∧ Fin_ γ2 P2' M2 ∧ M2.2 = P1.2 ∧ (∀ o, o ≠ 109 → o ≠ 113 → M2.1 o = P1.1 o) ∧ M2.1 109 5 = nI 0 := by
      intro P1 h1
      obtain ⟨γ2, P2', M2, t0, t1, t2, t3, t4, t5, t6, t7, t8⟩ := read_ok hb hby (hMb P1 h1)
      exact ⟨γ2, P2', M2, t0, t1, hnetM P1 M2 h1 t2, t3, t6, fun o h1 h2 => by rw [t7 o h1 h2, u1r h1], t8⟩
    have j203 : ∀ P4 : PM, j_Nr_read_203 P4 = some (if P4.1 1 7 = nI 0 then nI 1 else nI 0, P4) := fun P4 => by
      unfold j_Nr_read_203
      by_cases c : P4.1 1 7 = nI 0
      · rw [if_pos (show P4.1 1 7 = (0 : Int32) from c), if_pos c]; rfl
      · rw [if_neg (show ¬ P4.1 1 7 = (0 : Int32) from c), if_neg c]; rfl
    have same : ∀ P4 : PM, f_Nr_read (nI n) P = j_Nr_read_203 P4 → P4 = P' := fun P4 h => by
      rw [r1, j203, j203] at h
      exact (congrArg Prod.snd (Option.some.inj h)).symm
    have m6c : ∀ (Z : PM) (v : NV) (s : SV) (p : List SV) (k q : Int32), Z.1 109 5 = nI 0 → Z.1 109 13 = k → Z.1 109 14 = q → MTp Z (aF (setN a v s p k q)) (aB (setN a v s p k q)) (aK (setN a v s p k q)) (aQ (setN a v s p k q)) := fun Z v s p k q h1 h2 h3 => ⟨h1, (fun i hi => by cases hi), h2, h3⟩
    have cls : ∀ (γ : GT) (v : NV) (s : SV) (c k p q d : Nat) (M : PM), GOk γ → NX γ (vN v) (vN v) s s v c k p q d P' M →
        ∃ P1, f_Yr_takeOver 4 11 Q = some P1 ∧ CNet P1 14 v ∧ CSt P1 21 s ∧ CPast P1 [] ∧ CTr P1 (aT a) ∧ CIm P1 (aI a) ∧ CTp P1 0 (aB a) (nI 0) (-nI 1) ∧ CCa P1 v ∧ sm tor Q P1 := by
      intro γ v s c k p q d M h0 hX
      obtain ⟨x1, x2, x3, x4, x5, x6, x7⟩ := hX
      have p7 : P'.1 1 7 = nI 0 := x3.1.1
      have p8 : P'.1 1 8 = -nI 1 := x3.1.2.1
      have hq := x3.2.2.2
      have h9 := h0.1.1
      have nC : CNet P' 4 v := by
        obtain ⟨y0, y1, y2, y3, y4, ⟨f0, a1, a2, a3, a4⟩, ⟨f1, b1, b2, b3, b4⟩, y7, z⟩ := x4
        exact ⟨y0, y1, y2, y3, y4, ⟨f0, a1, a2, by omega, a4⟩, ⟨f1, b1, b2, by omega, b4⟩⟩
      have hs1 : sm (fun o => o == 1) P' Q := by rw [hQ]; exact sm_u1 sm_refl rfl
      have tp : CTp Q 0 (aB a) (nI 0) (-nI 1) := ⟨by rw [hQ, u1e]; rfl, (fun i hi => by cases hi), by rw [hQ, u1c (by omega)]; exact p7, by rw [hQ, u1c (by omega)]; exact p8⟩
      exact takeOver_C2 (a := a) (CNet_sm nC hs1 rfl rfl rfl rfl rfl) (CSt_sm x4.2.2.2.2.2.2.2.2 hs1 rfl rfl) c3 c4 c5 tp (fun t ht => by
        obtain ⟨d, h1, h2⟩ := CCa_60 hca t ht
        exact ⟨d, h1, by rw [hsm.1 60 rfl]; exact h2⟩)
    rcases r3 with ⟨v, s, c, k, p, q, d, hX, hv, hs⟩ | ⟨f, p, hB1, hB2, hB3⟩
    · -- a good net
      have p7 : P'.1 1 7 = nI 0 := hX.2.2.1.1.1
      obtain ⟨P1, g1, _, _, _, _, _, _, _, g9⟩ := cls γ v s c k p q d M' r0 hX
      have hcls : f_Yr_net (nI n) P = some (P1.1 14 1, P1) := by
        rw [hnetC, r1, j203, if_pos p7, bd2_some, if_neg (by decide), ← hQ, g1, Option.bind_some]
      have hcl : sm cl P P1 := sm_trans (sm_mono hsm (fun o ho => by simp [cl] at ho; simp [nfr]; omega)) (sm_mono g9 (fun o ho => by simp [cl] at ho; simp [tor]; omega))
      have hM1 : MRep P1 a := MRep_lo hM hcl
      obtain ⟨γ2, P2', M2, t0, t1, t2, t3, t4, t5, t6⟩ := second P1 hM1
      have e2 := same P2' t1
      subst e2
      rcases t3 with ⟨v2, s2, c2, k2, p2, q2, d2, hX2, hv2, hs2⟩ | ⟨f, p, hB1, _⟩
      · obtain ⟨P1', g1', g2, g3, g4, g5, g6, g7, g8, g9'⟩ := cls γ2 v2 s2 c2 k2 p2 q2 d2 M2 t0 hX2
        have e3 : P1' = P1 := Option.some.inj (g1'.symm.trans g1)
        subst e3
        obtain ⟨w1, w2, w3, w4, w5, w6, w7⟩ := hX2
        have hq := w3.2.2.2
        have h9 := t0.1.1
        have w0 : M2.1 109 11 = nI 0 := w3.2.1.1
        obtain ⟨Z, hZ⟩ : ∃ Z, Z = u1 (u1 M2 109 13 (nI 0)) 109 14 (-nI 1) := ⟨_, rfl⟩
        obtain ⟨W, hW⟩ : ∃ W, W = cpy Z 113 0 110 0 0 1136 := ⟨_, rfl⟩
        have hzr : ∀ o, o ≠ 109 → Z.1 o = M2.1 o := fun o h => by rw [hZ, u1r h, u1r h]
        have hwj : ∀ j, j < 1136 → W.1 110 j = M2.1 113 j := fun j hj => by
          rw [hW, cpy_1, if_pos (by omega), hzr 113 (by omega)]
          exact congrArg (M2.1 113) (by omega)
        have hwr : ∀ o, o ≠ 110 → W.1 o = Z.1 o := fun o h => by
          rw [hW]
          funext w
          rw [cpy_1, if_neg (by omega)]
        have hwk : ∀ j, 1136 ≤ j → W.1 110 j = P1'.1 110 j := fun j hj => by
          rw [hW, cpy_1, if_neg (by omega), hzr 110 (by omega), t5 110 (by omega) (by omega)]
        have hws : sm (fun o => o == 109 || o == 110 || o == 113) P1' W := by
          refine ⟨fun o ho => ?_, fun o _ => ?_⟩
          · simp at ho
            rw [hwr o (by omega), hzr o (by omega), t5 o (by omega) (by omega)]
          · rw [hW, hZ, ← t4]
            rfl
        have hrun : j_Mo_net_97 M2 = some (W.1 110 0, W) := by
          unfold j_Mo_net_97 j_Mo_net_121
          rw [w0, u1c (by omega), w0, if_pos (by rfl), show (-1 : Int32) = -nI 1 from rfl, u1c (by omega), u1c (by omega), w0, if_pos (by rfl), ← hZ, show (0 : Int32) = nI 0 from rfl, net_l 1136 0 FU Z rfl (by omega), ← hW]
        have hl : W.1 110 0 = vL v2 := (hwj 0 (by omega)).trans w5.2.1
        refine ⟨P1'.1 14 1, P1', W, hcls, by rw [t2, hrun, hl, g2.2.1], setN a v2 s2 [] (nI 0) (-nI 1), hok2 v2 s2 [] _ _ hv2 hs2 (Nat.zero_le _) (fun j hj => by cases hj), CRep_hi ⟨g2, g3, g4, g5, g6, g7⟩ (sm_mono hws (fun o ho => by simp at ho; simp; omega)), ?_, CCa_hi g8 (sm_mono hws (fun o ho => by simp at ho; simp; omega))⟩
        obtain ⟨⟨z0, z124⟩, z1, z2, z3, z4, z5, z6, z7, z8, z9, z10, z11, z12⟩ := w5
        have hl2 : ∀ r es, r < 2 → ML2 M2 r es c2 → MLw W 110 0 r es := by
          intro r es hr h
          refine ⟨(hwj (0 + 2 + r) (by omega)).trans ((congrArg (M2.1 113) (by omega)).trans h.1), fun he => ?_⟩
          obtain ⟨fr, h1, h2, h3, h4⟩ := h.2 he
          exact ⟨fr, (hwj (0 + 4 + r) (by omega)).trans ((congrArg (M2.1 113) (by omega)).trans h1), (hwj (0 + 6 + r) (by omega)).trans ((congrArg (M2.1 113) (by omega)).trans h2), by omega, fun j hj => (hwj (0 + 236 + fr + j) (by omega)).trans ((congrArg (M2.1 113) (by omega)).trans (h4 j hj))⟩
        refine ⟨⟨(hwj 1 (by omega)).trans z0, hl, fun i hi => (hwj (0 + 8 + i) (by omega)).trans ((congrArg (M2.1 113) (by omega)).trans (z2 i hi)), fun x y hx hy => (hwj (0 + 15 + (7 * x + y)) (by omega)).trans ((congrArg (M2.1 113) (by omega)).trans (z3 x y hx hy)), fun x y hx hy => (hwj (0 + 64 + (7 * x + y)) (by omega)).trans ((congrArg (M2.1 113) (by omega)).trans (z4 x y hx hy)), hl2 0 _ (by omega) z5, hl2 1 _ (by omega) z6⟩,
          ⟨(hwj 113 (by omega)).trans z8, (hwj (113 + 1) (by omega)).trans z9, (hwj (113 + 2) (by omega)).trans z10, (hwj (113 + 3) (by omega)).trans z11, fun i hi => (hwj (113 + 4 + i) (by omega)).trans (z12 i hi)⟩,
          ⟨(hwj 124 (by omega)).trans z124, fun j hj => by cases hj⟩, MTr_sm hM1.2.2.2.1 hws rfl rfl rfl, MIm_ix hM1.2.2.2.2.1 (hws.1 111 rfl) hwk, m6c W v2 s2 [] _ _ ?_ ?_ ?_⟩
        · rw [hwr 109 (by omega), hZ, u1c (by omega), u1c (by omega)]; exact t6
        · rw [hwr 109 (by omega), hZ, u1c (by omega), u1e]
        · rw [hwr 109 (by omega), hZ, u1e]
      · exfalso
        have h1 := hB1.2.1.1
        have h2 := hB1.2.1.2.2.2.1
        have h3 := hB1.2.1.2.2.2.2.1
        rw [p7] at h1
        have := (nI_eq (by omega) (by omega)).mp h1
        omega
    · -- a fault
      have hf1 := hB1.2.1.2.2.2.1
      have hf2 := hB1.2.1.2.2.2.2.1
      have p7 : P'.1 1 7 = nI f := hB1.2.1.1
      have p7n : ¬ P'.1 1 7 = nI 0 := fun e => by
        rw [p7] at e
        have := (nI_eq (by omega) (by omega)).mp e
        omega
      have hcls : f_Yr_net (nI n) P = some ((-30 : Int32) - P'.1 1 7, Q) := by
        rw [hnetC, r1, j203, if_neg p7n, bd2_some, if_pos (by rfl), ← hQ, show Q.1 1 7 = P'.1 1 7 from by rw [hQ, u1c (by omega)]]
      have hcl : sm cl P Q := sm_mono hsm (fun o ho => by simp [cl] at ho; simp [nfr]; omega)
      have hM1 : MRep Q a := MRep_lo hM hcl
      obtain ⟨γ2, P2', M2, t0, t1, t2, t3, t4, t5, t6⟩ := second Q hM1
      have e2 := same P2' t1
      subst e2
      rcases t3 with ⟨v2, s2, c2, k2, p2, q2, d2, hX2, hv2, hs2⟩ | ⟨f2, p2, hD1, hD2, hD3⟩
      · exact absurd hX2.2.2.1.1.1 p7n
      · have e7 : P2'.1 1 7 = nI f2 := hD1.2.1.1
        have e8 : P2'.1 1 8 = nI p2 := hD1.2.1.2.1
        have hm : M2.1 109 11 = nI f2 ∧ M2.1 109 12 = nI p2 := by
          rcases hD2.2.1 with h | ⟨_, h, _⟩
          · exact h
          · exact absurd h hD3
        obtain ⟨Z, hZ⟩ : ∃ Z, Z = u1 (u1 M2 109 13 (nI f2)) 109 14 (nI p2) := ⟨_, rfl⟩
        have hzr : ∀ o, o ≠ 109 → Z.1 o = M2.1 o := fun o h => by rw [hZ, u1r h, u1r h]
        have hzs : sm (fun o => o == 109 || o == 113) Q Z := by
          refine ⟨fun o ho => ?_, fun o _ => ?_⟩
          · simp at ho
            rw [hzr o (by omega), t5 o (by omega) (by omega)]
          · rw [hZ, ← t4]
            rfl
        have hrun : j_Mo_net_97 M2 = some ((-30 : Int32) - nI f2, Z) := by
          have hne : ¬ nI f2 = (0 : Int32) := fun e => hD3 (hm.1.trans e)
          unfold j_Mo_net_97 j_Mo_net_121
          rw [hm.1, u1c (by omega), hm.1, if_neg hne, show (u1 M2 109 13 (nI f2)).1 109 12 = nI p2 from by rw [u1c (by omega)]; exact hm.2, ← hZ, show Z.1 109 11 = nI f2 from by rw [hZ, u1c (by omega), u1c (by omega)]; exact hm.1, if_neg hne]
        have q7 : Q.1 1 7 = nI f2 := by rw [hQ, u1c (by omega)]; exact e7
        have q8 : Q.1 1 8 = nI p2 := by rw [hQ, u1c (by omega)]; exact e8
        refine ⟨_, Q, Z, hcls, by rw [t2, hrun, e7], setN a (aV a) (aS a) (aP a) (nI f2) (nI p2), hok2 (aV a) (aS a) (aP a) _ _ hok.1 hok.2.1 hok.2.2.1 hok.2.2.2.1, CRep_hi ⟨CNet_sm hC.1 hsm rfl rfl rfl rfl rfl, CSt_sm hC.2.1 hsm rfl rfl, c3, c4, c5, by rw [hQ, u1e]; rfl, (fun i hi => by cases hi), q7, q8⟩ (sm_mono hzs (fun o ho => by simp at ho; simp; omega)), ?_, CCa_hi (CCa_ro hca (hsm.1 59 rfl) (hsm.1 60 rfl)) (sm_mono hzs (fun o ho => by simp at ho; simp; omega))⟩
        exact ⟨MNet_sm hM1.1 hzs rfl, MSt_sm hM1.2.1 hzs rfl, MPast_ix hM1.2.2.1 hok.2.2.1 (fun j _ _ => by rw [hzs.1 110 rfl]), MTr_sm hM1.2.2.2.1 hzs rfl rfl rfl, MIm_ix hM1.2.2.2.2.1 (hzs.1 111 rfl) (fun j _ => by rw [hzs.1 110 rfl]), m6c Z _ _ _ _ _ (by rw [hZ, u1c (by omega), u1c (by omega)]; exact t6) (by rw [hZ, u1c (by omega), u1e]) (by rw [hZ, u1e])⟩
  · refine join (r := -nI 3) (a' := a) hM ⟨P, ?_, hC, hca, sm_refl⟩ (fun P hM => ⟨u1 P 109 0 (0 : Int32), ?_, MRep_me hM me_th, sm_th⟩) hok
    · unfold f_Yr_net
      rw [hfed]
      by_cases c : x < (0 : Int32)
      · rw [if_pos c]; rfl
      · rw [if_neg c, if_neg]
        · rfl
        · intro c2
          have h1 := Int32.le_iff_toInt_le.mp c2
          rw [nI_ti (by omega)] at h1
          have h2 : ¬ x.toInt < 0 := fun h => c (Int32.lt_iff_toInt_lt.mpr h)
          exact hx ⟨by omega, by omega⟩
    · have h5 : (u1 P 109 0 (0 : Int32)).1 109 5 = nI (aF a) := (MRep_me hM (me_th (x := 0))).2.2.2.2.2.1
      unfold f_Mo_net
      rw [h5, within_i, tl_ti, tl_ti, nI_ti (by omega), show (0 : Int64).toInt = 0 from rfl, if_pos (by rw [if_neg (by omega)]; rfl)]
      rfl
