/-! calls: how both sides are joined; deeds as calls -/
def mo : Nat → Bool := fun o => 109 ≤ o
def cl : Nat → Bool := fun o => o < 109
theorem join {P : PM} {a a' : AS} {r : Int32} {fc fm : PM → Option (Int32 × PM)} (hM : MRep P a)
    (hc : ∃ P1, fc P = some (r, P1) ∧ CRep P1 a' ∧ CCa P1 (aV a') ∧ sm cl P P1) (hm : ∀ P, MRep P a → ∃ P2, fm P = some (r, P2) ∧ MRep P2 a' ∧ sm mo P P2) (hok : AOk a') :
    ∃ v P1 P2, fc P = some (v, P1) ∧ fm P1 = some (v, P2) ∧ Inv P2 := by
  obtain ⟨P1, h1, h2, h3, h4⟩ := hc
  obtain ⟨P2, g1, g2, g3⟩ := hm P1 (MRep_lo hM h4)
  exact ⟨r, P1, P2, h1, g1, a', hok, CRep_hi h2 g3, g2, CCa_hi h3 g3⟩
theorem join0 {P : PM} {a a' : AS} {r : Int32} {fc : Option Int32} {fm : PM → Option (Int32 × PM)} (hM : MRep P a)
    (hc : fc = some r ∧ CRep P a' ∧ CCa P (aV a')) (hm : ∀ P, MRep P a → ∃ P2, fm P = some (r, P2) ∧ MRep P2 a' ∧ sm mo P P2) (hok : AOk a') :
    ∃ v P2, fc = some v ∧ fm P = some (v, P2) ∧ Inv P2 := by
  obtain ⟨P2, g1, g2, g3⟩ := hm P hM
  exact ⟨r, P2, hc.1, g1, a', hok, CRep_hi hc.2.1 g3, g2, CCa_hi hc.2.2 g3⟩
theorem z_msub (a b : Nat) : -nI a - nI b = -nI (a + b) := by
  rw [← nI_add, Int32.neg_add, Int32.sub_eq_add_neg]
theorem CTr_sm {S : Nat → Bool} {P P' : PM} {t : TV} (h : CTr P t) (q : sm S P P') (h1 : S 29 = false) (h2 : S 30 = false) (h3 : ∀ k, k < 4 → S (25 + k) = false) : CTr P' t := by
  intro k hk
  obtain ⟨k1, k2, k3⟩ := h k hk
  rw [q.1 29 h1, q.1 30 h2, q.2 _ (h3 k hk)]
  exact ⟨k1, k2, k3⟩
theorem CIm_sm {S : Nat → Bool} {P P' : PM} {m : Nat → Option (NV × SV)} (h : CIm P m) (q : sm S P P') (h1 : ∀ o, 89 ≤ o → o < 109 → S o = false) : CIm P' m := by
  intro i hi
  obtain ⟨k1, k2⟩ := h i hi
  rw [q.1 108 (h1 108 (by omega) (by omega))]
  refine ⟨k1, fun n s e => ?_⟩
  obtain ⟨g1, g2⟩ := k2 n s e
  exact ⟨CNet_sm g1 q (h1 _ (by omega) (by omega)) (h1 _ (by omega) (by omega)) (h1 _ (by omega) (by omega)) (h1 _ (by omega) (by omega)) (h1 _ (by omega) (by omega)), CSt_sm g2 q (h1 _ (by omega) (by omega)) (h1 _ (by omega) (by omega))⟩
theorem CTp_sm {S : Nat → Bool} {P P' : PM} {f : Nat} {b : Nat → Nat} {k x : Int32} (h : CTp P f b k x) (q : sm S P P') (h1 : S 1 = false) (h2 : S 2 = false) : CTp P' f b k x := by
  unfold CTp at *
  rw [q.1 1 h1, q.1 2 h2]
  exact h
/-- rows that a deed as a call may change -/
def dr (o : Nat) : Bool := o == 19 || o == 20 || o == 21 || o == 22 || o == 31 || ps o
theorem deed_C {P : PM} {a : AS} {w : Nat} {s' : SV} {f : PM → Option (Int32 × PM)} (hC : CRep P a) (hok : AOk a) (hca : CCa P (aV a))
    (hf : ∀ P1, CNet P1 14 (aV a) → CSt P1 21 (aS a) → ∃ P2, f P1 = some (nI w, P2) ∧ CSt P2 21 s' ∧ sm (on4 21) P1 P2) (hw : w ≠ 0 → s' = aS a) (hw2 : w < 100) :
    ∃ P1 P2, f_De_note P = some P1 ∧ CSt P1 21 (aS a) ∧ f P1 = some (nI w, P2) ∧ CSt P2 21 s' ∧
      ∀ ans, ∃ P3, f_Yr_answered (nI w) ans P2 = some (if w = 0 then ans else -nI (10 + w), P3) ∧ CRep P3 (if w = 0 then setSP a s' ((aS a :: aP a).take 10) else a) ∧ CCa P3 (aV a) ∧ sm cl P P3 := by
  obtain ⟨c1, c2, c3, c4, c5, c6⟩ := hC
  obtain ⟨P1, g1, g2, g3⟩ := note_C c3 hok.2.2.1 c2
  have n1 : CNet P1 14 (aV a) := CNet_sm c1 g3 rfl rfl rfl rfl rfl
  have t1 : CSt P1 21 (aS a) := CSt_sm c2 g3 rfl rfl
  obtain ⟨P2, k1, k2, k3⟩ := hf P1 n1 t1
  have q2 : CNoted P2 (aP a) (aS a) := CNoted_sm g2 k3 (fun o ho => by simp [ps] at ho; simp [on4]; omega) (by rw [k3.1 31 rfl]) (by rw [k3.1 31 rfl])
  have s2 : sm dr P P2 := sm_trans (sm_mono g3 (fun o ho => by simp [dr] at ho; exact ho.2)) (sm_mono k3 (fun o ho => by simp [dr] at ho; simp [on4]; omega))
  refine ⟨P1, P2, g1, t1, k1, k2, fun ans => ?_⟩
  have hcl : ∀ P3, sm dr P P3 → sm cl P P3 := fun P3 h => sm_mono h (fun o ho => by simp [cl] at ho; simp [dr, ps]; omega)
  have hrest : ∀ P3, sm dr P P3 → CNet P3 14 (aV a) ∧ CTr P3 (aT a) ∧ CIm P3 (aI a) ∧ CTp P3 (aF a) (aB a) (aK a) (aQ a) ∧ CCa P3 (aV a) := fun P3 h =>
    ⟨CNet_sm c1 h rfl rfl rfl rfl rfl, CTr_sm c4 h rfl rfl (fun k hk => by simp [dr, ps]; omega), CIm_sm c5 h (fun o h1 h2 => by simp [dr, ps]; omega), CTp_sm c6 h rfl rfl, CCa_ro hca (h.1 59 rfl) (h.1 60 rfl)⟩
  unfold f_Yr_answered
  by_cases h0 : w = 0
  · rw [if_pos (by rw [h0]; rfl), if_pos h0, if_pos h0]
    obtain ⟨P3, l1, l2, l3⟩ := keep_C q2 hok.2.2.1
    have s3 : sm dr P P3 := sm_trans s2 (sm_mono l3 (fun o ho => by simp [dr] at ho; simp; omega))
    obtain ⟨r1, r2, r3, r4, r5⟩ := hrest P3 s3
    exact ⟨P3, by rw [l1]; rfl, ⟨r1, CSt_sm k2 l3 rfl rfl, l2, r2, r3, r4⟩, r5, hcl P3 s3⟩
  · rw [if_neg (by simp (disch := omega) only [z_add, z_mul, z_sub, z_subm, z_addm, z_lt_t, z_lt_f, z_le_t, z_le_f, z_eq_t, z_eq_f, z_eqm, z_meq, z_mm, z_ltm, z_mlt, z_lem, z_mle, z_cl, z_ck, u1_1, u1_2, u2_1, u2_2, ↓reduceIte, Option.bind_some, Option.bind_none, bd2_some, lb_eq, and_true, and_false, true_and, false_and, not_true_eq_false, not_false_eq_true, eq_self_iff_true, if_true, if_false, Nat.reduceEqDiff, Nat.reduceAdd, Nat.reduceMul, Nat.reduceSub, Bool.false_eq_true, zl0, zl1, zl2, zl3, zl4, zl5, zl6, zl7, zl8, zl9, zl10, zl11, zl12, zl13, zl14, zl15, zl16, zl17, zl18, zl19, zl20, zl22, zl23, zl24, zl25, zl30, zl31, zl32, zl33, zl34, zl35, zl36, zl37, zl38, zl39, zl40, zl41, zl42, zl43, zl45, zl48, zl49, zl57, zl58, zl59, zl60, zl61, zl62, zl63, zl64, zl91, zl93, zl97, zl98, zl99, zl100, zl113, zl114, zl115, zl116, zl117, zl122, zl124, zl125, zl127, zl128, zl136, zl200, zl201, zl202, zl203, zl204, zl205, zl206, zl207, zl208, zl209, zl210, zl211, zl212, zl213, zl214, zl215, zl216, zl217, zl218, zl219, zl220, zl235, zl236, zl255, zl280, zl287, zl900, zl999, zl1000, zl1001, zl1136, zl1960, zl3000, zl3001, zl3002, zl3003, zl3004, zl3005, zl3006, zl3007, zl3008, zl3009, zl268435456, zl1000000000]), if_neg h0, if_neg h0]
    obtain ⟨r1, r2, r3, r4, r5⟩ := hrest P2 s2
    refine ⟨P2, ?_, ⟨r1, ?_, CNoted_P q2, r2, r3, r4⟩, r5, hcl P2 s2⟩
    · rw [show (-10 : Int32) = -nI 10 from rfl, z_msub]
    · rw [← hw h0]; exact k2
theorem MIm_ix {P P' : PM} {m : Nat → Option (NV × SV)} (h : MIm P m) (h1 : P'.1 111 = P.1 111) (h2 : ∀ j, 1136 ≤ j → P'.1 110 j = P.1 110 j) : MIm P' m := by
  intro i hi
  obtain ⟨k1, k2⟩ := h i hi
  rw [h1]
  refine ⟨k1, fun n s e => ?_⟩
  obtain ⟨g1, g2⟩ := k2 n s e
  exact ⟨MNet_ix g1 (fun j _ => h2 _ (by omega)), MSt_cp g2 (fun j _ => h2 _ (by omega))⟩
theorem MPast_ix {P P' : PM} {p : List SV} (h : MPast P p) (hl : p.length ≤ 10) (h2 : ∀ j, 124 ≤ j → j < 235 → P'.1 110 j = P.1 110 j) : MPast P' p :=
  ⟨(h2 124 (by omega) (by omega)).trans h.1, fun j hj => MSt_cp (h.2 j hj) (fun i _ => h2 _ (by omega) (by omega))⟩
theorem MTr_sm {S : Nat → Bool} {P P' : PM} {t : TV} (h : MTr P t) (q : sm S P P') (h1 : S 127 = false) (h2 : S 128 = false) (h3 : S 129 = false) : MTr P' t := by
  unfold MTr at *
  rw [q.1 127 h1, q.1 128 h2, q.2 129 h3]
  exact h
theorem MTp_sm {S : Nat → Bool} {P P' : PM} {f : Nat} {b : Nat → Nat} {k x : Int32} (h : MTp P f b k x) (q : sm S P P') (h1 : S 112 = false) (h2 : P'.1 109 5 = P.1 109 5) (h3 : P'.1 109 13 = P.1 109 13) (h4 : P'.1 109 14 = P.1 109 14) : MTp P' f b k x := by
  unfold MTp at *
  rw [q.1 112 h1, h2, h3, h4]
  exact h
/-- the reference's rows of a deed as a call -/
def er (o : Nat) : Bool := o == 110 || o == 114 || o == 115 || o == 116
theorem deed_M {P P2 : PM} {a : AS} {s' : SV} (hM : MRep P a) (hok : AOk a) (hs : MSt P2 110 113 s') (hmj : mj (cpy P 110 113 116 0 0 11) P2) :
    ∃ P3, f_Mo_notes P2 = some P3 ∧ MRep P3 (setSP a s' ((aS a :: aP a).take 10)) ∧ sm er P P3 ∧ MSt P3 110 113 s' ∧ MSt P3 116 0 (aS a) := by
  obtain ⟨m1, m2, m3, m4, m5, m6⟩ := hM
  have w1 : MSt (cpy P 110 113 116 0 0 11) 116 0 (aS a) := MSt_cp m2 (fun i hi => by rw [cpy_1, if_pos (by omega)]; exact congrArg (P.1 110) (by omega))
  have w2 : MSt P2 116 0 (aS a) := MSt_sm w1 hmj.1 rfl
  have hJ : ∀ j, j < 113 ∨ 124 ≤ j → P2.1 110 j = P.1 110 j := fun j hj => by rw [hmj.2 j hj, cpy_1, if_neg (by omega)]
  have p2 : MPast P2 (aP a) := MPast_ix m3 hok.2.2.1 (fun j h1 h2 => hJ j (Or.inr h1))
  obtain ⟨P3, g1, g2, g3, g4⟩ := notes_M p2 hok.2.2.1 w2
  have s3 : sm er P P3 := sm_trans (sm_trans (sm_mono cpy_sm (fun o ho => by simp [er] at ho; simp; omega)) (sm_mono hmj.1 (fun o ho => by simp [er] at ho; simp; omega))) (sm_mono g3 (fun o ho => by simp [er] at ho; simp; omega))
  have hJ3 : ∀ j, j < 113 ∨ 235 ≤ j → P3.1 110 j = P.1 110 j := fun j hj => (g4 j (by omega)).trans (hJ j (by omega))
  have t3 : MSt P3 110 113 s' := MSt_cp hs (fun i hi => g4 _ (by omega))
  exact ⟨P3, g1, ⟨MNet_ix m1 (fun j hj => hJ3 _ (by omega)), t3, g2, MTr_sm m4 s3 rfl rfl rfl, MIm_ix m5 (s3.1 111 rfl) (fun j hj => hJ3 j (by omega)), MTp_sm m6 s3 rfl (by rw [s3.1 109 rfl]) (by rw [s3.1 109 rfl]) (by rw [s3.1 109 rfl])⟩, s3, t3, MSt_sm w2 g3 rfl⟩
theorem take_ok {v : NV} {s : SV} {p : List SV} (h : ∀ j, j < p.length → SVok v (p.getD j s0)) (hs : SVok v s) : ∀ j, j < ((s :: p).take 10).length → SVok v (((s :: p).take 10).getD j s0) := by
  intro j hj
  rw [List.length_take, List.length_cons] at hj
  have e2 : ((s :: p).take 10).getD j s0 = (s :: p).getD j s0 := by
    simp only [List.getD_eq_getElem?_getD]
    rw [List.getElem?_take_of_lt (by omega)]
  rw [e2]
  cases j with
  | zero => exact hs
  | succ j => exact h j (by omega)
theorem AOk_SP {a : AS} {s' : SV} (h : AOk a) (hs : SVok (aV a) s') : AOk (setSP a s' ((aS a :: aP a).take 10)) :=
  ⟨h.1, hs, by show ((aS a :: aP a).take 10).length ≤ 10; rw [List.length_take]; omega, take_ok h.2.2.2.1 h.2.1, h.2.2.2.2.1, h.2.2.2.2.2.1, h.2.2.2.2.2.2⟩
