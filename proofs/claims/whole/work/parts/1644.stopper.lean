/-! stopper -/
def stq (f : Nat → Option Nat) : Nat → Option (Nat × Nat)
  | 0 => none
  | t + 1 => match f t with
    | none => stq f t
    | some c => match stq f t with
      | none => some (t, c)
      | some (b, d) => if c < d then some (t, c) else some (b, d)
theorem stq_p {f : Nat → Option Nat} (hf : ∀ t c, f t = some c → c ≤ 7) : ∀ {n b d : Nat}, stq f n = some (b, d) → b < n ∧ d ≤ 7
  | 0, _, _, h => by cases h
  | n + 1, b, d, h => by
    unfold stq at h
    cases e : f n with
    | none => rw [e] at h; have := stq_p hf h; omega
    | some c =>
      have hc := hf n c e
      rw [e] at h
      cases e2 : stq f n with
      | none => simp only [e2] at h; cases h; omega
      | some x =>
        obtain ⟨b', d'⟩ := x
        have := stq_p hf e2
        simp only [e2] at h
        split at h <;> cases h <;> omega
noncomputable def stf (v : NV) (s : SV) (w t : Nat) : Option Nat := if t = w ∨ (sA s).testBit t = true then none else some (pc 7 (bo (fun j => decide (0 < itr v s (sA s ||| 2 ^ t) (A0 w (sZ s)) 999 j)) 7))
theorem stf_7 {v : NV} {s : SV} {w t c : Nat} (h : stf v s w t = some c) : c ≤ 7 := by
  unfold stf at h
  split at h
  · cases h
  · cases h; exact pc_le _ (bo_lt _ 7)
def sti (x : Option (Nat × Nat)) : Int32 := match x with | none => -nI 1 | some (b, _) => nI b
def std (F : Nat) (x : Option (Nat × Nat)) : Nat := match x with | none => F | some (_, d) => d
theorem stopper_C {a : AS} {w : Nat} {L : List Nat} (hok : AOk a) (hw : sW (aS a) = some w) : ∀ (m n t : Nat) (P : PM), t + m = vN (aV a) → m < n → CRep P a → CCa P (aV a) → Exp P (aV a) (aS a) (sA (aS a)) (pl (aS a) w) L →
    ∃ P', l_Sp_bestStopper_28 n (sti (stq (stf (aV a) (aS a) w) t)) (nI (std 8 (stq (stf (aV a) (aS a) w) t))) (nI t) P = some (sti (stq (stf (aV a) (aS a) w) (vN (aV a))), P') ∧ CRep P' a ∧ CCa P' (aV a) ∧ sm og P P' := by
  have hv := hok.1
  have hs := hok.2.1
  have hN := hv.1
  have hA := hs.2.2.2.1
  have h128 := pw_le hN
  have hwN := (hs.1 w hw).1
  have hZ := hs.2.2.1
  intro m
  induction m with
  | zero =>
    intro n t P ht hn hC hca hE
    obtain ⟨n, rfl⟩ : ∃ r, n = r + 1 := ⟨n - 1, by omega⟩
    obtain rfl : t = vN (aV a) := by omega
    rw [l_Sp_bestStopper_28, hC.1.1, if_pos (nI_le (by omega) (by omega))]
    exact ⟨P, rfl, hC, hca, sm_refl⟩
  | succ m ih =>
    intro n t P ht hn hC hca hE
    obtain ⟨n, rfl⟩ : ∃ r, n = r + 1 := ⟨n - 1, by omega⟩
    have skip : stf (aV a) (aS a) w t = none → ∃ P', j_Sp_bestStopper_108 (fun z0 z1 z2 Pz => l_Sp_bestStopper_28 n z0 z1 z2 Pz) (sti (stq (stf (aV a) (aS a) w) t)) (nI (std 8 (stq (stf (aV a) (aS a) w) t))) (nI t) P = some (sti (stq (stf (aV a) (aS a) w) (vN (aV a))), P') ∧ CRep P' a ∧ CCa P' (aV a) ∧ sm og P P' := by
      intro e
      have r := ih n (t + 1) P (by omega) (by omega) hC hca hE
      have e2 : stq (stf (aV a) (aS a) w) (t + 1) = stq (stf (aV a) (aS a) w) t := by
        show (match stf (aV a) (aS a) w t with | none => _ | some c => _) = _
        rw [e]
      rw [e2] at r
      unfold j_Sp_bestStopper_108
      rw [show (1 : Int32) = nI 1 from rfl, nI_add]
      exact r
    rw [l_Sp_bestStopper_28, hC.1.1, if_neg (nI_ge (by omega) (by omega)), hC.2.1.1, hw, oI_s]
    by_cases c1 : t = w
    · rw [if_pos (congrArg nI c1)]
      exact skip (by unfold stf; rw [if_pos (Or.inl c1)])
    · rw [if_neg (by simp (disch := omega) only [z_add, z_mul, z_sub, z_subm, z_addm, z_lt_t, z_lt_f, z_le_t, z_le_f, z_eq_t, z_eq_f, z_eqm, z_meq, z_mm, z_ltm, z_mlt, z_lem, z_mle, z_cl, z_ck, u1_1, u1_2, u2_1, u2_2, ↓reduceIte, Option.bind_some, Option.bind_none, bd2_some, lb_eq, and_true, and_false, true_and, false_and, not_true_eq_false, not_false_eq_true, eq_self_iff_true, if_true, if_false, Nat.reduceEqDiff, Nat.reduceAdd, Nat.reduceMul, Nat.reduceSub, Bool.false_eq_true, zl0, zl1, zl2, zl3, zl4, zl5, zl6, zl7, zl8, zl9, zl10, zl11, zl12, zl13, zl14, zl15, zl16, zl17, zl18, zl19, zl20, zl22, zl23, zl24, zl25, zl30, zl31, zl32, zl33, zl34, zl35, zl36, zl37, zl38, zl39, zl40, zl41, zl42, zl43, zl45, zl48, zl49, zl57, zl58, zl59, zl60, zl61, zl62, zl63, zl64, zl91, zl93, zl97, zl98, zl99, zl100, zl113, zl114, zl115, zl116, zl117, zl122, zl124, zl125, zl127, zl128, zl136, zl200, zl201, zl202, zl203, zl204, zl205, zl206, zl207, zl208, zl209, zl210, zl211, zl212, zl213, zl214, zl215, zl216, zl217, zl218, zl219, zl220, zl235, zl236, zl255, zl280, zl287, zl900, zl999, zl1000, zl1001, zl1136, zl1960, zl3000, zl3001, zl3002, zl3003, zl3004, zl3005, zl3006, zl3007, zl3008, zl3009, zl268435456, zl1000000000]), asleep_C hC.2.1 hv hs (by omega)]
      by_cases c2 : (sA (aS a)).testBit t = true
      · rw [if_pos c2, if_neg (by decide)]
        exact skip (by unfold stf; rw [if_pos (Or.inr c2)])
      · have h2t : 2 ^ t ≤ 2 ^ 6 := pw_le (by omega)
        have hsl : sA (aS a) ||| 2 ^ t < 128 := Nat.or_lt_two_pow (n := 7) (by omega) (by omega)
        obtain ⟨R, hR, hR1, hR2, hR3⟩ := itr_end (s := aS a) (S := fun _ => True) (sl := sA (aS a) ||| 2 ^ t) hv hS_T (A0_T hwN hZ)
        obtain ⟨P1, g1, g2, g3⟩ := runWith_C (N := 999) hC hok hca hw (by omega) hE hsl (fun i h => by rw [Nat.testBit_or, h, Bool.true_or]) hR1 hR2 hR3
        have hp := itr_p (s := aS a) (S := fun _ => True) (sl := sA (aS a) ||| 2 ^ t) hv hS_T (A0_T hwN hZ) 999
        rw [if_neg c2, if_pos (by decide), hC.2.1.2.2.2.1, sh_1 t (by omega), nx_or, show (999 : Int32) = nI 999 from rfl, g1, bd2_some, holders_C g2 (fun j => (hp j).1), Option.bind_some, bitCount_n (bo_lt _ 7), lb_eq]
        have e : stf (aV a) (aS a) w t = some (pc 7 (bo (fun j => decide (0 < itr (aV a) (aS a) (sA (aS a) ||| 2 ^ t) (A0 w (sZ (aS a))) 999 j)) 7)) := by
          unfold stf
          rw [if_neg (fun h => h.elim c1 c2)]
        have h7 := stf_7 e
        generalize pc 7 (bo (fun j => decide (0 < itr (aV a) (aS a) (sA (aS a) ||| 2 ^ t) (A0 w (sZ (aS a))) 999 j)) 7) = c at e h7 ⊢
        have E1 : Exp P1 (aV a) (aS a) (sA (aS a)) (pl (aS a) w) L :=
          ⟨FS_ro hE.1 (g3.1 58 rfl) (g3.1 62 rfl) (g3.2 61 rfl), hE.2.1, CC1_ro hE.2.2.1 (g3.1 59 rfl) (g3.1 60 rfl), fun p hp t ht e => by unfold known; rw [g3.1 59 rfl]; exact hE.2.2.2 p hp t ht e⟩
        obtain ⟨P2, k1, k2, k3, k4⟩ := ih n (t + 1) P1 (by omega) (by omega) (CRep_og hC g3) (CCa_ro hca (g3.1 59 rfl) (g3.1 60 rfl)) E1
        refine ⟨P2, ?_, k2, k3, sm_trans g3 k4⟩
        rw [← k1]
        unfold j_Sp_bestStopper_100 j_Sp_bestStopper_108
        have e2 : stq (stf (aV a) (aS a) w) (t + 1) = match stq (stf (aV a) (aS a) w) t with | none => some (t, c) | some (b, d) => if c < d then some (t, c) else some (b, d) := by
          show (match stf (aV a) (aS a) w t with | none => _ | some c => _) = _
          rw [e]
        rw [e2]
        cases es : stq (stf (aV a) (aS a) w) t with
        | none =>
          show (if nI 8 ≤ nI c then _ else _) = _
          rw [if_neg (nI_ge (by omega) (by omega)), lb_eq, show (1 : Int32) = nI 1 from rfl, nI_add]
          show l_Sp_bestStopper_28 n (nI t) (mn (nI 8) (nI c)) _ _ = l_Sp_bestStopper_28 n (nI t) (nI c) _ _
          rw [mn_n (by omega) (by omega), Nat.min_eq_right (by omega)]
        | some x =>
          obtain ⟨b, d⟩ := x
          have hd := stq_p (fun t c h => stf_7 h) es
          show (if nI d ≤ nI c then _ else _) = l_Sp_bestStopper_28 n (sti (if c < d then some (t, c) else some (b, d))) (nI (std 8 (if c < d then some (t, c) else some (b, d)))) _ _
          by_cases cd : c < d
          · rw [if_neg (nI_ge cd (by omega)), if_pos cd, lb_eq, show (1 : Int32) = nI 1 from rfl, nI_add]
            show l_Sp_bestStopper_28 n (nI t) (mn (nI d) (nI c)) _ _ = l_Sp_bestStopper_28 n (nI t) (nI c) _ _
            rw [mn_n (by omega) (by omega), Nat.min_eq_right (by omega)]
          · rw [if_pos (nI_le (by omega) (by omega)), if_neg cd, lb_eq, show (1 : Int32) = nI 1 from rfl, nI_add]
            show l_Sp_bestStopper_28 n (nI b) (mn (nI d) (nI c)) _ _ = l_Sp_bestStopper_28 n (nI b) (nI d) _ _
            rw [mn_n (by omega) (by omega), Nat.min_eq_left (by omega)]
theorem stopper_M {a : AS} {w : Nat} (hok : AOk a) (hw : sW (aS a) = some w) : ∀ (m n t : Nat) (P : PM), t + m = vN (aV a) → m < n → MRep P a →
    ∃ P', l_Mo_stopper_27 n (sti (stq (stf (aV a) (aS a) w) t)) (nI (std 268435456 (stq (stf (aV a) (aS a) w) t))) (nI t) P = some (sti (stq (stf (aV a) (aS a) w) (vN (aV a))), P') ∧ MRep P' a ∧ sm ogm P P' := by
  have hv := hok.1
  have hs := hok.2.1
  have hN := hv.1
  have hA := hs.2.2.2.1
  have h128 := pw_le hN
  have hwN := (hs.1 w hw).1
  have hZ := hs.2.2.1
  intro m
  induction m with
  | zero =>
    intro n t P ht hn hM
    obtain ⟨n, rfl⟩ : ∃ r, n = r + 1 := ⟨n - 1, by omega⟩
    obtain rfl : t = vN (aV a) := by omega
    rw [l_Mo_stopper_27, show P.1 110 (1 : Int32).toNatClampNeg = nI (vN (aV a)) from hM.1.1, if_pos (nI_le (by omega) (by omega))]
    exact ⟨P, rfl, hM, sm_refl⟩
  | succ m ih =>
    intro n t P ht hn hM
    obtain ⟨n, rfl⟩ : ∃ r, n = r + 1 := ⟨n - 1, by omega⟩
    have skip : stf (aV a) (aS a) w t = none → ∃ P', j_Mo_stopper_100 (fun z0 z1 z2 Pz => l_Mo_stopper_27 n z0 z1 z2 Pz) (sti (stq (stf (aV a) (aS a) w) t)) (nI (std 268435456 (stq (stf (aV a) (aS a) w) t))) (nI t) P = some (sti (stq (stf (aV a) (aS a) w) (vN (aV a))), P') ∧ MRep P' a ∧ sm ogm P P' := by
      intro e
      have r := ih n (t + 1) P (by omega) (by omega) hM
      have e2 : stq (stf (aV a) (aS a) w) (t + 1) = stq (stf (aV a) (aS a) w) t := by
        show (match stf (aV a) (aS a) w t with | none => _ | some c => _) = _
        rw [e]
      rw [e2] at r
      unfold j_Mo_stopper_100
      rw [show (1 : Int32) = nI 1 from rfl, nI_add]
      exact r
    rw [l_Mo_stopper_27, show P.1 110 (1 : Int32).toNatClampNeg = nI (vN (aV a)) from hM.1.1, if_neg (nI_ge (by omega) (by omega)), m113 hM.2.1, hw, oI_s]
    by_cases c1 : t = w
    · rw [if_pos (congrArg nI c1)]
      exact skip (by unfold stf; rw [if_pos (Or.inl c1)])
    · rw [if_neg (by simp (disch := omega) only [z_add, z_mul, z_sub, z_subm, z_addm, z_lt_t, z_lt_f, z_le_t, z_le_f, z_eq_t, z_eq_f, z_eqm, z_meq, z_mm, z_ltm, z_mlt, z_lem, z_mle, z_cl, z_ck, u1_1, u1_2, u2_1, u2_2, ↓reduceIte, Option.bind_some, Option.bind_none, bd2_some, lb_eq, and_true, and_false, true_and, false_and, not_true_eq_false, not_false_eq_true, eq_self_iff_true, if_true, if_false, Nat.reduceEqDiff, Nat.reduceAdd, Nat.reduceMul, Nat.reduceSub, Bool.false_eq_true, zl0, zl1, zl2, zl3, zl4, zl5, zl6, zl7, zl8, zl9, zl10, zl11, zl12, zl13, zl14, zl15, zl16, zl17, zl18, zl19, zl20, zl22, zl23, zl24, zl25, zl30, zl31, zl32, zl33, zl34, zl35, zl36, zl37, zl38, zl39, zl40, zl41, zl42, zl43, zl45, zl48, zl49, zl57, zl58, zl59, zl60, zl61, zl62, zl63, zl64, zl91, zl93, zl97, zl98, zl99, zl100, zl113, zl114, zl115, zl116, zl117, zl122, zl124, zl125, zl127, zl128, zl136, zl200, zl201, zl202, zl203, zl204, zl205, zl206, zl207, zl208, zl209, zl210, zl211, zl212, zl213, zl214, zl215, zl216, zl217, zl218, zl219, zl220, zl235, zl236, zl255, zl280, zl287, zl900, zl999, zl1000, zl1001, zl1136, zl1960, zl3000, zl3001, zl3002, zl3003, zl3004, zl3005, zl3006, zl3007, zl3008, zl3009, zl268435456, zl1000000000]), m116 hM.2.1, isIn_n (by omega) (by omega)]
      by_cases c2 : (sA (aS a)).testBit t = true
      · rw [if_pos c2, if_neg (by decide)]
        exact skip (by unfold stf; rw [if_pos (Or.inr c2)])
      · have h2t : 2 ^ t ≤ 2 ^ 6 := pw_le (by omega)
        have hsl : sA (aS a) ||| 2 ^ t < 128 := Nat.or_lt_two_pow (n := 7) (by omega) (by omega)
        obtain ⟨R, hR, hR1, hR2, hR3⟩ := itr_end (s := aS a) (S := fun _ => True) (sl := sA (aS a) ||| 2 ^ t) hv hS_T (A0_T hwN hZ)
        obtain ⟨P1, g1, g2, g3⟩ := crowdBy_M hM hok hw hsl hR1 hR2 hR3 hR
        rw [← hR3 999 (by omega)] at g1
        rw [if_neg c2, if_pos (by decide), sh_1 t (by omega), nx_or, g1, bd2_some, bitsOf_M (bo_lt _ 7), Option.bind_some]
        have e : stf (aV a) (aS a) w t = some (pc 7 (bo (fun j => decide (0 < itr (aV a) (aS a) (sA (aS a) ||| 2 ^ t) (A0 w (sZ (aS a))) 999 j)) 7)) := by
          unfold stf
          rw [if_neg (fun h => h.elim c1 c2)]
        have h7 := stf_7 e
        generalize pc 7 (bo (fun j => decide (0 < itr (aV a) (aS a) (sA (aS a) ||| 2 ^ t) (A0 w (sZ (aS a))) 999 j)) 7) = c at e h7 ⊢
        obtain ⟨P2, k1, k2, k3⟩ := ih n (t + 1) P1 (by omega) (by omega) g2
        refine ⟨P2, ?_, k2, sm_trans g3 k3⟩
        rw [← k1]
        unfold j_Mo_stopper_100
        have e2 : stq (stf (aV a) (aS a) w) (t + 1) = match stq (stf (aV a) (aS a) w) t with | none => some (t, c) | some (b, d) => if c < d then some (t, c) else some (b, d) := by
          show (match stf (aV a) (aS a) w t with | none => _ | some c => _) = _
          rw [e]
        rw [e2]
        cases es : stq (stf (aV a) (aS a) w) t with
        | none =>
          show (if nI c < nI 268435456 then _ else _) = _
          rw [if_pos (nI_lt (by omega) (by omega)), show (1 : Int32) = nI 1 from rfl, nI_add]
          rfl
        | some x =>
          obtain ⟨b, d⟩ := x
          have hd := stq_p (fun t c h => stf_7 h) es
          show (if nI c < nI d then _ else _) = l_Mo_stopper_27 n (sti (if c < d then some (t, c) else some (b, d))) (nI (std 268435456 (if c < d then some (t, c) else some (b, d)))) _ _
          by_cases cd : c < d
          · rw [if_pos (nI_lt cd (by omega)), if_pos cd, show (1 : Int32) = nI 1 from rfl, nI_add]
            rfl
          · rw [if_neg (nI_nlt (by omega) (by omega)), if_neg cd, show (1 : Int32) = nI 1 from rfl, nI_add]
theorem stopper_ok {P : PM} {a : AS} (hC : CRep P a) (hM : MRep P a) (hca : CCa P (aV a)) (hok : AOk a) :
    ∃ v P1 P2, f_Yr_stopper P = some (v, P1) ∧ f_Mo_stopper P1 = some (v, P2) ∧ Inv P2 := by
  have hA := hok.2.1.2.2.2.1
  have hN := hok.1.1
  cases hw : sW (aS a) with
  | none =>
    refine join (r := -nI 5) (a' := a) hM ⟨P, ?_, hC, hca, sm_refl⟩ (fun P1 hM1 => ⟨u1 P1 109 0 (0 : Int32), ?_, MRep_me hM1 me_th, sm_th⟩) hok
    · unfold f_Yr_stopper
      rw [rfn_C hC.2.1 hw]
      rfl
    · have hM2 : MRep (u1 P1 109 0 (0 : Int32)) a := MRep_me hM1 me_th
      unfold f_Mo_stopper
      rw [m113 hM2.2.1, hw]
      rfl
  | some w =>
    obtain ⟨_, _, h7⟩ := pl_ok hok.1 hok.2.1 hw
    refine join (r := sti (stq (stf (aV a) (aS a) w) (vN (aV a)))) (a' := a) hM ?_ (fun P1 hM1 => ?_) hok
    · obtain ⟨L, P1, g1, g2, g3, g4, g5⟩ := expl_C hC hok hca hw hA
      obtain ⟨P2, k1, k2, k3, k4⟩ := stopper_C hok hw (vN (aV a)) FU 0 P1 (by omega) (by have := FU_big; omega) g3 g4 g2
      refine ⟨P2, ?_, k2, k3, sm_trans (xr_cl g5) (og_cl k4)⟩
      unfold f_Yr_stopper
      rw [refus_C hC.2.1 hw h7, lb_eq, if_pos rfl]
      unfold f_Sp_bestStopper
      rw [hC.2.1.2.2.2.1, g1, Option.bind_some]
      have k1' : l_Sp_bestStopper_28 FU (-1 : Int32) (8 : Int32) (0 : Int32) P1 = some (sti (stq (stf (aV a) (aS a) w) (vN (aV a))), P2) := k1
      rw [k1']
      rfl
    · have hM2 : MRep (u1 P1 109 0 (0 : Int32)) a := MRep_me hM1 me_th
      obtain ⟨P3, k1, k2, k3⟩ := stopper_M hok hw (vN (aV a)) FU 0 _ (by omega) (by have := FU_big; omega) hM2
      refine ⟨P3, ?_, k2, sm_trans sm_th (og_mo k3)⟩
      unfold f_Mo_stopper
      rw [m113 hM2.2.1, hw, oI_s, if_neg (by simp (disch := omega) only [z_add, z_mul, z_sub, z_subm, z_addm, z_lt_t, z_lt_f, z_le_t, z_le_f, z_eq_t, z_eq_f, z_eqm, z_meq, z_mm, z_ltm, z_mlt, z_lem, z_mle, z_cl, z_ck, u1_1, u1_2, u2_1, u2_2, ↓reduceIte, Option.bind_some, Option.bind_none, bd2_some, lb_eq, and_true, and_false, true_and, false_and, not_true_eq_false, not_false_eq_true, eq_self_iff_true, if_true, if_false, Nat.reduceEqDiff, Nat.reduceAdd, Nat.reduceMul, Nat.reduceSub, Bool.false_eq_true, zl0, zl1, zl2, zl3, zl4, zl5, zl6, zl7, zl8, zl9, zl10, zl11, zl12, zl13, zl14, zl15, zl16, zl17, zl18, zl19, zl20, zl22, zl23, zl24, zl25, zl30, zl31, zl32, zl33, zl34, zl35, zl36, zl37, zl38, zl39, zl40, zl41, zl42, zl43, zl45, zl48, zl49, zl57, zl58, zl59, zl60, zl61, zl62, zl63, zl64, zl91, zl93, zl97, zl98, zl99, zl100, zl113, zl114, zl115, zl116, zl117, zl122, zl124, zl125, zl127, zl128, zl136, zl200, zl201, zl202, zl203, zl204, zl205, zl206, zl207, zl208, zl209, zl210, zl211, zl212, zl213, zl214, zl215, zl216, zl217, zl218, zl219, zl220, zl235, zl236, zl255, zl280, zl287, zl900, zl999, zl1000, zl1001, zl1136, zl1960, zl3000, zl3001, zl3002, zl3003, zl3004, zl3005, zl3006, zl3007, zl3008, zl3009, zl268435456, zl1000000000])]
      exact k1
