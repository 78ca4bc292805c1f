/-! chances: the reference -/
def lkx (o : Nat) : Bool := o == 125 || o == 126
def L287 (P : PM) (o : Nat) (A : Nat → Nat) : Prop := ∀ k, k < 287 → P.2 o k = lN (nst A k)
theorem TH_lk {P P' : PM} {v : NV} {s : SV} {sl : Nat} (h : TH P v s sl) (g : sm lkx P P') : TH P' v s sl := fun k t a b => by rw [g.1 117 rfl]; exact h k t a b
theorem nst_put {A : Nat → Nat} {x c : Nat} (j : Nat) (hj : j < 287) : (if j = mp x then A x + c else nst A j) = nst (fun q => if q = x then A x + c else A q) j := by
  by_cases h0 : j % 41 = 0
  · rw [nst_0 h0, nst_0 h0, if_neg (fun e => by have := (mp_ds x).2; rw [← e] at this; omega)]
  · obtain ⟨q, hq, rfl⟩ := mp_ex hj h0
    rw [nst_mp, nst_mp]
    by_cases e : q = x
    · subst e; rw [if_pos rfl, if_pos rfl]
    · rw [if_neg (fun h => e (mp_inj h)), if_neg e]
theorem gwM_mp {v : NV} {s : SV} {sl p t : Nat} : gwM v s sl (mp p) t = gw v s sl (p / 40) (p % 40 + 1) t := by
  obtain ⟨e1, e2⟩ := mp_ds p
  unfold gwM
  rw [e1, e2, if_neg (by omega)]
theorem nst_ext {A B : Nat → Nat} (h : ∀ q, q < 280 → A q = B q) {k : Nat} (hk : k < 287) : nst A k = nst B k := by
  unfold nst
  split
  · rfl
  · exact h _ (by omega)
theorem drawM_in {v : NV} {s : SV} {p c : Nat} {B : Nat → Nat} {k24 : Int32 → PM → Option PM} (hv : NVok v) (hp : p < 280) :
    ∀ (m n t : Nat) (P : PM), t + m = vN v → m < n → MNet P 110 0 v → TH P v s (sA s) → P.2 125 (mp p) = lN c → L287 P 126 (fun q => B q + c * wp v s p q t) →
    ∃ P', l_Mo_drawsLot_50 k24 n (nI (mp p)) (nI (lf v p t)) (nI t) P = k24 (nI (mp p + 1)) P' ∧ L287 P' 126 (fun q => B q + c * wt v s p q) ∧ sm (fun o => o == 126) P P' := by
  have hN := hv.1
  have hm := mp_lt hp
  obtain ⟨hd1, hd2⟩ := mp_ds p
  intro m
  induction m with
  | zero =>
    intro n t P ht hn h1 hT h2 h3
    obtain ⟨n, rfl⟩ : ∃ r, n = r + 1 := ⟨n - 1, by omega⟩
    obtain rfl : t = vN v := by omega
    have hlf := lf_le v p (vN v)
    rw [l_Mo_drawsLot_50, show P.1 110 (1 : Int32).toNatClampNeg = nI (vN v) from h1.1, if_pos (nI_le (by omega) (by omega)), z_ck hm (by omega), z_ck hm (by omega), z_ck hm (by omega), z_cl (by omega), h2, h3 _ hm, nst_mp, tl_n (by omega), lN_mul, lN_add]
    unfold j_Mo_drawsLot_207
    rw [show (1 : Int32) = nI 1 from rfl, nI_add]
    refine ⟨_, rfl, fun j hj => ?_, sm_u2 sm_refl (by simp)⟩
    rw [u2_2]
    have e := @nst_put (fun q => B q + c * wp v s p q (vN v)) p (c * lf v p (vN v)) j hj
    have e3 : (if 126 = 126 ∧ j = mp p then lN (B p + c * wp v s p p (vN v) + c * lf v p (vN v)) else P.2 126 j) = lN (if j = mp p then B p + c * wp v s p p (vN v) + c * lf v p (vN v) else nst (fun q => B q + c * wp v s p q (vN v)) j) := by
      by_cases ej : j = mp p
      · rw [if_pos ⟨rfl, ej⟩, if_pos ej]
      · rw [if_neg (fun h => ej h.2), if_neg ej, h3 j hj]
    rw [e3, e]
    refine congrArg lN (nst_ext (fun q _ => ?_) hj)
    show (if q = p then B p + c * wp v s p p (vN v) + c * lf v p (vN v) else B q + c * wp v s p q (vN v)) = B q + c * (wp v s p q (vN v) + (if q = p then lf v p (vN v) else 0))
    by_cases eq : q = p
    · subst eq
      rw [if_pos rfl, if_pos rfl, Nat.mul_add]
      omega
    · rw [if_neg eq, if_neg eq, Nat.add_zero]
  | succ m ih =>
    intro n t P ht hn h1 hT h2 h3
    obtain ⟨n, rfl⟩ : ∃ r, n = r + 1 := ⟨n - 1, by omega⟩
    have hlf := lf_le v p t
    have hod := (hv.2.1 (p / 40) t).2.1
    have hlo := lo_le v p t
    have hmin : min (lf v p t) (vO v (p / 40) t) = lo v p t := rfl
    have hsub : nI (lf v p t) - nI (lo v p t) = nI (lf v p (t + 1)) := by rw [pk_sub hlo, lf_s]
    have hthen := hT (mp p) t hm (by omega)
    rw [gwM_mp] at hthen
    have go : ∀ P1, sm (fun o => o == 126) P P1 → L287 P1 126 (fun q => B q + c * wp v s p q (t + 1)) →
        ∃ P', l_Mo_drawsLot_50 k24 n (nI (mp p)) (nI (lf v p (t + 1))) (nI t + (1 : Int32)) P1 = k24 (nI (mp p + 1)) P' ∧ L287 P' 126 (fun q => B q + c * wt v s p q) ∧ sm (fun o => o == 126) P P' := by
      intro P1 s1 hR
      obtain ⟨P2, g1, g2, g3⟩ := ih n (t + 1) P1 (by omega) (by omega) (MNet_sm h1 s1 rfl) (TH_lk hT (sm_mono s1 (fun o q => by simp [lkx] at q; simp; omega))) (by rw [s1.2 125 rfl]; exact h2) hR
      exact ⟨P2, by rw [show (1 : Int32) = nI 1 from rfl, nI_add]; exact g1, g2, sm_trans s1 g3⟩
    have same : (∀ q, q < 280 → tg v s p t = some q → lo v p t = 0) → L287 P 126 (fun q => B q + c * wp v s p q (t + 1)) := by
      intro h j hj
      rw [h3 j hj]
      refine congrArg lN (nst_ext (fun q hq => ?_) hj)
      show B q + c * wp v s p q t = B q + c * (wp v s p q t + (if tg v s p t = some q then lo v p t else 0))
      by_cases e : tg v s p t = some q
      · rw [if_pos e, h q hq e, Nat.add_zero]
      · rw [if_neg e, Nat.add_zero]
    have put : ∀ x, x < 280 → tg v s p t = some x → L287 (u2 P 126 (mp x) (lN (B x + c * wp v s p x t + c * lo v p t))) 126 (fun q => B q + c * wp v s p q (t + 1)) := by
      intro x hx htg j hj
      rw [u2_2]
      have e := @nst_put (fun q => B q + c * wp v s p q t) x (c * lo v p t) j hj
      have e3 : (if 126 = 126 ∧ j = mp x then lN (B x + c * wp v s p x t + c * lo v p t) else P.2 126 j) = lN (if j = mp x then B x + c * wp v s p x t + c * lo v p t else nst (fun q => B q + c * wp v s p q t) j) := by
        by_cases ej : j = mp x
        · rw [if_pos ⟨rfl, ej⟩, if_pos ej]
        · rw [if_neg (fun h => ej h.2), if_neg ej, h3 j hj]
      rw [e3, e]
      refine congrArg lN (nst_ext (fun q _ => ?_) hj)
      show (if q = x then B x + c * wp v s p x t + c * lo v p t else B q + c * wp v s p q t) = B q + c * (wp v s p q t + (if tg v s p t = some q then lo v p t else 0))
      by_cases eq : q = x
      · subst eq
        rw [if_pos rfl, if_pos htg, Nat.mul_add]
        omega
      · rw [if_neg eq, if_neg (fun h => by rw [htg] at h; exact eq (Option.some.inj h).symm), Nat.add_zero]
    -- behind the lots are known
    have main : ∃ P', j_Mo_drawsLot_107 k24 (fun z0 z1 z2 Pz => l_Mo_drawsLot_50 k24 n z0 z1 z2 Pz) (nI (mp p)) (nI (lf v p t)) (nI t) (nI (lo v p t)) P = k24 (nI (mp p + 1)) P' ∧ L287 P' 126 (fun q => B q + c * wt v s p q) ∧ sm (fun o => o == 126) P P' := by
      unfold j_Mo_drawsLot_107 j_Mo_drawsLot_183
      rw [hsub, lb_eq, show (7 : Int32) = nI 7 from rfl, pk_mul, nI_add, z_ck (by omega) (by omega), z_cl (by omega), hthen, lb_eq, tl_n (by omega)]
      cases eg : gw v s (sA s) (p / 40) (p % 40 + 1) t with
      | none =>
        have htg : tg v s p t = some p := by unfold tg; rw [eg]
        rw [Option.map_none, oI_n, if_pos (by decide), z_ck hm (by omega), z_ck hm (by omega), z_ck hm (by omega), z_cl (by omega), h2, h3 _ hm, nst_mp, lN_mul, lN_add]
        exact go _ (sm_u2 sm_refl (by simp)) (put p hp htg)
      | some z =>
        have hz := gw_le (by omega) eg
        rw [Option.map_some, oI_s, if_neg (by simp (disch := omega) only [z_add, z_mul, z_sub, z_subm, z_addm, z_lt_t, z_lt_f, z_le_t, z_le_f, z_eq_t, z_eq_f, z_eqm, z_meq, z_mm, z_ltm, z_mlt, z_lem, z_mle, z_cl, z_ck, u1_1, u1_2, u2_1, u2_2, ↓reduceIte, Option.bind_some, Option.bind_none, bd2_some, lb_eq, and_true, and_false, true_and, false_and, not_true_eq_false, not_false_eq_true, eq_self_iff_true, if_true, if_false, Nat.reduceEqDiff, Nat.reduceAdd, Nat.reduceMul, Nat.reduceSub, Bool.false_eq_true, zl0, zl1, zl2, zl3, zl4, zl5, zl6, zl7, zl8, zl9, zl10, zl11, zl12, zl13, zl14, zl15, zl16, zl17, zl18, zl19, zl20, zl22, zl23, zl24, zl25, zl30, zl31, zl32, zl33, zl34, zl35, zl36, zl37, zl38, zl39, zl40, zl41, zl42, zl43, zl45, zl48, zl49, zl57, zl58, zl59, zl60, zl61, zl62, zl63, zl64, zl91, zl93, zl97, zl98, zl99, zl100, zl113, zl114, zl115, zl116, zl117, zl122, zl124, zl125, zl127, zl128, zl136, zl200, zl201, zl202, zl203, zl204, zl205, zl206, zl207, zl208, zl209, zl210, zl211, zl212, zl213, zl214, zl215, zl216, zl217, zl218, zl219, zl220, zl235, zl236, zl255, zl280, zl287, zl900, zl999, zl1000, zl1001, zl1136, zl1960, zl3000, zl3001, zl3002, zl3003, zl3004, zl3005, zl3006, zl3007, zl3008, zl3009, zl268435456, zl1000000000]), show (41 : Int32) = nI 41 from rfl, pk_rem (by omega) (by omega) (by omega)]
        cases z with
        | zero =>
          have htg : tg v s p t = none := by unfold tg; rw [eg]
          rw [if_pos (by rw [show (41 * t + 0) % 41 = 0 by omega]; decide)]
          exact go P sm_refl (same (fun q _ e => by rw [htg] at e; cases e))
        | succ z =>
          have htg : tg v s p t = some (40 * t + z) := by unfold tg; rw [eg]
          have hx : 40 * t + z < 280 := by omega
          have hmx : 41 * t + (z + 1) = mp (40 * t + z) := by unfold mp; omega
          have hmm := mp_lt hx
          rw [if_neg (by simp (disch := omega) only [z_add, z_mul, z_sub, z_subm, z_addm, z_lt_t, z_lt_f, z_le_t, z_le_f, z_eq_t, z_eq_f, z_eqm, z_meq, z_mm, z_ltm, z_mlt, z_lem, z_mle, z_cl, z_ck, u1_1, u1_2, u2_1, u2_2, ↓reduceIte, Option.bind_some, Option.bind_none, bd2_some, lb_eq, and_true, and_false, true_and, false_and, not_true_eq_false, not_false_eq_true, eq_self_iff_true, if_true, if_false, Nat.reduceEqDiff, Nat.reduceAdd, Nat.reduceMul, Nat.reduceSub, Bool.false_eq_true, zl0, zl1, zl2, zl3, zl4, zl5, zl6, zl7, zl8, zl9, zl10, zl11, zl12, zl13, zl14, zl15, zl16, zl17, zl18, zl19, zl20, zl22, zl23, zl24, zl25, zl30, zl31, zl32, zl33, zl34, zl35, zl36, zl37, zl38, zl39, zl40, zl41, zl42, zl43, zl45, zl48, zl49, zl57, zl58, zl59, zl60, zl61, zl62, zl63, zl64, zl91, zl93, zl97, zl98, zl99, zl100, zl113, zl114, zl115, zl116, zl117, zl122, zl124, zl125, zl127, zl128, zl136, zl200, zl201, zl202, zl203, zl204, zl205, zl206, zl207, zl208, zl209, zl210, zl211, zl212, zl213, zl214, zl215, zl216, zl217, zl218, zl219, zl220, zl235, zl236, zl255, zl280, zl287, zl900, zl999, zl1000, zl1001, zl1136, zl1960, zl3000, zl3001, zl3002, zl3003, zl3004, zl3005, zl3006, zl3007, zl3008, zl3009, zl268435456, zl1000000000]), hmx, z_ck hmm (by omega), z_ck hm (by omega), z_ck hmm (by omega), z_cl (by omega), z_cl (by omega), h2, h3 _ hmm, nst_mp, lN_mul, lN_add]
          exact go _ (sm_u2 sm_refl (by simp)) (put _ hx htg)
    have m93 : j_Mo_drawsLot_93 k24 (fun z0 z1 z2 Pz => l_Mo_drawsLot_50 k24 n z0 z1 z2 Pz) (nI (mp p)) (nI (lf v p t)) (nI t) (nI (vO v (p / 40) t)) P = j_Mo_drawsLot_107 k24 (fun z0 z1 z2 Pz => l_Mo_drawsLot_50 k24 n z0 z1 z2 Pz) (nI (mp p)) (nI (lf v p t)) (nI t) (nI (lo v p t)) P := by
      unfold j_Mo_drawsLot_93
      rw [← hmin]
      by_cases c1 : lf v p t ≤ vO v (p / 40) t
      · rw [if_pos (nI_le c1 (by omega)), Nat.min_eq_left c1]
      · rw [if_neg (nI_ge (by omega) (by omega)), Nat.min_eq_right (by omega)]
    rw [l_Mo_drawsLot_50, show P.1 110 (1 : Int32).toNatClampNeg = nI (vN v) from h1.1, if_neg (nI_ge (by omega) (by omega)), show (41 : Int32) = nI 41 from rfl, pk_div (by omega) (by omega) (by omega), hd1, hours_M h1 (by omega) (by omega), Option.bind_some]
    by_cases ch : vH v (p / 40) t = 0
    · have h0 : vO v (p / 40) t = 0 := (hv.2.1 (p / 40) t).2.2.2 ch
      rw [h0] at m93
      rw [ch, if_pos (by decide), show (0 : Int32) = nI 0 from rfl, m93]
      exact main
    · have h9 := (hv.2.1 (p / 40) t).1
      have hodd := h1.2.2.2.2.1 (p / 40) t (by omega) (by omega)
      have e64 : (64 : Int32) + (7 : Int32) * nI (p / 40) + nI t = nI (64 + 7 * (p / 40) + t) := by rw [show (64 : Int32) = nI 64 from rfl, show (7 : Int32) = nI 7 from rfl, pk_mul, nI_add, nI_add]
      rw [if_neg (by simp (disch := omega) only [z_add, z_mul, z_sub, z_subm, z_addm, z_lt_t, z_lt_f, z_le_t, z_le_f, z_eq_t, z_eq_f, z_eqm, z_meq, z_mm, z_ltm, z_mlt, z_lem, z_mle, z_cl, z_ck, u1_1, u1_2, u2_1, u2_2, ↓reduceIte, Option.bind_some, Option.bind_none, bd2_some, lb_eq, and_true, and_false, true_and, false_and, not_true_eq_false, not_false_eq_true, eq_self_iff_true, if_true, if_false, Nat.reduceEqDiff, Nat.reduceAdd, Nat.reduceMul, Nat.reduceSub, Bool.false_eq_true, zl0, zl1, zl2, zl3, zl4, zl5, zl6, zl7, zl8, zl9, zl10, zl11, zl12, zl13, zl14, zl15, zl16, zl17, zl18, zl19, zl20, zl22, zl23, zl24, zl25, zl30, zl31, zl32, zl33, zl34, zl35, zl36, zl37, zl38, zl39, zl40, zl41, zl42, zl43, zl45, zl48, zl49, zl57, zl58, zl59, zl60, zl61, zl62, zl63, zl64, zl91, zl93, zl97, zl98, zl99, zl100, zl113, zl114, zl115, zl116, zl117, zl122, zl124, zl125, zl127, zl128, zl136, zl200, zl201, zl202, zl203, zl204, zl205, zl206, zl207, zl208, zl209, zl210, zl211, zl212, zl213, zl214, zl215, zl216, zl217, zl218, zl219, zl220, zl235, zl236, zl255, zl280, zl287, zl900, zl999, zl1000, zl1001, zl1136, zl1960, zl3000, zl3001, zl3002, zl3003, zl3004, zl3005, zl3006, zl3007, zl3008, zl3009, zl268435456, zl1000000000]), e64, z_ck (by omega) (by omega), z_cl (by omega), show 64 + 7 * (p / 40) + t = 0 + 64 + (7 * (p / 40) + t) by omega, hodd, m93]
      exact main
noncomputable def fq (v : NV) (s : SV) (C : Nat → Nat) (q p : Nat) : Nat := C p * wt v s p q
theorem drawM_out {v : NV} {s : SV} {C : Nat → Nat} (hv : NVok v) (hC : ∀ q, q < 280 → C q < 2147483648) :
    ∀ (m n k : Nat) (P : PM), k + m = 287 → m < n → MNet P 110 0 v → TH P v s (sA s) → L287 P 125 C → L287 P 126 (fun q => sumA (nst (fq v s C q)) k) →
    ∃ P', l_Mo_drawsLot_24 n (nI k) P = l_Mo_drawsLot_215 FU (0 : Int32) P' ∧ L287 P' 126 (fun q => sumA (nst (fq v s C q)) 287) ∧ sm (fun o => o == 126) P P' := by
  intro m
  induction m with
  | zero =>
    intro n k P hk hn h1 hT h2 h3
    obtain ⟨n, rfl⟩ : ∃ r, n = r + 1 := ⟨n - 1, by omega⟩
    obtain rfl : k = 287 := by omega
    rw [l_Mo_drawsLot_24, if_pos (by decide)]
    exact ⟨P, rfl, h3, sm_refl⟩
  | succ m ih =>
    intro n k P hk hn h1 hT h2 h3
    obtain ⟨n, rfl⟩ : ∃ r, n = r + 1 := ⟨n - 1, by omega⟩
    have hk2 : k < 287 := by omega
    have hlt : nst C k < 2147483648 := by
      unfold nst
      split
      · omega
      · exact hC _ (by omega)
    rw [l_Mo_drawsLot_24, if_neg (show ¬ (287 : Int32) ≤ nI k by simp (disch := omega) only [z_add, z_mul, z_sub, z_subm, z_addm, z_lt_t, z_lt_f, z_le_t, z_le_f, z_eq_t, z_eq_f, z_eqm, z_meq, z_mm, z_ltm, z_mlt, z_lem, z_mle, z_cl, z_ck, u1_1, u1_2, u2_1, u2_2, ↓reduceIte, Option.bind_some, Option.bind_none, bd2_some, lb_eq, and_true, and_false, true_and, false_and, not_true_eq_false, not_false_eq_true, eq_self_iff_true, if_true, if_false, Nat.reduceEqDiff, Nat.reduceAdd, Nat.reduceMul, Nat.reduceSub, Bool.false_eq_true, zl0, zl1, zl2, zl3, zl4, zl5, zl6, zl7, zl8, zl9, zl10, zl11, zl12, zl13, zl14, zl15, zl16, zl17, zl18, zl19, zl20, zl22, zl23, zl24, zl25, zl30, zl31, zl32, zl33, zl34, zl35, zl36, zl37, zl38, zl39, zl40, zl41, zl42, zl43, zl45, zl48, zl49, zl57, zl58, zl59, zl60, zl61, zl62, zl63, zl64, zl91, zl93, zl97, zl98, zl99, zl100, zl113, zl114, zl115, zl116, zl117, zl122, zl124, zl125, zl127, zl128, zl136, zl200, zl201, zl202, zl203, zl204, zl205, zl206, zl207, zl208, zl209, zl210, zl211, zl212, zl213, zl214, zl215, zl216, zl217, zl218, zl219, zl220, zl235, zl236, zl255, zl280, zl287, zl900, zl999, zl1000, zl1001, zl1136, zl1960, zl3000, zl3001, zl3002, zl3003, zl3004, zl3005, zl3006, zl3007, zl3008, zl3009, zl268435456, zl1000000000]), z_ck hk2 (by omega), z_cl (by omega), h2 k hk2]
    by_cases c0 : nst C k = 0
    · rw [if_pos ((lg_0 hlt).mpr c0)]
      unfold j_Mo_drawsLot_207
      rw [show (1 : Int32) = nI 1 from rfl, nI_add]
      refine ih n (k + 1) P (by omega) (by omega) h1 hT h2 (fun j hj => ?_)
      rw [h3 j hj]
      refine congrArg lN (nst_ext (fun q _ => ?_) hj)
      show sumA (nst (fq v s C q)) k = sumA (nst (fq v s C q)) k + nst (fq v s C q) k
      have : nst (fq v s C q) k = 0 := by
        unfold nst at c0 ⊢
        split
        · rfl
        · rename_i h
          rw [if_neg h] at c0
          unfold fq
          rw [c0, Nat.zero_mul]
      rw [this, Nat.add_zero]
    · have h0 : k % 41 ≠ 0 := fun h => c0 (nst_0 h)
      obtain ⟨p, hp, rfl⟩ := mp_ex hk2 h0
      rw [nst_mp] at c0 hlt
      rw [nst_mp, if_neg (fun h => c0 ((lg_0 hlt).mp h))]
      obtain ⟨P1, g1, g2, g3⟩ := drawM_in (s := s) (c := C p) (B := fun q => sumA (nst (fq v s C q)) (mp p)) (k24 := fun z0 Pz => l_Mo_drawsLot_24 n z0 Pz) hv hp (vN v) FU 0 P (by omega) (by have := FU_big; have := hv.1; omega) h1 hT (by rw [h2 _ hk2, nst_mp]) (fun j hj => by
        rw [h3 j hj]
        refine congrArg lN (nst_ext (fun q _ => ?_) hj)
        show _ = sumA (nst (fq v s C q)) (mp p) + C p * 0
        rw [Nat.mul_zero, Nat.add_zero])
      obtain ⟨P2, r1, r2, r3⟩ := ih n (mp p + 1) P1 (by omega) (by omega) (MNet_sm h1 g3 rfl) (TH_lk hT (sm_mono g3 (fun o q => by simp [lkx] at q; simp; omega))) (fun j hj => by rw [g3.2 125 rfl]; exact h2 j hj) (fun j hj => by
        rw [g2 j hj]
        refine congrArg lN (nst_ext (fun q _ => ?_) hj)
        show sumA (nst (fq v s C q)) (mp p) + C p * wt v s p q = sumA (nst (fq v s C q)) (mp p) + nst (fq v s C q) (mp p)
        rw [nst_mp]
        rfl)
      exact ⟨P2, g1.trans r1, r2, sm_trans g3 r3⟩
theorem drawM_copy {A : Nat → Nat} : ∀ (m n k : Nat) (P : PM), k + m = 287 → m < n → L287 P 126 A → (∀ j, j < k → P.2 125 j = lN (nst A j)) → ∃ P', l_Mo_drawsLot_215 n (nI k) P = some P' ∧ L287 P' 125 A ∧ sm lkx P P' := by
  intro m
  induction m with
  | zero =>
    intro n k P hk hn h1 h2
    obtain ⟨n, rfl⟩ : ∃ r, n = r + 1 := ⟨n - 1, by omega⟩
    rw [l_Mo_drawsLot_215, if_pos (show (287 : Int32) ≤ nI k from (nI_le (by omega) (by omega) : nI 287 ≤ nI k))]
    exact ⟨P, rfl, fun j hj => h2 j (by omega), sm_refl⟩
  | succ m ih =>
    intro n k P hk hn h1 h2
    obtain ⟨n, rfl⟩ : ∃ r, n = r + 1 := ⟨n - 1, by omega⟩
    have s1 : sm lkx P (u2 P 125 k (P.2 126 k)) := sm_u2' rfl
    obtain ⟨P', g1, g2, g3⟩ := ih n (k + 1) (u2 P 125 k (P.2 126 k)) (by omega) (by omega) (fun j hj => by rw [u2_2, if_neg (by omega)]; exact h1 j hj) (fun j hj => by
      rw [u2_2]
      by_cases e : j = k
      · rw [if_pos ⟨rfl, e⟩, e]; exact h1 k (by omega)
      · rw [if_neg (fun h => e h.2)]; exact h2 j (by omega))
    refine ⟨P', ?_, g2, sm_trans s1 g3⟩
    rw [l_Mo_drawsLot_215, if_neg (show ¬ (287 : Int32) ≤ nI k by simp (disch := omega) only [z_add, z_mul, z_sub, z_subm, z_addm, z_lt_t, z_lt_f, z_le_t, z_le_f, z_eq_t, z_eq_f, z_eqm, z_meq, z_mm, z_ltm, z_mlt, z_lem, z_mle, z_cl, z_ck, u1_1, u1_2, u2_1, u2_2, ↓reduceIte, Option.bind_some, Option.bind_none, bd2_some, lb_eq, and_true, and_false, true_and, false_and, not_true_eq_false, not_false_eq_true, eq_self_iff_true, if_true, if_false, Nat.reduceEqDiff, Nat.reduceAdd, Nat.reduceMul, Nat.reduceSub, Bool.false_eq_true, zl0, zl1, zl2, zl3, zl4, zl5, zl6, zl7, zl8, zl9, zl10, zl11, zl12, zl13, zl14, zl15, zl16, zl17, zl18, zl19, zl20, zl22, zl23, zl24, zl25, zl30, zl31, zl32, zl33, zl34, zl35, zl36, zl37, zl38, zl39, zl40, zl41, zl42, zl43, zl45, zl48, zl49, zl57, zl58, zl59, zl60, zl61, zl62, zl63, zl64, zl91, zl93, zl97, zl98, zl99, zl100, zl113, zl114, zl115, zl116, zl117, zl122, zl124, zl125, zl127, zl128, zl136, zl200, zl201, zl202, zl203, zl204, zl205, zl206, zl207, zl208, zl209, zl210, zl211, zl212, zl213, zl214, zl215, zl216, zl217, zl218, zl219, zl220, zl235, zl236, zl255, zl280, zl287, zl900, zl999, zl1000, zl1001, zl1136, zl1960, zl3000, zl3001, zl3002, zl3003, zl3004, zl3005, zl3006, zl3007, zl3008, zl3009, zl268435456, zl1000000000]), z_ck (by omega) (by omega), z_ck (by omega) (by omega), z_cl (by omega), show (1 : Int32) = nI 1 from rfl, nI_add]
    exact g1
theorem drawM_zero : ∀ (m n k : Nat) (P : PM), k + m = 287 → m < n → (∀ j, j < k → P.2 126 j = lN 0) → ∃ P', l_Mo_drawsLot_2 n (nI k) P = l_Mo_drawsLot_24 FU (0 : Int32) P' ∧ (∀ j, j < 287 → P'.2 126 j = lN 0) ∧ sm (fun o => o == 126) P P' := by
  intro m
  induction m with
  | zero =>
    intro n k P hk hn h2
    obtain ⟨n, rfl⟩ : ∃ r, n = r + 1 := ⟨n - 1, by omega⟩
    rw [l_Mo_drawsLot_2, if_pos (show (287 : Int32) ≤ nI k from (nI_le (by omega) (by omega) : nI 287 ≤ nI k))]
    exact ⟨P, rfl, fun j hj => h2 j (by omega), sm_refl⟩
  | succ m ih =>
    intro n k P hk hn h2
    obtain ⟨n, rfl⟩ : ∃ r, n = r + 1 := ⟨n - 1, by omega⟩
    have s1 : sm (fun o => o == 126) P (u2 P 126 k (0 : Int64)) := sm_u2' rfl
    obtain ⟨P', g1, g2, g3⟩ := ih n (k + 1) (u2 P 126 k (0 : Int64)) (by omega) (by omega) (fun j hj => by
      rw [u2_2]
      by_cases e : j = k
      · rw [if_pos ⟨rfl, e⟩]; rfl
      · rw [if_neg (fun h => e h.2)]; exact h2 j (by omega))
    refine ⟨P', ?_, g2, sm_trans s1 g3⟩
    rw [l_Mo_drawsLot_2, if_neg (show ¬ (287 : Int32) ≤ nI k by simp (disch := omega) only [z_add, z_mul, z_sub, z_subm, z_addm, z_lt_t, z_lt_f, z_le_t, z_le_f, z_eq_t, z_eq_f, z_eqm, z_meq, z_mm, z_ltm, z_mlt, z_lem, z_mle, z_cl, z_ck, u1_1, u1_2, u2_1, u2_2, ↓reduceIte, Option.bind_some, Option.bind_none, bd2_some, lb_eq, and_true, and_false, true_and, false_and, not_true_eq_false, not_false_eq_true, eq_self_iff_true, if_true, if_false, Nat.reduceEqDiff, Nat.reduceAdd, Nat.reduceMul, Nat.reduceSub, Bool.false_eq_true, zl0, zl1, zl2, zl3, zl4, zl5, zl6, zl7, zl8, zl9, zl10, zl11, zl12, zl13, zl14, zl15, zl16, zl17, zl18, zl19, zl20, zl22, zl23, zl24, zl25, zl30, zl31, zl32, zl33, zl34, zl35, zl36, zl37, zl38, zl39, zl40, zl41, zl42, zl43, zl45, zl48, zl49, zl57, zl58, zl59, zl60, zl61, zl62, zl63, zl64, zl91, zl93, zl97, zl98, zl99, zl100, zl113, zl114, zl115, zl116, zl117, zl122, zl124, zl125, zl127, zl128, zl136, zl200, zl201, zl202, zl203, zl204, zl205, zl206, zl207, zl208, zl209, zl210, zl211, zl212, zl213, zl214, zl215, zl216, zl217, zl218, zl219, zl220, zl235, zl236, zl255, zl280, zl287, zl900, zl999, zl1000, zl1001, zl1136, zl1960, zl3000, zl3001, zl3002, zl3003, zl3004, zl3005, zl3006, zl3007, zl3008, zl3009, zl268435456, zl1000000000]), z_ck (by omega) (by omega), z_cl (by omega), show (1 : Int32) = nI 1 from rfl, nI_add]
    exact g1
theorem drawsLot_M {P : PM} {v : NV} {s : SV} {p0 k : Nat} (hv : NVok v) (hk : k ≤ 6) (h1 : MNet P 110 0 v) (hT : TH P v s (sA s)) (h2 : L287 P 125 (shr v s p0 k)) :
    ∃ P', f_Mo_drawsLot P = some P' ∧ L287 P' 125 (shr v s p0 (k + 1)) ∧ sm lkx P P' := by
  have mono : ∀ {P P' : PM}, sm (fun o => o == 126) P P' → sm lkx P P' := fun g => sm_mono g (fun o q => by simp [lkx] at q; simp; omega)
  obtain ⟨P1, g1, g2, g3⟩ := drawM_zero 287 FU 0 P (by omega) (by have := FU_big; omega) (fun j hj => by omega)
  obtain ⟨P2, k1, k2, k3⟩ := drawM_out (s := s) (C := shr v s p0 k) hv (fun q hq => by have := shr_le (v := v) (s := s) (p0 := p0) hk hq; omega) 287 FU 0 P1 (by omega) (by have := FU_big; omega) (MNet_sm h1 g3 rfl) (TH_lk hT (mono g3)) (fun j hj => by rw [g3.2 125 rfl]; exact h2 j hj) (fun j hj => by
    rw [g2 j hj]
    have : nst (fun q => sumA (nst (fq v s (shr v s p0 k) q)) 0) j = 0 := by
      unfold nst
      split <;> rfl
    rw [this])
  obtain ⟨P3, r1, r2, r3⟩ := drawM_copy 287 FU 0 P2 (by omega) (by have := FU_big; omega) k2 (fun j hj => by omega)
  refine ⟨P3, ?_, fun j hj => ?_, sm_trans (mono g3) (sm_trans (mono k3) r3)⟩
  · unfold f_Mo_drawsLot
    exact g1.trans (k1.trans r1)
  · rw [r2 j hj]
    refine congrArg lN (nst_ext (fun q _ => ?_) hj)
    exact sumA_mp (f := fq v s (shr v s p0 k) q) 7
theorem likelyN_M {v : NV} {s : SV} {p0 N : Nat} (hv : NVok v) (hN : N ≤ 6) : ∀ (m n k : Nat) (P : PM), k + m = N → m < n → MNet P 110 0 v → TH P v s (sA s) → L287 P 125 (shr v s p0 k) →
    ∃ P', l_Mo_laysLikely_47 n (nI N) (nI k) P = some P' ∧ L287 P' 125 (shr v s p0 N) ∧ sm lkx P P' := by
  intro m
  induction m with
  | zero =>
    intro n k P hk hn h1 hT h2
    obtain ⟨n, rfl⟩ : ∃ r, n = r + 1 := ⟨n - 1, by omega⟩
    obtain rfl : k = N := by omega
    rw [l_Mo_laysLikely_47, if_pos (nI_le (by omega) (by omega))]
    exact ⟨P, rfl, h2, sm_refl⟩
  | succ m ih =>
    intro n k P hk hn h1 hT h2
    obtain ⟨n, rfl⟩ : ∃ r, n = r + 1 := ⟨n - 1, by omega⟩
    obtain ⟨P1, g1, g2, g3⟩ := drawsLot_M hv (by omega) h1 hT h2
    obtain ⟨P2, r1, r2, r3⟩ := ih n (k + 1) P1 (by omega) (by omega) (MNet_sm h1 g3 rfl) (TH_lk hT g3) g2
    refine ⟨P2, ?_, r2, sm_trans g3 r3⟩
    rw [l_Mo_laysLikely_47, if_neg (nI_ge (by omega) (by omega)), g1, Option.bind_some, show (1 : Int32) = nI 1 from rfl, nI_add]
    exact r1
theorem likelyF_M {v : NV} {s : SV} {w N : Nat} (hv : NVok v) (hs : SVok v s) (hw : sW s = some w) : ∀ (m n k : Nat) (P : PM), k + m = 287 → m < n → MSt P 110 113 s → (∀ j, j < k → P.2 125 j = lN (nst (shr v s (pl s w) 0) j)) →
    ∃ P', l_Mo_laysLikely_13 n (nI N) (nI k) P = l_Mo_laysLikely_47 FU (nI N) (0 : Int32) P' ∧ L287 P' 125 (shr v s (pl s w) 0) ∧ sm lkx P P' := by
  obtain ⟨h280, _, h7⟩ := pl_ok hv hs hw
  intro m
  induction m with
  | zero =>
    intro n k P hk hn h1 h2
    obtain ⟨n, rfl⟩ : ∃ r, n = r + 1 := ⟨n - 1, by omega⟩
    rw [l_Mo_laysLikely_13, if_pos (show (287 : Int32) ≤ nI k from (nI_le (by omega) (by omega) : nI 287 ≤ nI k))]
    exact ⟨P, rfl, fun j hj => h2 j (by omega), sm_refl⟩
  | succ m ih =>
    intro n k P hk hn h1 h2
    obtain ⟨n, rfl⟩ : ∃ r, n = r + 1 := ⟨n - 1, by omega⟩
    have hm := mp_lt h280
    have put : ∀ x : Int64, x = lN (nst (shr v s (pl s w) 0) k) → ∃ P', j_Mo_laysLikely_38 (fun z0 z1 Pz => l_Mo_laysLikely_13 n z0 z1 Pz) (nI N) (nI k) (nI k) x P = l_Mo_laysLikely_47 FU (nI N) (0 : Int32) P' ∧ L287 P' 125 (shr v s (pl s w) 0) ∧ sm lkx P P' := by
      rintro x rfl
      have s1 : sm lkx P (u2 P 125 k (lN (nst (shr v s (pl s w) 0) k))) := sm_u2' rfl
      obtain ⟨P', g1, g2, g3⟩ := ih n (k + 1) _ (by omega) (by omega) (MSt_sm h1 s1 rfl) (fun j hj => by
        rw [u2_2]
        by_cases e : j = k
        · rw [if_pos ⟨rfl, e⟩, e]
        · rw [if_neg (fun h => e h.2)]; exact h2 j (by omega))
      refine ⟨P', ?_, g2, sm_trans s1 g3⟩
      unfold j_Mo_laysLikely_38
      rw [z_ck (by omega) (by omega), z_cl (by omega), show (1 : Int32) = nI 1 from rfl, nI_add]
      exact g1
    have hval : nst (shr v s (pl s w) 0) k = if k = mp (pl s w) then 1 else 0 := by
      by_cases h0 : k % 41 = 0
      · rw [nst_0 h0, if_neg (fun e => by have := (mp_ds (pl s w)).2; rw [← e] at this; omega)]
      · obtain ⟨p, hp, rfl⟩ := mp_ex (show k < 287 by omega) h0
        rw [nst_mp]
        show (if p = pl s w then 1 else 0) = _
        by_cases e : p = pl s w
        · rw [if_pos e, if_pos (by rw [e])]
        · rw [if_neg e, if_neg (fun h => e (mp_inj h))]
    rw [l_Mo_laysLikely_13, if_neg (show ¬ (287 : Int32) ≤ nI k by simp (disch := omega) only [z_add, z_mul, z_sub, z_subm, z_addm, z_lt_t, z_lt_f, z_le_t, z_le_f, z_eq_t, z_eq_f, z_eqm, z_meq, z_mm, z_ltm, z_mlt, z_lem, z_mle, z_cl, z_ck, u1_1, u1_2, u2_1, u2_2, ↓reduceIte, Option.bind_some, Option.bind_none, bd2_some, lb_eq, and_true, and_false, true_and, false_and, not_true_eq_false, not_false_eq_true, eq_self_iff_true, if_true, if_false, Nat.reduceEqDiff, Nat.reduceAdd, Nat.reduceMul, Nat.reduceSub, Bool.false_eq_true, zl0, zl1, zl2, zl3, zl4, zl5, zl6, zl7, zl8, zl9, zl10, zl11, zl12, zl13, zl14, zl15, zl16, zl17, zl18, zl19, zl20, zl22, zl23, zl24, zl25, zl30, zl31, zl32, zl33, zl34, zl35, zl36, zl37, zl38, zl39, zl40, zl41, zl42, zl43, zl45, zl48, zl49, zl57, zl58, zl59, zl60, zl61, zl62, zl63, zl64, zl91, zl93, zl97, zl98, zl99, zl100, zl113, zl114, zl115, zl116, zl117, zl122, zl124, zl125, zl127, zl128, zl136, zl200, zl201, zl202, zl203, zl204, zl205, zl206, zl207, zl208, zl209, zl210, zl211, zl212, zl213, zl214, zl215, zl216, zl217, zl218, zl219, zl220, zl235, zl236, zl255, zl280, zl287, zl900, zl999, zl1000, zl1001, zl1136, zl1960, zl3000, zl3001, zl3002, zl3003, zl3004, zl3005, zl3006, zl3007, zl3008, zl3009, zl268435456, zl1000000000]), standNow_M h1 hv hs hw]
    by_cases e : k = mp (pl s w)
    · rw [if_pos (congrArg nI e)]
      exact put _ (by rw [hval, if_pos e]; rfl)
    · rw [if_neg (by simp (disch := omega) only [z_add, z_mul, z_sub, z_subm, z_addm, z_lt_t, z_lt_f, z_le_t, z_le_f, z_eq_t, z_eq_f, z_eqm, z_meq, z_mm, z_ltm, z_mlt, z_lem, z_mle, z_cl, z_ck, u1_1, u1_2, u2_1, u2_2, ↓reduceIte, Option.bind_some, Option.bind_none, bd2_some, lb_eq, and_true, and_false, true_and, false_and, not_true_eq_false, not_false_eq_true, eq_self_iff_true, if_true, if_false, Nat.reduceEqDiff, Nat.reduceAdd, Nat.reduceMul, Nat.reduceSub, Bool.false_eq_true, zl0, zl1, zl2, zl3, zl4, zl5, zl6, zl7, zl8, zl9, zl10, zl11, zl12, zl13, zl14, zl15, zl16, zl17, zl18, zl19, zl20, zl22, zl23, zl24, zl25, zl30, zl31, zl32, zl33, zl34, zl35, zl36, zl37, zl38, zl39, zl40, zl41, zl42, zl43, zl45, zl48, zl49, zl57, zl58, zl59, zl60, zl61, zl62, zl63, zl64, zl91, zl93, zl97, zl98, zl99, zl100, zl113, zl114, zl115, zl116, zl117, zl122, zl124, zl125, zl127, zl128, zl136, zl200, zl201, zl202, zl203, zl204, zl205, zl206, zl207, zl208, zl209, zl210, zl211, zl212, zl213, zl214, zl215, zl216, zl217, zl218, zl219, zl220, zl235, zl236, zl255, zl280, zl287, zl900, zl999, zl1000, zl1001, zl1136, zl1960, zl3000, zl3001, zl3002, zl3003, zl3004, zl3005, zl3006, zl3007, zl3008, zl3009, zl268435456, zl1000000000])]
      exact put _ (by rw [hval, if_neg e]; rfl)
def lyk (o : Nat) : Bool := o == 114 || o == 115 || o == 117 || o == 125 || o == 126
theorem MRep_lyk {P P' : PM} {a : AS} (h : MRep P a) (g : sm lyk P P') : MRep P' a := MRep_me h (me_sm g (fun o e => by simp [msr] at e; simp [lyk]; omega) rfl)
theorem lyk_mo {P P' : PM} (g : sm lyk P P') : sm mo P P' := sm_mono g (fun o q => by simp [mo] at q; simp [lyk]; omega)
theorem laysLikely_M {P : PM} {a : AS} {w N : Nat} (hM : MRep P a) (hok : AOk a) (hw : sW (aS a) = some w) (hN : N ≤ 6) :
    ∃ P', f_Mo_laysLikely (nI N) P = some P' ∧ L287 P' 125 (shr (aV a) (aS a) (pl (aS a) w) N) ∧ MRep P' a ∧ sm lyk P P' := by
  obtain ⟨P1, g1, g2, g3⟩ := laysThen_M hok.1 hok.2.1 hok.2.1.2.2.2.1 hM.1 (fun j hj => hM.2.1.2.2.2.2 j hj)
  have s1 : sm lyk P P1 := sm_mono g3 (fun o q => by simp [lyk] at q; simp [thr]; omega)
  have M1 := MRep_lyk hM s1
  obtain ⟨P2, k1, k2, k3⟩ := likelyF_M (N := N) hok.1 hok.2.1 hw 287 FU 0 P1 (by omega) (by have := FU_big; omega) M1.2.1 (fun j h => by omega)
  obtain ⟨P3, r1, r2, r3⟩ := likelyN_M hok.1 hN N FU 0 P2 (by omega) (by have := FU_big; omega) (MNet_sm M1.1 k3 rfl) (TH_lk g2 k3) k2
  have s4 : sm lyk P P3 := sm_trans s1 (sm_mono (sm_trans k3 r3) (fun o q => by simp [lyk] at q; simp [lkx]; omega))
  refine ⟨P3, ?_, r2, MRep_lyk hM s4, s4⟩
  unfold f_Mo_laysLikely
  rw [m116 hM.2.1, g1, Option.bind_some, show (0 : Int32) = nI 0 from rfl]
  exact k1.trans r1
theorem likelyAt_M {P : PM} {v : NV} {s : SV} {p0 N st : Nat} (h : L287 P 125 (shr v s p0 N)) (hst : st < 7) : f_Mo_likelyAt (nI st) P = some (lN (shs v s p0 N st)) := by
  have loop : ∀ (m n z : Nat), z + m = 40 → m < n → l_Mo_likelyAt_5 n (nI st) (lN (sumA (fun z => shr v s p0 N (40 * st + z)) z)) (nI (z + 1)) P = some (lN (shs v s p0 N st)) := by
    intro m
    induction m with
    | zero =>
      intro n z hz hn
      obtain ⟨n, rfl⟩ : ∃ r, n = r + 1 := ⟨n - 1, by omega⟩
      obtain rfl : z = 40 := by omega
      rw [l_Mo_likelyAt_5, if_pos (by decide)]
      rfl
    | succ m ih =>
      intro n z hz hn
      obtain ⟨n, rfl⟩ : ∃ r, n = r + 1 := ⟨n - 1, by omega⟩
      have hso : f_Mo_standOf (nI st) (nI (z + 1)) P = nI (mp (40 * st + z)) := by
        unfold f_Mo_standOf
        rw [show (41 : Int32) = nI 41 from rfl, pk_mul, nI_add]
        refine congrArg nI ?_
        unfold mp
        omega
      have hm := mp_lt (show 40 * st + z < 280 by omega)
      rw [l_Mo_likelyAt_5, if_neg (show ¬ (40 : Int32) < nI (z + 1) by simp (disch := omega) only [z_add, z_mul, z_sub, z_subm, z_addm, z_lt_t, z_lt_f, z_le_t, z_le_f, z_eq_t, z_eq_f, z_eqm, z_meq, z_mm, z_ltm, z_mlt, z_lem, z_mle, z_cl, z_ck, u1_1, u1_2, u2_1, u2_2, ↓reduceIte, Option.bind_some, Option.bind_none, bd2_some, lb_eq, and_true, and_false, true_and, false_and, not_true_eq_false, not_false_eq_true, eq_self_iff_true, if_true, if_false, Nat.reduceEqDiff, Nat.reduceAdd, Nat.reduceMul, Nat.reduceSub, Bool.false_eq_true, zl0, zl1, zl2, zl3, zl4, zl5, zl6, zl7, zl8, zl9, zl10, zl11, zl12, zl13, zl14, zl15, zl16, zl17, zl18, zl19, zl20, zl22, zl23, zl24, zl25, zl30, zl31, zl32, zl33, zl34, zl35, zl36, zl37, zl38, zl39, zl40, zl41, zl42, zl43, zl45, zl48, zl49, zl57, zl58, zl59, zl60, zl61, zl62, zl63, zl64, zl91, zl93, zl97, zl98, zl99, zl100, zl113, zl114, zl115, zl116, zl117, zl122, zl124, zl125, zl127, zl128, zl136, zl200, zl201, zl202, zl203, zl204, zl205, zl206, zl207, zl208, zl209, zl210, zl211, zl212, zl213, zl214, zl215, zl216, zl217, zl218, zl219, zl220, zl235, zl236, zl255, zl280, zl287, zl900, zl999, zl1000, zl1001, zl1136, zl1960, zl3000, zl3001, zl3002, zl3003, zl3004, zl3005, zl3006, zl3007, zl3008, zl3009, zl268435456, zl1000000000]), hso, z_ck hm (by omega), z_cl (by omega), h _ hm, nst_mp, lN_add, lb_eq, show (1 : Int32) = nI 1 from rfl, nI_add]
      exact ih n (z + 1) (by omega) (by omega)
  exact loop 40 FU 0 (by omega) (by have := FU_big; omega)
theorem wholeOf_M {P : PM} {N : Nat} (hN : N ≤ 6) : f_Mo_wholeOf (nI N) P = some (lN (10 ^ N)) := by
  have loop : ∀ (m n k : Nat), k + m = N → m < n → l_Mo_wholeOf_4 n (nI N) (lN (10 ^ k)) (nI k) P = some (lN (10 ^ N)) := by
    intro m
    induction m with
    | zero =>
      intro n k hk hn
      obtain ⟨n, rfl⟩ : ∃ r, n = r + 1 := ⟨n - 1, by omega⟩
      obtain rfl : k = N := by omega
      rw [l_Mo_wholeOf_4, if_pos (nI_le (by omega) (by omega))]
    | succ m ih =>
      intro n k hk hn
      obtain ⟨n, rfl⟩ : ∃ r, n = r + 1 := ⟨n - 1, by omega⟩
      rw [l_Mo_wholeOf_4, if_neg (nI_ge (by omega) (by omega)), show (10 : Int64) = lN 10 from rfl, lN_mul, lb_eq, show (1 : Int32) = nI 1 from rfl, nI_add, ← Nat.pow_succ]
      exact ih n (k + 1) (by omega) (by omega)
  exact loop N FU 0 (by omega) (by have := FU_big; omega)
theorem cm_M {P : PM} : ∀ (m n a b : Nat), b < 2 ^ m → 2 * m < n → a < 2147483648 → b < 2147483648 → gr_Mo_common n 0 (lN a) (lN b) P = some (lN (Nat.gcd a b)) := by
  intro m
  induction m with
  | zero =>
    intro n a b hb hn ha hb2
    obtain ⟨n, rfl⟩ : ∃ r, n = r + 1 := ⟨n - 1, by omega⟩
    obtain rfl : b = 0 := by omega
    rw [gr_Mo_common, f_Mo_common, if_pos (by decide), Nat.gcd_zero_right]
  | succ m ih =>
    intro n a b hb hn ha hb2
    obtain ⟨n, rfl⟩ : ∃ r, n = r + 1 + 1 := ⟨n - 2, by omega⟩
    by_cases c0 : b = 0
    · subst c0
      rw [gr_Mo_common, f_Mo_common, if_pos (by decide), Nat.gcd_zero_right]
    · have hr : a % b < b := Nat.mod_lt _ (by omega)
      have nz : ∀ c, c < 2147483648 → c ≠ 0 → ¬ lN c = (0 : Int64) := fun c hc h0 e => h0 ((pk_lEQ (a := c) (b := 0) (by omega) (by omega)).mp e)
      have e1 : Nat.gcd a b = Nat.gcd b (a % b) := by rw [Nat.gcd_comm a b, Nat.gcd_rec b a, Nat.gcd_comm]
      rw [gr_Mo_common, f_Mo_common, if_neg (fun h => c0 ((lg_0 hb2).mp h)), decide_eq_true (nz b hb2 c0), ck_t rfl, pk_lRem (by omega) (by omega) (by omega), e1]
      by_cases c1 : a % b = 0
      · rw [c1, gr_Mo_common, f_Mo_common, if_pos (by decide), Option.bind_some, Nat.gcd_zero_right]
      · have hr2 : b % (a % b) < a % b := Nat.mod_lt _ (by omega)
        have e2 : Nat.gcd b (a % b) = Nat.gcd (a % b) (b % (a % b)) := by rw [Nat.gcd_comm b (a % b), Nat.gcd_rec (a % b) b, Nat.gcd_comm]
        rw [gr_Mo_common, f_Mo_common, if_neg (fun h => c1 ((lg_0 (by omega)).mp h)), decide_eq_true (nz _ (by omega) c1), ck_t rfl, pk_lRem (by omega) (by omega) (by omega), e2, ih n _ _ (gcd_step hb c1) (by omega) (by omega) (by omega)]
        rfl
theorem common_M {P : PM} {a b : Nat} (ha : a ≤ 1000000) (hb : b ≤ 1000000) : g_Mo_common (lN a) (lN b) P = some (lN (Nat.gcd a b)) := by
  unfold g_Mo_common
  exact cm_M 20 FR a b (by omega) (by rw [FR_eq]; omega) (by omega) (by omega)
