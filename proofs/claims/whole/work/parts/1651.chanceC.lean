/-! chances: the class -/
def shy (o : Nat) : Bool := o == 86 || o == 87
theorem CB_sh {P P' : PM} {v : NV} {s : SV} {p0 : Nat} {L : List Nat} (h : CB P v s p0 L) (g : sm shy P P') : CB P' v s p0 L :=
  ⟨CNet_sm h.1 g rfl rfl rfl rfl rfl, Exp_sm h.2.1 g rfl rfl rfl rfl rfl, by rw [g.1 21 rfl]; exact h.2.2⟩
def R280 (P : PM) (o : Nat) (A : Nat → Nat) : Prop := ∀ q, q < 280 → P.1 o q = nI (A q)
theorem wp_s (v : NV) (s : SV) (p q t : Nat) : wp v s p q (t + 1) = wp v s p q t + (if tg v s p t = some q then lo v p t else 0) := rfl
theorem drawIn_C {v : NV} {s : SV} {p0 p c a2 a3 : Nat} {L : List Nat} {B : Nat → Nat} (hv : NVok v) (hs : SVok v s) (ha : a2 = 86 ∧ a3 = 87 ∨ a2 = 87 ∧ a3 = 86) (hp : p ∈ L) :
    ∀ (m n t : Nat) (P : PM), t + m = vN v → m < n → CB P v s p0 L → P.1 a2 p = nI c → R280 P a3 (fun q => B q + c * wp v s p q t) →
    ∃ P', l_St_drawFrom_21 a2 280 a3 280 n (nI p) (nI (lf v p t)) (nI t) P = some P' ∧ R280 P' a3 (fun q => B q + c * wt v s p q) ∧ sm (fun o => o == a3) P P' := by
  have hN := hv.1
  have h7 := pw_le hN
  intro m
  induction m with
  | zero =>
    intro n t P ht hn hX h2 h3
    obtain ⟨n, rfl⟩ : ∃ r, n = r + 1 := ⟨n - 1, by omega⟩
    obtain rfl : t = vN v := by omega
    have h280 := hX.2.1.1.2.2.2.2 p hp
    rw [l_St_drawFrom_21, hX.1.1, if_pos (nI_le (by omega) (by omega)), z_ck h280 (by omega), z_ck h280 (by omega), z_ck h280 (by omega), z_cl (by omega), h2, h3 p h280, pk_mul, nI_add]
    refine ⟨_, rfl, fun q hq => ?_, sm_u1 sm_refl (by simp)⟩
    rw [u1_1]
    by_cases e : q = p
    · rw [if_pos ⟨rfl, e⟩, e]
      show _ = nI (B p + c * (wp v s p p (vN v) + (if p = p then lf v p (vN v) else 0)))
      rw [if_pos rfl, Nat.mul_add]
      show nI (B p + c * wp v s p p (vN v) + c * lf v p (vN v)) = _
      exact congrArg nI (by omega)
    · rw [if_neg (fun h => e h.2), h3 q hq]
      show _ = nI (B q + c * (wp v s p q (vN v) + (if q = p then lf v p (vN v) else 0)))
      rw [if_neg e, Nat.add_zero]
  | succ m ih =>
    intro n t P ht hn hX h2 h3
    obtain ⟨n, rfl⟩ : ∃ r, n = r + 1 := ⟨n - 1, by omega⟩
    have h280 := hX.2.1.1.2.2.2.2 p hp
    have hlf := lf_le v p t
    have hod := (hv.2.1 (p / 40) t).2.1
    have hlo := lo_le v p t
    have hmin : min (lf v p t) (vO v (p / 40) t) = lo v p t := rfl
    have hsub : nI (lf v p t) - nI (lo v p t) = nI (lf v p (t + 1)) := by rw [pk_sub hlo, lf_s]
    rw [l_St_drawFrom_21, hX.1.1, if_neg (nI_ge (by omega) (by omega)), stIn_n (by omega), odds_C hX.1 hv (by omega) (by omega), Option.bind_some, mn_n (by omega) (by omega), hmin, lb_eq]
    unfold j_St_drawFrom_79 j_St_drawFrom_132
    rw [hsub]
    have go : ∀ P1, sm (fun o => o == a3) P P1 → R280 P1 a3 (fun q => B q + c * wp v s p q (t + 1)) →
        ∃ P', l_St_drawFrom_21 a2 280 a3 280 n (nI p) (nI (lf v p (t + 1))) (nI t + (1 : Int32)) P1 = some P' ∧ R280 P' a3 (fun q => B q + c * wt v s p q) ∧ sm (fun o => o == a3) P P' := by
      intro P1 s1 hR
      obtain ⟨P2, g1, g2, g3⟩ := ih n (t + 1) P1 (by omega) (by omega) (CB_sh hX (sm_mono s1 (fun o q => by simp [shy] at q; simp; omega))) (by rw [s1.1 a2 (by simp; omega)]; exact h2) hR
      exact ⟨P2, by rw [show (1 : Int32) = nI 1 from rfl, nI_add]; exact g1, g2, sm_trans s1 g3⟩
    have same : (∀ q, q < 280 → tg v s p t = some q → lo v p t = 0) → R280 P a3 (fun q => B q + c * wp v s p q (t + 1)) := by
      intro h q hq
      rw [h3 q hq]
      show _ = nI (B q + c * (wp v s p q t + (if tg v s p t = some q then lo v p t else 0)))
      by_cases e : tg v s p t = some q
      · rw [if_pos e, h q hq e, Nat.add_zero]
      · rw [if_neg e, Nat.add_zero]
    have put : ∀ x, x < 280 → tg v s p t = some x → R280 (u1 P a3 x (nI (B x + c * wp v s p x t) + nI c * nI (lo v p t))) a3 (fun q => B q + c * wp v s p q (t + 1)) := by
      intro x hx htg q hq
      rw [u1_1]
      show _ = nI (B q + c * (wp v s p q t + (if tg v s p t = some q then lo v p t else 0)))
      by_cases e : q = x
      · rw [if_pos ⟨rfl, e⟩, e, if_pos htg, pk_mul, nI_add, Nat.mul_add]
        exact congrArg nI (by omega)
      · rw [if_neg (fun h => e h.2), h3 q hq, if_neg (fun h => by rw [htg] at h; exact e (Option.some.inj h).symm), Nat.add_zero]
    by_cases c0 : lo v p t = 0
    · rw [c0, if_pos (show nI 0 ≤ (0 : Int32) by decide), lb_eq, if_neg (by decide), if_pos (by decide)]
      exact go P sm_refl (same (fun _ _ _ => c0))
    · rw [if_neg (show ¬ nI (lo v p t) ≤ (0 : Int32) by simp (disch := omega) only [z_add, z_mul, z_sub, z_subm, z_addm, z_lt_t, z_lt_f, z_le_t, z_le_f, z_eq_t, z_eq_f, z_eqm, z_meq, z_mm, z_ltm, z_mlt, z_lem, z_mle, z_cl, z_ck, u1_1, u1_2, u2_1, u2_2, ↓reduceIte, Option.bind_some, Option.bind_none, bd2_some, lb_eq, and_true, and_false, true_and, false_and, not_true_eq_false, not_false_eq_true, eq_self_iff_true, if_true, if_false, Nat.reduceEqDiff, Nat.reduceAdd, Nat.reduceMul, Nat.reduceSub, Bool.false_eq_true, zl0, zl1, zl2, zl3, zl4, zl5, zl6, zl7, zl8, zl9, zl10, zl11, zl12, zl13, zl14, zl15, zl16, zl17, zl18, zl19, zl20, zl22, zl23, zl24, zl25, zl30, zl31, zl32, zl33, zl34, zl35, zl36, zl37, zl38, zl39, zl40, zl41, zl42, zl43, zl45, zl48, zl49, zl57, zl58, zl59, zl60, zl61, zl62, zl63, zl64, zl91, zl93, zl97, zl98, zl99, zl100, zl113, zl114, zl115, zl116, zl117, zl122, zl124, zl125, zl127, zl128, zl136, zl200, zl201, zl202, zl203, zl204, zl205, zl206, zl207, zl208, zl209, zl210, zl211, zl212, zl213, zl214, zl215, zl216, zl217, zl218, zl219, zl220, zl235, zl236, zl255, zl280, zl287, zl900, zl999, zl1000, zl1001, zl1136, zl1960, zl3000, zl3001, zl3002, zl3003, zl3004, zl3005, zl3006, zl3007, zl3008, zl3009, zl268435456, zl1000000000]), hX.2.2, after_C hX.1 hv hX.2.1 hs.2.2.2.1 hp (by omega), Option.bind_some, lb_eq]
      cases eg : gw v s (sA s) (p / 40) (p % 40 + 1) t with
      | none =>
        have htg : tg v s p t = some p := by unfold tg; rw [eg]
        rw [oI_n, if_pos (by decide), z_ck h280 (by omega), z_ck h280 (by omega), z_ck h280 (by omega), z_cl (by omega), h2, h3 p h280]
        exact go _ (sm_u1 sm_refl (by simp)) (put p h280 htg)
      | some z =>
        have hz := gw_le (by omega) eg
        cases z with
        | zero =>
          have htg : tg v s p t = none := by unfold tg; rw [eg]
          rw [oI_s, if_neg (by decide), if_pos (by decide)]
          exact go P sm_refl (same (fun q _ e => by rw [htg] at e; cases e))
        | succ z =>
          have htg : tg v s p t = some (40 * t + z) := by unfold tg; rw [eg]
          have hx : 40 * t + z < 280 := by omega
          rw [oI_s, if_neg (by simp (disch := omega) only [z_add, z_mul, z_sub, z_subm, z_addm, z_lt_t, z_lt_f, z_le_t, z_le_f, z_eq_t, z_eq_f, z_eqm, z_meq, z_mm, z_ltm, z_mlt, z_lem, z_mle, z_cl, z_ck, u1_1, u1_2, u2_1, u2_2, ↓reduceIte, Option.bind_some, Option.bind_none, bd2_some, lb_eq, and_true, and_false, true_and, false_and, not_true_eq_false, not_false_eq_true, eq_self_iff_true, if_true, if_false, Nat.reduceEqDiff, Nat.reduceAdd, Nat.reduceMul, Nat.reduceSub, Bool.false_eq_true, zl0, zl1, zl2, zl3, zl4, zl5, zl6, zl7, zl8, zl9, zl10, zl11, zl12, zl13, zl14, zl15, zl16, zl17, zl18, zl19, zl20, zl22, zl23, zl24, zl25, zl30, zl31, zl32, zl33, zl34, zl35, zl36, zl37, zl38, zl39, zl40, zl41, zl42, zl43, zl45, zl48, zl49, zl57, zl58, zl59, zl60, zl61, zl62, zl63, zl64, zl91, zl93, zl97, zl98, zl99, zl100, zl113, zl114, zl115, zl116, zl117, zl122, zl124, zl125, zl127, zl128, zl136, zl200, zl201, zl202, zl203, zl204, zl205, zl206, zl207, zl208, zl209, zl210, zl211, zl212, zl213, zl214, zl215, zl216, zl217, zl218, zl219, zl220, zl235, zl236, zl255, zl280, zl287, zl900, zl999, zl1000, zl1001, zl1136, zl1960, zl3000, zl3001, zl3002, zl3003, zl3004, zl3005, zl3006, zl3007, zl3008, zl3009, zl268435456, zl1000000000]), if_neg (by simp (disch := omega) only [z_add, z_mul, z_sub, z_subm, z_addm, z_lt_t, z_lt_f, z_le_t, z_le_f, z_eq_t, z_eq_f, z_eqm, z_meq, z_mm, z_ltm, z_mlt, z_lem, z_mle, z_cl, z_ck, u1_1, u1_2, u2_1, u2_2, ↓reduceIte, Option.bind_some, Option.bind_none, bd2_some, lb_eq, and_true, and_false, true_and, false_and, not_true_eq_false, not_false_eq_true, eq_self_iff_true, if_true, if_false, Nat.reduceEqDiff, Nat.reduceAdd, Nat.reduceMul, Nat.reduceSub, Bool.false_eq_true, zl0, zl1, zl2, zl3, zl4, zl5, zl6, zl7, zl8, zl9, zl10, zl11, zl12, zl13, zl14, zl15, zl16, zl17, zl18, zl19, zl20, zl22, zl23, zl24, zl25, zl30, zl31, zl32, zl33, zl34, zl35, zl36, zl37, zl38, zl39, zl40, zl41, zl42, zl43, zl45, zl48, zl49, zl57, zl58, zl59, zl60, zl61, zl62, zl63, zl64, zl91, zl93, zl97, zl98, zl99, zl100, zl113, zl114, zl115, zl116, zl117, zl122, zl124, zl125, zl127, zl128, zl136, zl200, zl201, zl202, zl203, zl204, zl205, zl206, zl207, zl208, zl209, zl210, zl211, zl212, zl213, zl214, zl215, zl216, zl217, zl218, zl219, zl220, zl235, zl236, zl255, zl280, zl287, zl900, zl999, zl1000, zl1001, zl1136, zl1960, zl3000, zl3001, zl3002, zl3003, zl3004, zl3005, zl3006, zl3007, zl3008, zl3009, zl268435456, zl1000000000]), plOf_n (by omega), show 40 * t + (z + 1) - 1 = 40 * t + z by omega, z_ck hx (by omega), z_ck h280 (by omega), z_ck hx (by omega), z_cl (by omega), z_cl (by omega), h2, h3 _ hx]
          exact go _ (sm_u1 sm_refl (by simp)) (put _ hx htg)
theorem drawFrom_C {P : PM} {v : NV} {s : SV} {p0 p c a2 a3 : Nat} {L : List Nat} {B : Nat → Nat} (hv : NVok v) (hs : SVok v s) (ha : a2 = 86 ∧ a3 = 87 ∨ a2 = 87 ∧ a3 = 86) (hp : p ∈ L) (hX : CB P v s p0 L) (h2 : P.1 a2 p = nI c) (hc : c < 2147483648) (h3 : R280 P a3 B) :
    ∃ P', f_St_drawFrom a2 280 a3 280 (nI p) P = some P' ∧ R280 P' a3 (fun q => B q + c * wt v s p q) ∧ sm (fun o => o == a3) P P' := by
  have h280 := hX.2.1.1.2.2.2.2 p hp
  unfold f_St_drawFrom
  rw [place_n p (by omega), if_pos h280, if_neg (by decide), z_ck h280 (by omega), z_cl (by omega), h2]
  by_cases c0 : c = 0
  · subst c0
    rw [if_pos (by decide)]
    exact ⟨P, rfl, fun q hq => by
      rw [h3 q hq]
      show nI (B q) = nI (B q + 0 * wt v s p q)
      rw [Nat.zero_mul, Nat.add_zero], sm_refl⟩
  · rw [if_neg (by simp (disch := omega) only [z_add, z_mul, z_sub, z_subm, z_addm, z_lt_t, z_lt_f, z_le_t, z_le_f, z_eq_t, z_eq_f, z_eqm, z_meq, z_mm, z_ltm, z_mlt, z_lem, z_mle, z_cl, z_ck, u1_1, u1_2, u2_1, u2_2, ↓reduceIte, Option.bind_some, Option.bind_none, bd2_some, lb_eq, and_true, and_false, true_and, false_and, not_true_eq_false, not_false_eq_true, eq_self_iff_true, if_true, if_false, Nat.reduceEqDiff, Nat.reduceAdd, Nat.reduceMul, Nat.reduceSub, Bool.false_eq_true, zl0, zl1, zl2, zl3, zl4, zl5, zl6, zl7, zl8, zl9, zl10, zl11, zl12, zl13, zl14, zl15, zl16, zl17, zl18, zl19, zl20, zl22, zl23, zl24, zl25, zl30, zl31, zl32, zl33, zl34, zl35, zl36, zl37, zl38, zl39, zl40, zl41, zl42, zl43, zl45, zl48, zl49, zl57, zl58, zl59, zl60, zl61, zl62, zl63, zl64, zl91, zl93, zl97, zl98, zl99, zl100, zl113, zl114, zl115, zl116, zl117, zl122, zl124, zl125, zl127, zl128, zl136, zl200, zl201, zl202, zl203, zl204, zl205, zl206, zl207, zl208, zl209, zl210, zl211, zl212, zl213, zl214, zl215, zl216, zl217, zl218, zl219, zl220, zl235, zl236, zl255, zl280, zl287, zl900, zl999, zl1000, zl1001, zl1136, zl1960, zl3000, zl3001, zl3002, zl3003, zl3004, zl3005, zl3006, zl3007, zl3008, zl3009, zl268435456, zl1000000000])]
    exact drawIn_C hv hs ha hp (vN v) FU 0 P (by omega) (by have := FU_big; have := hv.1; omega) hX h2 (fun q hq => by
      show _ = nI (B q + c * 0)
      rw [Nat.mul_zero, Nat.add_zero]
      exact h3 q hq)
theorem par_n (k : Nat) : (nI (k % 2)).toNatClampNeg = k % 2 := z_cl (by omega)
theorem drawRow_C {v : NV} {s : SV} {p0 N k : Nat} {L : List Nat} {k57 : Int32 → Int32 → PM → Option PM} (hv : NVok v) (hs : SVok v s) (hk : k < 6) :
    ∀ (m n i : Nat) (P : PM), i + m = L.length → m < n → CB P v s p0 L → R280 P (86 + k % 2) (shr v s p0 k) → R280 P (86 + (k + 1) % 2) (fun q => sumA (fun j => shr v s p0 k (L.getD j 0) * wt v s (L.getD j 0) q) i) →
    ∃ P', l_St_drawLots_85 k57 n (nI N) (nI k) (nI i) P = k57 (nI N) (nI (k + 1)) P' ∧ R280 P' (86 + (k + 1) % 2) (shr v s p0 (k + 1)) ∧ sm shy P P' := by
  intro m
  induction m with
  | zero =>
    intro n i P hi hn hX h2 h3
    obtain ⟨n, rfl⟩ : ∃ r, n = r + 1 := ⟨n - 1, by omega⟩
    obtain rfl : i = L.length := by omega
    have hl := nodup_len hX.2.1.1.2.2.2.1 hX.2.1.1.2.2.2.2
    rw [l_St_drawLots_85, hX.2.1.1.1, if_pos (nI_le (by omega) (by omega))]
    unfold j_St_drawLots_143
    rw [show (1 : Int32) = nI 1 from rfl, nI_add]
    exact ⟨P, rfl, fun q hq => by
      rw [h3 q hq]
      exact congrArg nI (shr_L hv hX.2.1.1.2.2.2.1 hX.2.1.1.2.2.2.2 hX.2.1.2.1), sm_refl⟩
  | succ m ih =>
    intro n i P hi hn hX h2 h3
    obtain ⟨n, rfl⟩ : ∃ r, n = r + 1 := ⟨n - 1, by omega⟩
    have hl := nodup_len hX.2.1.1.2.2.2.1 hX.2.1.1.2.2.2.2
    have hq : L.getD i 0 ∈ L := by
      rw [List.getD_eq_getElem?_getD, List.getElem?_eq_getElem (show i < L.length by omega)]
      exact List.getElem_mem _
    have h280 := hX.2.1.1.2.2.2.2 _ hq
    have hsh := shr_le (v := v) (s := s) (p0 := p0) (k := k) (by omega) h280
    obtain ⟨P1, g1, g2, g3⟩ := drawFrom_C (a2 := 86 + k % 2) (a3 := 86 + (k + 1) % 2) hv hs (by omega) hq hX (h2 _ h280) (by omega) h3
    have s1 : sm shy P P1 := sm_mono g3 (fun o q => by simp [shy] at q; simp; omega)
    rw [l_St_drawLots_85, hX.2.1.1.1, if_neg (nI_ge (by omega) (by omega)), if_neg (show ¬ (280 : Int32) ≤ nI i by simp (disch := omega) only [z_add, z_mul, z_sub, z_subm, z_addm, z_lt_t, z_lt_f, z_le_t, z_le_f, z_eq_t, z_eq_f, z_eqm, z_meq, z_mm, z_ltm, z_mlt, z_lem, z_mle, z_cl, z_ck, u1_1, u1_2, u2_1, u2_2, ↓reduceIte, Option.bind_some, Option.bind_none, bd2_some, lb_eq, and_true, and_false, true_and, false_and, not_true_eq_false, not_false_eq_true, eq_self_iff_true, if_true, if_false, Nat.reduceEqDiff, Nat.reduceAdd, Nat.reduceMul, Nat.reduceSub, Bool.false_eq_true, zl0, zl1, zl2, zl3, zl4, zl5, zl6, zl7, zl8, zl9, zl10, zl11, zl12, zl13, zl14, zl15, zl16, zl17, zl18, zl19, zl20, zl22, zl23, zl24, zl25, zl30, zl31, zl32, zl33, zl34, zl35, zl36, zl37, zl38, zl39, zl40, zl41, zl42, zl43, zl45, zl48, zl49, zl57, zl58, zl59, zl60, zl61, zl62, zl63, zl64, zl91, zl93, zl97, zl98, zl99, zl100, zl113, zl114, zl115, zl116, zl117, zl122, zl124, zl125, zl127, zl128, zl136, zl200, zl201, zl202, zl203, zl204, zl205, zl206, zl207, zl208, zl209, zl210, zl211, zl212, zl213, zl214, zl215, zl216, zl217, zl218, zl219, zl220, zl235, zl236, zl255, zl280, zl287, zl900, zl999, zl1000, zl1001, zl1136, zl1960, zl3000, zl3001, zl3002, zl3003, zl3004, zl3005, zl3006, zl3007, zl3008, zl3009, zl268435456, zl1000000000]), show (1 : Int32) = nI 1 from rfl, nI_add, show nI 1 = (1 : Int32) from rfl, and1, and1, z_ck (by omega) (by omega), z_ck (by omega) (by omega), z_ck (by omega) (by omega), par_n, par_n, z_cl (by omega), hX.2.1.1.2.1 i (by omega), g1, Option.bind_some, show (1 : Int32) = nI 1 from rfl, nI_add]
    obtain ⟨P2, r1, r2, r3⟩ := ih n (i + 1) P1 (by omega) (by omega) (CB_sh hX s1) (fun q hq => by rw [g3.1 (86 + k % 2) (by simp; omega)]; exact h2 q hq) g2
    exact ⟨P2, r1, r2, sm_trans s1 r3⟩
theorem drawLev_C {v : NV} {s : SV} {p0 N : Nat} {L : List Nat} (hv : NVok v) (hs : SVok v s) (hN : N ≤ 6) :
    ∀ (m n k : Nat) (P : PM), k + m = N → m < n → CB P v s p0 L → R280 P (86 + k % 2) (shr v s p0 k) →
    ∃ P', l_St_drawLots_57 n (nI N) (nI k) P = some P' ∧ R280 P' (86 + N % 2) (shr v s p0 N) ∧ sm shy P P' := by
  intro m
  induction m with
  | zero =>
    intro n k P hk hn hX h2
    obtain ⟨n, rfl⟩ : ∃ r, n = r + 1 := ⟨n - 1, by omega⟩
    obtain rfl : k = N := by omega
    rw [l_St_drawLots_57, if_pos (nI_le (by omega) (by omega))]
    exact ⟨P, rfl, h2, sm_refl⟩
  | succ m ih =>
    intro n k P hk hn hX h2
    obtain ⟨n, rfl⟩ : ∃ r, n = r + 1 := ⟨n - 1, by omega⟩
    have hl := nodup_len hX.2.1.1.2.2.2.1 hX.2.1.1.2.2.2.2
    have s1 : sm shy P (rowI P (86 + (k + 1) % 2) 0 280 (0 : Int32)) := sm_rowI sm_refl (by simp [shy]; omega)
    obtain ⟨P1, g1, g2, g3⟩ := drawRow_C (N := N) (k := k) (k57 := fun z0 z1 Pz => l_St_drawLots_57 n z0 z1 Pz) hv hs (by omega) L.length FU 0 (rowI P (86 + (k + 1) % 2) 0 280 (0 : Int32)) (by omega) (by have := FU_big; omega) (CB_sh hX s1) (fun q hq => by
      rw [rowI_1, if_neg (by omega)]; exact h2 q hq) (fun q hq => by
      rw [rowI_1, if_pos (by omega)]
      rfl)
    obtain ⟨P2, r1, r2, r3⟩ := ih n (k + 1) P1 (by omega) (by omega) (CB_sh hX (sm_trans s1 g3)) g2
    refine ⟨P2, ?_, r2, sm_trans s1 (sm_trans g3 r3)⟩
    rw [l_St_drawLots_57, if_neg (nI_ge (by omega) (by omega)), if_neg (show ¬ (6 : Int32) ≤ nI k by simp (disch := omega) only [z_add, z_mul, z_sub, z_subm, z_addm, z_lt_t, z_lt_f, z_le_t, z_le_f, z_eq_t, z_eq_f, z_eqm, z_meq, z_mm, z_ltm, z_mlt, z_lem, z_mle, z_cl, z_ck, u1_1, u1_2, u2_1, u2_2, ↓reduceIte, Option.bind_some, Option.bind_none, bd2_some, lb_eq, and_true, and_false, true_and, false_and, not_true_eq_false, not_false_eq_true, eq_self_iff_true, if_true, if_false, Nat.reduceEqDiff, Nat.reduceAdd, Nat.reduceMul, Nat.reduceSub, Bool.false_eq_true, zl0, zl1, zl2, zl3, zl4, zl5, zl6, zl7, zl8, zl9, zl10, zl11, zl12, zl13, zl14, zl15, zl16, zl17, zl18, zl19, zl20, zl22, zl23, zl24, zl25, zl30, zl31, zl32, zl33, zl34, zl35, zl36, zl37, zl38, zl39, zl40, zl41, zl42, zl43, zl45, zl48, zl49, zl57, zl58, zl59, zl60, zl61, zl62, zl63, zl64, zl91, zl93, zl97, zl98, zl99, zl100, zl113, zl114, zl115, zl116, zl117, zl122, zl124, zl125, zl127, zl128, zl136, zl200, zl201, zl202, zl203, zl204, zl205, zl206, zl207, zl208, zl209, zl210, zl211, zl212, zl213, zl214, zl215, zl216, zl217, zl218, zl219, zl220, zl235, zl236, zl255, zl280, zl287, zl900, zl999, zl1000, zl1001, zl1136, zl1960, zl3000, zl3001, zl3002, zl3003, zl3004, zl3005, zl3006, zl3007, zl3008, zl3009, zl268435456, zl1000000000]), show (1 : Int32) = nI 1 from rfl, nI_add, show nI 1 = (1 : Int32) from rfl, and1, z_ck (by omega) (by omega), par_n, fillAII (by omega), Option.bind_some, show (0 : Int32) = nI 0 from rfl]
    exact g1.trans r1
theorem drawLots_C {P : PM} {a : AS} {w N : Nat} (hC : CRep P a) (hok : AOk a) (hca : CCa P (aV a)) (hw : sW (aS a) = some w) (hN : N ≤ 6) :
    ∃ P', f_St_drawLots (nI N) P = some P' ∧ R280 P' (86 + N % 2) (shr (aV a) (aS a) (pl (aS a) w) N) ∧ CRep P' a ∧ CCa P' (aV a) ∧ sm cl P P' := by
  have hv := hok.1
  have hs := hok.2.1
  obtain ⟨h280, _, h7⟩ := pl_ok hv hs hw
  obtain ⟨L, P1, g1, g2, g3, g4, g5⟩ := expl_C hC hok hca hw hs.2.2.2.1
  have s1 : sm shy P1 (rowI P1 86 0 280 (0 : Int32)) := sm_rowI sm_refl rfl
  have s2 : sm shy P1 (u1 (rowI P1 86 0 280 (0 : Int32)) 86 (pl (aS a) w) (1 : Int32)) := sm_u1 s1 rfl
  have hX : CB P1 (aV a) (aS a) (pl (aS a) w) L := ⟨g3.1, g2, g3.2.1.2.2.2.1⟩
  obtain ⟨P2, r1, r2, r3⟩ := drawLev_C hv hs hN N FU 0 (u1 (rowI P1 86 0 280 (0 : Int32)) 86 (pl (aS a) w) (1 : Int32)) (by omega) (by have := FU_big; omega) (CB_sh hX s2) (fun q hq => by
    rw [u1_1]
    show (if 86 + 0 = 86 ∧ q = pl (aS a) w then _ else _) = nI (if q = pl (aS a) w then 1 else 0)
    by_cases e : q = pl (aS a) w
    · rw [if_pos ⟨rfl, e⟩, if_pos e]; rfl
    · rw [if_neg (fun h => e h.2), if_neg e, rowI_1, if_pos (by omega)]; rfl)
  have s3 := sm_trans s2 r3
  refine ⟨P2, ?_, r2, CRep_ce g3 (ce_sm s3 (fun o e => by simp [esr] at e; simp [shy]; omega) (by rw [s3.1 31 rfl]) (by rw [s3.1 31 rfl])), CCa_ro g4 (s3.1 59 rfl) (s3.1 60 rfl), sm_trans (xr_cl g5) (sm_mono s3 (fun o q => by simp [cl] at q; simp [shy]; omega))⟩
  unfold f_St_drawLots
  rw [hC.2.1.2.2.2.1, g1, Option.bind_some, fillAII (by omega), Option.bind_some, place_C (CSt_sm g3.2.1 s1 rfl rfl) hv hs hw, lb_eq, place_n _ (by omega), if_pos h280, if_neg (by decide), z_ck h280 (by omega), z_cl (by omega)]
  exact r1
theorem shareOf_C {P : PM} {v : NV} {s : SV} {p0 N st : Nat} (h : R280 P (86 + N % 2) (shr v s p0 N)) (hst : st < 7) : f_St_shareOf (nI st) (nI N) P = some (nI (shs v s p0 N st)) := by
  have loop : ∀ (m n z : Nat), z + m = 40 → m < n → l_St_shareOf_5 n (nI st) (nI N) (nI (sumA (fun z => shr v s p0 N (40 * st + z)) z)) (nI (z + 1)) P = some (nI (shs v s p0 N st)) := by
    intro m
    induction m with
    | zero =>
      intro n z hz hn
      obtain ⟨n, rfl⟩ : ∃ r, n = r + 1 := ⟨n - 1, by omega⟩
      obtain rfl : z = 40 := by omega
      rw [l_St_shareOf_5, if_pos (by decide)]
      rfl
    | succ m ih =>
      intro n z hz hn
      obtain ⟨n, rfl⟩ : ∃ r, n = r + 1 := ⟨n - 1, by omega⟩
      rw [l_St_shareOf_5, if_neg (show ¬ (40 : Int32) < nI (z + 1) by simp (disch := omega) only [z_add, z_mul, z_sub, z_subm, z_addm, z_lt_t, z_lt_f, z_le_t, z_le_f, z_eq_t, z_eq_f, z_eqm, z_meq, z_mm, z_ltm, z_mlt, z_lem, z_mle, z_cl, z_ck, u1_1, u1_2, u2_1, u2_2, ↓reduceIte, Option.bind_some, Option.bind_none, bd2_some, lb_eq, and_true, and_false, true_and, false_and, not_true_eq_false, not_false_eq_true, eq_self_iff_true, if_true, if_false, Nat.reduceEqDiff, Nat.reduceAdd, Nat.reduceMul, Nat.reduceSub, Bool.false_eq_true, zl0, zl1, zl2, zl3, zl4, zl5, zl6, zl7, zl8, zl9, zl10, zl11, zl12, zl13, zl14, zl15, zl16, zl17, zl18, zl19, zl20, zl22, zl23, zl24, zl25, zl30, zl31, zl32, zl33, zl34, zl35, zl36, zl37, zl38, zl39, zl40, zl41, zl42, zl43, zl45, zl48, zl49, zl57, zl58, zl59, zl60, zl61, zl62, zl63, zl64, zl91, zl93, zl97, zl98, zl99, zl100, zl113, zl114, zl115, zl116, zl117, zl122, zl124, zl125, zl127, zl128, zl136, zl200, zl201, zl202, zl203, zl204, zl205, zl206, zl207, zl208, zl209, zl210, zl211, zl212, zl213, zl214, zl215, zl216, zl217, zl218, zl219, zl220, zl235, zl236, zl255, zl280, zl287, zl900, zl999, zl1000, zl1001, zl1136, zl1960, zl3000, zl3001, zl3002, zl3003, zl3004, zl3005, zl3006, zl3007, zl3008, zl3009, zl268435456, zl1000000000]), plOf_n (by omega), lb_eq, show 40 * st + (z + 1) - 1 = 40 * st + z by omega, place_n _ (by omega), if_pos (show 40 * st + z < 280 by omega), if_neg (by decide), and1, z_ck (by omega) (by omega), z_ck (by omega) (by omega), par_n, z_cl (by omega), h _ (by omega)]
      unfold j_St_shareOf_44
      rw [nI_add, lb_eq, show (1 : Int32) = nI 1 from rfl, nI_add]
      exact ih n (z + 1) (by omega) (by omega)
  exact loop 40 FU 0 (by omega) (by have := FU_big; omega)
theorem sharesIn_C {P : PM} {N : Nat} (hN : N ≤ 6) : f_St_sharesIn (nI N) P = some (nI (10 ^ N)) := by
  have loop : ∀ (m n k : Nat), k + m = N → m < n → l_St_sharesIn_4 n (nI N) (nI (10 ^ k)) (nI k) P = some (nI (10 ^ N)) := by
    intro m
    induction m with
    | zero =>
      intro n k hk hn
      obtain ⟨n, rfl⟩ : ∃ r, n = r + 1 := ⟨n - 1, by omega⟩
      obtain rfl : k = N := by omega
      rw [l_St_sharesIn_4, if_pos (nI_le (by omega) (by omega))]
    | succ m ih =>
      intro n k hk hn
      obtain ⟨n, rfl⟩ : ∃ r, n = r + 1 := ⟨n - 1, by omega⟩
      rw [l_St_sharesIn_4, if_neg (nI_ge (by omega) (by omega)), if_neg (show ¬ (6 : Int32) ≤ nI k by simp (disch := omega) only [z_add, z_mul, z_sub, z_subm, z_addm, z_lt_t, z_lt_f, z_le_t, z_le_f, z_eq_t, z_eq_f, z_eqm, z_meq, z_mm, z_ltm, z_mlt, z_lem, z_mle, z_cl, z_ck, u1_1, u1_2, u2_1, u2_2, ↓reduceIte, Option.bind_some, Option.bind_none, bd2_some, lb_eq, and_true, and_false, true_and, false_and, not_true_eq_false, not_false_eq_true, eq_self_iff_true, if_true, if_false, Nat.reduceEqDiff, Nat.reduceAdd, Nat.reduceMul, Nat.reduceSub, Bool.false_eq_true, zl0, zl1, zl2, zl3, zl4, zl5, zl6, zl7, zl8, zl9, zl10, zl11, zl12, zl13, zl14, zl15, zl16, zl17, zl18, zl19, zl20, zl22, zl23, zl24, zl25, zl30, zl31, zl32, zl33, zl34, zl35, zl36, zl37, zl38, zl39, zl40, zl41, zl42, zl43, zl45, zl48, zl49, zl57, zl58, zl59, zl60, zl61, zl62, zl63, zl64, zl91, zl93, zl97, zl98, zl99, zl100, zl113, zl114, zl115, zl116, zl117, zl122, zl124, zl125, zl127, zl128, zl136, zl200, zl201, zl202, zl203, zl204, zl205, zl206, zl207, zl208, zl209, zl210, zl211, zl212, zl213, zl214, zl215, zl216, zl217, zl218, zl219, zl220, zl235, zl236, zl255, zl280, zl287, zl900, zl999, zl1000, zl1001, zl1136, zl1960, zl3000, zl3001, zl3002, zl3003, zl3004, zl3005, zl3006, zl3007, zl3008, zl3009, zl268435456, zl1000000000]), show (10 : Int32) = nI 10 from rfl, pk_mul, lb_eq, show (1 : Int32) = nI 1 from rfl, nI_add, ← Nat.pow_succ]
      exact ih n (k + 1) (by omega) (by omega)
  exact loop N FU 0 (by omega) (by have := FU_big; omega)
theorem cd_C {P : PM} : ∀ (m n a b i : Nat), b < 2 ^ m → i + 2 * m < 64 → 2 * m < n → a < 2147483648 → b < 2147483648 → l_Yr_commonDivisor_7 n (nI a) (nI b) (nI i) P = some (mx (1 : Int32) (nI (Nat.gcd a b))) := by
  intro m
  induction m with
  | zero =>
    intro n a b i hb hi hn ha hb2
    obtain ⟨n, rfl⟩ : ∃ r, n = r + 1 := ⟨n - 1, by omega⟩
    obtain rfl : b = 0 := by omega
    rw [l_Yr_commonDivisor_7, if_neg (show ¬ (64 : Int32) ≤ nI i by simp (disch := omega) only [z_add, z_mul, z_sub, z_subm, z_addm, z_lt_t, z_lt_f, z_le_t, z_le_f, z_eq_t, z_eq_f, z_eqm, z_meq, z_mm, z_ltm, z_mlt, z_lem, z_mle, z_cl, z_ck, u1_1, u1_2, u2_1, u2_2, ↓reduceIte, Option.bind_some, Option.bind_none, bd2_some, lb_eq, and_true, and_false, true_and, false_and, not_true_eq_false, not_false_eq_true, eq_self_iff_true, if_true, if_false, Nat.reduceEqDiff, Nat.reduceAdd, Nat.reduceMul, Nat.reduceSub, Bool.false_eq_true, zl0, zl1, zl2, zl3, zl4, zl5, zl6, zl7, zl8, zl9, zl10, zl11, zl12, zl13, zl14, zl15, zl16, zl17, zl18, zl19, zl20, zl22, zl23, zl24, zl25, zl30, zl31, zl32, zl33, zl34, zl35, zl36, zl37, zl38, zl39, zl40, zl41, zl42, zl43, zl45, zl48, zl49, zl57, zl58, zl59, zl60, zl61, zl62, zl63, zl64, zl91, zl93, zl97, zl98, zl99, zl100, zl113, zl114, zl115, zl116, zl117, zl122, zl124, zl125, zl127, zl128, zl136, zl200, zl201, zl202, zl203, zl204, zl205, zl206, zl207, zl208, zl209, zl210, zl211, zl212, zl213, zl214, zl215, zl216, zl217, zl218, zl219, zl220, zl235, zl236, zl255, zl280, zl287, zl900, zl999, zl1000, zl1001, zl1136, zl1960, zl3000, zl3001, zl3002, zl3003, zl3004, zl3005, zl3006, zl3007, zl3008, zl3009, zl268435456, zl1000000000]), if_pos (by decide), Nat.gcd_zero_right]
    rfl
  | succ m ih =>
    intro n a b i hb hi hn ha hb2
    obtain ⟨n, rfl⟩ : ∃ r, n = r + 1 + 1 := ⟨n - 2, by omega⟩
    by_cases c0 : b = 0
    · subst c0
      rw [l_Yr_commonDivisor_7, if_neg (show ¬ (64 : Int32) ≤ nI i by simp (disch := omega) only [z_add, z_mul, z_sub, z_subm, z_addm, z_lt_t, z_lt_f, z_le_t, z_le_f, z_eq_t, z_eq_f, z_eqm, z_meq, z_mm, z_ltm, z_mlt, z_lem, z_mle, z_cl, z_ck, u1_1, u1_2, u2_1, u2_2, ↓reduceIte, Option.bind_some, Option.bind_none, bd2_some, lb_eq, and_true, and_false, true_and, false_and, not_true_eq_false, not_false_eq_true, eq_self_iff_true, if_true, if_false, Nat.reduceEqDiff, Nat.reduceAdd, Nat.reduceMul, Nat.reduceSub, Bool.false_eq_true, zl0, zl1, zl2, zl3, zl4, zl5, zl6, zl7, zl8, zl9, zl10, zl11, zl12, zl13, zl14, zl15, zl16, zl17, zl18, zl19, zl20, zl22, zl23, zl24, zl25, zl30, zl31, zl32, zl33, zl34, zl35, zl36, zl37, zl38, zl39, zl40, zl41, zl42, zl43, zl45, zl48, zl49, zl57, zl58, zl59, zl60, zl61, zl62, zl63, zl64, zl91, zl93, zl97, zl98, zl99, zl100, zl113, zl114, zl115, zl116, zl117, zl122, zl124, zl125, zl127, zl128, zl136, zl200, zl201, zl202, zl203, zl204, zl205, zl206, zl207, zl208, zl209, zl210, zl211, zl212, zl213, zl214, zl215, zl216, zl217, zl218, zl219, zl220, zl235, zl236, zl255, zl280, zl287, zl900, zl999, zl1000, zl1001, zl1136, zl1960, zl3000, zl3001, zl3002, zl3003, zl3004, zl3005, zl3006, zl3007, zl3008, zl3009, zl268435456, zl1000000000]), if_pos (by decide), Nat.gcd_zero_right]
      rfl
    · have hr : a % b < b := Nat.mod_lt _ (by omega)
      have d1 : ¬ nI b = (0 : Int32) := by simp (disch := omega) only [z_add, z_mul, z_sub, z_subm, z_addm, z_lt_t, z_lt_f, z_le_t, z_le_f, z_eq_t, z_eq_f, z_eqm, z_meq, z_mm, z_ltm, z_mlt, z_lem, z_mle, z_cl, z_ck, u1_1, u1_2, u2_1, u2_2, ↓reduceIte, Option.bind_some, Option.bind_none, bd2_some, lb_eq, and_true, and_false, true_and, false_and, not_true_eq_false, not_false_eq_true, eq_self_iff_true, if_true, if_false, Nat.reduceEqDiff, Nat.reduceAdd, Nat.reduceMul, Nat.reduceSub, Bool.false_eq_true, zl0, zl1, zl2, zl3, zl4, zl5, zl6, zl7, zl8, zl9, zl10, zl11, zl12, zl13, zl14, zl15, zl16, zl17, zl18, zl19, zl20, zl22, zl23, zl24, zl25, zl30, zl31, zl32, zl33, zl34, zl35, zl36, zl37, zl38, zl39, zl40, zl41, zl42, zl43, zl45, zl48, zl49, zl57, zl58, zl59, zl60, zl61, zl62, zl63, zl64, zl91, zl93, zl97, zl98, zl99, zl100, zl113, zl114, zl115, zl116, zl117, zl122, zl124, zl125, zl127, zl128, zl136, zl200, zl201, zl202, zl203, zl204, zl205, zl206, zl207, zl208, zl209, zl210, zl211, zl212, zl213, zl214, zl215, zl216, zl217, zl218, zl219, zl220, zl235, zl236, zl255, zl280, zl287, zl900, zl999, zl1000, zl1001, zl1136, zl1960, zl3000, zl3001, zl3002, zl3003, zl3004, zl3005, zl3006, zl3007, zl3008, zl3009, zl268435456, zl1000000000]
      have e1 : Nat.gcd a b = Nat.gcd b (a % b) := by rw [Nat.gcd_comm a b, Nat.gcd_rec b a, Nat.gcd_comm]
      rw [l_Yr_commonDivisor_7, if_neg (show ¬ (64 : Int32) ≤ nI i by simp (disch := omega) only [z_add, z_mul, z_sub, z_subm, z_addm, z_lt_t, z_lt_f, z_le_t, z_le_f, z_eq_t, z_eq_f, z_eqm, z_meq, z_mm, z_ltm, z_mlt, z_lem, z_mle, z_cl, z_ck, u1_1, u1_2, u2_1, u2_2, ↓reduceIte, Option.bind_some, Option.bind_none, bd2_some, lb_eq, and_true, and_false, true_and, false_and, not_true_eq_false, not_false_eq_true, eq_self_iff_true, if_true, if_false, Nat.reduceEqDiff, Nat.reduceAdd, Nat.reduceMul, Nat.reduceSub, Bool.false_eq_true, zl0, zl1, zl2, zl3, zl4, zl5, zl6, zl7, zl8, zl9, zl10, zl11, zl12, zl13, zl14, zl15, zl16, zl17, zl18, zl19, zl20, zl22, zl23, zl24, zl25, zl30, zl31, zl32, zl33, zl34, zl35, zl36, zl37, zl38, zl39, zl40, zl41, zl42, zl43, zl45, zl48, zl49, zl57, zl58, zl59, zl60, zl61, zl62, zl63, zl64, zl91, zl93, zl97, zl98, zl99, zl100, zl113, zl114, zl115, zl116, zl117, zl122, zl124, zl125, zl127, zl128, zl136, zl200, zl201, zl202, zl203, zl204, zl205, zl206, zl207, zl208, zl209, zl210, zl211, zl212, zl213, zl214, zl215, zl216, zl217, zl218, zl219, zl220, zl235, zl236, zl255, zl280, zl287, zl900, zl999, zl1000, zl1001, zl1136, zl1960, zl3000, zl3001, zl3002, zl3003, zl3004, zl3005, zl3006, zl3007, zl3008, zl3009, zl268435456, zl1000000000]), if_neg d1, decide_eq_true d1, ck_t rfl, pk_rem (by omega) (by omega) (by omega), lb_eq, show (1 : Int32) = nI 1 from rfl, nI_add, e1]
      by_cases c1 : a % b = 0
      · rw [c1, l_Yr_commonDivisor_7, if_neg (show ¬ (64 : Int32) ≤ nI (i + 1) by simp (disch := omega) only [z_add, z_mul, z_sub, z_subm, z_addm, z_lt_t, z_lt_f, z_le_t, z_le_f, z_eq_t, z_eq_f, z_eqm, z_meq, z_mm, z_ltm, z_mlt, z_lem, z_mle, z_cl, z_ck, u1_1, u1_2, u2_1, u2_2, ↓reduceIte, Option.bind_some, Option.bind_none, bd2_some, lb_eq, and_true, and_false, true_and, false_and, not_true_eq_false, not_false_eq_true, eq_self_iff_true, if_true, if_false, Nat.reduceEqDiff, Nat.reduceAdd, Nat.reduceMul, Nat.reduceSub, Bool.false_eq_true, zl0, zl1, zl2, zl3, zl4, zl5, zl6, zl7, zl8, zl9, zl10, zl11, zl12, zl13, zl14, zl15, zl16, zl17, zl18, zl19, zl20, zl22, zl23, zl24, zl25, zl30, zl31, zl32, zl33, zl34, zl35, zl36, zl37, zl38, zl39, zl40, zl41, zl42, zl43, zl45, zl48, zl49, zl57, zl58, zl59, zl60, zl61, zl62, zl63, zl64, zl91, zl93, zl97, zl98, zl99, zl100, zl113, zl114, zl115, zl116, zl117, zl122, zl124, zl125, zl127, zl128, zl136, zl200, zl201, zl202, zl203, zl204, zl205, zl206, zl207, zl208, zl209, zl210, zl211, zl212, zl213, zl214, zl215, zl216, zl217, zl218, zl219, zl220, zl235, zl236, zl255, zl280, zl287, zl900, zl999, zl1000, zl1001, zl1136, zl1960, zl3000, zl3001, zl3002, zl3003, zl3004, zl3005, zl3006, zl3007, zl3008, zl3009, zl268435456, zl1000000000]), if_pos (by decide), Nat.gcd_zero_right]
        rfl
      · have hr2 : b % (a % b) < a % b := Nat.mod_lt _ (by omega)
        have d2 : ¬ nI (a % b) = (0 : Int32) := by simp (disch := omega) only [z_add, z_mul, z_sub, z_subm, z_addm, z_lt_t, z_lt_f, z_le_t, z_le_f, z_eq_t, z_eq_f, z_eqm, z_meq, z_mm, z_ltm, z_mlt, z_lem, z_mle, z_cl, z_ck, u1_1, u1_2, u2_1, u2_2, ↓reduceIte, Option.bind_some, Option.bind_none, bd2_some, lb_eq, and_true, and_false, true_and, false_and, not_true_eq_false, not_false_eq_true, eq_self_iff_true, if_true, if_false, Nat.reduceEqDiff, Nat.reduceAdd, Nat.reduceMul, Nat.reduceSub, Bool.false_eq_true, zl0, zl1, zl2, zl3, zl4, zl5, zl6, zl7, zl8, zl9, zl10, zl11, zl12, zl13, zl14, zl15, zl16, zl17, zl18, zl19, zl20, zl22, zl23, zl24, zl25, zl30, zl31, zl32, zl33, zl34, zl35, zl36, zl37, zl38, zl39, zl40, zl41, zl42, zl43, zl45, zl48, zl49, zl57, zl58, zl59, zl60, zl61, zl62, zl63, zl64, zl91, zl93, zl97, zl98, zl99, zl100, zl113, zl114, zl115, zl116, zl117, zl122, zl124, zl125, zl127, zl128, zl136, zl200, zl201, zl202, zl203, zl204, zl205, zl206, zl207, zl208, zl209, zl210, zl211, zl212, zl213, zl214, zl215, zl216, zl217, zl218, zl219, zl220, zl235, zl236, zl255, zl280, zl287, zl900, zl999, zl1000, zl1001, zl1136, zl1960, zl3000, zl3001, zl3002, zl3003, zl3004, zl3005, zl3006, zl3007, zl3008, zl3009, zl268435456, zl1000000000]
        have e2 : Nat.gcd b (a % b) = Nat.gcd (a % b) (b % (a % b)) := by rw [Nat.gcd_comm b (a % b), Nat.gcd_rec (a % b) b, Nat.gcd_comm]
        rw [l_Yr_commonDivisor_7, if_neg (show ¬ (64 : Int32) ≤ nI (i + 1) by simp (disch := omega) only [z_add, z_mul, z_sub, z_subm, z_addm, z_lt_t, z_lt_f, z_le_t, z_le_f, z_eq_t, z_eq_f, z_eqm, z_meq, z_mm, z_ltm, z_mlt, z_lem, z_mle, z_cl, z_ck, u1_1, u1_2, u2_1, u2_2, ↓reduceIte, Option.bind_some, Option.bind_none, bd2_some, lb_eq, and_true, and_false, true_and, false_and, not_true_eq_false, not_false_eq_true, eq_self_iff_true, if_true, if_false, Nat.reduceEqDiff, Nat.reduceAdd, Nat.reduceMul, Nat.reduceSub, Bool.false_eq_true, zl0, zl1, zl2, zl3, zl4, zl5, zl6, zl7, zl8, zl9, zl10, zl11, zl12, zl13, zl14, zl15, zl16, zl17, zl18, zl19, zl20, zl22, zl23, zl24, zl25, zl30, zl31, zl32, zl33, zl34, zl35, zl36, zl37, zl38, zl39, zl40, zl41, zl42, zl43, zl45, zl48, zl49, zl57, zl58, zl59, zl60, zl61, zl62, zl63, zl64, zl91, zl93, zl97, zl98, zl99, zl100, zl113, zl114, zl115, zl116, zl117, zl122, zl124, zl125, zl127, zl128, zl136, zl200, zl201, zl202, zl203, zl204, zl205, zl206, zl207, zl208, zl209, zl210, zl211, zl212, zl213, zl214, zl215, zl216, zl217, zl218, zl219, zl220, zl235, zl236, zl255, zl280, zl287, zl900, zl999, zl1000, zl1001, zl1136, zl1960, zl3000, zl3001, zl3002, zl3003, zl3004, zl3005, zl3006, zl3007, zl3008, zl3009, zl268435456, zl1000000000]), if_neg d2, decide_eq_true d2, ck_t rfl, pk_rem (by omega) (by omega) (by omega), lb_eq, show (1 : Int32) = nI 1 from rfl, nI_add, e2]
        exact ih n _ _ (i + 1 + 1) (gcd_step hb c1) (by omega) (by omega) (by omega) (by omega)
theorem common_C {P : PM} {a b : Nat} (ha : a ≤ 1000000) (hb : b ≤ 1000000) (h0 : 0 < b) : f_Yr_commonDivisor (nI a) (nI b) P = some (nI (Nat.gcd a b)) := by
  have hg : 0 < Nat.gcd a b := Nat.gcd_pos_of_pos_right _ h0
  have hg2 : Nat.gcd a b ≤ b := Nat.gcd_le_right _ h0
  unfold f_Yr_commonDivisor
  rw [show (0 : Int32) = nI 0 from rfl, cd_C 20 FU a b 0 (by omega) (by omega) (by have := FU_big; omega) (by omega) (by omega)]
  unfold mx
  by_cases e : Nat.gcd a b = 1
  · rw [e]; rfl
  · rw [if_pos (show (1 : Int32) < nI (Nat.gcd a b) by simp (disch := omega) only [z_add, z_mul, z_sub, z_subm, z_addm, z_lt_t, z_lt_f, z_le_t, z_le_f, z_eq_t, z_eq_f, z_eqm, z_meq, z_mm, z_ltm, z_mlt, z_lem, z_mle, z_cl, z_ck, u1_1, u1_2, u2_1, u2_2, ↓reduceIte, Option.bind_some, Option.bind_none, bd2_some, lb_eq, and_true, and_false, true_and, false_and, not_true_eq_false, not_false_eq_true, eq_self_iff_true, if_true, if_false, Nat.reduceEqDiff, Nat.reduceAdd, Nat.reduceMul, Nat.reduceSub, Bool.false_eq_true, zl0, zl1, zl2, zl3, zl4, zl5, zl6, zl7, zl8, zl9, zl10, zl11, zl12, zl13, zl14, zl15, zl16, zl17, zl18, zl19, zl20, zl22, zl23, zl24, zl25, zl30, zl31, zl32, zl33, zl34, zl35, zl36, zl37, zl38, zl39, zl40, zl41, zl42, zl43, zl45, zl48, zl49, zl57, zl58, zl59, zl60, zl61, zl62, zl63, zl64, zl91, zl93, zl97, zl98, zl99, zl100, zl113, zl114, zl115, zl116, zl117, zl122, zl124, zl125, zl127, zl128, zl136, zl200, zl201, zl202, zl203, zl204, zl205, zl206, zl207, zl208, zl209, zl210, zl211, zl212, zl213, zl214, zl215, zl216, zl217, zl218, zl219, zl220, zl235, zl236, zl255, zl280, zl287, zl900, zl999, zl1000, zl1001, zl1136, zl1960, zl3000, zl3001, zl3002, zl3003, zl3004, zl3005, zl3006, zl3007, zl3008, zl3009, zl268435456, zl1000000000])]
def lkS (S : Nat → Nat) (x : Option Nat) : Nat := match x with | none => 0 | some b => S b
theorem lk_s (S : Nat → Nat) (t : Nat) : lk S (t + 1) = if lkS S (lk S t) < S t then some t else lk S t := rfl
theorem greatest_C {P : PM} {v : NV} {s : SV} {p0 N : Nat} (hv : NVok v) (hn : CNet P 14 v) (h : R280 P (86 + N % 2) (shr v s p0 N)) (hN : N ≤ 6) : f_St_greatestShare (nI N) P = some (oI (lk (shs v s p0 N) (vN v))) := by
  have hN7 := hv.1
  have h6 := ten6 hN
  have hS : ∀ st, st < 7 → shs v s p0 N st ≤ 1000000 := fun st hst => Nat.le_trans (shs_le hst) h6
  have loop : ∀ (m n t : Nat), t + m = vN v → m < n → l_St_greatestShare_7 n (nI N) (oI (lk (shs v s p0 N) t)) (nI (lkS (shs v s p0 N) (lk (shs v s p0 N) t))) (nI t) P = some (oI (lk (shs v s p0 N) (vN v))) := by
    intro m
    induction m with
    | zero =>
      intro n t ht hn2
      obtain ⟨n, rfl⟩ : ∃ r, n = r + 1 := ⟨n - 1, by omega⟩
      obtain rfl : t = vN v := by omega
      rw [l_St_greatestShare_7, hn.1, if_pos (nI_le (by omega) (by omega))]
    | succ m ih =>
      intro n t ht hn2
      obtain ⟨n, rfl⟩ : ∃ r, n = r + 1 := ⟨n - 1, by omega⟩
      have hb : lkS (shs v s p0 N) (lk (shs v s p0 N) t) ≤ 1000000 := by
        cases e : lk (shs v s p0 N) t with
        | none => exact Nat.zero_le _
        | some b =>
          have hb7 : b < 7 := by have := lk_lt e; omega
          exact hS b hb7
      have ht7 := hS t (by omega)
      have r := ih n (t + 1) (by omega) (by omega)
      rw [l_St_greatestShare_7, hn.1, if_neg (nI_ge (by omega) (by omega)), shareOf_C h (by omega), Option.bind_some]
      unfold j_St_greatestShare_41
      rw [show (1 : Int32) = nI 1 from rfl, nI_add]
      by_cases c : lkS (shs v s p0 N) (lk (shs v s p0 N) t) < shs v s p0 N t
      · rw [lk_s, if_pos c] at r
        rw [if_neg (nI_ge c (by omega)), Option.bind_some]
        exact r
      · rw [lk_s, if_neg c] at r
        rw [if_pos (nI_le (by omega) (by omega))]
        exact r
  exact loop (vN v) FU 0 (by omega) (by have := FU_big; omega)
