/-! where all passings bring, what is reached: the reference -/
theorem gw_why {v : NV} {s : SV} {sl w z t : Nat} : gw v s sl w z t = if why v w z t (sD s t) sl = 0 then some (pss v w z t (sD s t)) else none := by
  unfold gw why car
  by_cases h0 : vH v w t = 0
  · simp [h0]
  · by_cases h1 : sl.testBit t = true
    · simp [h0, h1]
    · by_cases h2 : tks v w z t (sD s t) = true
      · simp [h0, h1, h2]
      · simp [h0, h1, h2]
/-- of a stand: 41 * station + size -/
noncomputable def gwM (v : NV) (s : SV) (sl k t : Nat) : Option Nat := if k % 41 = 0 then none else gw v s sl (k / 41) (k % 41) t
def TH (P : PM) (v : NV) (s : SV) (sl : Nat) : Prop := ∀ k t, k < 287 → t < 7 → P.1 117 (7 * k + t) = oI ((gwM v s sl k t).map (fun z => 41 * t + z))
def thr (o : Nat) : Bool := o == 114 || o == 115 || o == 117
def THp (P : PM) (v : NV) (s : SV) (sl k t : Nat) : Prop := ∀ k' t', k' < 287 → t' < 7 → 7 * k' + t' < 7 * k + t → P.1 117 (7 * k' + t') = oI ((gwM v s sl k' t').map (fun z => 41 * t' + z))
theorem then_in {v : NV} {s : SV} {sl : Nat} {k2 : Int32 → Int32 → PM → Option PM} (hv : NVok v) (hs : SVok v s) (hsl : sl < 2 ^ vN v) (k : Nat) (hk : k < 287) :
    ∀ (m n t : Nat) (P : PM), t + m = 7 → m < n → MNet P 110 0 v → (∀ j, j < 7 → P.1 110 (117 + j) = nI (sD s j)) → THp P v s sl k t →
    ∃ P', l_Mo_laysThen_17 k2 n (nI sl) (nI k) (nI (k / 41)) (nI t) P = k2 (nI sl) (nI (k + 1)) P' ∧ THp P' v s sl (k + 1) 0 ∧ sm thr P P' := by
  have hN := hv.1
  have h7 := pw_le hN
  intro m
  induction m with
  | zero =>
    intro n t P ht hn h1 h2 h3
    obtain ⟨n, rfl⟩ : ∃ r, n = r + 1 := ⟨n - 1, by omega⟩
    rw [l_Mo_laysThen_17, if_pos (show (7 : Int32) ≤ nI t from (nI_le (by omega) (by omega) : nI 7 ≤ nI t)), show (1 : Int32) = nI 1 from rfl, nI_add]
    exact ⟨P, rfl, fun k' t' a b c => h3 k' t' a b (by omega), sm_refl⟩
  | succ m ih =>
    intro n t P ht hn h1 h2 h3
    obtain ⟨n, rfl⟩ : ∃ r, n = r + 1 := ⟨n - 1, by omega⟩
    have put : ∀ (x : Int32) (P1 : PM), x = oI ((gwM v s sl k t).map (fun z => 41 * t + z)) → sm thr P P1 → P1.1 117 = P.1 117 →
        ∃ P', j_Mo_laysThen_110 k2 (fun z0 z1 z2 z3 Pz => l_Mo_laysThen_17 k2 n z0 z1 z2 z3 Pz) (nI sl) (nI k) (nI (k / 41)) (nI t) (nI (7 * k + t)) x P1 = k2 (nI sl) (nI (k + 1)) P' ∧ THp P' v s sl (k + 1) 0 ∧ sm thr P P' := by
      intro x P1 hx hs1 h117
      have s2 : sm thr P (u1 P1 117 (7 * k + t) x) := sm_u1 hs1 rfl
      obtain ⟨P2, r1, r2, r3⟩ := ih n (t + 1) (u1 P1 117 (7 * k + t) x) (by omega) (by omega) (MNet_sm h1 s2 rfl) (fun j hj => by rw [s2.1 110 rfl]; exact h2 j hj) (fun k' t' a b c => by
        rw [u1_1]
        by_cases e : 7 * k' + t' = 7 * k + t
        · obtain rfl : k' = k := by omega
          obtain rfl : t' = t := by omega
          rw [if_pos ⟨rfl, e⟩, hx]
        · rw [if_neg (fun q => e q.2), h117]
          exact h3 k' t' a b (by omega))
      refine ⟨P2, ?_, r2, sm_trans s2 r3⟩
      unfold j_Mo_laysThen_110
      rw [z_ck (by omega) (by omega), z_cl (by omega), show (1 : Int32) = nI 1 from rfl, nI_add]
      exact r1
    have h71 : ∀ (P1 : PM), gwM v s sl k t = none → sm thr P P1 → P1.1 117 = P.1 117 →
        ∃ P', j_Mo_laysThen_71 k2 (fun z0 z1 z2 z3 Pz => l_Mo_laysThen_17 k2 n z0 z1 z2 z3 Pz) (nI sl) (nI k) (nI (k / 41)) (nI t) P1 = k2 (nI sl) (nI (k + 1)) P' ∧ THp P' v s sl (k + 1) 0 ∧ sm thr P P' := by
      intro P1 hg hs1 h117
      unfold j_Mo_laysThen_71 j_Mo_laysThen_72
      rw [if_pos rfl, show (7 : Int32) = nI 7 from rfl, pk_mul, nI_add]
      exact put _ P1 (by rw [hg]; rfl) hs1 h117
    have hrem : nI k - nI k / (41 : Int32) * (41 : Int32) = nI (k % 41) := by rw [show (41 : Int32) = nI 41 from rfl, pk_rem (by omega) (by omega) (by omega)]
    rw [l_Mo_laysThen_17, if_neg (by simp (disch := omega) only [z_add, z_mul, z_sub, z_subm, z_addm, z_lt_t, z_lt_f, z_le_t, z_le_f, z_eq_t, z_eq_f, z_eqm, z_meq, z_mm, z_ltm, z_mlt, z_lem, z_mle, z_cl, z_ck, u1_1, u1_2, u2_1, u2_2, ↓reduceIte, Option.bind_some, Option.bind_none, bd2_some, lb_eq, and_true, and_false, true_and, false_and, not_true_eq_false, not_false_eq_true, eq_self_iff_true, if_true, if_false, Nat.reduceEqDiff, Nat.reduceAdd, Nat.reduceMul, Nat.reduceSub, Bool.false_eq_true, zl0, zl1, zl2, zl3, zl4, zl5, zl6, zl7, zl8, zl9, zl10, zl11, zl12, zl13, zl14, zl15, zl16, zl17, zl18, zl19, zl20, zl22, zl23, zl24, zl25, zl30, zl31, zl32, zl33, zl34, zl35, zl36, zl37, zl38, zl39, zl40, zl41, zl42, zl43, zl45, zl48, zl49, zl57, zl58, zl59, zl60, zl61, zl62, zl63, zl64, zl91, zl93, zl97, zl98, zl99, zl100, zl113, zl114, zl115, zl116, zl117, zl122, zl124, zl125, zl127, zl128, zl136, zl200, zl201, zl202, zl203, zl204, zl205, zl206, zl207, zl208, zl209, zl210, zl211, zl212, zl213, zl214, zl215, zl216, zl217, zl218, zl219, zl220, zl235, zl236, zl255, zl280, zl287, zl900, zl999, zl1000, zl1001, zl1136, zl1960, zl3000, zl3001, zl3002, zl3003, zl3004, zl3005, zl3006, zl3007, zl3008, zl3009, zl268435456, zl1000000000]), show P.1 110 (1 : Int32).toNatClampNeg = nI (vN v) from h1.1, hrem]
    by_cases c1 : vN v ≤ k / 41
    · rw [if_pos (nI_le c1 (by omega))]
      refine h71 P ?_ sm_refl rfl
      unfold gwM
      split
      · rfl
      · cases e : gw v s sl (k / 41) (k % 41) t with
        | none => rfl
        | some z => have := (gw_N hv e).1; omega
    rw [if_neg (nI_ge (by omega) (by omega))]
    by_cases c2 : vN v ≤ t
    · rw [if_pos (nI_le c2 (by omega))]
      refine h71 P ?_ sm_refl rfl
      unfold gwM
      split
      · rfl
      · cases e : gw v s sl (k / 41) (k % 41) t with
        | none => rfl
        | some z => have := (gw_N hv e).2.1; omega
    rw [if_neg (nI_ge (by omega) (by omega))]
    by_cases c3 : k % 41 = 0
    · rw [if_pos (by rw [c3]; decide)]
      exact h71 P (by unfold gwM; rw [if_pos c3]) sm_refl rfl
    rw [if_neg (by simp (disch := omega) only [z_add, z_mul, z_sub, z_subm, z_addm, z_lt_t, z_lt_f, z_le_t, z_le_f, z_eq_t, z_eq_f, z_eqm, z_meq, z_mm, z_ltm, z_mlt, z_lem, z_mle, z_cl, z_ck, u1_1, u1_2, u2_1, u2_2, ↓reduceIte, Option.bind_some, Option.bind_none, bd2_some, lb_eq, and_true, and_false, true_and, false_and, not_true_eq_false, not_false_eq_true, eq_self_iff_true, if_true, if_false, Nat.reduceEqDiff, Nat.reduceAdd, Nat.reduceMul, Nat.reduceSub, Bool.false_eq_true, zl0, zl1, zl2, zl3, zl4, zl5, zl6, zl7, zl8, zl9, zl10, zl11, zl12, zl13, zl14, zl15, zl16, zl17, zl18, zl19, zl20, zl22, zl23, zl24, zl25, zl30, zl31, zl32, zl33, zl34, zl35, zl36, zl37, zl38, zl39, zl40, zl41, zl42, zl43, zl45, zl48, zl49, zl57, zl58, zl59, zl60, zl61, zl62, zl63, zl64, zl91, zl93, zl97, zl98, zl99, zl100, zl113, zl114, zl115, zl116, zl117, zl122, zl124, zl125, zl127, zl128, zl136, zl200, zl201, zl202, zl203, zl204, zl205, zl206, zl207, zl208, zl209, zl210, zl211, zl212, zl213, zl214, zl215, zl216, zl217, zl218, zl219, zl220, zl235, zl236, zl255, zl280, zl287, zl900, zl999, zl1000, zl1001, zl1136, zl1960, zl3000, zl3001, zl3002, zl3003, zl3004, zl3005, zl3006, zl3007, zl3008, zl3009, zl268435456, zl1000000000])]
    obtain ⟨P1, g1, g2⟩ := whyBy_M (z := k % 41) (sl := sl) h1 hv (show k / 41 < 7 by omega) (show t < 7 by omega) (h2 t (by omega)) (by omega)
    have hwl := @why_lt v (k / 41) (k % 41) t (sD s t) sl
    have s1 : sm thr P P1 := sm_mono g2 (fun o q => by simp [thr] at q; simp; omega)
    rw [g1, bd2_some]
    by_cases c4 : why v (k / 41) (k % 41) t (sD s t) sl = 0
    · obtain ⟨P2, b1, b2⟩ := passedTo_M (z := k % 41) (MNet_sm h1 g2 rfl) hv (show k / 41 < 7 by omega) (show t < 7 by omega) (by omega) (by rw [g2.1 110 rfl]; exact h2 t (by omega))
      have hp := pss_le (v := v) (s := k / 41) (z := k % 41) (t := t) (d := sD s t) (by omega)
      rw [if_pos (by rw [c4]; rfl)]
      unfold j_Mo_laysThen_72
      rw [if_neg (by decide), hrem, b1, bd2_some, show (7 : Int32) = nI 7 from rfl, pk_mul, nI_add]
      refine put _ P2 ?_ (sm_trans s1 (sm_mono b2 (fun o q => by simp [thr] at q; simp; omega))) (by rw [b2.1 117 rfl, g2.1 117 rfl])
      unfold f_Mo_standOf gwM
      rw [if_neg c3, gw_why, if_pos c4, show (41 : Int32) = nI 41 from rfl, pk_mul, nI_add]
      rfl
    · rw [if_neg (by simp (disch := omega) only [z_add, z_mul, z_sub, z_subm, z_addm, z_lt_t, z_lt_f, z_le_t, z_le_f, z_eq_t, z_eq_f, z_eqm, z_meq, z_mm, z_ltm, z_mlt, z_lem, z_mle, z_cl, z_ck, u1_1, u1_2, u2_1, u2_2, ↓reduceIte, Option.bind_some, Option.bind_none, bd2_some, lb_eq, and_true, and_false, true_and, false_and, not_true_eq_false, not_false_eq_true, eq_self_iff_true, if_true, if_false, Nat.reduceEqDiff, Nat.reduceAdd, Nat.reduceMul, Nat.reduceSub, Bool.false_eq_true, zl0, zl1, zl2, zl3, zl4, zl5, zl6, zl7, zl8, zl9, zl10, zl11, zl12, zl13, zl14, zl15, zl16, zl17, zl18, zl19, zl20, zl22, zl23, zl24, zl25, zl30, zl31, zl32, zl33, zl34, zl35, zl36, zl37, zl38, zl39, zl40, zl41, zl42, zl43, zl45, zl48, zl49, zl57, zl58, zl59, zl60, zl61, zl62, zl63, zl64, zl91, zl93, zl97, zl98, zl99, zl100, zl113, zl114, zl115, zl116, zl117, zl122, zl124, zl125, zl127, zl128, zl136, zl200, zl201, zl202, zl203, zl204, zl205, zl206, zl207, zl208, zl209, zl210, zl211, zl212, zl213, zl214, zl215, zl216, zl217, zl218, zl219, zl220, zl235, zl236, zl255, zl280, zl287, zl900, zl999, zl1000, zl1001, zl1136, zl1960, zl3000, zl3001, zl3002, zl3003, zl3004, zl3005, zl3006, zl3007, zl3008, zl3009, zl268435456, zl1000000000])]
      refine h71 P1 ?_ s1 (g2.1 117 rfl)
      unfold gwM
      rw [if_neg c3, gw_why, if_neg c4]
theorem laysThen_M {P : PM} {v : NV} {s : SV} {sl : Nat} (hv : NVok v) (hs : SVok v s) (hsl : sl < 2 ^ vN v) (h1 : MNet P 110 0 v) (h2 : ∀ j, j < 7 → P.1 110 (117 + j) = nI (sD s j)) :
    ∃ P', f_Mo_laysThen (nI sl) P = some P' ∧ TH P' v s sl ∧ sm thr P P' := by
  have loop : ∀ (m n k : Nat) (P : PM), k + m = 287 → m < n → MNet P 110 0 v → (∀ j, j < 7 → P.1 110 (117 + j) = nI (sD s j)) → THp P v s sl k 0 → ∃ P', l_Mo_laysThen_2 n (nI sl) (nI k) P = some P' ∧ TH P' v s sl ∧ sm thr P P' := by
    intro m
    induction m with
    | zero =>
      intro n k P hk hn h1 h2 h3
      obtain ⟨n, rfl⟩ : ∃ r, n = r + 1 := ⟨n - 1, by omega⟩
      rw [l_Mo_laysThen_2, if_pos (show (287 : Int32) ≤ nI k from (nI_le (by omega) (by omega) : nI 287 ≤ nI k))]
      exact ⟨P, rfl, fun k' t' a b => h3 k' t' a b (by omega), sm_refl⟩
    | succ m ih =>
      intro n k P hk hn h1 h2 h3
      obtain ⟨n, rfl⟩ : ∃ r, n = r + 1 := ⟨n - 1, by omega⟩
      rw [l_Mo_laysThen_2, if_neg (by simp (disch := omega) only [z_add, z_mul, z_sub, z_subm, z_addm, z_lt_t, z_lt_f, z_le_t, z_le_f, z_eq_t, z_eq_f, z_eqm, z_meq, z_mm, z_ltm, z_mlt, z_lem, z_mle, z_cl, z_ck, u1_1, u1_2, u2_1, u2_2, ↓reduceIte, Option.bind_some, Option.bind_none, bd2_some, lb_eq, and_true, and_false, true_and, false_and, not_true_eq_false, not_false_eq_true, eq_self_iff_true, if_true, if_false, Nat.reduceEqDiff, Nat.reduceAdd, Nat.reduceMul, Nat.reduceSub, Bool.false_eq_true, zl0, zl1, zl2, zl3, zl4, zl5, zl6, zl7, zl8, zl9, zl10, zl11, zl12, zl13, zl14, zl15, zl16, zl17, zl18, zl19, zl20, zl22, zl23, zl24, zl25, zl30, zl31, zl32, zl33, zl34, zl35, zl36, zl37, zl38, zl39, zl40, zl41, zl42, zl43, zl45, zl48, zl49, zl57, zl58, zl59, zl60, zl61, zl62, zl63, zl64, zl91, zl93, zl97, zl98, zl99, zl100, zl113, zl114, zl115, zl116, zl117, zl122, zl124, zl125, zl127, zl128, zl136, zl200, zl201, zl202, zl203, zl204, zl205, zl206, zl207, zl208, zl209, zl210, zl211, zl212, zl213, zl214, zl215, zl216, zl217, zl218, zl219, zl220, zl235, zl236, zl255, zl280, zl287, zl900, zl999, zl1000, zl1001, zl1136, zl1960, zl3000, zl3001, zl3002, zl3003, zl3004, zl3005, zl3006, zl3007, zl3008, zl3009, zl268435456, zl1000000000]), show (41 : Int32) = nI 41 from rfl, pk_div (by omega) (by omega) (by omega), lb_eq]
      obtain ⟨P1, g1, g2, g3⟩ := then_in (k2 := fun z0 z1 Pz => l_Mo_laysThen_2 n z0 z1 Pz) hv hs hsl k (by omega) 7 FU 0 P (by omega) (by have := FU_big; omega) h1 h2 h3
      obtain ⟨P2, r1, r2, r3⟩ := ih n (k + 1) P1 (by omega) (by omega) (MNet_sm h1 g3 rfl) (fun j hj => by rw [g3.1 110 rfl]; exact h2 j hj) g2
      exact ⟨P2, by rw [show (0 : Int32) = nI 0 from rfl, g1]; exact r1, r2, sm_trans g3 r3⟩
  exact loop 287 FU 0 P (by omega) (by have := FU_big; omega) h1 h2 (fun k' t' a b c => by omega)
def mp (p : Nat) : Nat := 41 * (p / 40) + p % 40 + 1
theorem mp_ds (p : Nat) : mp p / 41 = p / 40 ∧ mp p % 41 = p % 40 + 1 := by
  unfold mp
  omega
theorem mp_inj {p q : Nat} (h : mp p = mp q) : p = q := by
  unfold mp at h
  omega
theorem mp_lt {p : Nat} (h : p < 280) : mp p < 287 := by
  unfold mp
  omega
noncomputable def rtd (v : NV) (s : SV) (sl k t : Nat) : Option Nat := match gwM v s sl k t with | some (z + 1) => some (41 * t + (z + 1)) | _ => none
theorem rtd_mp {v : NV} {s : SV} {sl p t : Nat} : rtd v s sl (mp p) t = (nxp v s sl p t).map mp := by
  obtain ⟨e1, e2⟩ := mp_ds p
  unfold rtd gwM nxp
  rw [e1, e2, if_neg (by omega)]
  cases h : gw v s sl (p / 40) (p % 40 + 1) t with
  | none => rfl
  | some z =>
    cases z with
    | zero => rfl
    | succ z =>
      have h1 := gw_le (by omega) h
      show some _ = some (mp (40 * t + z))
      unfold mp
      congr 1
      omega
theorem rtd_0 {v : NV} {s : SV} {sl k t : Nat} (h : k % 41 = 0) : rtd v s sl k t = none := by
  unfold rtd gwM
  rw [if_pos h]
theorem routed_M {P : PM} {v : NV} {s : SV} {sl k t : Nat} (h : TH P v s sl) (hk : k < 287) (ht : t < 7) : f_Mo_routed (nI k) (nI t) P = some (oI (rtd v s sl k t)) := by
  have := h k t hk ht
  unfold f_Mo_routed j_Mo_routed_24 rtd
  rw [show (7 : Int32) = nI 7 from rfl, pk_mul, nI_add, z_ck (by omega) (by omega), z_cl (by omega), this, lb_eq]
  have hg : ∀ z, gwM v s sl k t = some z → z ≤ 40 := fun z e => by
    unfold gwM at e
    split at e
    · cases e
    · exact gw_le (by omega) e
  cases e : gwM v s sl k t with
  | none => rfl
  | some z =>
    have := hg z e
    rw [Option.map_some, oI_s, if_neg (by simp (disch := omega) only [z_add, z_mul, z_sub, z_subm, z_addm, z_lt_t, z_lt_f, z_le_t, z_le_f, z_eq_t, z_eq_f, z_eqm, z_meq, z_mm, z_ltm, z_mlt, z_lem, z_mle, z_cl, z_ck, u1_1, u1_2, u2_1, u2_2, ↓reduceIte, Option.bind_some, Option.bind_none, bd2_some, lb_eq, and_true, and_false, true_and, false_and, not_true_eq_false, not_false_eq_true, eq_self_iff_true, if_true, if_false, Nat.reduceEqDiff, Nat.reduceAdd, Nat.reduceMul, Nat.reduceSub, Bool.false_eq_true, zl0, zl1, zl2, zl3, zl4, zl5, zl6, zl7, zl8, zl9, zl10, zl11, zl12, zl13, zl14, zl15, zl16, zl17, zl18, zl19, zl20, zl22, zl23, zl24, zl25, zl30, zl31, zl32, zl33, zl34, zl35, zl36, zl37, zl38, zl39, zl40, zl41, zl42, zl43, zl45, zl48, zl49, zl57, zl58, zl59, zl60, zl61, zl62, zl63, zl64, zl91, zl93, zl97, zl98, zl99, zl100, zl113, zl114, zl115, zl116, zl117, zl122, zl124, zl125, zl127, zl128, zl136, zl200, zl201, zl202, zl203, zl204, zl205, zl206, zl207, zl208, zl209, zl210, zl211, zl212, zl213, zl214, zl215, zl216, zl217, zl218, zl219, zl220, zl235, zl236, zl255, zl280, zl287, zl900, zl999, zl1000, zl1001, zl1136, zl1960, zl3000, zl3001, zl3002, zl3003, zl3004, zl3005, zl3006, zl3007, zl3008, zl3009, zl268435456, zl1000000000]), show (41 : Int32) = nI 41 from rfl, pk_rem (by omega) (by omega) (by omega)]
    cases z with
    | zero => rw [if_pos (by rw [show (41 * t + 0) % 41 = 0 by omega]; rfl)]; rfl
    | succ z => rw [if_neg (by simp (disch := omega) only [z_add, z_mul, z_sub, z_subm, z_addm, z_lt_t, z_lt_f, z_le_t, z_le_f, z_eq_t, z_eq_f, z_eqm, z_meq, z_mm, z_ltm, z_mlt, z_lem, z_mle, z_cl, z_ck, u1_1, u1_2, u2_1, u2_2, ↓reduceIte, Option.bind_some, Option.bind_none, bd2_some, lb_eq, and_true, and_false, true_and, false_and, not_true_eq_false, not_false_eq_true, eq_self_iff_true, if_true, if_false, Nat.reduceEqDiff, Nat.reduceAdd, Nat.reduceMul, Nat.reduceSub, Bool.false_eq_true, zl0, zl1, zl2, zl3, zl4, zl5, zl6, zl7, zl8, zl9, zl10, zl11, zl12, zl13, zl14, zl15, zl16, zl17, zl18, zl19, zl20, zl22, zl23, zl24, zl25, zl30, zl31, zl32, zl33, zl34, zl35, zl36, zl37, zl38, zl39, zl40, zl41, zl42, zl43, zl45, zl48, zl49, zl57, zl58, zl59, zl60, zl61, zl62, zl63, zl64, zl91, zl93, zl97, zl98, zl99, zl100, zl113, zl114, zl115, zl116, zl117, zl122, zl124, zl125, zl127, zl128, zl136, zl200, zl201, zl202, zl203, zl204, zl205, zl206, zl207, zl208, zl209, zl210, zl211, zl212, zl213, zl214, zl215, zl216, zl217, zl218, zl219, zl220, zl235, zl236, zl255, zl280, zl287, zl900, zl999, zl1000, zl1001, zl1136, zl1960, zl3000, zl3001, zl3002, zl3003, zl3004, zl3005, zl3006, zl3007, zl3008, zl3009, zl268435456, zl1000000000])]; rfl
theorem mp_ex {k : Nat} (hk : k < 287) (h : k % 41 ≠ 0) : ∃ p, p < 280 ∧ k = mp p := ⟨40 * (k / 41) + k % 41 - 1, by omega, by unfold mp; omega⟩
/-- the reached row -/
def RR (P : PM) (R : Nat → Bool) : Prop := ∀ k, k < 287 → P.1 119 k = nI (if R k = true then 1 else 0)
def okR (v : NV) (s : SV) (sl p0 : Nat) (R : Nat → Bool) : Prop := ∀ k, k < 287 → R k = true → ∃ p, p < 280 ∧ k = mp p ∧ Rch (nxp v s sl) (vN v) p0 p
theorem reach_in {v : NV} {s : SV} {sl p0 : Nat} {k36 : Int32 → PM → Option PM} {k44 : Int32 → Int32 → PM → Option PM} (hv : NVok v) (k : Nat) (hk : k < 287) :
    ∀ (m n t : Nat) (mr : Int32) (R : Nat → Bool) (P : PM), t + m = 7 → m < n → TH P v s sl → RR P R → okR v s sl p0 R →
    ∃ mr' R' P', l_Mo_laysReached_53 k36 k44 n mr (nI k) (nI t) P = k44 mr' (nI (k + 1)) P' ∧ RR P' R' ∧ okR v s sl p0 R' ∧ sm (fun o => o == 119) P P' ∧ (∀ j, R j = true → R' j = true) ∧
      ((mr' = mr ∧ R' = R ∧ (R k = true → ∀ t', t ≤ t' → t' < 7 → ∀ q, rtd v s sl k t' = some q → R q = true)) ∨ (mr' = nI 1 ∧ cnt R 287 < cnt R' 287)) := by
  intro m
  induction m with
  | zero =>
    intro n t mr R P ht hn h1 h2 h3
    obtain ⟨n, rfl⟩ : ∃ r, n = r + 1 := ⟨n - 1, by omega⟩
    rw [l_Mo_laysReached_53, if_pos (show (7 : Int32) ≤ nI t from (nI_le (by omega) (by omega) : nI 7 ≤ nI t))]
    unfold j_Mo_laysReached_111
    rw [show (1 : Int32) = nI 1 from rfl, nI_add]
    exact ⟨mr, R, P, rfl, h2, h3, sm_refl, fun _ h => h, Or.inl ⟨rfl, rfl, fun _ t' a b => by omega⟩⟩
  | succ m ih =>
    intro n t mr R P ht hn h1 h2 h3
    obtain ⟨n, rfl⟩ : ∃ r, n = r + 1 := ⟨n - 1, by omega⟩
    rw [l_Mo_laysReached_53, if_neg (by simp (disch := omega) only [z_add, z_mul, z_sub, z_subm, z_addm, z_lt_t, z_lt_f, z_le_t, z_le_f, z_eq_t, z_eq_f, z_eqm, z_meq, z_mm, z_ltm, z_mlt, z_lem, z_mle, z_cl, z_ck, u1_1, u1_2, u2_1, u2_2, ↓reduceIte, Option.bind_some, Option.bind_none, bd2_some, lb_eq, and_true, and_false, true_and, false_and, not_true_eq_false, not_false_eq_true, eq_self_iff_true, if_true, if_false, Nat.reduceEqDiff, Nat.reduceAdd, Nat.reduceMul, Nat.reduceSub, Bool.false_eq_true, zl0, zl1, zl2, zl3, zl4, zl5, zl6, zl7, zl8, zl9, zl10, zl11, zl12, zl13, zl14, zl15, zl16, zl17, zl18, zl19, zl20, zl22, zl23, zl24, zl25, zl30, zl31, zl32, zl33, zl34, zl35, zl36, zl37, zl38, zl39, zl40, zl41, zl42, zl43, zl45, zl48, zl49, zl57, zl58, zl59, zl60, zl61, zl62, zl63, zl64, zl91, zl93, zl97, zl98, zl99, zl100, zl113, zl114, zl115, zl116, zl117, zl122, zl124, zl125, zl127, zl128, zl136, zl200, zl201, zl202, zl203, zl204, zl205, zl206, zl207, zl208, zl209, zl210, zl211, zl212, zl213, zl214, zl215, zl216, zl217, zl218, zl219, zl220, zl235, zl236, zl255, zl280, zl287, zl900, zl999, zl1000, zl1001, zl1136, zl1960, zl3000, zl3001, zl3002, zl3003, zl3004, zl3005, zl3006, zl3007, zl3008, zl3009, zl268435456, zl1000000000]), z_ck hk (by omega), z_cl (by omega), h2 k hk]
    unfold j_Mo_laysReached_111 j_Mo_laysReached_105
    rw [show (1 : Int32) = nI 1 from rfl, nI_add, nI_add]
    by_cases c0 : R k = true
    · obtain ⟨p, hp, rfl, hr⟩ := h3 k hk c0
      have hrt := @rtd_mp v s sl p t
      rw [if_pos c0, if_neg (by decide), routed_M h1 hk (by omega), Option.bind_some, hrt]
      cases en : nxp v s sl p t with
      | none =>
        rw [en] at hrt
        rw [Option.map_none, oI_n, if_pos rfl]
        obtain ⟨mr', R', P', r1, r2, r3, r4, r5, r6⟩ := ih n (t + 1) mr R P (by omega) (by omega) h1 h2 h3
        refine ⟨mr', R', P', r1, r2, r3, r4, r5, ?_⟩
        rcases r6 with ⟨q1, q2, q3⟩ | q
        · refine Or.inl ⟨q1, q2, fun h t' a b q e => ?_⟩
          by_cases et : t' = t
          · subst et; rw [hrt] at e; cases e
          · exact q3 h t' (by omega) b q e
        · exact Or.inr q
      | some x =>
        obtain ⟨hx, _⟩ := nxp_in hv en
        have hxk := mp_lt hx
        rw [en] at hrt
        rw [Option.map_some, oI_s, if_neg (by simp (disch := omega) only [z_add, z_mul, z_sub, z_subm, z_addm, z_lt_t, z_lt_f, z_le_t, z_le_f, z_eq_t, z_eq_f, z_eqm, z_meq, z_mm, z_ltm, z_mlt, z_lem, z_mle, z_cl, z_ck, u1_1, u1_2, u2_1, u2_2, ↓reduceIte, Option.bind_some, Option.bind_none, bd2_some, lb_eq, and_true, and_false, true_and, false_and, not_true_eq_false, not_false_eq_true, eq_self_iff_true, if_true, if_false, Nat.reduceEqDiff, Nat.reduceAdd, Nat.reduceMul, Nat.reduceSub, Bool.false_eq_true, zl0, zl1, zl2, zl3, zl4, zl5, zl6, zl7, zl8, zl9, zl10, zl11, zl12, zl13, zl14, zl15, zl16, zl17, zl18, zl19, zl20, zl22, zl23, zl24, zl25, zl30, zl31, zl32, zl33, zl34, zl35, zl36, zl37, zl38, zl39, zl40, zl41, zl42, zl43, zl45, zl48, zl49, zl57, zl58, zl59, zl60, zl61, zl62, zl63, zl64, zl91, zl93, zl97, zl98, zl99, zl100, zl113, zl114, zl115, zl116, zl117, zl122, zl124, zl125, zl127, zl128, zl136, zl200, zl201, zl202, zl203, zl204, zl205, zl206, zl207, zl208, zl209, zl210, zl211, zl212, zl213, zl214, zl215, zl216, zl217, zl218, zl219, zl220, zl235, zl236, zl255, zl280, zl287, zl900, zl999, zl1000, zl1001, zl1136, zl1960, zl3000, zl3001, zl3002, zl3003, zl3004, zl3005, zl3006, zl3007, zl3008, zl3009, zl268435456, zl1000000000]), z_ck hxk (by omega), z_cl (by omega), h2 _ hxk]
        by_cases c1 : R (mp x) = true
        · rw [if_pos c1, if_neg (by decide)]
          obtain ⟨mr', R', P', r1, r2, r3, r4, r5, r6⟩ := ih n (t + 1) mr R P (by omega) (by omega) h1 h2 h3
          refine ⟨mr', R', P', r1, r2, r3, r4, r5, ?_⟩
          rcases r6 with ⟨q1, q2, q3⟩ | q
          · refine Or.inl ⟨q1, q2, fun h t' a b q e => ?_⟩
            by_cases et : t' = t
            · subst et; rw [hrt] at e; cases e; exact c1
            · exact q3 h t' (by omega) b q e
          · exact Or.inr q
        · rw [if_neg c1, if_pos (by decide), z_ck hxk (by omega), show vp_nar .boolean (nI 1) = nI 1 from rfl]
          obtain ⟨R1, hR1⟩ : ∃ R1 : Nat → Bool, R1 = fun j => if j = mp x then true else R j := ⟨_, rfl⟩
          have ht : t < vN v := (nxp_in hv en).2.2.1
          have hc : cnt R 287 < cnt R1 287 := by
            have := cnt_add (f := R) (g := R1) (i := mp x) 287 hxk (Bool.eq_false_iff.mpr c1) (by rw [hR1]; simp) (fun j hj => by rw [hR1]; simp [hj])
            omega
          have s1 : sm (fun o => o == 119) P (u1 P 119 (mp x) (nI 1)) := sm_u1 sm_refl rfl
          obtain ⟨mr', R', P', r1, r2, r3, r4, r5, r6⟩ := ih n (t + 1) (nI 1) R1 (u1 P 119 (mp x) (nI 1)) (by omega) (by omega) (fun a b c d => by rw [u1_1, if_neg (by omega)]; exact h1 a b c d) (fun j hj => by
            rw [u1_1, hR1]
            by_cases e : j = mp x
            · rw [if_pos ⟨rfl, e⟩]; simp [e]
            · rw [if_neg (fun q => e q.2), h2 j hj]; simp [e]) (fun j hj hR => by
            rw [hR1] at hR
            by_cases e : j = mp x
            · exact ⟨x, hx, e, Rch_s hr ht en⟩
            · simp [e] at hR
              exact h3 j hj hR)
          refine ⟨mr', R', P', r1, r2, r3, sm_trans s1 r4, fun j hj => r5 j (by rw [hR1]; simp; exact Or.inr hj), Or.inr ?_⟩
          rcases r6 with ⟨q1, q2, _⟩ | ⟨q1, q2⟩
          · exact ⟨q1, by rw [q2]; exact hc⟩
          · exact ⟨q1, by omega⟩
    · rw [if_neg c0, if_pos (by decide)]
      exact ⟨mr, R, P, rfl, h2, h3, sm_refl, fun _ h => h, Or.inl ⟨rfl, rfl, fun h => absurd h c0⟩⟩
theorem reach_mid {v : NV} {s : SV} {sl p0 : Nat} {k36 : Int32 → PM → Option PM} (hv : NVok v) :
    ∀ (m n k : Nat) (mr : Int32) (R : Nat → Bool) (P : PM), k + m = 287 → m < n → TH P v s sl → RR P R → okR v s sl p0 R →
    ∃ mr' R' P', l_Mo_laysReached_44 k36 n mr (nI k) P = k36 mr' P' ∧ RR P' R' ∧ okR v s sl p0 R' ∧ sm (fun o => o == 119) P P' ∧ (∀ j, R j = true → R' j = true) ∧
      ((mr' = mr ∧ R' = R ∧ ∀ j, k ≤ j → j < 287 → R j = true → ∀ t', t' < 7 → ∀ q, rtd v s sl j t' = some q → R q = true) ∨ (mr' = nI 1 ∧ cnt R 287 < cnt R' 287)) := by
  intro m
  induction m with
  | zero =>
    intro n k mr R P hk hn h1 h2 h3
    obtain ⟨n, rfl⟩ : ∃ r, n = r + 1 := ⟨n - 1, by omega⟩
    rw [l_Mo_laysReached_44, if_pos (show (287 : Int32) ≤ nI k from (nI_le (by omega) (by omega) : nI 287 ≤ nI k))]
    exact ⟨mr, R, P, rfl, h2, h3, sm_refl, fun _ h => h, Or.inl ⟨rfl, rfl, fun j a b => by omega⟩⟩
  | succ m ih =>
    intro n k mr R P hk hn h1 h2 h3
    obtain ⟨n, rfl⟩ : ∃ r, n = r + 1 := ⟨n - 1, by omega⟩
    rw [l_Mo_laysReached_44, if_neg (by simp (disch := omega) only [z_add, z_mul, z_sub, z_subm, z_addm, z_lt_t, z_lt_f, z_le_t, z_le_f, z_eq_t, z_eq_f, z_eqm, z_meq, z_mm, z_ltm, z_mlt, z_lem, z_mle, z_cl, z_ck, u1_1, u1_2, u2_1, u2_2, ↓reduceIte, Option.bind_some, Option.bind_none, bd2_some, lb_eq, and_true, and_false, true_and, false_and, not_true_eq_false, not_false_eq_true, eq_self_iff_true, if_true, if_false, Nat.reduceEqDiff, Nat.reduceAdd, Nat.reduceMul, Nat.reduceSub, Bool.false_eq_true, zl0, zl1, zl2, zl3, zl4, zl5, zl6, zl7, zl8, zl9, zl10, zl11, zl12, zl13, zl14, zl15, zl16, zl17, zl18, zl19, zl20, zl22, zl23, zl24, zl25, zl30, zl31, zl32, zl33, zl34, zl35, zl36, zl37, zl38, zl39, zl40, zl41, zl42, zl43, zl45, zl48, zl49, zl57, zl58, zl59, zl60, zl61, zl62, zl63, zl64, zl91, zl93, zl97, zl98, zl99, zl100, zl113, zl114, zl115, zl116, zl117, zl122, zl124, zl125, zl127, zl128, zl136, zl200, zl201, zl202, zl203, zl204, zl205, zl206, zl207, zl208, zl209, zl210, zl211, zl212, zl213, zl214, zl215, zl216, zl217, zl218, zl219, zl220, zl235, zl236, zl255, zl280, zl287, zl900, zl999, zl1000, zl1001, zl1136, zl1960, zl3000, zl3001, zl3002, zl3003, zl3004, zl3005, zl3006, zl3007, zl3008, zl3009, zl268435456, zl1000000000])]
    obtain ⟨mr1, R1, P1, g1, g2, g3, g4, g5, g6⟩ := reach_in (k36 := k36) (k44 := fun z0 z1 Pz => l_Mo_laysReached_44 k36 n z0 z1 Pz) hv k (by omega) 7 FU 0 mr R P (by omega) (by have := FU_big; omega) h1 h2 h3
    rw [show (0 : Int32) = nI 0 from rfl, g1]
    have t1 : TH P1 v s sl := fun a b c d => by rw [g4.1 117 rfl]; exact h1 a b c d
    obtain ⟨mr2, R2, P2, r1, r2, r3, r4, r5, r6⟩ := ih n (k + 1) mr1 R1 P1 (by omega) (by omega) t1 g2 g3
    refine ⟨mr2, R2, P2, r1, r2, r3, sm_trans g4 r4, fun j hj => r5 j (g5 j hj), ?_⟩
    rcases g6 with ⟨a1, a2, a3⟩ | ⟨a1, a2⟩
    · rcases r6 with ⟨b1, b2, b3⟩ | ⟨b1, b2⟩
      · refine Or.inl ⟨b1.trans a1, b2.trans a2, fun j c1 c2 c3 t' d1 q e => ?_⟩
        by_cases ej : j = k
        · subst ej; exact a3 c3 t' (Nat.zero_le _) d1 q e
        · rw [a2] at b3; exact b3 j (by omega) c2 c3 t' d1 q e
      · exact Or.inr ⟨b1, by rw [a2] at b2; exact b2⟩
    · rcases r6 with ⟨b1, b2, b3⟩ | ⟨b1, b2⟩
      · exact Or.inr ⟨b1.trans a1, by rw [b2]; exact a2⟩
      · exact Or.inr ⟨b1, by omega⟩
/-- what laysReached lays -/
def Lrd (P : PM) (v : NV) (s : SV) (sl p0 : Nat) : Prop := ∃ R, RR P R ∧ ∀ k, k < 287 → (R k = true ↔ ∃ p, p < 280 ∧ k = mp p ∧ Rch (nxp v s sl) (vN v) p0 p)
theorem reach_out {v : NV} {s : SV} {sl p0 : Nat} (hv : NVok v) (hp0 : p0 < 280) :
    ∀ (m n : Nat) (R : Nat → Bool) (P : PM), 287 - cnt R 287 = m → m + 2 < n → TH P v s sl → RR P R → okR v s sl p0 R → R (mp p0) = true →
    ∃ P', l_Mo_laysReached_36 n (nI 1) P = some P' ∧ Lrd P' v s sl p0 ∧ sm (fun o => o == 119) P P' := by
  intro m
  induction m using Nat.strongRecOn with
  | _ m ih =>
    intro n R P hm hn h1 h2 h3 h4
    obtain ⟨n, rfl⟩ : ∃ r, n = r + 1 := ⟨n - 1, by omega⟩
    rw [l_Mo_laysReached_36, if_neg (by decide)]
    obtain ⟨mr1, R1, P1, g1, g2, g3, g4, g5, g6⟩ := reach_mid (k36 := fun z0 Pz => l_Mo_laysReached_36 n z0 Pz) hv 287 FU 0 (nI 0) R P (by omega) (by have := FU_big; omega) h1 h2 h3
    rw [show (0 : Int32) = nI 0 from rfl, g1]
    have t1 : TH P1 v s sl := fun a b c d => by rw [g4.1 117 rfl]; exact h1 a b c d
    rcases g6 with ⟨a1, a2, a3⟩ | ⟨a1, a2⟩
    · obtain ⟨n, rfl⟩ : ∃ r, n = r + 1 := ⟨n - 1, by omega⟩
      subst a1 a2
      refine ⟨P1, ?_, ⟨R1, g2, fun k hk => ⟨g3 k hk, ?_⟩⟩, g4⟩
      · show l_Mo_laysReached_36 (n + 1) (nI 0) P1 = _
        rw [l_Mo_laysReached_36, if_pos (by decide)]
      · rintro ⟨p, hp, rfl, hr⟩
        have : p < 280 ∧ R1 (mp p) = true := Rch_min (S := fun x => x < 280 ∧ R1 (mp x) = true) ⟨hp0, h4⟩ (fun q t x hq ht e => by
          obtain ⟨hx, _, htN, _⟩ := nxp_in hv e
          have := hv.1
          exact ⟨hx, a3 (mp q) (Nat.zero_le _) (mp_lt hq.1) hq.2 t (by omega) (mp x) (by rw [rtd_mp, e]; rfl)⟩) hr
        exact this.2
    · have hle := cnt_le R1 287
      obtain ⟨P2, r1, r2, r3⟩ := ih (287 - cnt R1 287) (by omega) n R1 P1 rfl (by omega) t1 g2 g3 (g5 _ h4)
      rw [a1]
      exact ⟨P2, r1, r2, sm_trans g4 r3⟩
theorem laysReached_M {P : PM} {v : NV} {s : SV} {sl p0 : Nat} (hv : NVok v) (hp0 : p0 < 280) (h1 : TH P v s sl) (h2 : f_Mo_standNow P = nI (mp p0)) (h110 : ∀ P', sm (fun o => o == 119) P P' → f_Mo_standNow P' = f_Mo_standNow P) :
    ∃ P', f_Mo_laysReached P = some P' ∧ Lrd P' v s sl p0 ∧ sm (fun o => o == 119) P P' := by
  have hk0 := mp_lt hp0
  have loop : ∀ (m n k : Nat) (P' : PM), k + m = 287 → m < n → sm (fun o => o == 119) P P' → (∀ j, j < k → P'.1 119 j = nI (if decide (j = mp p0) = true then 1 else 0)) →
      ∃ P'', l_Mo_laysReached_2 n (nI k) P' = l_Mo_laysReached_36 FU (nI 1) P'' ∧ sm (fun o => o == 119) P P'' ∧ RR P'' (fun j => decide (j = mp p0)) := by
    intro m
    induction m with
    | zero =>
      intro n k P' hk hn hs hj
      obtain ⟨n, rfl⟩ : ∃ r, n = r + 1 := ⟨n - 1, by omega⟩
      rw [l_Mo_laysReached_2, if_pos (show (287 : Int32) ≤ nI k from (nI_le (by omega) (by omega) : nI 287 ≤ nI k))]
      exact ⟨P', rfl, hs, fun j hj' => hj j (by omega)⟩
    | succ m ih =>
      intro n k P' hk hn hs hj
      obtain ⟨n, rfl⟩ : ∃ r, n = r + 1 := ⟨n - 1, by omega⟩
      rw [l_Mo_laysReached_2, if_neg (by simp (disch := omega) only [z_add, z_mul, z_sub, z_subm, z_addm, z_lt_t, z_lt_f, z_le_t, z_le_f, z_eq_t, z_eq_f, z_eqm, z_meq, z_mm, z_ltm, z_mlt, z_lem, z_mle, z_cl, z_ck, u1_1, u1_2, u2_1, u2_2, ↓reduceIte, Option.bind_some, Option.bind_none, bd2_some, lb_eq, and_true, and_false, true_and, false_and, not_true_eq_false, not_false_eq_true, eq_self_iff_true, if_true, if_false, Nat.reduceEqDiff, Nat.reduceAdd, Nat.reduceMul, Nat.reduceSub, Bool.false_eq_true, zl0, zl1, zl2, zl3, zl4, zl5, zl6, zl7, zl8, zl9, zl10, zl11, zl12, zl13, zl14, zl15, zl16, zl17, zl18, zl19, zl20, zl22, zl23, zl24, zl25, zl30, zl31, zl32, zl33, zl34, zl35, zl36, zl37, zl38, zl39, zl40, zl41, zl42, zl43, zl45, zl48, zl49, zl57, zl58, zl59, zl60, zl61, zl62, zl63, zl64, zl91, zl93, zl97, zl98, zl99, zl100, zl113, zl114, zl115, zl116, zl117, zl122, zl124, zl125, zl127, zl128, zl136, zl200, zl201, zl202, zl203, zl204, zl205, zl206, zl207, zl208, zl209, zl210, zl211, zl212, zl213, zl214, zl215, zl216, zl217, zl218, zl219, zl220, zl235, zl236, zl255, zl280, zl287, zl900, zl999, zl1000, zl1001, zl1136, zl1960, zl3000, zl3001, zl3002, zl3003, zl3004, zl3005, zl3006, zl3007, zl3008, zl3009, zl268435456, zl1000000000]), h110 P' hs, h2]
      unfold j_Mo_laysReached_27
      rw [show (1 : Int32) = nI 1 from rfl, nI_add, z_ck (by omega) (by omega), z_ck (by omega) (by omega), z_cl (by omega), show vp_nar .boolean (nI 1) = nI 1 from rfl, show vp_nar .boolean (0 : Int32) = nI 0 from rfl]
      by_cases c : k = mp p0
      · rw [if_pos (by rw [c])]
        exact ih n (k + 1) (u1 P' 119 k (nI 1)) (by omega) (by omega) (sm_u1 hs rfl) (fun j hj' => by
          rw [u1_1]
          by_cases e : j = k
          · rw [if_pos ⟨rfl, e⟩, e]; simp [c]
          · rw [if_neg (fun q => e q.2)]; exact hj j (by omega))
      · rw [if_neg (by simp (disch := omega) only [z_add, z_mul, z_sub, z_subm, z_addm, z_lt_t, z_lt_f, z_le_t, z_le_f, z_eq_t, z_eq_f, z_eqm, z_meq, z_mm, z_ltm, z_mlt, z_lem, z_mle, z_cl, z_ck, u1_1, u1_2, u2_1, u2_2, ↓reduceIte, Option.bind_some, Option.bind_none, bd2_some, lb_eq, and_true, and_false, true_and, false_and, not_true_eq_false, not_false_eq_true, eq_self_iff_true, if_true, if_false, Nat.reduceEqDiff, Nat.reduceAdd, Nat.reduceMul, Nat.reduceSub, Bool.false_eq_true, zl0, zl1, zl2, zl3, zl4, zl5, zl6, zl7, zl8, zl9, zl10, zl11, zl12, zl13, zl14, zl15, zl16, zl17, zl18, zl19, zl20, zl22, zl23, zl24, zl25, zl30, zl31, zl32, zl33, zl34, zl35, zl36, zl37, zl38, zl39, zl40, zl41, zl42, zl43, zl45, zl48, zl49, zl57, zl58, zl59, zl60, zl61, zl62, zl63, zl64, zl91, zl93, zl97, zl98, zl99, zl100, zl113, zl114, zl115, zl116, zl117, zl122, zl124, zl125, zl127, zl128, zl136, zl200, zl201, zl202, zl203, zl204, zl205, zl206, zl207, zl208, zl209, zl210, zl211, zl212, zl213, zl214, zl215, zl216, zl217, zl218, zl219, zl220, zl235, zl236, zl255, zl280, zl287, zl900, zl999, zl1000, zl1001, zl1136, zl1960, zl3000, zl3001, zl3002, zl3003, zl3004, zl3005, zl3006, zl3007, zl3008, zl3009, zl268435456, zl1000000000])]
        exact ih n (k + 1) (u1 P' 119 k (nI 0)) (by omega) (by omega) (sm_u1 hs rfl) (fun j hj' => by
          rw [u1_1]
          by_cases e : j = k
          · rw [if_pos ⟨rfl, e⟩, e]; simp [c]
          · rw [if_neg (fun q => e q.2)]; exact hj j (by omega))
  obtain ⟨P1, g1, g2, g3⟩ := loop 287 FU 0 P (by omega) (by have := FU_big; omega) sm_refl (fun j hj => by omega)
  obtain ⟨P2, r1, r2, r3⟩ := reach_out (p0 := p0) hv hp0 (287 - cnt (fun j => decide (j = mp p0)) 287) FU (fun j => decide (j = mp p0)) P1 rfl (by have := FU_big; omega) (fun a b c d => by rw [g2.1 117 rfl]; exact h1 a b c d) g3 (fun k hk h => by
    have := of_decide_eq_true h
    exact ⟨p0, hp0, this, Rch_0⟩) (by simp)
  refine ⟨P2, ?_, r2, sm_trans g2 r3⟩
  unfold f_Mo_laysReached
  rw [show (0 : Int32) = nI 0 from rfl, g1]
  exact r1
