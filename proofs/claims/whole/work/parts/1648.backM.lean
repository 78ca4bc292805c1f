/-! back: the reference -/
def nst (C : Nat → Nat) (k : Nat) : Nat := if k % 41 = 0 then 0 else C (40 * (k / 41) + k % 41 - 1)
theorem nst_mp {C : Nat → Nat} {p : Nat} : nst C (mp p) = C p := by
  obtain ⟨e1, e2⟩ := mp_ds p
  unfold nst
  rw [e1, e2, if_neg (by omega), show 40 * (p / 40) + (p % 40 + 1) - 1 = p by omega]
theorem nst_0 {C : Nat → Nat} {k : Nat} (h : k % 41 = 0) : nst C k = 0 := by unfold nst; rw [if_pos h]
theorem rtd_lt {v : NV} {s : SV} {sl k t q : Nat} (hv : NVok v) (h : rtd v s sl k t = some q) : q < 287 ∧ t < vN v := by
  by_cases h0 : k % 41 = 0
  · rw [rtd_0 h0] at h; cases h
  · have hk : k = mp (40 * (k / 41) + k % 41 - 1) := by unfold mp; omega
    rw [hk, rtd_mp] at h
    cases e : nxp v s sl (40 * (k / 41) + k % 41 - 1) t with
    | none => rw [e] at h; cases h
    | some x =>
      rw [e] at h
      obtain ⟨h1, _, h2, _⟩ := nxp_in hv e
      have h : some (mp x) = some q := h
      cases h
      exact ⟨mp_lt h1, h2⟩
/-- what one passing adds, of a stand -/
noncomputable def nrt (v : NV) (s : SV) (but : Option Nat) (C : Nat → Nat) (k t : Nat) : Nat := if but = some t then 0 else match rtd v s (sA s) k t with | none => 0 | some q => nst C q
theorem nrt_none {v : NV} {s : SV} {but : Option Nat} {C : Nat → Nat} {k t : Nat} (h : rtd v s (sA s) k t = none) : nrt v s but C k t = 0 := by
  unfold nrt
  rw [h]
  split <;> rfl
theorem nrt_some {v : NV} {s : SV} {but : Option Nat} {C : Nat → Nat} {k t q : Nat} (hb : but ≠ some t) (h : rtd v s (sA s) k t = some q) : nrt v s but C k t = nst C q := by
  unfold nrt
  rw [h, if_neg hb]
theorem nrt_sum {v : NV} {s : SV} {but : Option Nat} {g j k : Nat} (hk : k < 287) : sumA (nrt v s but (ncb (nxs v s) g but j) k) 7 = nst (ncb (nxs v s) g but (j + 1)) k := by
  by_cases h0 : k % 41 = 0
  · rw [nst_0 h0, sumA_z]
    exact fun t _ => nrt_none (rtd_0 h0)
  · obtain ⟨p, hp, rfl⟩ := mp_ex hk h0
    rw [nst_mp]
    refine sumA_congr 7 (fun t _ => ?_)
    have hr := @rtd_mp v s (sA s) p t
    cases e : nxp v s (sA s) p t with
    | none =>
      rw [e] at hr
      rw [nrt_none hr, ncs_none (show nxs v s p t = none from e)]
    | some q =>
      rw [e] at hr
      by_cases hb : but = some t
      · unfold nrt ncs
        rw [if_pos hb, if_pos hb]
      · rw [nrt_some hb hr, ncs_some hb (show nxs v s p t = some q from e), nst_mp]
theorem nst_b (nx : Nat → Nat → Option Nat) (g : Nat) (but : Option Nat) {j : Nat} (hj : j ≤ 10) (k : Nat) : nst (ncb nx g but j) k ≤ 282475249 := by
  unfold nst
  split
  · omega
  · exact ncb_b nx g but hj _
def MB (P : PM) (v : NV) (s : SV) (g : Nat) (but : Option Nat) (k : Nat) : Prop := ∀ j, j ≤ k → ∀ st, st < 287 → P.2 123 (287 * j + st) = lN (nst (ncb (nxs v s) g but j) st)
def o123 (o : Nat) : Bool := o == 123
theorem TH_123 {P P' : PM} {v : NV} {s : SV} {sl : Nat} (h : TH P v s sl) (g : sm o123 P P') : TH P' v s sl := fun k t a b => by rw [g.1 117 rfl]; exact h k t a b
theorem sm_u2' {S : Nat → Bool} {P : PM} {o i : Nat} {x : Int64} (h : S o = true) : sm S P (u2 P o i x) := sm_u2 sm_refl h
theorem back_in {v : NV} {s : SV} {g N k st : Nat} {but : Option Nat} {k53 : Int32 → Int32 → Int32 → PM → Option (Int64 × PM)} {k62 : Int32 → Int32 → Int32 → Int32 → PM → Option (Int64 × PM)} (hv : NVok v) (hbut : ∀ u, but = some u → u < 7) (hk : k < 10) (hst : st < 287) :
    ∀ (m n t : Nat) (P : PM), t + m = 7 → m < n → TH P v s (sA s) → MB P v s g but k →
    l_Mo_laysBack_76 k53 k62 n (nI N) (oI but) (nI (k + 1)) (nI st) (lN (sumA (nrt v s but (ncb (nxs v s) g but k) st) t)) (nI t) P =
      k62 (nI N) (oI but) (nI (k + 1)) (nI (st + 1)) (u2 P 123 (287 * (k + 1) + st) (lN (nst (ncb (nxs v s) g but (k + 1)) st))) := by
  intro m
  induction m with
  | zero =>
    intro n t P ht hn hT hB
    obtain ⟨n, rfl⟩ : ∃ r, n = r + 1 := ⟨n - 1, by omega⟩
    obtain rfl : t = 7 := by omega
    rw [l_Mo_laysBack_76, if_pos (by decide), show (287 : Int32) = nI 287 from rfl, pk_mul, nI_add, z_ck (by omega) (by omega), z_cl (by omega), nrt_sum hst, show (1 : Int32) = nI 1 from rfl, nI_add]
  | succ m ih =>
    intro n t P ht hn hT hB
    obtain ⟨n, rfl⟩ : ∃ r, n = r + 1 := ⟨n - 1, by omega⟩
    have r := ih n (t + 1) P (by omega) (by omega) hT hB
    rw [show sumA (nrt v s but (ncb (nxs v s) g but k) st) (t + 1) = sumA (nrt v s but (ncb (nxs v s) g but k) st) t + nrt v s but (ncb (nxs v s) g but k) st t from rfl] at r
    rw [l_Mo_laysBack_76, if_neg (show ¬ (7 : Int32) ≤ nI t by simp (disch := omega) only [z_add, z_mul, z_sub, z_subm, z_addm, z_lt_t, z_lt_f, z_le_t, z_le_f, z_eq_t, z_eq_f, z_eqm, z_meq, z_mm, z_ltm, z_mlt, z_lem, z_mle, z_cl, z_ck, u1_1, u1_2, u2_1, u2_2, ↓reduceIte, Option.bind_some, Option.bind_none, bd2_some, lb_eq, and_true, and_false, true_and, false_and, not_true_eq_false, not_false_eq_true, eq_self_iff_true, if_true, if_false, Nat.reduceEqDiff, Nat.reduceAdd, Nat.reduceMul, Nat.reduceSub, Bool.false_eq_true, zl0, zl1, zl2, zl3, zl4, zl5, zl6, zl7, zl8, zl9, zl10, zl11, zl12, zl13, zl14, zl15, zl16, zl17, zl18, zl19, zl20, zl22, zl23, zl24, zl25, zl30, zl31, zl32, zl33, zl34, zl35, zl36, zl37, zl38, zl39, zl40, zl41, zl42, zl43, zl45, zl48, zl49, zl57, zl58, zl59, zl60, zl61, zl62, zl63, zl64, zl91, zl93, zl97, zl98, zl99, zl100, zl113, zl114, zl115, zl116, zl117, zl122, zl124, zl125, zl127, zl128, zl136, zl200, zl201, zl202, zl203, zl204, zl205, zl206, zl207, zl208, zl209, zl210, zl211, zl212, zl213, zl214, zl215, zl216, zl217, zl218, zl219, zl220, zl235, zl236, zl255, zl280, zl287, zl900, zl999, zl1000, zl1001, zl1136, zl1960, zl3000, zl3001, zl3002, zl3003, zl3004, zl3005, zl3006, zl3007, zl3008, zl3009, zl268435456, zl1000000000])]
    unfold j_Mo_laysBack_129
    rw [show (1 : Int32) = nI 1 from rfl, nI_add]
    by_cases hb : but = some t
    · rw [if_pos (by rw [hb]; rfl)]
      have : nrt v s but (ncb (nxs v s) g but k) st t = 0 := by unfold nrt; rw [if_pos hb]
      rw [this, Nat.add_zero] at r
      exact r
    · have hb2 : ¬ nI t = oI but := by
        cases e : but with
        | none => rw [oI_n]; simp (disch := omega) only [z_add, z_mul, z_sub, z_subm, z_addm, z_lt_t, z_lt_f, z_le_t, z_le_f, z_eq_t, z_eq_f, z_eqm, z_meq, z_mm, z_ltm, z_mlt, z_lem, z_mle, z_cl, z_ck, u1_1, u1_2, u2_1, u2_2, ↓reduceIte, Option.bind_some, Option.bind_none, bd2_some, lb_eq, and_true, and_false, true_and, false_and, not_true_eq_false, not_false_eq_true, eq_self_iff_true, if_true, if_false, Nat.reduceEqDiff, Nat.reduceAdd, Nat.reduceMul, Nat.reduceSub, Bool.false_eq_true, zl0, zl1, zl2, zl3, zl4, zl5, zl6, zl7, zl8, zl9, zl10, zl11, zl12, zl13, zl14, zl15, zl16, zl17, zl18, zl19, zl20, zl22, zl23, zl24, zl25, zl30, zl31, zl32, zl33, zl34, zl35, zl36, zl37, zl38, zl39, zl40, zl41, zl42, zl43, zl45, zl48, zl49, zl57, zl58, zl59, zl60, zl61, zl62, zl63, zl64, zl91, zl93, zl97, zl98, zl99, zl100, zl113, zl114, zl115, zl116, zl117, zl122, zl124, zl125, zl127, zl128, zl136, zl200, zl201, zl202, zl203, zl204, zl205, zl206, zl207, zl208, zl209, zl210, zl211, zl212, zl213, zl214, zl215, zl216, zl217, zl218, zl219, zl220, zl235, zl236, zl255, zl280, zl287, zl900, zl999, zl1000, zl1001, zl1136, zl1960, zl3000, zl3001, zl3002, zl3003, zl3004, zl3005, zl3006, zl3007, zl3008, zl3009, zl268435456, zl1000000000]
        | some u =>
          have := hbut u e
          rw [oI_s]
          intro q
          have := (nI_eq (by omega) (by omega)).mp q
          exact hb (by rw [e, this])
      rw [if_neg hb2, routed_M hT hst (by omega), Option.bind_some]
      cases e : rtd v s (sA s) st t with
      | none =>
        rw [nrt_none e, Nat.add_zero] at r
        rw [oI_n, if_pos (by decide)]
        exact r
      | some q =>
        obtain ⟨hq, _⟩ := rtd_lt hv e
        rw [nrt_some hb e] at r
        rw [oI_s, if_neg (by simp (disch := omega) only [z_add, z_mul, z_sub, z_subm, z_addm, z_lt_t, z_lt_f, z_le_t, z_le_f, z_eq_t, z_eq_f, z_eqm, z_meq, z_mm, z_ltm, z_mlt, z_lem, z_mle, z_cl, z_ck, u1_1, u1_2, u2_1, u2_2, ↓reduceIte, Option.bind_some, Option.bind_none, bd2_some, lb_eq, and_true, and_false, true_and, false_and, not_true_eq_false, not_false_eq_true, eq_self_iff_true, if_true, if_false, Nat.reduceEqDiff, Nat.reduceAdd, Nat.reduceMul, Nat.reduceSub, Bool.false_eq_true, zl0, zl1, zl2, zl3, zl4, zl5, zl6, zl7, zl8, zl9, zl10, zl11, zl12, zl13, zl14, zl15, zl16, zl17, zl18, zl19, zl20, zl22, zl23, zl24, zl25, zl30, zl31, zl32, zl33, zl34, zl35, zl36, zl37, zl38, zl39, zl40, zl41, zl42, zl43, zl45, zl48, zl49, zl57, zl58, zl59, zl60, zl61, zl62, zl63, zl64, zl91, zl93, zl97, zl98, zl99, zl100, zl113, zl114, zl115, zl116, zl117, zl122, zl124, zl125, zl127, zl128, zl136, zl200, zl201, zl202, zl203, zl204, zl205, zl206, zl207, zl208, zl209, zl210, zl211, zl212, zl213, zl214, zl215, zl216, zl217, zl218, zl219, zl220, zl235, zl236, zl255, zl280, zl287, zl900, zl999, zl1000, zl1001, zl1136, zl1960, zl3000, zl3001, zl3002, zl3003, zl3004, zl3005, zl3006, zl3007, zl3008, zl3009, zl268435456, zl1000000000]), Option.bind_some, pk_sub (by omega), Nat.add_sub_cancel, show (287 : Int32) = nI 287 from rfl, pk_mul, nI_add, z_ck (by omega) (by omega), z_cl (by omega), hB k (Nat.le_refl _) q hq, lN_add, lb_eq]
        exact r
theorem back_row {v : NV} {s : SV} {g N k : Nat} {but : Option Nat} {k53 : Int32 → Int32 → Int32 → PM → Option (Int64 × PM)} (hv : NVok v) (hbut : ∀ u, but = some u → u < 7) (hk : k < 10) :
    ∀ (m n st : Nat) (P : PM), st + m = 287 → m < n → TH P v s (sA s) → MB P v s g but k → (∀ st', st' < st → P.2 123 (287 * (k + 1) + st') = lN (nst (ncb (nxs v s) g but (k + 1)) st')) →
    ∃ P', l_Mo_laysBack_62 k53 n (nI N) (oI but) (nI (k + 1)) (nI st) P = k53 (nI N) (oI but) (nI (k + 1 + 1)) P' ∧ MB P' v s g but (k + 1) ∧ sm o123 P P' := by
  intro m
  induction m with
  | zero =>
    intro n st P ht hn hT hB hD
    obtain ⟨n, rfl⟩ : ∃ r, n = r + 1 := ⟨n - 1, by omega⟩
    rw [l_Mo_laysBack_62, if_pos (show (287 : Int32) ≤ nI st from (nI_le (by omega) (by omega) : nI 287 ≤ nI st)), show (1 : Int32) = nI 1 from rfl, nI_add]
    refine ⟨P, rfl, fun j hj st' hst' => ?_, sm_refl⟩
    by_cases e : j = k + 1
    · rw [e]; exact hD st' (by omega)
    · exact hB j (by omega) st' hst'
  | succ m ih =>
    intro n st P ht hn hT hB hD
    obtain ⟨n, rfl⟩ : ∃ r, n = r + 1 := ⟨n - 1, by omega⟩
    have hin := back_in (N := N) (k53 := k53) (k62 := fun z0 z1 z2 z3 Pz => l_Mo_laysBack_62 k53 n z0 z1 z2 z3 Pz) hv hbut hk (show st < 287 by omega) 7 FU 0 P (by omega) (by have := FU_big; omega) hT hB
    rw [l_Mo_laysBack_62, if_neg (show ¬ (287 : Int32) ≤ nI st by simp (disch := omega) only [z_add, z_mul, z_sub, z_subm, z_addm, z_lt_t, z_lt_f, z_le_t, z_le_f, z_eq_t, z_eq_f, z_eqm, z_meq, z_mm, z_ltm, z_mlt, z_lem, z_mle, z_cl, z_ck, u1_1, u1_2, u2_1, u2_2, ↓reduceIte, Option.bind_some, Option.bind_none, bd2_some, lb_eq, and_true, and_false, true_and, false_and, not_true_eq_false, not_false_eq_true, eq_self_iff_true, if_true, if_false, Nat.reduceEqDiff, Nat.reduceAdd, Nat.reduceMul, Nat.reduceSub, Bool.false_eq_true, zl0, zl1, zl2, zl3, zl4, zl5, zl6, zl7, zl8, zl9, zl10, zl11, zl12, zl13, zl14, zl15, zl16, zl17, zl18, zl19, zl20, zl22, zl23, zl24, zl25, zl30, zl31, zl32, zl33, zl34, zl35, zl36, zl37, zl38, zl39, zl40, zl41, zl42, zl43, zl45, zl48, zl49, zl57, zl58, zl59, zl60, zl61, zl62, zl63, zl64, zl91, zl93, zl97, zl98, zl99, zl100, zl113, zl114, zl115, zl116, zl117, zl122, zl124, zl125, zl127, zl128, zl136, zl200, zl201, zl202, zl203, zl204, zl205, zl206, zl207, zl208, zl209, zl210, zl211, zl212, zl213, zl214, zl215, zl216, zl217, zl218, zl219, zl220, zl235, zl236, zl255, zl280, zl287, zl900, zl999, zl1000, zl1001, zl1136, zl1960, zl3000, zl3001, zl3002, zl3003, zl3004, zl3005, zl3006, zl3007, zl3008, zl3009, zl268435456, zl1000000000])]
    have s1 : sm o123 P (u2 P 123 (287 * (k + 1) + st) (lN (nst (ncb (nxs v s) g but (k + 1)) st))) := sm_u2' rfl
    obtain ⟨P', g1, g2, g3⟩ := ih n (st + 1) _ (by omega) (by omega) (TH_123 hT s1) (fun j hj st' hst' => by
      rw [u2_2, if_neg (by omega)]; exact hB j hj st' hst') (fun st' hst' => by
      rw [u2_2]
      by_cases e : st' = st
      · rw [e, if_pos ⟨rfl, rfl⟩]
      · rw [if_neg (by omega)]; exact hD st' (by omega))
    exact ⟨P', hin.trans g1, g2, sm_trans s1 g3⟩
theorem back_lev {v : NV} {s : SV} {g N w : Nat} {but : Option Nat} (hv : NVok v) (hs : SVok v s) (hw : sW s = some w) (hbut : ∀ u, but = some u → u < 7) (hN : N ≤ 10) :
    ∀ (m n k : Nat) (P : PM), k + m = N → m < n → MSt P 110 113 s → TH P v s (sA s) → MB P v s g but k →
    ∃ P', l_Mo_laysBack_53 n (nI N) (oI but) (nI (k + 1)) P = some (lN (ncb (nxs v s) g but N (pl s w)), P') ∧ MB P' v s g but N ∧ sm o123 P P' := by
  obtain ⟨h280, _, h7⟩ := pl_ok hv hs hw
  intro m
  induction m with
  | zero =>
    intro n k P hk hn h1 hT hB
    obtain ⟨n, rfl⟩ : ∃ r, n = r + 1 := ⟨n - 1, by omega⟩
    obtain rfl : k = N := by omega
    have hm := mp_lt h280
    rw [l_Mo_laysBack_53, if_pos (nI_lt (by omega) (by omega)), standNow_M h1 hv hs hw, show (287 : Int32) = nI 287 from rfl, pk_mul, nI_add, z_ck (by omega) (by omega), z_cl (by omega), hB k (Nat.le_refl _) _ hm, nst_mp]
    exact ⟨P, rfl, hB, sm_refl⟩
  | succ m ih =>
    intro n k P hk hn h1 hT hB
    obtain ⟨n, rfl⟩ : ∃ r, n = r + 1 := ⟨n - 1, by omega⟩
    rw [l_Mo_laysBack_53, if_neg (nI_nlt (by omega) (by omega))]
    obtain ⟨P1, g1, g2, g3⟩ := back_row (N := N) (k53 := fun z0 z1 z2 Pz => l_Mo_laysBack_53 n z0 z1 z2 Pz) hv hbut (show k < 10 by omega) 287 FU 0 P (by omega) (by have := FU_big; omega) hT hB (fun st' h => by omega)
    obtain ⟨P2, r1, r2, r3⟩ := ih n (k + 1) P1 (by omega) (by omega) (MSt_sm h1 g3 rfl) (TH_123 hT g3) g2
    exact ⟨P2, by rw [show (0 : Int32) = nI 0 from rfl, g1]; exact r1, r2, sm_trans g3 r3⟩
theorem back_fill {v : NV} {s : SV} {h z N : Nat} {but : Option Nat} (hz1 : 1 ≤ z) (hz : z ≤ 40) (hh : h < 7) :
    ∀ (m n st : Nat) (P : PM), st + m = 287 → m < n → (∀ st', st' < st → P.2 123 st' = lN (nst (ncb (nxs v s) (40 * h + z - 1) but 0) st')) →
    ∃ P', l_Mo_laysBack_14 n (nI N) (nI h) (nI z) (oI but) (nI st) P = l_Mo_laysBack_53 FU (nI N) (oI but) (nI (0 + 1)) P' ∧ MB P' v s (40 * h + z - 1) but 0 ∧ sm o123 P P' := by
  intro m
  induction m with
  | zero =>
    intro n st P ht hn hD
    obtain ⟨n, rfl⟩ : ∃ r, n = r + 1 := ⟨n - 1, by omega⟩
    rw [l_Mo_laysBack_14, if_pos (show (287 : Int32) ≤ nI st from (nI_le (by omega) (by omega) : nI 287 ≤ nI st))]
    refine ⟨P, rfl, fun j hj st' hst' => ?_, sm_refl⟩
    obtain rfl : j = 0 := by omega
    rw [Nat.mul_zero, Nat.zero_add]
    exact hD st' (by omega)
  | succ m ih =>
    intro n st P ht hn hD
    obtain ⟨n, rfl⟩ : ∃ r, n = r + 1 := ⟨n - 1, by omega⟩
    have put : ∀ x : Int64, x = lN (nst (ncb (nxs v s) (40 * h + z - 1) but 0) st) → ∃ P', j_Mo_laysBack_43 (fun z0 z1 z2 z3 z4 Pz => l_Mo_laysBack_14 n z0 z1 z2 z3 z4 Pz) (nI N) (nI h) (nI z) (oI but) (nI st) (nI st) x P = l_Mo_laysBack_53 FU (nI N) (oI but) (nI (0 + 1)) P' ∧ MB P' v s (40 * h + z - 1) but 0 ∧ sm o123 P P' := by
      rintro x rfl
      have s1 : sm o123 P (u2 P 123 st (lN (nst (ncb (nxs v s) (40 * h + z - 1) but 0) st))) := sm_u2' rfl
      obtain ⟨P', g1, g2, g3⟩ := ih n (st + 1) _ (by omega) (by omega) (fun st' hst' => by
        rw [u2_2]
        by_cases e : st' = st
        · rw [e, if_pos ⟨rfl, rfl⟩]
        · rw [if_neg (by omega)]; exact hD st' (by omega))
      refine ⟨P', ?_, g2, sm_trans s1 g3⟩
      unfold j_Mo_laysBack_43
      rw [z_ck (by omega) (by omega), z_cl (by omega), show (1 : Int32) = nI 1 from rfl, nI_add]
      exact g1
    have hso : f_Mo_standOf (nI h) (nI z) P = nI (41 * h + z) := by
      unfold f_Mo_standOf
      rw [show (41 : Int32) = nI 41 from rfl, pk_mul, nI_add]
    rw [l_Mo_laysBack_14, if_neg (show ¬ (287 : Int32) ≤ nI st by simp (disch := omega) only [z_add, z_mul, z_sub, z_subm, z_addm, z_lt_t, z_lt_f, z_le_t, z_le_f, z_eq_t, z_eq_f, z_eqm, z_meq, z_mm, z_ltm, z_mlt, z_lem, z_mle, z_cl, z_ck, u1_1, u1_2, u2_1, u2_2, ↓reduceIte, Option.bind_some, Option.bind_none, bd2_some, lb_eq, and_true, and_false, true_and, false_and, not_true_eq_false, not_false_eq_true, eq_self_iff_true, if_true, if_false, Nat.reduceEqDiff, Nat.reduceAdd, Nat.reduceMul, Nat.reduceSub, Bool.false_eq_true, zl0, zl1, zl2, zl3, zl4, zl5, zl6, zl7, zl8, zl9, zl10, zl11, zl12, zl13, zl14, zl15, zl16, zl17, zl18, zl19, zl20, zl22, zl23, zl24, zl25, zl30, zl31, zl32, zl33, zl34, zl35, zl36, zl37, zl38, zl39, zl40, zl41, zl42, zl43, zl45, zl48, zl49, zl57, zl58, zl59, zl60, zl61, zl62, zl63, zl64, zl91, zl93, zl97, zl98, zl99, zl100, zl113, zl114, zl115, zl116, zl117, zl122, zl124, zl125, zl127, zl128, zl136, zl200, zl201, zl202, zl203, zl204, zl205, zl206, zl207, zl208, zl209, zl210, zl211, zl212, zl213, zl214, zl215, zl216, zl217, zl218, zl219, zl220, zl235, zl236, zl255, zl280, zl287, zl900, zl999, zl1000, zl1001, zl1136, zl1960, zl3000, zl3001, zl3002, zl3003, zl3004, zl3005, zl3006, zl3007, zl3008, zl3009, zl268435456, zl1000000000]), hso]
    have hval : nst (ncb (nxs v s) (40 * h + z - 1) but 0) st = if st = 41 * h + z then 1 else 0 := by
      unfold nst
      by_cases h0 : st % 41 = 0
      · rw [if_pos h0, if_neg (by omega)]
      · rw [if_neg h0]
        show (if 40 * (st / 41) + st % 41 - 1 = 40 * h + z - 1 then 1 else 0) = _
        by_cases e : st = 41 * h + z
        · rw [if_pos e, if_pos (by omega)]
        · rw [if_neg e, if_neg (by omega)]
    by_cases e : st = 41 * h + z
    · rw [if_pos (congrArg nI e)]
      exact put _ (by rw [hval, if_pos e]; rfl)
    · rw [if_neg (by simp (disch := omega) only [z_add, z_mul, z_sub, z_subm, z_addm, z_lt_t, z_lt_f, z_le_t, z_le_f, z_eq_t, z_eq_f, z_eqm, z_meq, z_mm, z_ltm, z_mlt, z_lem, z_mle, z_cl, z_ck, u1_1, u1_2, u2_1, u2_2, ↓reduceIte, Option.bind_some, Option.bind_none, bd2_some, lb_eq, and_true, and_false, true_and, false_and, not_true_eq_false, not_false_eq_true, eq_self_iff_true, if_true, if_false, Nat.reduceEqDiff, Nat.reduceAdd, Nat.reduceMul, Nat.reduceSub, Bool.false_eq_true, zl0, zl1, zl2, zl3, zl4, zl5, zl6, zl7, zl8, zl9, zl10, zl11, zl12, zl13, zl14, zl15, zl16, zl17, zl18, zl19, zl20, zl22, zl23, zl24, zl25, zl30, zl31, zl32, zl33, zl34, zl35, zl36, zl37, zl38, zl39, zl40, zl41, zl42, zl43, zl45, zl48, zl49, zl57, zl58, zl59, zl60, zl61, zl62, zl63, zl64, zl91, zl93, zl97, zl98, zl99, zl100, zl113, zl114, zl115, zl116, zl117, zl122, zl124, zl125, zl127, zl128, zl136, zl200, zl201, zl202, zl203, zl204, zl205, zl206, zl207, zl208, zl209, zl210, zl211, zl212, zl213, zl214, zl215, zl216, zl217, zl218, zl219, zl220, zl235, zl236, zl255, zl280, zl287, zl900, zl999, zl1000, zl1001, zl1136, zl1960, zl3000, zl3001, zl3002, zl3003, zl3004, zl3005, zl3006, zl3007, zl3008, zl3009, zl268435456, zl1000000000])]
      exact put _ (by rw [hval, if_neg e]; rfl)
def lyb (o : Nat) : Bool := o == 114 || o == 115 || o == 117 || o == 123
theorem MRep_lyb {P P' : PM} {a : AS} (h : MRep P a) (g : sm lyb P P') : MRep P' a := MRep_me h (me_sm g (fun o e => by simp [msr] at e; simp [lyb]; omega) rfl)
theorem lyb_mo {P P' : PM} (g : sm lyb P P') : sm mo P P' := sm_mono g (fun o q => by simp [mo] at q; simp [lyb]; omega)
theorem laysBack_M {P : PM} {a : AS} {w N h z : Nat} {but : Option Nat} (hM : MRep P a) (hok : AOk a) (hw : sW (aS a) = some w) (hN : N ≤ 10) (hz1 : 1 ≤ z) (hz : z ≤ 40) (hh : h < 7) (hbut : ∀ u, but = some u → u < 7) :
    ∃ P', f_Mo_laysBack (nI N) (nI h) (nI z) (oI but) P = some (lN (ncb (nxs (aV a) (aS a)) (40 * h + z - 1) but N (pl (aS a) w)), P') ∧ TH P' (aV a) (aS a) (sA (aS a)) ∧ MB P' (aV a) (aS a) (40 * h + z - 1) but N ∧ MRep P' a ∧ sm lyb P P' := by
  obtain ⟨P1, g1, g2, g3⟩ := laysThen_M hok.1 hok.2.1 hok.2.1.2.2.2.1 hM.1 (fun j hj => hM.2.1.2.2.2.2 j hj)
  have s1 : sm lyb P P1 := sm_mono g3 (fun o q => by simp [lyb] at q; simp [thr]; omega)
  have M1 := MRep_lyb hM s1
  obtain ⟨P2, k1, k2, k3⟩ := back_fill (v := aV a) (s := aS a) (h := h) (z := z) (N := N) (but := but) hz1 hz hh 287 FU 0 P1 (by omega) (by have := FU_big; omega) (fun st' h => by omega)
  obtain ⟨P3, r1, r2, r3⟩ := back_lev (N := N) hok.1 hok.2.1 hw hbut hN N FU 0 P2 (by omega) (by have := FU_big; omega) (MSt_sm M1.2.1 k3 rfl) (TH_123 g2 k3) k2
  have s3 : sm o123 P1 P3 := sm_trans k3 r3
  have s4 : sm lyb P P3 := sm_trans s1 (sm_mono s3 (fun o q => by simp [lyb] at q; simp [o123]; omega))
  refine ⟨P3, ?_, TH_123 g2 s3, r2, MRep_lyb hM s4, s4⟩
  unfold f_Mo_laysBack
  rw [m116 hM.2.1, g1, Option.bind_some]
  exact k1.trans r1
/-- the reference's route told -/
theorem backBy_in {v : NV} {s : SV} {g N i c p t0 : Nat} {P : PM} {k60 : Int32 → Int32 → Int32 → Int32 → PM → Option (Int32 × PM)} {r : Option (Int32 × PM)} (hv : NVok v) (hT : TH P v s (sA s)) (hB : MB P v s g none N) (hN : N ≤ 10) (hc : c < N) (hp : p < 280)
    (hr : ∀ q, fbk (nxs v s) g (vN v) (N - c) p = some t0 → nxs v s p t0 = some q → r = if c = i then some (nI t0, P) else k60 (nI N) (nI i) (nI (mp q)) (nI (c + 1)) P) (hci : c ≤ i) (hi : i < N) (h0 : fbk (nxs v s) g (vN v) (N - c) p = some t0) :
    ∀ (m n t : Nat), t + m = vN v → m < n → ff (fbq (nxs v s) (ncb (nxs v s) g none (N - c - 1)) p) m t = some t0 → l_Mo_backBy_63 k60 n (nI N) (nI i) (nI (mp p)) (nI c) (nI t) P = r := by
  have hN7 := hv.1
  intro m
  induction m with
  | zero =>
    intro n t ht hn h
    cases h
  | succ m ih =>
    intro n t ht hn h
    obtain ⟨n, rfl⟩ : ∃ r, n = r + 1 := ⟨n - 1, by omega⟩
    have hm := mp_lt hp
    have hrt := @rtd_mp v s (sA s) p t
    rw [l_Mo_backBy_63, routed_M hT hm (by omega), Option.bind_some, hrt]
    unfold j_Mo_backBy_104
    rw [show (1 : Int32) = nI 1 from rfl, nI_add]
    have h : (if fbq (nxs v s) (ncb (nxs v s) g none (N - c - 1)) p t = true then some t else ff (fbq (nxs v s) (ncb (nxs v s) g none (N - c - 1)) p) m (t + 1)) = some t0 := h
    cases e : nxp v s (sA s) p t with
    | none =>
      have hf : fbq (nxs v s) (ncb (nxs v s) g none (N - c - 1)) p t = false := by unfold fbq; rw [show nxs v s p t = none from e]
      rw [hf, if_neg (by decide)] at h
      rw [Option.map_none, oI_n, if_pos (by decide)]
      exact ih n (t + 1) (by omega) (by omega) h
    | some q =>
      obtain ⟨hq, _⟩ := nxp_in hv e
      have hmq := mp_lt hq
      have hf : fbq (nxs v s) (ncb (nxs v s) g none (N - c - 1)) p t = decide (0 < ncb (nxs v s) g none (N - c - 1) q) := by unfold fbq; rw [show nxs v s p t = some q from e]
      have hcb := ncb_b (nxs v s) g none (show N - c - 1 ≤ 10 by omega) q
      rw [hf] at h
      rw [Option.map_some, oI_s, if_neg (by simp (disch := omega) only [z_add, z_mul, z_sub, z_subm, z_addm, z_lt_t, z_lt_f, z_le_t, z_le_f, z_eq_t, z_eq_f, z_eqm, z_meq, z_mm, z_ltm, z_mlt, z_lem, z_mle, z_cl, z_ck, u1_1, u1_2, u2_1, u2_2, ↓reduceIte, Option.bind_some, Option.bind_none, bd2_some, lb_eq, and_true, and_false, true_and, false_and, not_true_eq_false, not_false_eq_true, eq_self_iff_true, if_true, if_false, Nat.reduceEqDiff, Nat.reduceAdd, Nat.reduceMul, Nat.reduceSub, Bool.false_eq_true, zl0, zl1, zl2, zl3, zl4, zl5, zl6, zl7, zl8, zl9, zl10, zl11, zl12, zl13, zl14, zl15, zl16, zl17, zl18, zl19, zl20, zl22, zl23, zl24, zl25, zl30, zl31, zl32, zl33, zl34, zl35, zl36, zl37, zl38, zl39, zl40, zl41, zl42, zl43, zl45, zl48, zl49, zl57, zl58, zl59, zl60, zl61, zl62, zl63, zl64, zl91, zl93, zl97, zl98, zl99, zl100, zl113, zl114, zl115, zl116, zl117, zl122, zl124, zl125, zl127, zl128, zl136, zl200, zl201, zl202, zl203, zl204, zl205, zl206, zl207, zl208, zl209, zl210, zl211, zl212, zl213, zl214, zl215, zl216, zl217, zl218, zl219, zl220, zl235, zl236, zl255, zl280, zl287, zl900, zl999, zl1000, zl1001, zl1136, zl1960, zl3000, zl3001, zl3002, zl3003, zl3004, zl3005, zl3006, zl3007, zl3008, zl3009, zl268435456, zl1000000000]), Option.bind_some, pk_sub (show c ≤ N by omega), pk_sub (show 1 ≤ N - c by omega), show (287 : Int32) = nI 287 from rfl, pk_mul, nI_add, z_ck (by omega) (by omega), z_cl (by omega), hB (N - c - 1) (by omega) _ hmq, nst_mp]
      by_cases c0 : ncb (nxs v s) g none (N - c - 1) q = 0
      · rw [c0, if_neg (by decide)] at h
        rw [c0, if_pos (by decide)]
        exact ih n (t + 1) (by omega) (by omega) h
      · rw [if_pos (by rw [decide_eq_true_eq]; omega)] at h
        cases h
        have e0 : ¬ lg_cmp (lN (ncb (nxs v s) g none (N - c - 1) q)) (0 : Int64) = (0 : Int32) := by
          rw [lgc_eq]
          intro q2
          have := (pk_lEQ (a := ncb (nxs v s) g none (N - c - 1) q) (b := 0) (by omega) (by omega)).mp q2
          exact c0 this
        rw [if_neg e0, hr q h0 e, Option.bind_some, nI_add]
        by_cases ei : c = i
        · rw [if_pos (congrArg nI ei), if_pos ei]
        · rw [if_neg (by simp (disch := omega) only [z_add, z_mul, z_sub, z_subm, z_addm, z_lt_t, z_lt_f, z_le_t, z_le_f, z_eq_t, z_eq_f, z_eqm, z_meq, z_mm, z_ltm, z_mlt, z_lem, z_mle, z_cl, z_ck, u1_1, u1_2, u2_1, u2_2, ↓reduceIte, Option.bind_some, Option.bind_none, bd2_some, lb_eq, and_true, and_false, true_and, false_and, not_true_eq_false, not_false_eq_true, eq_self_iff_true, if_true, if_false, Nat.reduceEqDiff, Nat.reduceAdd, Nat.reduceMul, Nat.reduceSub, Bool.false_eq_true, zl0, zl1, zl2, zl3, zl4, zl5, zl6, zl7, zl8, zl9, zl10, zl11, zl12, zl13, zl14, zl15, zl16, zl17, zl18, zl19, zl20, zl22, zl23, zl24, zl25, zl30, zl31, zl32, zl33, zl34, zl35, zl36, zl37, zl38, zl39, zl40, zl41, zl42, zl43, zl45, zl48, zl49, zl57, zl58, zl59, zl60, zl61, zl62, zl63, zl64, zl91, zl93, zl97, zl98, zl99, zl100, zl113, zl114, zl115, zl116, zl117, zl122, zl124, zl125, zl127, zl128, zl136, zl200, zl201, zl202, zl203, zl204, zl205, zl206, zl207, zl208, zl209, zl210, zl211, zl212, zl213, zl214, zl215, zl216, zl217, zl218, zl219, zl220, zl235, zl236, zl255, zl280, zl287, zl900, zl999, zl1000, zl1001, zl1136, zl1960, zl3000, zl3001, zl3002, zl3003, zl3004, zl3005, zl3006, zl3007, zl3008, zl3009, zl268435456, zl1000000000]), if_neg ei]
theorem backBy_out {v : NV} {s : SV} {g N i : Nat} {P : PM} (hv : NVok v) (hT : TH P v s (sA s)) (hB : MB P v s g none N) (hN : N ≤ 10) (hi : i < N) :
    ∀ (m n c p : Nat), c + m = i → m < n → p < 280 → 0 < ncb (nxs v s) g none (N - c) p → l_Mo_backBy_60 n (nI N) (nI i) (nI (mp p)) (nI c) P = some (oI (sbk (nxs v s) g (vN v) (i - c) (N - c) p), P) := by
  intro m
  induction m with
  | zero =>
    intro n c p hc hn hp h
    obtain ⟨n, rfl⟩ : ∃ r, n = r + 1 := ⟨n - 1, by omega⟩
    obtain rfl : c = i := by omega
    obtain ⟨k, hk⟩ : ∃ k, N - c = k + 1 := ⟨N - c - 1, by omega⟩
    obtain ⟨t0, ht0⟩ : ∃ t, fbk (nxs v s) g (vN v) (N - c) p = some t := by rw [hk] at h ⊢; exact fbk_ex (nxs_N hv) hv.1 h
    rw [l_Mo_backBy_60]
    refine backBy_in (t0 := t0) hv hT hB hN (by omega) hp (fun q _ _ => ?_) (Nat.le_refl _) hi ht0 (vN v) FU 0 (by omega) (by have := FU_big; have := hv.1; omega) ?_
    · rw [if_pos rfl, Nat.sub_self]
      show some (oI (fbk (nxs v s) g (vN v) (N - c) p), P) = _
      rw [ht0]
      rfl
    · rw [hk] at ht0
      rw [hk, Nat.add_sub_cancel]
      exact ht0
  | succ m ih =>
    intro n c p hc hn hp h
    obtain ⟨n, rfl⟩ : ∃ r, n = r + 1 := ⟨n - 1, by omega⟩
    obtain ⟨k, hk⟩ : ∃ k, N - c = k + 1 := ⟨N - c - 1, by omega⟩
    obtain ⟨d, hd⟩ : ∃ d, i - c = d + 1 := ⟨i - c - 1, by omega⟩
    obtain ⟨t0, ht0⟩ : ∃ t, fbk (nxs v s) g (vN v) (N - c) p = some t := by rw [hk] at h ⊢; exact fbk_ex (nxs_N hv) hv.1 h
    have ht1 : fbk (nxs v s) g (vN v) (k + 1) p = some t0 := by rw [← hk]; exact ht0
    obtain ⟨_, q0, hq0, hc0⟩ := fbk_some ht1
    rw [l_Mo_backBy_60]
    refine backBy_in (t0 := t0) hv hT hB hN (by omega) hp (fun q _ hq => ?_) (by omega) hi ht0 (vN v) FU 0 (by omega) (by have := FU_big; have := hv.1; omega) ?_
    · rw [hq0] at hq
      cases hq
      have hq280 := (nxp_in hv hq0).1
      have r := ih n (c + 1) q0 (by omega) (by omega) hq280 (by rw [show N - (c + 1) = k by omega]; exact hc0)
      rw [if_neg (by omega), r, hd, show i - (c + 1) = d by omega, show N - (c + 1) = k by omega]
      show some (oI (match fbk (nxs v s) g (vN v) (N - c) p with | none => none | some t => match nxs v s p t with | none => none | some q => sbk (nxs v s) g (vN v) d (N - c - 1) q), P) = _
      rw [ht0]
      show some (oI (match nxs v s p t0 with | none => none | some q => sbk (nxs v s) g (vN v) d (N - c - 1) q), P) = _
      rw [hq0, hk, Nat.add_sub_cancel]
    · rw [hk, Nat.add_sub_cancel]
      exact ht1
