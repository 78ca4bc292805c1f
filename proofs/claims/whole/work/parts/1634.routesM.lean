/-! the reference: least costs -/
def F2 : Nat := 268435456
def o118 (o : Nat) : Bool := o == 118
def KM (P : PM) (K : Nat → Nat) : Prop := (∀ p, p < 280 → P.1 118 (mp p) = nI (K p)) ∧ ∀ k, k < 287 → k % 41 = 0 → P.1 118 k = nI F2
def MX (P : PM) (v : NV) (s : SV) : Prop := TH P v s (sA s) ∧ MNet P 110 0 v
theorem MX_118 {P P' : PM} {v : NV} {s : SV} (h : MX P v s) (g : sm o118 P P') : MX P' v s :=
  ⟨fun k t hk ht => by rw [g.1 117 rfl]; exact h.1 k t hk ht, MNet_sm h.2 g rfl⟩
noncomputable def om (v : NV) (s : SV) (by' : Nat) (K : Nat → Nat) (p t : Nat) : Nat :=
  match nxp v s (sA s) p t with
  | some q => if K q = F2 then F2 else K q + ccb by' v p t
  | none => F2
theorem farBy_0 {P : PM} {v : NV} {s : SV} {x : Int32} {k t : Nat} (hX : MX P v s) (hk : k < 287) (h0 : k % 41 = 0) (ht : t < 7) : f_Mo_farBy (nI k) (nI t) x P = some (nI F2) := by
  unfold f_Mo_farBy
  rw [routed_M hX.1 hk ht, rtd_0 h0]
  rfl
theorem farBy_M {P : PM} {v : NV} {s : SV} {by' p t : Nat} {K : Nat → Nat} (hv : NVok v) (hX : MX P v s) (hb : by' ≤ 1) (hK : KM P K) (hF : ∀ j, K j ≤ F2) (hp : p < 280) (ht : t < 7) :
    f_Mo_farBy (nI (mp p)) (nI t) (nI by') P = some (nI (om v s by' K p t)) := by
  have hF' : ∀ j, K j ≤ 268435456 := hF
  have hmp := mp_lt hp
  have hm2 := (mp_ds p).1
  unfold f_Mo_farBy om
  rw [routed_M hX.1 hmp ht, rtd_mp]
  cases e : nxp v s (sA s) p t with
  | none => rfl
  | some q =>
    obtain ⟨hq, _, htN, hpN, _⟩ := nxp_in hv e
    have hmq := mp_lt hq
    have hN := hv.1
    rw [Option.bind_some, show oI (Option.map mp (some q)) = nI (mp q) from rfl, if_neg (by simp (disch := omega) only [z_add, z_mul, z_sub, z_subm, z_addm, z_lt_t, z_lt_f, z_le_t, z_le_f, z_eq_t, z_eq_f, z_eqm, z_meq, z_mm, z_ltm, z_mlt, z_lem, z_mle, z_cl, z_ck, u1_1, u1_2, u2_1, u2_2, ↓reduceIte, Option.bind_some, Option.bind_none, bd2_some, lb_eq, and_true, and_false, true_and, false_and, not_true_eq_false, not_false_eq_true, eq_self_iff_true, if_true, if_false, Nat.reduceEqDiff, Nat.reduceAdd, Nat.reduceMul, Nat.reduceSub, Bool.false_eq_true, zl0, zl1, zl2, zl3, zl4, zl5, zl6, zl7, zl8, zl9, zl10, zl11, zl12, zl13, zl14, zl15, zl16, zl17, zl18, zl19, zl20, zl22, zl23, zl24, zl25, zl30, zl31, zl32, zl33, zl34, zl35, zl36, zl37, zl38, zl39, zl40, zl41, zl42, zl43, zl45, zl48, zl49, zl57, zl58, zl59, zl60, zl61, zl62, zl63, zl64, zl91, zl93, zl97, zl98, zl99, zl100, zl113, zl114, zl115, zl116, zl117, zl122, zl124, zl125, zl127, zl128, zl136, zl200, zl201, zl202, zl203, zl204, zl205, zl206, zl207, zl208, zl209, zl210, zl211, zl212, zl213, zl214, zl215, zl216, zl217, zl218, zl219, zl220, zl235, zl236, zl255, zl280, zl287, zl900, zl999, zl1000, zl1001, zl1136, zl1960, zl3000, zl3001, zl3002, zl3003, zl3004, zl3005, zl3006, zl3007, zl3008, zl3009, zl268435456, zl1000000000]), z_ck hmq (by omega), z_cl (by omega), hK.1 q hq, show (268435456 : Int32) = nI F2 from rfl]
    show _ = some (nI (if K q = F2 then F2 else K q + ccb by' v p t))
    by_cases c : K q = F2
    · rw [if_pos (congrArg nI c), if_pos c]; rfl
    · rw [if_neg (fun h => c ((nI_eq (by have := hF' q; omega) (by decide)).mp h)), if_neg c, z_ck hmq (by omega)]
      unfold f_Mo_countOf ccb hrb
      by_cases c2 : by' = 0
      · rw [c2, if_pos (by decide), if_pos rfl, Option.bind_some, show (1 : Int32) = nI 1 from rfl, nI_add]
      · obtain rfl : by' = 1 := by omega
        rw [if_neg (by decide), show (41 : Int32) = nI 41 from rfl, pk_div (by omega) (by omega) (by omega), hm2, hours_M hX.2 (by omega) (by omega), Option.bind_some, Option.bind_some, if_neg (by decide), show (1000 : Int32) = nI 1000 from rfl, pk_mul, show (1 : Int32) = nI 1 from rfl, nI_add, nI_add]
theorem imp_om {v : NV} {s : SV} {by' p t : Nat} {K : Nat → Nat} (hF : ∀ j, K j ≤ F2) :
    imp (nxp v s (sA s)) (ccb by' v) K p t = if om v s by' K p t < K p then some (om v s by' K p t) else none := by
  have := hF p
  unfold imp om
  cases e : nxp v s (sA s) p t with
  | none => exact (if_neg (by show ¬ F2 < K p; omega)).symm
  | some q =>
    have := hF q
    show (if ccb by' v p t + K q < K p then some _ else none) = if (if K q = F2 then F2 else K q + ccb by' v p t) < K p then some (if K q = F2 then F2 else K q + ccb by' v p t) else none
    rw [Nat.add_comm (ccb by' v p t)]
    by_cases c : K q = F2
    · rw [if_pos c, if_neg (by omega), if_neg (by omega)]
    · rw [if_neg c]
theorem om_le {v : NV} {s : SV} {by' p t : Nat} {K : Nat → Nat} (hv : NVok v) (hF : ∀ j, K j ≤ F2) : om v s by' K p t < 300000000 := by
  unfold om
  cases nxp v s (sA s) p t with
  | none => show F2 < _; decide
  | some q =>
    show (if K q = F2 then _ else _) < _
    have h1 := hrb_le (by' := by') (p := p) (t := t) hv
    have h2 : K q ≤ 268435456 := hF q
    split
    · decide
    · unfold ccb; omega
theorem rls_0 {nx : Nat → Nat → Option Nat} {c : Nat → Nat → Nat} {K : Nat → Nat} {f : Bool} : ∀ (l : List (Nat × Nat)), (∀ x ∈ l, imp nx c K x.1 x.2 = none) → rls nx c l (K, f) = (K, f)
  | [], _ => rfl
  | (p, t) :: l, h => by
    show rls nx c l (sq1 K p f (imp nx c K p t)) = _
    rw [h (p, t) (List.mem_cons_self ..)]
    exact rls_0 l (fun x hx => h x (List.mem_cons_of_mem _ hx))
theorem imp_0 {nx : Nat → Nat → Option Nat} {c : Nat → Nat → Nat} {K : Nat → Nat} {p t : Nat} (h : K p = 0) : imp nx c K p t = none := by
  unfold imp
  cases nx p t with
  | none => rfl
  | some q => exact if_neg (by omega)
theorem imp_ex {nx : Nat → Nat → Option Nat} {c : Nat → Nat → Nat} {g : Nat → Bool} {N F : Nat} {K : Nat → Nat} {p t : Nat} (hJ : Jk nx c g N F K) (ht : t < N) (h : ∀ a, ds nx c g N p = some a → K p ≤ a) : imp nx c K p t = none := by
  unfold imp
  cases e : nx p t with
  | none => rfl
  | some q =>
    refine if_neg (fun hlt => ?_)
    have h1 := (hJ p).1
    rcases (hJ q).2 with h2 | ⟨m, hm⟩
    · omega
    · obtain ⟨b, h3, h4⟩ := (ds_D nx c g N q).2 m _ hm
      obtain ⟨a, h5, h6⟩ := ds_le ht e h3
      have := h a h5
      omega
theorem far_in {g : Nat → Bool} {v : NV} {s : SV} {by' : Nat} {k63 : Int32 → Int32 → PM → Option (Int32 × PM)} {k74 : Int32 → Int32 → Int32 → PM → Option (Int32 × PM)} (hv : NVok v) (hb : by' ≤ 1) {p : Nat} (hp : p < 280) :
    ∀ (m n t : Nat) (K : Nat → Nat) (f : Bool) (P : PM), t + m = 7 → m < n → MX P v s → KM P K → Jk (nxp v s (sA s)) (ccb by' v) g (vN v) F2 K →
    ∃ P', l_Mo_laysFar_85 k63 k74 n (nI by') (flg f) (nI (mp p)) (nI t) P = k74 (nI by') (flg (rls (nxp v s (sA s)) (ccb by' v) (prs p (vN v - t) t) (K, f)).2) (nI (mp p + 1)) P' ∧
      KM P' (rls (nxp v s (sA s)) (ccb by' v) (prs p (vN v - t) t) (K, f)).1 ∧ sm o118 P P' := by
  have hN := hv.1
  have hmp := mp_lt hp
  intro m
  induction m with
  | zero =>
    intro n t K f P ht hn hX hK hJ
    obtain ⟨n, rfl⟩ : ∃ r, n = r + 1 := ⟨n - 1, by omega⟩
    have e : vN v - t = 0 := by omega
    rw [e, l_Mo_laysFar_85, if_pos (by simp (disch := omega) only [z_add, z_mul, z_sub, z_subm, z_addm, z_lt_t, z_lt_f, z_le_t, z_le_f, z_eq_t, z_eq_f, z_eqm, z_meq, z_mm, z_ltm, z_mlt, z_lem, z_mle, z_cl, z_ck, u1_1, u1_2, u2_1, u2_2, ↓reduceIte, Option.bind_some, Option.bind_none, bd2_some, lb_eq, and_true, and_false, true_and, false_and, not_true_eq_false, not_false_eq_true, eq_self_iff_true, if_true, if_false, Nat.reduceEqDiff, Nat.reduceAdd, Nat.reduceMul, Nat.reduceSub, Bool.false_eq_true, zl0, zl1, zl2, zl3, zl4, zl5, zl6, zl7, zl8, zl9, zl10, zl11, zl12, zl13, zl14, zl15, zl16, zl17, zl18, zl19, zl20, zl22, zl23, zl24, zl25, zl30, zl31, zl32, zl33, zl34, zl35, zl36, zl37, zl38, zl39, zl40, zl41, zl42, zl43, zl45, zl48, zl49, zl57, zl58, zl59, zl60, zl61, zl62, zl63, zl64, zl91, zl93, zl97, zl98, zl99, zl100, zl113, zl114, zl115, zl116, zl117, zl122, zl124, zl125, zl127, zl128, zl136, zl200, zl201, zl202, zl203, zl204, zl205, zl206, zl207, zl208, zl209, zl210, zl211, zl212, zl213, zl214, zl215, zl216, zl217, zl218, zl219, zl220, zl235, zl236, zl255, zl280, zl287, zl900, zl999, zl1000, zl1001, zl1136, zl1960, zl3000, zl3001, zl3002, zl3003, zl3004, zl3005, zl3006, zl3007, zl3008, zl3009, zl268435456, zl1000000000])]
    unfold j_Mo_laysFar_149
    rw [show (1 : Int32) = nI 1 from rfl, nI_add]
    exact ⟨P, rfl, hK, sm_refl⟩
  | succ m ih =>
    intro n t K f P ht hn hX hK hJ
    obtain ⟨n, rfl⟩ : ∃ r, n = r + 1 := ⟨n - 1, by omega⟩
    have hF : ∀ j, K j ≤ F2 := fun j => (hJ j).1
    have hF' : ∀ j, K j ≤ 268435456 := hF
    have hom := om_le (s := s) (by' := by') (p := p) (t := t) hv hF
    rw [l_Mo_laysFar_85, if_neg (by simp (disch := omega) only [z_add, z_mul, z_sub, z_subm, z_addm, z_lt_t, z_lt_f, z_le_t, z_le_f, z_eq_t, z_eq_f, z_eqm, z_meq, z_mm, z_ltm, z_mlt, z_lem, z_mle, z_cl, z_ck, u1_1, u1_2, u2_1, u2_2, ↓reduceIte, Option.bind_some, Option.bind_none, bd2_some, lb_eq, and_true, and_false, true_and, false_and, not_true_eq_false, not_false_eq_true, eq_self_iff_true, if_true, if_false, Nat.reduceEqDiff, Nat.reduceAdd, Nat.reduceMul, Nat.reduceSub, Bool.false_eq_true, zl0, zl1, zl2, zl3, zl4, zl5, zl6, zl7, zl8, zl9, zl10, zl11, zl12, zl13, zl14, zl15, zl16, zl17, zl18, zl19, zl20, zl22, zl23, zl24, zl25, zl30, zl31, zl32, zl33, zl34, zl35, zl36, zl37, zl38, zl39, zl40, zl41, zl42, zl43, zl45, zl48, zl49, zl57, zl58, zl59, zl60, zl61, zl62, zl63, zl64, zl91, zl93, zl97, zl98, zl99, zl100, zl113, zl114, zl115, zl116, zl117, zl122, zl124, zl125, zl127, zl128, zl136, zl200, zl201, zl202, zl203, zl204, zl205, zl206, zl207, zl208, zl209, zl210, zl211, zl212, zl213, zl214, zl215, zl216, zl217, zl218, zl219, zl220, zl235, zl236, zl255, zl280, zl287, zl900, zl999, zl1000, zl1001, zl1136, zl1960, zl3000, zl3001, zl3002, zl3003, zl3004, zl3005, zl3006, zl3007, zl3008, zl3009, zl268435456, zl1000000000]), z_ck hmp (by omega), z_cl (by omega), hK.1 p hp]
    by_cases c0 : K p = 0
    · rw [c0, if_pos (by decide)]
      unfold j_Mo_laysFar_149
      rw [show (1 : Int32) = nI 1 from rfl, nI_add, rls_0 _ (fun x hx => by rw [(prs_mem.mp hx).1]; exact imp_0 c0)]
      exact ⟨P, rfl, hK, sm_refl⟩
    · rw [if_neg (by have := hF' p; simp (disch := omega) only [z_add, z_mul, z_sub, z_subm, z_addm, z_lt_t, z_lt_f, z_le_t, z_le_f, z_eq_t, z_eq_f, z_eqm, z_meq, z_mm, z_ltm, z_mlt, z_lem, z_mle, z_cl, z_ck, u1_1, u1_2, u2_1, u2_2, ↓reduceIte, Option.bind_some, Option.bind_none, bd2_some, lb_eq, and_true, and_false, true_and, false_and, not_true_eq_false, not_false_eq_true, eq_self_iff_true, if_true, if_false, Nat.reduceEqDiff, Nat.reduceAdd, Nat.reduceMul, Nat.reduceSub, Bool.false_eq_true, zl0, zl1, zl2, zl3, zl4, zl5, zl6, zl7, zl8, zl9, zl10, zl11, zl12, zl13, zl14, zl15, zl16, zl17, zl18, zl19, zl20, zl22, zl23, zl24, zl25, zl30, zl31, zl32, zl33, zl34, zl35, zl36, zl37, zl38, zl39, zl40, zl41, zl42, zl43, zl45, zl48, zl49, zl57, zl58, zl59, zl60, zl61, zl62, zl63, zl64, zl91, zl93, zl97, zl98, zl99, zl100, zl113, zl114, zl115, zl116, zl117, zl122, zl124, zl125, zl127, zl128, zl136, zl200, zl201, zl202, zl203, zl204, zl205, zl206, zl207, zl208, zl209, zl210, zl211, zl212, zl213, zl214, zl215, zl216, zl217, zl218, zl219, zl220, zl235, zl236, zl255, zl280, zl287, zl900, zl999, zl1000, zl1001, zl1136, zl1960, zl3000, zl3001, zl3002, zl3003, zl3004, zl3005, zl3006, zl3007, zl3008, zl3009, zl268435456, zl1000000000]), farBy_M hv hX hb hK hF hp (by omega), Option.bind_some, z_ck hmp (by omega), Option.bind_some, z_ck hmp (by omega)]
      unfold j_Mo_laysFar_143
      rw [show (1 : Int32) = nI 1 from rfl, nI_add]
      by_cases c : om v s by' K p t < K p
      · have htN : t < vN v := by
          refine Nat.not_le.mp (fun h => ?_)
          have : om v s by' K p t = F2 := by
            unfold om
            cases e : nxp v s (sA s) p t with
            | none => rfl
            | some q => obtain ⟨_, _, h3, _⟩ := nxp_in hv e; omega
          have := hF p
          omega
        have hs1 := stp_J (p := p) (t := t) (f := f) hJ htN
        rw [imp_om hF, if_pos c] at hs1
        have e : rls (nxp v s (sA s)) (ccb by' v) (prs p (vN v - t) t) (K, f) = rls (nxp v s (sA s)) (ccb by' v) (prs p (vN v - (t + 1)) (t + 1)) (sq1 K p f (some (om v s by' K p t))) := by
          rw [show vN v - t = (vN v - (t + 1)) + 1 by omega]
          show rls _ _ (prs p (vN v - (t + 1)) (t + 1)) (sq1 K p f (imp (nxp v s (sA s)) (ccb by' v) K p t)) = _
          rw [imp_om hF, if_pos c]
        rw [if_pos (nI_lt c (by have := hF' p; omega)), e]
        obtain ⟨P', g1, g2, g3⟩ := ih n (t + 1) _ true (u1 P 118 (mp p) (nI (om v s by' K p t))) (by omega) (by omega) (MX_118 hX (sm_u1 sm_refl rfl)) ⟨fun j hj => by
          rw [u1_1]
          by_cases e : j = p
          · rw [if_pos ⟨rfl, by rw [e]⟩]; exact congrArg nI (if_pos e).symm
          · rw [if_neg (fun h => e (mp_inj h.2)), hK.1 j hj]; exact congrArg nI (if_neg e).symm, fun k hk h0 => by
          rw [u1_1, if_neg (fun h => by have := (mp_ds p).2; rw [h.2] at h0; omega)]
          exact hK.2 k hk h0⟩ hs1.1
        exact ⟨P', g1, g2, sm_trans (sm_u1 sm_refl rfl) g3⟩
      · rw [if_neg (nI_nlt (Nat.not_lt.mp c) (by omega))]
        have e : rls (nxp v s (sA s)) (ccb by' v) (prs p (vN v - t) t) (K, f) = rls (nxp v s (sA s)) (ccb by' v) (prs p (vN v - (t + 1)) (t + 1)) (K, f) := by
          by_cases htN : t < vN v
          · rw [show vN v - t = (vN v - (t + 1)) + 1 by omega]
            show rls _ _ (prs p (vN v - (t + 1)) (t + 1)) (sq1 K p f (imp (nxp v s (sA s)) (ccb by' v) K p t)) = _
            rw [imp_om hF, if_neg c]
            rfl
          · rw [show vN v - t = 0 by omega, show vN v - (t + 1) = 0 by omega]
            rfl
        rw [e]
        exact ih n (t + 1) K f P (by omega) (by omega) hX hK hJ
theorem far_in0 {v : NV} {s : SV} {f : Int32} {x : Int32} {k63 : Int32 → Int32 → PM → Option (Int32 × PM)} {k74 : Int32 → Int32 → Int32 → PM → Option (Int32 × PM)} {P : PM} {K : Nat → Nat} {k : Nat} (hk : k < 287) (h0 : k % 41 = 0) (hX : MX P v s) (hK : KM P K) :
    ∀ (m n t : Nat), t + m = 7 → m < n → l_Mo_laysFar_85 k63 k74 n x f (nI k) (nI t) P = k74 x f (nI (k + 1)) P := by
  intro m
  induction m with
  | zero =>
    intro n t ht hn
    obtain ⟨n, rfl⟩ : ∃ r, n = r + 1 := ⟨n - 1, by omega⟩
    rw [l_Mo_laysFar_85, if_pos (by simp (disch := omega) only [z_add, z_mul, z_sub, z_subm, z_addm, z_lt_t, z_lt_f, z_le_t, z_le_f, z_eq_t, z_eq_f, z_eqm, z_meq, z_mm, z_ltm, z_mlt, z_lem, z_mle, z_cl, z_ck, u1_1, u1_2, u2_1, u2_2, ↓reduceIte, Option.bind_some, Option.bind_none, bd2_some, lb_eq, and_true, and_false, true_and, false_and, not_true_eq_false, not_false_eq_true, eq_self_iff_true, if_true, if_false, Nat.reduceEqDiff, Nat.reduceAdd, Nat.reduceMul, Nat.reduceSub, Bool.false_eq_true, zl0, zl1, zl2, zl3, zl4, zl5, zl6, zl7, zl8, zl9, zl10, zl11, zl12, zl13, zl14, zl15, zl16, zl17, zl18, zl19, zl20, zl22, zl23, zl24, zl25, zl30, zl31, zl32, zl33, zl34, zl35, zl36, zl37, zl38, zl39, zl40, zl41, zl42, zl43, zl45, zl48, zl49, zl57, zl58, zl59, zl60, zl61, zl62, zl63, zl64, zl91, zl93, zl97, zl98, zl99, zl100, zl113, zl114, zl115, zl116, zl117, zl122, zl124, zl125, zl127, zl128, zl136, zl200, zl201, zl202, zl203, zl204, zl205, zl206, zl207, zl208, zl209, zl210, zl211, zl212, zl213, zl214, zl215, zl216, zl217, zl218, zl219, zl220, zl235, zl236, zl255, zl280, zl287, zl900, zl999, zl1000, zl1001, zl1136, zl1960, zl3000, zl3001, zl3002, zl3003, zl3004, zl3005, zl3006, zl3007, zl3008, zl3009, zl268435456, zl1000000000])]
    unfold j_Mo_laysFar_149
    rw [show (1 : Int32) = nI 1 from rfl, nI_add]
  | succ m ih =>
    intro n t ht hn
    obtain ⟨n, rfl⟩ : ∃ r, n = r + 1 := ⟨n - 1, by omega⟩
    rw [l_Mo_laysFar_85, if_neg (by simp (disch := omega) only [z_add, z_mul, z_sub, z_subm, z_addm, z_lt_t, z_lt_f, z_le_t, z_le_f, z_eq_t, z_eq_f, z_eqm, z_meq, z_mm, z_ltm, z_mlt, z_lem, z_mle, z_cl, z_ck, u1_1, u1_2, u2_1, u2_2, ↓reduceIte, Option.bind_some, Option.bind_none, bd2_some, lb_eq, and_true, and_false, true_and, false_and, not_true_eq_false, not_false_eq_true, eq_self_iff_true, if_true, if_false, Nat.reduceEqDiff, Nat.reduceAdd, Nat.reduceMul, Nat.reduceSub, Bool.false_eq_true, zl0, zl1, zl2, zl3, zl4, zl5, zl6, zl7, zl8, zl9, zl10, zl11, zl12, zl13, zl14, zl15, zl16, zl17, zl18, zl19, zl20, zl22, zl23, zl24, zl25, zl30, zl31, zl32, zl33, zl34, zl35, zl36, zl37, zl38, zl39, zl40, zl41, zl42, zl43, zl45, zl48, zl49, zl57, zl58, zl59, zl60, zl61, zl62, zl63, zl64, zl91, zl93, zl97, zl98, zl99, zl100, zl113, zl114, zl115, zl116, zl117, zl122, zl124, zl125, zl127, zl128, zl136, zl200, zl201, zl202, zl203, zl204, zl205, zl206, zl207, zl208, zl209, zl210, zl211, zl212, zl213, zl214, zl215, zl216, zl217, zl218, zl219, zl220, zl235, zl236, zl255, zl280, zl287, zl900, zl999, zl1000, zl1001, zl1136, zl1960, zl3000, zl3001, zl3002, zl3003, zl3004, zl3005, zl3006, zl3007, zl3008, zl3009, zl268435456, zl1000000000]), z_ck hk (by omega), z_cl (by omega), hK.2 k hk h0, if_neg (by decide), farBy_0 hX hk h0 (by omega), Option.bind_some, z_ck hk (by omega), if_neg (by decide)]
    unfold j_Mo_laysFar_143
    rw [show (1 : Int32) = nI 1 from rfl, nI_add]
    exact ih n (t + 1) (by omega) (by omega)
def ppm (N : Nat) : Nat → Nat → List (Nat × Nat)
  | 0, _ => []
  | m + 1, k => (if k % 41 = 0 then [] else prs (40 * (k / 41) + k % 41 - 1) N 0) ++ ppm N m (k + 1)
theorem ppm_N {N : Nat} : ∀ {m k : Nat} {x : Nat × Nat}, x ∈ ppm N m k → x.2 < N
  | 0, _, _, h => by cases h
  | m + 1, k, x, h => by
    unfold ppm at h
    rcases List.mem_append.mp h with h | h
    · split at h
      · cases h
      · have := (prs_mem.mp h).2.2; omega
    · exact ppm_N h
theorem ppm_mem {N p t : Nat} (ht : t < N) : ∀ {m k : Nat}, k ≤ mp p → mp p < k + m → (p, t) ∈ ppm N m k
  | 0, k, h1, h2 => by omega
  | m + 1, k, h1, h2 => by
    unfold ppm
    by_cases e : k = mp p
    · have h3 := mp_ds p
      rw [List.mem_append]
      left
      rw [e, if_neg (by omega), prs_mem]
      exact ⟨by show p = _; omega, Nat.zero_le _, by show t < _; omega⟩
    · exact List.mem_append_right _ (ppm_mem ht (by omega) (by omega))
theorem far_out {g : Nat → Bool} {v : NV} {s : SV} {by' : Nat} {k63 : Int32 → Int32 → PM → Option (Int32 × PM)} (hv : NVok v) (hb : by' ≤ 1) :
    ∀ (m n k : Nat) (K : Nat → Nat) (f : Bool) (P : PM), k + m = 287 → m < n → MX P v s → KM P K → Jk (nxp v s (sA s)) (ccb by' v) g (vN v) F2 K →
    ∃ P', l_Mo_laysFar_74 k63 n (nI by') (flg f) (nI k) P = k63 (nI by') (flg (rls (nxp v s (sA s)) (ccb by' v) (ppm (vN v) m k) (K, f)).2) P' ∧
      KM P' (rls (nxp v s (sA s)) (ccb by' v) (ppm (vN v) m k) (K, f)).1 ∧ sm o118 P P' := by
  intro m
  induction m with
  | zero =>
    intro n k K f P hk hn hX hK hJ
    obtain ⟨n, rfl⟩ : ∃ r, n = r + 1 := ⟨n - 1, by omega⟩
    rw [l_Mo_laysFar_74, if_pos (show (287 : Int32) ≤ nI k from (nI_le (by omega) (by omega) : nI 287 ≤ nI k))]
    exact ⟨P, rfl, hK, sm_refl⟩
  | succ m ih =>
    intro n k K f P hk hn hX hK hJ
    obtain ⟨n, rfl⟩ : ∃ r, n = r + 1 := ⟨n - 1, by omega⟩
    rw [l_Mo_laysFar_74, if_neg (by simp (disch := omega) only [z_add, z_mul, z_sub, z_subm, z_addm, z_lt_t, z_lt_f, z_le_t, z_le_f, z_eq_t, z_eq_f, z_eqm, z_meq, z_mm, z_ltm, z_mlt, z_lem, z_mle, z_cl, z_ck, u1_1, u1_2, u2_1, u2_2, ↓reduceIte, Option.bind_some, Option.bind_none, bd2_some, lb_eq, and_true, and_false, true_and, false_and, not_true_eq_false, not_false_eq_true, eq_self_iff_true, if_true, if_false, Nat.reduceEqDiff, Nat.reduceAdd, Nat.reduceMul, Nat.reduceSub, Bool.false_eq_true, zl0, zl1, zl2, zl3, zl4, zl5, zl6, zl7, zl8, zl9, zl10, zl11, zl12, zl13, zl14, zl15, zl16, zl17, zl18, zl19, zl20, zl22, zl23, zl24, zl25, zl30, zl31, zl32, zl33, zl34, zl35, zl36, zl37, zl38, zl39, zl40, zl41, zl42, zl43, zl45, zl48, zl49, zl57, zl58, zl59, zl60, zl61, zl62, zl63, zl64, zl91, zl93, zl97, zl98, zl99, zl100, zl113, zl114, zl115, zl116, zl117, zl122, zl124, zl125, zl127, zl128, zl136, zl200, zl201, zl202, zl203, zl204, zl205, zl206, zl207, zl208, zl209, zl210, zl211, zl212, zl213, zl214, zl215, zl216, zl217, zl218, zl219, zl220, zl235, zl236, zl255, zl280, zl287, zl900, zl999, zl1000, zl1001, zl1136, zl1960, zl3000, zl3001, zl3002, zl3003, zl3004, zl3005, zl3006, zl3007, zl3008, zl3009, zl268435456, zl1000000000]), show (0 : Int32) = nI 0 from rfl]
    by_cases h0 : k % 41 = 0
    · have e : ppm (vN v) (m + 1) k = ppm (vN v) m (k + 1) := by
        show (if k % 41 = 0 then [] else _) ++ _ = _
        rw [if_pos h0]; rfl
      rw [far_in0 (by omega) h0 hX hK 7 FU 0 (by omega) (by have := FU_big; omega), e]
      exact ih n (k + 1) K f P (by omega) (by omega) hX hK hJ
    · have hp : 40 * (k / 41) + k % 41 - 1 < 280 := by omega
      have hmp : mp (40 * (k / 41) + k % 41 - 1) = k := by unfold mp; omega
      have e : ∀ s', rls (nxp v s (sA s)) (ccb by' v) (ppm (vN v) (m + 1) k) s' = rls (nxp v s (sA s)) (ccb by' v) (ppm (vN v) m (k + 1)) (rls (nxp v s (sA s)) (ccb by' v) (prs (40 * (k / 41) + k % 41 - 1) (vN v) 0) s') := by
        intro s'
        rw [← rls_app]
        show rls _ _ ((if k % 41 = 0 then [] else _) ++ _) _ = _
        rw [if_neg h0]
      have hs1 := rls_J (prs (40 * (k / 41) + k % 41 - 1) (vN v) 0) (K, f) hJ (fun x hx => by have := (prs_mem.mp hx).2.2; omega)
      obtain ⟨P1, g1, g2, g3⟩ := far_in (g := g) (k63 := k63) (k74 := fun z0 z1 z2 Pz => l_Mo_laysFar_74 k63 n z0 z1 z2 Pz) hv hb hp 7 FU 0 K f P (by omega) (by have := FU_big; omega) hX hK hJ
      rw [hmp] at g1
      obtain ⟨P2, k1, k2, k3⟩ := ih n (k + 1) _ (rls (nxp v s (sA s)) (ccb by' v) (prs (40 * (k / 41) + k % 41 - 1) (vN v) 0) (K, f)).2 P1 (by omega) (by omega) (MX_118 hX g3) g2 hs1.1
      rw [g1, e]
      exact ⟨P2, k1, k2, sm_trans g3 k3⟩
/-- its rounds -/
theorem rounds_M {v : NV} {s : SV} {by' st z p0 : Nat} (hv : NVok v) (hb : by' ≤ 1) (hp0 : p0 < 280) :
    ∀ (m n i : Nat) (K : Nat → Nat) (f : Bool) (P : PM), i + m = 281 → m < n → (f = true → i ≤ 280) → MX P v s → KM P K → (∀ P', sm o118 P P' → f_Mo_standNow P' = nI (mp p0)) → Jk (nxp v s (sA s)) (ccb by' v) (glb st z) (vN v) F2 K → (∀ p, glb st z p = true → p < 280 → K p = 0) →
      Qk (dsr v s by' st z) (fun p => p < 280) 280 (i + 1) K → (f = false → ∀ p t q, p < 280 → t < vN v → nxp v s (sA s) p t = some q → K p ≤ ccb by' v p t + K q) →
    ∃ K' P', l_Mo_laysFar_63 n (nI by') (flg f) P = some (nI (K' p0), P') ∧ KM P' K' ∧ (∀ p, p < 280 → K' p = (dsr v s by' st z p).getD F2) ∧ (∀ j, K' j ≤ F2) ∧ sm o118 P P' := by
  have h0' := mp_lt hp0
  have fin : ∀ (n : Nat) (K : Nat → Nat) (P : PM), MX P v s → KM P K → f_Mo_standNow P = nI (mp p0) → Jk (nxp v s (sA s)) (ccb by' v) (glb st z) (vN v) F2 K → (∀ p, glb st z p = true → p < 280 → K p = 0) → (∀ p t q, p < 280 → t < vN v → nxp v s (sA s) p t = some q → K p ≤ ccb by' v p t + K q) →
      ∃ K' P', l_Mo_laysFar_63 (n + 1) (nI by') (flg false) P = some (nI (K' p0), P') ∧ KM P' K' ∧ (∀ p, p < 280 → K' p = (dsr v s by' st z p).getD F2) ∧ (∀ j, K' j ≤ F2) ∧ sm o118 P P' := by
    intro n K P hX hK hst hJ h0 hf
    rw [l_Mo_laysFar_63, if_pos (by decide), hst, z_ck h0' (by omega), z_cl (by omega), hK.1 p0 hp0]
    refine ⟨K, P, rfl, hK, fun p hp => Jk_ds hJ (fun a ha => ?_), fun j => (hJ j).1, sm_refl⟩
    have h1 := ds_le9 hv hp ha
    exact ⟨by unfold F2; omega, fix_ds (S := fun p => p < 280) (ccb_pos by' v) (fun p t q hp ht e => (nxp_in hv e).1) h0 hf a p hp ha⟩
  intro m
  induction m with
  | zero =>
    intro n i K f P hi hn hfi hX hK hst hJ h0 hQ hf
    obtain ⟨n, rfl⟩ : ∃ r, n = r + 1 := ⟨n - 1, by omega⟩
    cases f with
    | true => have := hfi rfl; omega
    | false => exact fin n K P hX hK (hst P sm_refl) hJ h0 (hf rfl)
  | succ m ih =>
    intro n i K f P hi hn hfi hX hK hst hJ h0 hQ hf
    obtain ⟨n, rfl⟩ : ∃ r, n = r + 1 := ⟨n - 1, by omega⟩
    cases f with
    | false => exact fin n K P hX hK (hst P sm_refl) hJ h0 (hf rfl)
    | true =>
      rw [l_Mo_laysFar_63, if_neg (by decide)]
      obtain ⟨P1, g1, g2, g3⟩ := far_out (g := glb st z) (k63 := fun z0 z1 Pz => l_Mo_laysFar_63 n z0 z1 Pz) hv hb 287 FU 0 K false P (by omega) (by have := FU_big; omega) hX hK hJ
      obtain ⟨k1, k2, k3, k4⟩ := rls_J (ppm (vN v) 287 0) (K, false) hJ (fun x hx => ppm_N hx)
      have hcov : ∀ p t q, p < 280 → t < vN v → nxp v s (sA s) p t = some q → (rls (nxp v s (sA s)) (ccb by' v) (ppm (vN v) 287 0) (K, false)).1 p ≤ ccb by' v p t + K q := by
        intro p t q hp ht e
        exact k3 (p, t) (ppm_mem ht (Nat.zero_le _) (by have := mp_lt hp; omega)) q e
      have h0' : ∀ p, glb st z p = true → p < 280 → (rls (nxp v s (sA s)) (ccb by' v) (ppm (vN v) 287 0) (K, false)).1 p = 0 := fun p hp hL => by
        have h1 : _ ≤ K p := k2 p
        have h2 := h0 p hp hL
        omega
      have hstop : (rls (nxp v s (sA s)) (ccb by' v) (ppm (vN v) 287 0) (K, false)).2 = true → i + 1 ≤ 280 := by
        intro h
        apply Classical.byContradiction
        intro hge
        rw [rls_0 (ppm (vN v) 287 0) (fun x hx => ?_)] at h
        · cases h
        · by_cases hx2 : x.1 < 280
          · refine imp_ex hJ (ppm_N hx) (fun a ha => hQ x.1 a hx2 ha ?_)
            have : rk (dsr v s by' st z) 280 x.1 < 280 := rk_M hx2
            omega
          · unfold imp
            cases e : nxp v s (sA s) x.1 x.2 with
            | none => rfl
            | some q =>
              obtain ⟨_, _, _, h4, _⟩ := nxp_in hv e
              have := hv.1
              omega
      have := ih n (i + 1) _ _ P1 (by omega) (by omega) hstop (MX_118 hX g3) g2 (fun P' h => hst P' (sm_trans g3 h)) k1 h0'
        (Qk_s (S := fun p => p < 280) (fun p t q _ e => (nxp_in hv e).1) (ccb_pos by' v) (fun p t q hp ht e => (nxp_in hv e).1) hQ (by omega) h0' hcov)
        (fun hf p t q hp ht e => by
          have := hcov p t q hp ht e
          have e2 := (k4 hf).2
          have e3 : (rls (nxp v s (sA s)) (ccb by' v) (ppm (vN v) 287 0) (K, false)).1 q = K q := congrFun e2 q
          omega)
      obtain ⟨K', P2, r1, r2, r3, r5, r4⟩ := this
      refine ⟨K', P2, ?_, r2, r3, r5, sm_trans g3 r4⟩
      show l_Mo_laysFar_74 (fun z0 z1 Pz => l_Mo_laysFar_63 n z0 z1 Pz) FU (nI by') (flg false) (nI 0) P = _
      rw [g1]
      exact r1
