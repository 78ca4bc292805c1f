/-! the class: least costs -/
def FR9 : Nat := 1000000000
def flg (f : Bool) : Int32 := nI (if f = true then 1 else 0)
def rtr (o : Nat) : Bool := o == 63 || o == 64
def o64 (o : Nat) : Bool := o == 64
def CX (P : PM) (v : NV) (s : SV) (by' p0 : Nat) (L : List Nat) : Prop := CNet P 14 v ∧ Exp P v s (sA s) p0 L ∧ P.1 21 3 = nI (sA s) ∧ P.1 63 4 = nI by'
def KC (P : PM) (K : Nat → Nat) : Prop := ∀ p, p < 280 → P.1 64 p = nI (K p)
theorem Exp_64 {P P' : PM} {v : NV} {s : SV} {sl p0 : Nat} {L : List Nat} (h : Exp P v s sl p0 L) (g : sm rtr P P') : Exp P' v s sl p0 L :=
  ⟨FS_ro h.1 (g.1 58 rfl) (g.1 62 rfl) (g.2 61 rfl), h.2.1, CC1_ro h.2.2.1 (g.1 59 rfl) (g.1 60 rfl), fun p hp t ht e => by unfold known; rw [g.1 59 rfl]; exact h.2.2.2 p hp t ht e⟩
theorem CX_64 {P P' : PM} {v : NV} {s : SV} {by' p0 : Nat} {L : List Nat} (h : CX P v s by' p0 L) (g : sm o64 P P') : CX P' v s by' p0 L :=
  have g' : sm rtr P P' := sm_mono g (fun o q => by simp [rtr] at q; simp [o64]; omega)
  ⟨CNet_sm h.1 g rfl rfl rfl rfl rfl, Exp_64 h.2.1 g', by rw [g.1 21 rfl]; exact h.2.2.1, by rw [g.1 63 rfl]; exact h.2.2.2⟩
theorem mx_oI {o : Option Nat} (h : ∀ k, o = some k → k < 2147483648) : mx (-1) (oI o) = oI o := by
  cases o with
  | none => rfl
  | some k =>
    unfold mx
    rw [oI_s, if_pos (by have := h k rfl; simp (disch := omega) only [z_add, z_mul, z_sub, z_subm, z_addm, z_lt_t, z_lt_f, z_le_t, z_le_f, z_eq_t, z_eq_f, z_eqm, z_meq, z_mm, z_ltm, z_mlt, z_lem, z_mle, z_cl, z_ck, u1_1, u1_2, u2_1, u2_2, ↓reduceIte, Option.bind_some, Option.bind_none, bd2_some, lb_eq, and_true, and_false, true_and, false_and, not_true_eq_false, not_false_eq_true, eq_self_iff_true, if_true, if_false, Nat.reduceEqDiff, Nat.reduceAdd, Nat.reduceMul, Nat.reduceSub, Bool.false_eq_true, zl0, zl1, zl2, zl3, zl4, zl5, zl6, zl7, zl8, zl9, zl10, zl11, zl12, zl13, zl14, zl15, zl16, zl17, zl18, zl19, zl20, zl22, zl23, zl24, zl25, zl30, zl31, zl32, zl33, zl34, zl35, zl36, zl37, zl38, zl39, zl40, zl41, zl42, zl43, zl45, zl48, zl49, zl57, zl58, zl59, zl60, zl61, zl62, zl63, zl64, zl91, zl93, zl97, zl98, zl99, zl100, zl113, zl114, zl115, zl116, zl117, zl122, zl124, zl125, zl127, zl128, zl136, zl200, zl201, zl202, zl203, zl204, zl205, zl206, zl207, zl208, zl209, zl210, zl211, zl212, zl213, zl214, zl215, zl216, zl217, zl218, zl219, zl220, zl235, zl236, zl255, zl280, zl287, zl900, zl999, zl1000, zl1001, zl1136, zl1960, zl3000, zl3001, zl3002, zl3003, zl3004, zl3005, zl3006, zl3007, zl3008, zl3009, zl268435456, zl1000000000])]
theorem after_C {P : PM} {v : NV} {s : SV} {sl p0 p t : Nat} {L : List Nat} (hn : CNet P 14 v) (hv : NVok v) (hE : Exp P v s sl p0 L) (hsl : sl < 2 ^ vN v) (hp : p ∈ L) (ht : t < vN v) :
    f_Pa_after (nI p) (nI t) (nI sl) P = some (oI (gw v s sl (p / 40) (p % 40 + 1) t)) := by
  have hN := hv.1
  have h7 := pw_le hN
  have h280 := hE.1.2.2.2.2 p hp
  unfold f_Pa_after
  rw [place_n p (by omega), if_pos h280, if_neg (by decide), isStK hn hv ht, if_neg (by decide), has_n (by omega) (by omega)]
  by_cases c : sl.testBit t = true
  · rw [if_pos c, if_neg (by decide)]
    unfold gw
    rw [if_pos c]
    rfl
  · rw [if_neg c, if_pos (by decide), show (280 : Int32) = nI 280 from rfl, pk_mul, nI_add, z_ck (by omega) (by omega), z_cl (by omega)]
    have k := hE.2.2.2 p hp t ht c
    unfold known at k
    rw [show t * 280 + p = 280 * t + p by omega, k]
    have e : gw v s sl (p / 40) (p % 40 + 1) t = car v (p / 40) (p % 40 + 1) t (sD s t) := by unfold gw; rw [if_neg c]
    rw [← e, mx_oI (fun k hk => by have := gw_le (by omega) hk; omega)]
theorem next_C {P : PM} {v : NV} {s : SV} {sl p0 p t : Nat} {L : List Nat} (hn : CNet P 14 v) (hv : NVok v) (hE : Exp P v s sl p0 L) (hsl : sl < 2 ^ vN v) (hp : p ∈ L) (ht : t < vN v) :
    f_Pa_next (nI p) (nI t) (nI sl) P = some (oI (nxp v s sl p t)) := by
  have h280 := hE.1.2.2.2.2 p hp
  unfold f_Pa_next
  rw [after_C hn hv hE hsl hp ht, Option.bind_some]
  unfold nxp
  cases e : gw v s sl (p / 40) (p % 40 + 1) t with
  | none => rw [if_pos (by decide)]; rfl
  | some k =>
    have := gw_le (by omega) e
    cases k with
    | zero => rw [if_pos (by decide)]; rfl
    | succ z =>
      rw [oI_s, if_neg (by simp (disch := omega) only [z_add, z_mul, z_sub, z_subm, z_addm, z_lt_t, z_lt_f, z_le_t, z_le_f, z_eq_t, z_eq_f, z_eqm, z_meq, z_mm, z_ltm, z_mlt, z_lem, z_mle, z_cl, z_ck, u1_1, u1_2, u2_1, u2_2, ↓reduceIte, Option.bind_some, Option.bind_none, bd2_some, lb_eq, and_true, and_false, true_and, false_and, not_true_eq_false, not_false_eq_true, eq_self_iff_true, if_true, if_false, Nat.reduceEqDiff, Nat.reduceAdd, Nat.reduceMul, Nat.reduceSub, Bool.false_eq_true, zl0, zl1, zl2, zl3, zl4, zl5, zl6, zl7, zl8, zl9, zl10, zl11, zl12, zl13, zl14, zl15, zl16, zl17, zl18, zl19, zl20, zl22, zl23, zl24, zl25, zl30, zl31, zl32, zl33, zl34, zl35, zl36, zl37, zl38, zl39, zl40, zl41, zl42, zl43, zl45, zl48, zl49, zl57, zl58, zl59, zl60, zl61, zl62, zl63, zl64, zl91, zl93, zl97, zl98, zl99, zl100, zl113, zl114, zl115, zl116, zl117, zl122, zl124, zl125, zl127, zl128, zl136, zl200, zl201, zl202, zl203, zl204, zl205, zl206, zl207, zl208, zl209, zl210, zl211, zl212, zl213, zl214, zl215, zl216, zl217, zl218, zl219, zl220, zl235, zl236, zl255, zl280, zl287, zl900, zl999, zl1000, zl1001, zl1136, zl1960, zl3000, zl3001, zl3002, zl3003, zl3004, zl3005, zl3006, zl3007, zl3008, zl3009, zl268435456, zl1000000000]), plOf_n (by omega), oI_s]
      exact congrArg (fun x => some (nI x)) (by omega)
noncomputable def ov (v : NV) (s : SV) (by' : Nat) (K : Nat → Nat) (p t : Nat) : Nat :=
  match nxp v s (sA s) p t with
  | some q => if K q < FR9 then K q + hrb by' v p t * 1000 + 1 else FR9
  | none => FR9
theorem costOf_C {P : PM} {K : Nat → Nat} {p : Nat} (h : KC P K) (hp : p < 280) : f_Ro_costOf (nI p) P = some (nI (K p)) := by
  unfold f_Ro_costOf
  rw [place_n p (by omega), if_pos hp, if_neg (by decide), z_ck hp (by omega), z_cl (by omega), h p hp]
theorem costOf_m (P : PM) : f_Ro_costOf (-nI 1) P = some (nI FR9) := rfl
theorem hrb_le {by' : Nat} {v : NV} {p t : Nat} (hv : NVok v) : hrb by' v p t ≤ 9 := by
  unfold hrb
  split
  · omega
  · exact (hv.2.1 _ _).1
theorem costOver_C {P : PM} {v : NV} {s : SV} {by' p0 p t : Nat} {L : List Nat} {K : Nat → Nat} (hv : NVok v) (hs : SVok v s) (hX : CX P v s by' p0 L) (hb : by' ≤ 1) (hK : KC P K) (hF : ∀ j, K j ≤ FR9) (hp : p ∈ L) (ht : t < vN v) :
    f_Ro_costOver (nI p) (nI t) P = some (nI (ov v s by' K p t)) := by
  have hN := hv.1
  have h280 := hX.2.1.1.2.2.2.2 p hp
  have hF' : ∀ j, K j ≤ 1000000000 := hF
  unfold f_Ro_costOver ov
  rw [hX.2.2.1, next_C hX.1 hv hX.2.1 hs.2.2.2.1 hp ht, Option.bind_some]
  cases e : nxp v s (sA s) p t with
  | none =>
    show (f_Ro_costOf (-nI 1) P).bind _ = _
    rw [costOf_m, Option.bind_some, if_neg (by decide)]
    rfl
  | some q =>
    obtain ⟨hq, _, _, hpN, _⟩ := nxp_in hv e
    rw [oI_s, costOf_C hK hq, Option.bind_some]
    by_cases c : K q < FR9
    · have c' : K q < 1000000000 := c
      rw [show (1000000000 : Int32) = nI 1000000000 from rfl, if_pos (nI_lt c' (by omega)), hX.2.2.2]
      show _ = some (nI (if K q < FR9 then K q + hrb by' v p t * 1000 + 1 else FR9))
      rw [if_pos c]
      unfold j_Ro_costOver_53
      have hl := hrb_le (by' := by') (p := p) (t := t) hv
      unfold hrb at hl ⊢
      by_cases c2 : by' = 0
      · rw [c2, if_pos (by decide), if_pos rfl, show (0 : Int32) = nI 0 from rfl, show (1000 : Int32) = nI 1000 from rfl, pk_mul, nI_add, show (1 : Int32) = nI 1 from rfl, nI_add]
      · obtain rfl : by' = 1 := by omega
        rw [if_neg (by decide), stIn_n (by omega), hours_C hX.1 hv (by omega) (by omega), Option.bind_some, if_neg (by decide), show (1000 : Int32) = nI 1000 from rfl, pk_mul, nI_add, show (1 : Int32) = nI 1 from rfl, nI_add]
    · have c' : ¬ K q < 1000000000 := c
      have c3 := hF' q
      have c4 : K q = 1000000000 := by omega
      rw [c4, if_neg (by decide)]
      show _ = some (nI (if K q < FR9 then K q + hrb by' v p t * 1000 + 1 else FR9))
      rw [if_neg c]
      rfl
def prs (p : Nat) : Nat → Nat → List (Nat × Nat)
  | 0, _ => []
  | m + 1, t => (p, t) :: prs p m (t + 1)
theorem prs_mem {p : Nat} : ∀ {m t : Nat} {x : Nat × Nat}, x ∈ prs p m t ↔ x.1 = p ∧ t ≤ x.2 ∧ x.2 < t + m
  | 0, t, x => ⟨(fun h => by cases h), (fun h => by omega)⟩
  | m + 1, t, x => by
    unfold prs
    rw [List.mem_cons, prs_mem]
    constructor
    · rintro (rfl | h)
      · exact ⟨rfl, Nat.le_refl _, by show t < _; omega⟩
      · omega
    · intro h
      by_cases e : x.2 = t
      · exact Or.inl (Prod.ext h.1 e)
      · exact Or.inr (by omega)
def pps (L : List Nat) (N : Nat) : Nat → List (Nat × Nat)
  | 0 => []
  | i + 1 => prs (L.getD i 0) N 0 ++ pps L N i
theorem pps_mem {L : List Nat} {N : Nat} : ∀ {i : Nat} {x : Nat × Nat}, x ∈ pps L N i ↔ (∃ j, j < i ∧ x.1 = L.getD j 0) ∧ x.2 < N
  | 0, x => ⟨(fun h => by cases h), (fun ⟨⟨j, h, _⟩, _⟩ => by omega)⟩
  | i + 1, x => by
    unfold pps
    rw [List.mem_append, prs_mem, pps_mem]
    constructor
    · rintro (⟨h1, _, h2⟩ | ⟨⟨j, h1, h2⟩, h3⟩)
      · exact ⟨⟨i, by omega, h1⟩, by omega⟩
      · exact ⟨⟨j, by omega, h2⟩, h3⟩
    · rintro ⟨⟨j, h1, h2⟩, h3⟩
      by_cases e : j = i
      · subst e; exact Or.inl ⟨h2, Nat.zero_le _, by omega⟩
      · exact Or.inr ⟨⟨j, by omega, h2⟩, h3⟩
theorem imp_ov {v : NV} {s : SV} {by' p t : Nat} {K : Nat → Nat} (hF : ∀ j, K j ≤ FR9) :
    imp (nxp v s (sA s)) (ccb by' v) K p t = if ov v s by' K p t < K p then some (ov v s by' K p t) else none := by
  have := hF p
  unfold imp ov
  cases e : nxp v s (sA s) p t with
  | none => exact (if_neg (by show ¬ FR9 < K p; omega)).symm
  | some q =>
    have e3 : ccb by' v p t + K q = K q + hrb by' v p t * 1000 + 1 := by unfold ccb; omega
    show (if ccb by' v p t + K q < K p then some _ else none) = if (if K q < FR9 then K q + hrb by' v p t * 1000 + 1 else FR9) < K p then some (if K q < FR9 then K q + hrb by' v p t * 1000 + 1 else FR9) else none
    rw [e3]
    by_cases c : K q < FR9
    · rw [if_pos c]
    · rw [if_neg c, if_neg (by omega), if_neg (by omega)]
theorem better_in {g : Nat → Bool} {v : NV} {s : SV} {by' p0 : Nat} {x2 : Int32} {L : List Nat} {k12 : Int32 → Int32 → PM → Option (Int32 × PM)} (hv : NVok v) (hs : SVok v s) (hb : by' ≤ 1) {p : Nat} (hp : p ∈ L) :
    ∀ (m n t : Nat) (K : Nat → Nat) (f : Bool) (P : PM), t + m = vN v → m < n → CX P v s by' p0 L → KC P K → Jk (nxp v s (sA s)) (ccb by' v) g (vN v) FR9 K →
    ∃ P', l_Ro_improve_36 k12 n (flg f) x2 (nI p) (nI t) P = k12 (flg (rls (nxp v s (sA s)) (ccb by' v) (prs p m t) (K, f)).2) (x2 + (-1)) P' ∧
      KC P' (rls (nxp v s (sA s)) (ccb by' v) (prs p m t) (K, f)).1 ∧ sm o64 P P' := by
  have hN := hv.1
  intro m
  induction m with
  | zero =>
    intro n t K f P ht hn hX hK hJ
    obtain ⟨n, rfl⟩ : ∃ r, n = r + 1 := ⟨n - 1, by omega⟩
    rw [l_Ro_improve_36, hX.1.1, if_pos (nI_le (by omega) (by omega))]
    exact ⟨P, rfl, hK, sm_refl⟩
  | succ m ih =>
    intro n t K f P ht hn hX hK hJ
    obtain ⟨n, rfl⟩ : ∃ r, n = r + 1 := ⟨n - 1, by omega⟩
    have h280 := hX.2.1.1.2.2.2.2 p hp
    have hF : ∀ j, K j ≤ FR9 := fun j => (hJ j).1
    have hF' : ∀ j, K j ≤ 1000000000 := hF
    have hov : ov v s by' K p t < 1100000000 := by
      unfold ov
      cases nxp v s (sA s) p t with
      | none => show FR9 < _; decide
      | some q =>
        show (if K q < FR9 then _ else _) < _
        have h1 := hrb_le (by' := by') (p := p) (t := t) hv
        have h2 := hF' q
        split
        · omega
        · decide
    rw [l_Ro_improve_36, hX.1.1, if_neg (nI_ge (by omega) (by omega)), costOver_C hv hs hX hb hK hF hp (by omega), Option.bind_some, costOf_C hK h280, Option.bind_some]
    unfold j_Ro_improve_77
    have hs1 := stp_J (p := p) (t := t) (f := f) hJ (show t < vN v by omega)
    rw [imp_ov hF] at hs1
    show ∃ P', _ = k12 (flg (rls _ _ (prs p m (t + 1)) (sq1 K p f (imp (nxp v s (sA s)) (ccb by' v) K p t))).2) _ P' ∧ KC P' (rls _ _ (prs p m (t + 1)) (sq1 K p f (imp (nxp v s (sA s)) (ccb by' v) K p t))).1 ∧ _
    rw [imp_ov hF, show (1 : Int32) = nI 1 from rfl, nI_add]
    by_cases c : ov v s by' K p t < K p
    · rw [if_pos c] at hs1 ⊢
      rw [if_neg (nI_ge c (by have := hF' p; omega)), z_ck h280 (by omega), z_cl (by omega)]
      obtain ⟨P', g1, g2, g3⟩ := ih n (t + 1) _ true (u1 P 64 p (nI (ov v s by' K p t))) (by omega) (by omega) (CX_64 hX (sm_u1 sm_refl rfl)) (fun j hj => by
        rw [u1_1]
        by_cases e : j = p
        · rw [if_pos ⟨rfl, e⟩]; exact congrArg nI (if_pos e).symm
        · rw [if_neg (fun h => e h.2), hK j hj]; exact congrArg nI (if_neg e).symm) hs1.1
      exact ⟨P', g1, g2, sm_trans (sm_u1 sm_refl rfl) g3⟩
    · rw [if_neg c] at hs1 ⊢
      rw [if_pos (nI_le (by omega) (by omega))]
      exact ih n (t + 1) K f P (by omega) (by omega) hX hK hJ
theorem isz_flg {α : Type} (f : Bool) (o : Option α) : ck (isz (flg f)) o = o := by cases f <;> exact if_pos rfl
theorem better_out {g : Nat → Bool} {v : NV} {s : SV} {by' p0 : Nat} {L : List Nat} (hv : NVok v) (hs : SVok v s) (hb : by' ≤ 1) :
    ∀ (i n : Nat) (K : Nat → Nat) (f : Bool) (P : PM), i ≤ L.length → i < n → CX P v s by' p0 L → KC P K → Jk (nxp v s (sA s)) (ccb by' v) g (vN v) FR9 K →
    ∃ P', l_Ro_improve_12 n (flg f) (nI i + -1) P = some (flg (rls (nxp v s (sA s)) (ccb by' v) (pps L (vN v) i) (K, f)).2, P') ∧
      KC P' (rls (nxp v s (sA s)) (ccb by' v) (pps L (vN v) i) (K, f)).1 ∧ sm o64 P P' := by
  have hN := hv.1
  intro i
  induction i with
  | zero =>
    intro n K f P hi hn hX hK hJ
    obtain ⟨n, rfl⟩ : ∃ r, n = r + 1 := ⟨n - 1, by omega⟩
    rw [l_Ro_improve_12, if_pos (by decide), isz_flg]
    exact ⟨P, rfl, hK, sm_refl⟩
  | succ i ih =>
    intro n K f P hi hn hX hK hJ
    obtain ⟨n, rfl⟩ : ∃ r, n = r + 1 := ⟨n - 1, by omega⟩
    have hl := nodup_len hX.2.1.1.2.2.2.1 hX.2.1.1.2.2.2.2
    have hm : L.getD i 0 ∈ L := by
      rw [List.getD_eq_getElem?_getD, List.getElem?_eq_getElem (by omega)]
      exact List.getElem_mem _
    rw [l_Ro_improve_12, show (-1 : Int32) = -nI 1 from rfl, z_addm (by omega), Nat.add_sub_cancel, if_neg (by simp (disch := omega) only [z_add, z_mul, z_sub, z_subm, z_addm, z_lt_t, z_lt_f, z_le_t, z_le_f, z_eq_t, z_eq_f, z_eqm, z_meq, z_mm, z_ltm, z_mlt, z_lem, z_mle, z_cl, z_ck, u1_1, u1_2, u2_1, u2_2, ↓reduceIte, Option.bind_some, Option.bind_none, bd2_some, lb_eq, and_true, and_false, true_and, false_and, not_true_eq_false, not_false_eq_true, eq_self_iff_true, if_true, if_false, Nat.reduceEqDiff, Nat.reduceAdd, Nat.reduceMul, Nat.reduceSub, Bool.false_eq_true, zl0, zl1, zl2, zl3, zl4, zl5, zl6, zl7, zl8, zl9, zl10, zl11, zl12, zl13, zl14, zl15, zl16, zl17, zl18, zl19, zl20, zl22, zl23, zl24, zl25, zl30, zl31, zl32, zl33, zl34, zl35, zl36, zl37, zl38, zl39, zl40, zl41, zl42, zl43, zl45, zl48, zl49, zl57, zl58, zl59, zl60, zl61, zl62, zl63, zl64, zl91, zl93, zl97, zl98, zl99, zl100, zl113, zl114, zl115, zl116, zl117, zl122, zl124, zl125, zl127, zl128, zl136, zl200, zl201, zl202, zl203, zl204, zl205, zl206, zl207, zl208, zl209, zl210, zl211, zl212, zl213, zl214, zl215, zl216, zl217, zl218, zl219, zl220, zl235, zl236, zl255, zl280, zl287, zl900, zl999, zl1000, zl1001, zl1136, zl1960, zl3000, zl3001, zl3002, zl3003, zl3004, zl3005, zl3006, zl3007, zl3008, zl3009, zl268435456, zl1000000000]), if_neg (by simp (disch := omega) only [z_add, z_mul, z_sub, z_subm, z_addm, z_lt_t, z_lt_f, z_le_t, z_le_f, z_eq_t, z_eq_f, z_eqm, z_meq, z_mm, z_ltm, z_mlt, z_lem, z_mle, z_cl, z_ck, u1_1, u1_2, u2_1, u2_2, ↓reduceIte, Option.bind_some, Option.bind_none, bd2_some, lb_eq, and_true, and_false, true_and, false_and, not_true_eq_false, not_false_eq_true, eq_self_iff_true, if_true, if_false, Nat.reduceEqDiff, Nat.reduceAdd, Nat.reduceMul, Nat.reduceSub, Bool.false_eq_true, zl0, zl1, zl2, zl3, zl4, zl5, zl6, zl7, zl8, zl9, zl10, zl11, zl12, zl13, zl14, zl15, zl16, zl17, zl18, zl19, zl20, zl22, zl23, zl24, zl25, zl30, zl31, zl32, zl33, zl34, zl35, zl36, zl37, zl38, zl39, zl40, zl41, zl42, zl43, zl45, zl48, zl49, zl57, zl58, zl59, zl60, zl61, zl62, zl63, zl64, zl91, zl93, zl97, zl98, zl99, zl100, zl113, zl114, zl115, zl116, zl117, zl122, zl124, zl125, zl127, zl128, zl136, zl200, zl201, zl202, zl203, zl204, zl205, zl206, zl207, zl208, zl209, zl210, zl211, zl212, zl213, zl214, zl215, zl216, zl217, zl218, zl219, zl220, zl235, zl236, zl255, zl280, zl287, zl900, zl999, zl1000, zl1001, zl1136, zl1960, zl3000, zl3001, zl3002, zl3003, zl3004, zl3005, zl3006, zl3007, zl3008, zl3009, zl268435456, zl1000000000]), z_ck (by omega) (by omega), z_cl (by omega), hX.2.1.1.2.1 i (by omega), lb_eq]
    have hs1 := rls_J (prs (L.getD i 0) (vN v) 0) (K, f) hJ (fun x hx => by have := (prs_mem.mp hx).2.2; omega)
    obtain ⟨P1, g1, g2, g3⟩ := better_in (g := g) (x2 := nI i) (k12 := fun z0 z1 Pz => l_Ro_improve_12 n z0 z1 Pz) hv hs hb hm (vN v) FU 0 K f P (by omega) (by have := FU_big; omega) hX hK hJ
    obtain ⟨P2, k1, k2, k3⟩ := ih n _ (rls (nxp v s (sA s)) (ccb by' v) (prs (L.getD i 0) (vN v) 0) (K, f)).2 P1 (by omega) (by omega) (CX_64 hX g3) g2 hs1.1
    have e : rls (nxp v s (sA s)) (ccb by' v) (pps L (vN v) (i + 1)) (K, f) = rls (nxp v s (sA s)) (ccb by' v) (pps L (vN v) i) (rls (nxp v s (sA s)) (ccb by' v) (prs (L.getD i 0) (vN v) 0) (K, f)) := rls_app _ _ _ _ _
    rw [show (0 : Int32) = nI 0 from rfl, g1]
    rw [e]
    exact ⟨P2, k1, k2, sm_trans g3 k3⟩
theorem CX_L {P : PM} {v : NV} {s : SV} {by' p0 p t q : Nat} {L : List Nat} (hX : CX P v s by' p0 L) (hp : p ∈ L) (ht : t < vN v) (h : nxp v s (sA s) p t = some q) : q ∈ L :=
  (hX.2.1.2.1 q).mpr (Rch_s ((hX.2.1.2.1 p).mp hp) ht h)
theorem ds_le9 {v : NV} {s : SV} {by' : Nat} {g : Nat → Bool} {sl p a : Nat} (hv : NVok v) (hp : p < 280) (h : ds (nxp v s sl) (ccb by' v) g (vN v) p = some a) : a ≤ 9001 * 279 := by
  have h1 : a ≤ 9001 * rk (ds (nxp v s sl) (ccb by' v) g (vN v)) 280 p := ds_bound (M := 280) (C := 9001) (fun p t q _ e => (nxp_in hv e).1) (fun p t _ _ => by have := hrb_le (by' := by') (p := p) (t := t) hv; unfold ccb; omega) a p h
  have h2 := rk_M (d := ds (nxp v s sl) (ccb by' v) g (vN v)) hp
  have h3 : 9001 * rk (ds (nxp v s sl) (ccb by' v) g (vN v)) 280 p ≤ 9001 * 279 := Nat.mul_le_mul_left _ (by omega)
  omega
theorem ccb_pos (by' : Nat) (v : NV) (p t : Nat) : 0 < ccb by' v p t := by unfold ccb; omega
/-- the rounds -/
theorem rounds_C {v : NV} {s : SV} {by' p0 st z : Nat} {L : List Nat} (hv : NVok v) (hs : SVok v s) (hb : by' ≤ 1) :
    ∀ (m n i : Nat) (K : Nat → Nat) (f : Bool) (P : PM), i + m = 280 → m < n → CX P v s by' p0 L → KC P K → Jk (nxp v s (sA s)) (ccb by' v) (glb st z) (vN v) FR9 K → (∀ p, glb st z p = true → p ∈ L → K p = 0) →
      Qk (ds (nxp v s (sA s)) (ccb by' v) (glb st z) (vN v)) (fun p => p ∈ L) 280 (i + 1) K → (f = false → ∀ p t q, p ∈ L → t < vN v → nxp v s (sA s) p t = some q → K p ≤ ccb by' v p t + K q) →
    ∃ K' P', l_Ro_seek_80 n (flg f) (nI i) P = j_Ro_seek_105 P' ∧ KC P' K' ∧ (∀ p, p ∈ L → K' p = (ds (nxp v s (sA s)) (ccb by' v) (glb st z) (vN v) p).getD FR9) ∧ (∀ j, K' j ≤ FR9) ∧ sm o64 P P' := by
  intro m
  induction m with
  | zero =>
    intro n i K f P hi hn hX hK hJ h0 hQ hf
    obtain ⟨n, rfl⟩ : ∃ r, n = r + 1 := ⟨n - 1, by omega⟩
    obtain rfl : i = 280 := by omega
    rw [l_Ro_seek_80, if_pos (by decide)]
    refine ⟨K, P, rfl, hK, fun p hp => Jk_ds hJ (fun a ha => ?_), fun j => (hJ j).1, sm_refl⟩
    have hp2 := hX.2.1.1.2.2.2.2 p hp
    have h1 := ds_le9 hv hp2 ha
    have h2 := rk_M (d := ds (nxp v s (sA s)) (ccb by' v) (glb st z) (vN v)) hp2
    exact ⟨by unfold FR9; omega, hQ p a hp ha (by omega)⟩
  | succ m ih =>
    intro n i K f P hi hn hX hK hJ h0 hQ hf
    obtain ⟨n, rfl⟩ : ∃ r, n = r + 1 := ⟨n - 1, by omega⟩
    rw [l_Ro_seek_80, if_neg (by simp (disch := omega) only [z_add, z_mul, z_sub, z_subm, z_addm, z_lt_t, z_lt_f, z_le_t, z_le_f, z_eq_t, z_eq_f, z_eqm, z_meq, z_mm, z_ltm, z_mlt, z_lem, z_mle, z_cl, z_ck, u1_1, u1_2, u2_1, u2_2, ↓reduceIte, Option.bind_some, Option.bind_none, bd2_some, lb_eq, and_true, and_false, true_and, false_and, not_true_eq_false, not_false_eq_true, eq_self_iff_true, if_true, if_false, Nat.reduceEqDiff, Nat.reduceAdd, Nat.reduceMul, Nat.reduceSub, Bool.false_eq_true, zl0, zl1, zl2, zl3, zl4, zl5, zl6, zl7, zl8, zl9, zl10, zl11, zl12, zl13, zl14, zl15, zl16, zl17, zl18, zl19, zl20, zl22, zl23, zl24, zl25, zl30, zl31, zl32, zl33, zl34, zl35, zl36, zl37, zl38, zl39, zl40, zl41, zl42, zl43, zl45, zl48, zl49, zl57, zl58, zl59, zl60, zl61, zl62, zl63, zl64, zl91, zl93, zl97, zl98, zl99, zl100, zl113, zl114, zl115, zl116, zl117, zl122, zl124, zl125, zl127, zl128, zl136, zl200, zl201, zl202, zl203, zl204, zl205, zl206, zl207, zl208, zl209, zl210, zl211, zl212, zl213, zl214, zl215, zl216, zl217, zl218, zl219, zl220, zl235, zl236, zl255, zl280, zl287, zl900, zl999, zl1000, zl1001, zl1136, zl1960, zl3000, zl3001, zl3002, zl3003, zl3004, zl3005, zl3006, zl3007, zl3008, zl3009, zl268435456, zl1000000000])]
    cases f with
    | false =>
      rw [if_pos (by decide)]
      refine ⟨K, P, rfl, hK, fun p hp => Jk_ds hJ (fun a ha => ?_), fun j => (hJ j).1, sm_refl⟩
      have hp2 := hX.2.1.1.2.2.2.2 p hp
      have h1 := ds_le9 hv hp2 ha
      exact ⟨by unfold FR9; omega, fix_ds (S := fun p => p ∈ L) (ccb_pos by' v) (fun p t q hp ht e => CX_L hX hp ht e) h0 (hf rfl) a p hp ha⟩
    | true =>
      rw [if_neg (by decide)]
      obtain ⟨P1, g1, g2, g3⟩ := better_out (g := glb st z) hv hs hb L.length FU K false P (by omega) (by have := FU_big; have := nodup_len hX.2.1.1.2.2.2.1 hX.2.1.1.2.2.2.2; omega) hX hK hJ
      obtain ⟨k1, k2, k3, k4⟩ := rls_J (pps L (vN v) L.length) (K, false) hJ (fun x hx => (pps_mem.mp hx).2)
      have hcov : ∀ p t q, p ∈ L → t < vN v → nxp v s (sA s) p t = some q → (rls (nxp v s (sA s)) (ccb by' v) (pps L (vN v) L.length) (K, false)).1 p ≤ ccb by' v p t + K q := by
        intro p t q hp ht e
        obtain ⟨j, hj, ej⟩ := List.mem_iff_getElem.mp hp
        exact k3 (p, t) (pps_mem.mpr ⟨⟨j, hj, by rw [List.getD_eq_getElem?_getD, List.getElem?_eq_getElem hj]; exact ej.symm⟩, ht⟩) q e
      have h0' : ∀ p, glb st z p = true → p ∈ L → (rls (nxp v s (sA s)) (ccb by' v) (pps L (vN v) L.length) (K, false)).1 p = 0 := fun p hp hL => by
        have h1 : _ ≤ K p := k2 p
        have h2 := h0 p hp hL
        omega
      have e1 : f_Ro_improve P = some (flg (rls (nxp v s (sA s)) (ccb by' v) (pps L (vN v) L.length) (K, false)).2, P1) := by
        unfold f_Ro_improve
        rw [lb_eq, hX.2.1.1.1, Int32.sub_eq_add_neg]
        exact g1
      rw [e1, bd2_some, show (1 : Int32) = nI 1 from rfl, nI_add]
      obtain ⟨K', P2, r1, r2, r3, r5, r4⟩ := ih n (i + 1) _ _ P1 (by omega) (by omega) (CX_64 hX g3) g2 k1 h0'
        (Qk_s (S := fun p => p ∈ L) (fun p t q _ e => (nxp_in hv e).1) (ccb_pos by' v) (fun p t q hp ht e => CX_L hX hp ht e) hQ (by omega) h0' hcov)
        (fun hf p t q hp ht e => by
          have := hcov p t q hp ht e
          have e2 := (k4 hf).2
          have e3 : (rls (nxp v s (sA s)) (ccb by' v) (pps L (vN v) L.length) (K, false)).1 q = K q := congrFun e2 q
          omega)
      exact ⟨K', P2, r1, r2, r3, r5, sm_trans g3 r4⟩
/-- the goals' costs -/
theorem fill_C {st z : Nat} {R : PM → Option (Int32 × PM)} (hR : ∀ P, l_Ro_seek_80 FU 1 0 P = R P) (hst : st < 7) (hz : z ≤ 40) :
    ∀ (m n p : Nat) (P : PM), p + m = 280 → m < n → (∀ j, j < p → P.1 64 j = nI (K0 FR9 st z j)) → ∃ P', l_Ro_seek_29 n (nI st) (nI z) (nI p) P = R P' ∧ KC P' (K0 FR9 st z) ∧ sm o64 P P' := by
  intro m
  induction m with
  | zero =>
    intro n p P hp hn h
    obtain ⟨n, rfl⟩ : ∃ r, n = r + 1 := ⟨n - 1, by omega⟩
    obtain rfl : p = 280 := by omega
    rw [l_Ro_seek_29, if_pos (by decide)]
    exact ⟨P, hR P, h, sm_refl⟩
  | succ m ih =>
    intro n p P hp hn h
    obtain ⟨n, rfl⟩ : ∃ r, n = r + 1 := ⟨n - 1, by omega⟩
    have go : ∀ x : Int32, x = nI (K0 FR9 st z p) → ∃ P', j_Ro_seek_67 (fun z0 z1 z2 Pz => l_Ro_seek_29 n z0 z1 z2 Pz) (nI st) (nI z) (nI p) (nI p) x P = R P' ∧ KC P' (K0 FR9 st z) ∧ sm o64 P P' := by
      rintro x rfl
      unfold j_Ro_seek_67
      rw [z_ck (by omega) (by omega), z_cl (by omega), show (1 : Int32) = nI 1 from rfl, nI_add]
      obtain ⟨P', g1, g2, g3⟩ := ih n (p + 1) (u1 P 64 p (nI (K0 FR9 st z p))) (by omega) (by omega) (fun j hj => by
        rw [u1_1]
        by_cases e : j = p
        · rw [if_pos ⟨rfl, e⟩, e]
        · rw [if_neg (fun h => e h.2), h j (by omega)])
      exact ⟨P', g1, g2, sm_trans (sm_u1 sm_refl rfl) g3⟩
    rw [l_Ro_seek_29, if_neg (by simp (disch := omega) only [z_add, z_mul, z_sub, z_subm, z_addm, z_lt_t, z_lt_f, z_le_t, z_le_f, z_eq_t, z_eq_f, z_eqm, z_meq, z_mm, z_ltm, z_mlt, z_lem, z_mle, z_cl, z_ck, u1_1, u1_2, u2_1, u2_2, ↓reduceIte, Option.bind_some, Option.bind_none, bd2_some, lb_eq, and_true, and_false, true_and, false_and, not_true_eq_false, not_false_eq_true, eq_self_iff_true, if_true, if_false, Nat.reduceEqDiff, Nat.reduceAdd, Nat.reduceMul, Nat.reduceSub, Bool.false_eq_true, zl0, zl1, zl2, zl3, zl4, zl5, zl6, zl7, zl8, zl9, zl10, zl11, zl12, zl13, zl14, zl15, zl16, zl17, zl18, zl19, zl20, zl22, zl23, zl24, zl25, zl30, zl31, zl32, zl33, zl34, zl35, zl36, zl37, zl38, zl39, zl40, zl41, zl42, zl43, zl45, zl48, zl49, zl57, zl58, zl59, zl60, zl61, zl62, zl63, zl64, zl91, zl93, zl97, zl98, zl99, zl100, zl113, zl114, zl115, zl116, zl117, zl122, zl124, zl125, zl127, zl128, zl136, zl200, zl201, zl202, zl203, zl204, zl205, zl206, zl207, zl208, zl209, zl210, zl211, zl212, zl213, zl214, zl215, zl216, zl217, zl218, zl219, zl220, zl235, zl236, zl255, zl280, zl287, zl900, zl999, zl1000, zl1001, zl1136, zl1960, zl3000, zl3001, zl3002, zl3003, zl3004, zl3005, zl3006, zl3007, zl3008, zl3009, zl268435456, zl1000000000]), stIn_n (by omega), szIn_n (by omega)]
    unfold j_Ro_seek_65
    by_cases c : p / 40 = st
    · rw [if_pos (congrArg nI c)]
      by_cases c2 : z ≤ p % 40 + 1
      · rw [if_neg (nI_nlt c2 (by omega))]
        exact go _ (by unfold K0; rw [if_pos (by unfold glb; simp [c, c2])]; rfl)
      · rw [if_pos (nI_lt (by omega) (by omega))]
        exact go _ (by unfold K0; rw [if_neg (by unfold glb; simp [c2])]; rfl)
    · rw [if_neg (by simp (disch := omega) only [z_add, z_mul, z_sub, z_subm, z_addm, z_lt_t, z_lt_f, z_le_t, z_le_f, z_eq_t, z_eq_f, z_eqm, z_meq, z_mm, z_ltm, z_mlt, z_lem, z_mle, z_cl, z_ck, u1_1, u1_2, u2_1, u2_2, ↓reduceIte, Option.bind_some, Option.bind_none, bd2_some, lb_eq, and_true, and_false, true_and, false_and, not_true_eq_false, not_false_eq_true, eq_self_iff_true, if_true, if_false, Nat.reduceEqDiff, Nat.reduceAdd, Nat.reduceMul, Nat.reduceSub, Bool.false_eq_true, zl0, zl1, zl2, zl3, zl4, zl5, zl6, zl7, zl8, zl9, zl10, zl11, zl12, zl13, zl14, zl15, zl16, zl17, zl18, zl19, zl20, zl22, zl23, zl24, zl25, zl30, zl31, zl32, zl33, zl34, zl35, zl36, zl37, zl38, zl39, zl40, zl41, zl42, zl43, zl45, zl48, zl49, zl57, zl58, zl59, zl60, zl61, zl62, zl63, zl64, zl91, zl93, zl97, zl98, zl99, zl100, zl113, zl114, zl115, zl116, zl117, zl122, zl124, zl125, zl127, zl128, zl136, zl200, zl201, zl202, zl203, zl204, zl205, zl206, zl207, zl208, zl209, zl210, zl211, zl212, zl213, zl214, zl215, zl216, zl217, zl218, zl219, zl220, zl235, zl236, zl255, zl280, zl287, zl900, zl999, zl1000, zl1001, zl1136, zl1960, zl3000, zl3001, zl3002, zl3003, zl3004, zl3005, zl3006, zl3007, zl3008, zl3009, zl268435456, zl1000000000])]
      exact go _ (by unfold K0; rw [if_neg (by unfold glb; simp [c])]; rfl)
noncomputable abbrev dsr (v : NV) (s : SV) (by' st z : Nat) : Nat → Option Nat := ds (nxp v s (sA s)) (ccb by' v) (glb st z) (vN v)
noncomputable abbrev bsr (v : NV) (s : SV) (by' st z : Nat) : Nat → Option Nat := bs (nxp v s (sA s)) (ccb by' v) (glb st z) (vN v)
noncomputable abbrev rsr (v : NV) (s : SV) (by' st z : Nat) : Nat → Nat → Option Nat := rst (nxp v s (sA s)) (ccb by' v) (glb st z) (vN v)
def xrr (o : Nat) : Bool := xr o || o == 63 || o == 64
theorem seek_C {P : PM} {a : AS} {w st z by' : Nat} (hC : CRep P a) (hok : AOk a) (hca : CCa P (aV a)) (hw : sW (aS a) = some w) (hst : st < 7) (hz : z ≤ 40) (hb : by' ≤ 1) :
    ∃ L K P', f_Ro_seek (nI st) (nI z) (nI by') P = some (flg (dsr (aV a) (aS a) by' st z (pl (aS a) w)).isSome, P') ∧ CX P' (aV a) (aS a) by' (pl (aS a) w) L ∧ KC P' K ∧
      (∀ p, p ∈ L → K p = (dsr (aV a) (aS a) by' st z p).getD FR9) ∧ (∀ j, K j ≤ FR9) ∧ CRep P' a ∧ CCa P' (aV a) ∧ sm cl P P' := by
  have hv := hok.1
  have hs := hok.2.1
  obtain ⟨h280, _, h7⟩ := pl_ok hv hs hw
  have s0 : sm xrr P (u1 P 63 4 (nI by')) := sm_u1 sm_refl rfl
  have t0 : sm rtr P (u1 P 63 4 (nI by')) := sm_u1 sm_refl rfl
  have C0 : CRep (u1 P 63 4 (nI by')) a := CRep_ce hC (ce_sm s0 (fun o e => by simp [esr] at e; simp [xrr, xr]; omega) (by rw [s0.1 31 rfl]) (by rw [s0.1 31 rfl]))
  obtain ⟨L, P1, g1, g2, g3, g4, g5⟩ := expl_C C0 hok (CCa_ro hca (t0.1 59 rfl) (t0.1 60 rfl)) hw hs.2.2.2.1
  have s1 : sm xrr P P1 := sm_trans s0 (sm_mono g5 (fun o q => by simp [xrr] at q; exact q.1.1))
  obtain ⟨P2, k1, k2, k3⟩ := fill_C (R := fun P => l_Ro_seek_80 FU (1 : Int32) (0 : Int32) P) (fun _ => rfl) hst hz 280 FU 0 P1 (by omega) (by have := FU_big; omega) (fun j hj => by omega)
  have X1 : CX P1 (aV a) (aS a) by' (pl (aS a) w) L := ⟨g3.1, g2, g3.2.1.2.2.2.1, by rw [g5.1 63 rfl, u1_1, if_pos ⟨rfl, rfl⟩]⟩
  have X2 := CX_64 X1 k3
  obtain ⟨K', P3, r1, r2, r3, r5, r4⟩ := rounds_C (st := st) (z := z) hv hs hb 280 FU 0 (K0 FR9 st z) true P2 (by omega) (by have := FU_big; omega) X2 k2 K0_J (fun p hp _ => if_pos hp)
    (Qk_1 (fun p t q _ e => (nxp_in hv e).1) (ccb_pos by' _) (fun p hp _ => if_pos hp)) (fun h => by cases h)
  have s3 : sm xrr P P3 := sm_trans s1 (sm_trans (sm_mono k3 (fun o q => by simp [xrr] at q; simp [o64]; omega)) (sm_mono r4 (fun o q => by simp [xrr] at q; simp [o64]; omega)))
  have C3 : CRep P3 a := CRep_ce hC (ce_sm s3 (fun o e => by simp [esr] at e; simp [xrr, xr]; omega) (by rw [s3.1 31 rfl]) (by rw [s3.1 31 rfl]))
  have hm : pl (aS a) w ∈ L := (g2.2.1 _).mpr Rch_0
  refine ⟨L, K', P3, ?_, CX_64 X2 r4, r2, r3, r5, C3, CCa_ro g4 (by rw [r4.1 59 rfl, k3.1 59 rfl]) (by rw [r4.1 60 rfl, k3.1 60 rfl]), sm_mono s3 (fun o q => by simp [cl] at q; simp [xrr, xr]; omega)⟩
  unfold f_Ro_seek
  have ez : isz (nI by') = true := by
    rcases (show by' = 0 ∨ by' = 1 by omega) with rfl | rfl <;> rfl
  have ez2 : ∀ o : Option (Int32 × PM), ck (isz (nI by')) o = o := fun o => if_pos ez
  rw [ez2, show (u1 P 63 4 (nI by')).1 21 3 = nI (sA (aS a)) from C0.2.1.2.2.2.1, g1, Option.bind_some, show (0 : Int32) = nI 0 from rfl, k1]
  show l_Ro_seek_80 FU (flg true) (nI 0) P2 = _
  rw [r1]
  unfold j_Ro_seek_105
  rw [place_C C3.2.1 hv hs hw, costOf_C r2 h280, Option.bind_some, r3 _ hm]
  cases e : dsr (aV a) (aS a) by' st z (pl (aS a) w) with
  | none =>
    have e2 : (ds (nxp (aV a) (aS a) (sA (aS a))) (ccb by' (aV a)) (glb st z) (vN (aV a)) (pl (aS a) w)).getD FR9 = FR9 := by rw [show ds (nxp (aV a) (aS a) (sA (aS a))) (ccb by' (aV a)) (glb st z) (vN (aV a)) (pl (aS a) w) = none from e]; rfl
    rw [e2, if_pos (by decide)]; rfl
  | some x =>
    have := ds_le9 hv h280 e
    have e2 : (ds (nxp (aV a) (aS a) (sA (aS a))) (ccb by' (aV a)) (glb st z) (vN (aV a)) (pl (aS a) w)).getD FR9 = x := by rw [show ds (nxp (aV a) (aS a) (sA (aS a))) (ccb by' (aV a)) (glb st z) (vN (aV a)) (pl (aS a) w) = some x from e]; rfl
    rw [e2, show (1000000000 : Int32) = nI 1000000000 from rfl, if_neg (nI_ge (by omega) (by omega))]
    rfl
noncomputable def bp (v : NV) (s : SV) (by' st z p t : Nat) : Bool := match nxp v s (sA s) p t with
  | some q => (match dsr v s by' st z q with | some b => decide (dsr v s by' st z p = some (ccb by' v p t + b)) | none => false)
  | none => false
theorem bsr_ff {v : NV} {s : SV} {by' st z p : Nat} : bsr v s by' st z p = ff (bp v s by' st z p) (vN v) 0 := rfl
theorem bp_ov {P : PM} {v : NV} {s : SV} {by' p0 st z p t : Nat} {L : List Nat} {K : Nat → Nat} (hv : NVok v) (hX : CX P v s by' p0 L)
    (hd : ∀ p, p ∈ L → K p = (dsr v s by' st z p).getD FR9) (hp : p ∈ L) (ht : t < vN v) : bp v s by' st z p t = true ↔ ov v s by' K p t < FR9 ∧ ov v s by' K p t = K p := by
  have h280 := hX.2.1.1.2.2.2.2 p hp
  have hl := hrb_le (by' := by') (p := p) (t := t) hv
  have hF : FR9 = 1000000000 := rfl
  have h9 := hd p hp
  cases e : nxp v s (sA s) p t with
  | none =>
    have e1 : ov v s by' K p t = FR9 := by unfold ov; rw [e]
    have e2 : bp v s by' st z p t = false := by unfold bp; rw [e]
    rw [e1, e2]
    exact ⟨(fun h => by cases h), (fun h => absurd h.1 (Nat.lt_irrefl _))⟩
  | some q =>
    have hq := CX_L hX hp ht e
    have hq280 := hX.2.1.1.2.2.2.2 q hq
    have e1 : ov v s by' K p t = if K q < FR9 then K q + hrb by' v p t * 1000 + 1 else FR9 := by unfold ov; rw [e]
    have hq9 := hd q hq
    cases eq : dsr v s by' st z q with
    | none =>
      have e2 : bp v s by' st z p t = false := by unfold bp; rw [e]; simp only [eq]
      rw [eq] at hq9
      have hq9 : K q = FR9 := hq9
      rw [hq9, if_neg (Nat.lt_irrefl _)] at e1
      rw [e1, e2]
      exact ⟨(fun h => by cases h), (fun h => absurd h.1 (Nat.lt_irrefl _))⟩
    | some b =>
      have e2 : bp v s by' st z p t = decide (dsr v s by' st z p = some (ccb by' v p t + b)) := by unfold bp; rw [e]; simp only [eq]
      rw [eq] at hq9
      have hq9 : K q = b := hq9
      have hb1 := ds_le9 hv hq280 eq
      have hb2 : b < FR9 := by omega
      have e3 : ccb by' v p t + b = b + hrb by' v p t * 1000 + 1 := by unfold ccb; omega
      rw [hq9, if_pos hb2] at e1
      rw [e1, e2, e3, decide_eq_true_eq, h9]
      cases ep : dsr v s by' st z p with
      | none =>
        refine ⟨(fun h => by cases h), fun h => ?_⟩
        have h2 : _ = FR9 := h.2
        omega
      | some x =>
        refine ⟨fun h => ?_, fun h => ?_⟩
        · have := Option.some.inj h
          exact ⟨by omega, this.symm⟩
        · have h2 : _ = x := h.2
          rw [h2]
theorem ov_le {v : NV} {s : SV} {by' p t : Nat} {K : Nat → Nat} (hv : NVok v) (hF : ∀ j, K j ≤ FR9) : ov v s by' K p t < 1100000000 := by
  unfold ov
  cases nxp v s (sA s) p t with
  | none => show FR9 < _; decide
  | some q =>
    show (if K q < FR9 then _ else _) < _
    have h1 := hrb_le (by' := by') (p := p) (t := t) hv
    have h2 : K q ≤ 1000000000 := hF q
    split
    · omega
    · decide
theorem bestFrom_C {P : PM} {v : NV} {s : SV} {by' p0 st z p : Nat} {L : List Nat} {K : Nat → Nat} (hv : NVok v) (hs : SVok v s) (hb : by' ≤ 1) (hX : CX P v s by' p0 L) (hK : KC P K)
    (hd : ∀ p, p ∈ L → K p = (dsr v s by' st z p).getD FR9) (hF : ∀ j, K j ≤ FR9) (hp : p ∈ L) : f_Ro_bestFrom (nI p) P = some (oI (bsr v s by' st z p)) := by
  have hN := hv.1
  have h280 := hX.2.1.1.2.2.2.2 p hp
  have hF' : ∀ j, K j ≤ 1000000000 := hF
  have loop : ∀ (m n t : Nat), t + m = vN v → m < n → l_Ro_bestFrom_2 n (nI p) (nI t) P = some (oI (ff (bp v s by' st z p) m t)) := by
    intro m
    induction m with
    | zero =>
      intro n t ht hn
      obtain ⟨n, rfl⟩ : ∃ r, n = r + 1 := ⟨n - 1, by omega⟩
      rw [l_Ro_bestFrom_2, hX.1.1, if_pos (nI_le (by omega) (by omega))]
      rfl
    | succ m ih =>
      intro n t ht hn
      obtain ⟨n, rfl⟩ : ∃ r, n = r + 1 := ⟨n - 1, by omega⟩
      have r := ih n (t + 1) (by omega) (by omega)
      have hk := bp_ov (t := t) hv hX hd hp (by omega)
      have ho := ov_le (s := s) (by' := by') (p := p) (t := t) hv hF
      rw [l_Ro_bestFrom_2, hX.1.1, if_neg (nI_ge (by omega) (by omega)), costOver_C hv hs hX hb hK hF hp (by omega), Option.bind_some]
      unfold j_Ro_bestFrom_37
      rw [costOf_C hK h280, Option.bind_some, show (1 : Int32) = nI 1 from rfl, nI_add, show (1000000000 : Int32) = nI 1000000000 from rfl]
      have hff : ff (bp v s by' st z p) (m + 1) t = if bp v s by' st z p t = true then some t else ff (bp v s by' st z p) m (t + 1) := rfl
      rw [hff]
      by_cases c : bp v s by' st z p t = true
      · obtain ⟨c1, c2⟩ := hk.mp c
        have c1' : ov v s by' K p t < 1000000000 := c1
        rw [if_neg (nI_ge (by omega) (by omega)), if_pos (congrArg nI c2), if_pos c]
        rfl
      · rw [if_neg c]
        by_cases c1 : ov v s by' K p t < FR9
        · have c1' : ov v s by' K p t < 1000000000 := c1
          rw [if_neg (nI_ge (by omega) (by omega)), if_neg (fun h => c (hk.mpr ⟨c1, (nI_eq (by omega) (by have := hF' p; omega)).mp h⟩))]
          exact r
        · have c1' : ¬ ov v s by' K p t < 1000000000 := c1
          rw [if_pos (nI_le (by omega) (by omega))]
          exact r
  rw [bsr_ff]
  exact loop (vN v) FU 0 (by omega) (by have := FU_big; omega)
theorem ro_stationAt {P : PM} {v : NV} {s : SV} {by' st z w i : Nat} {L : List Nat} {K : Nat → Nat} (hv : NVok v) (hs : SVok v s) (hw : sW s = some w) (hb : by' ≤ 1) (hX : CX P v s by' (pl s w) L) (hS : CSt P 21 s) (hK : KC P K)
    (hd : ∀ p, p ∈ L → K p = (dsr v s by' st z p).getD FR9) (hF : ∀ j, K j ≤ FR9) (hi : i < 2147483648) : f_Ro_stationAt (nI i) P = some (oI (rsr v s by' st z i (pl s w))) := by
  have h280 := (pl_ok hv hs hw).1
  have hl : (∃ a, dsr v s by' st z (pl s w) = some a) ∨ dsr v s by' st z (pl s w) = none := by
    cases dsr v s by' st z (pl s w) with
    | none => exact Or.inr rfl
    | some a => exact Or.inl ⟨a, rfl⟩
  have bnd : ∀ i, 280 ≤ i → rsr v s by' st z i (pl s w) = none := by
    intro i hi
    rcases hl with ⟨a, ha⟩ | h0
    · obtain ⟨Ln, H, k1, _, _, _, k5⟩ := rst_len (c := ccb by' v) (M := 280) (h := hrb by' v) (fun p t q _ e => (nxp_in hv e).1) (fun _ _ => rfl) a _ ha
      have h3 : rk (ds (nxp v s (sA s)) (ccb by' v) (glb st z) (vN v)) 280 (pl s w) < 280 := rk_M h280
      have h4 : Ln ≤ rk (ds (nxp v s (sA s)) (ccb by' v) (glb st z) (vN v)) 280 (pl s w) := k1
      exact k5 i (by omega)
    · exact rst_none (ccb_pos by' v) h0 i
  have hm : pl s w ∈ L := (hX.2.1.2.1 _).mpr Rch_0
  have loop : ∀ (m n j p : Nat), p ∈ L → j + m = i → i < 280 → m < n → l_Ro_stationAt_28 n (nI i) (nI p) (oI (bsr v s by' st z p)) (nI j) P = some (oI (rsr v s by' st z m p)) := by
    intro m
    induction m with
    | zero =>
      intro n j p hp hj hi2 hn
      obtain ⟨n, rfl⟩ : ∃ r, n = r + 1 := ⟨n - 1, by omega⟩
      rw [l_Ro_stationAt_28, if_pos (nI_le (by omega) (by omega))]
      rfl
    | succ m ih =>
      intro n j p hp hj hi2 hn
      obtain ⟨n, rfl⟩ : ∃ r, n = r + 1 := ⟨n - 1, by omega⟩
      have hrs : rsr v s by' st z (m + 1) p = (match bsr v s by' st z p with | none => none | some t => (match nxp v s (sA s) p t with | none => none | some q => rsr v s by' st z m q)) := rfl
      rw [l_Ro_stationAt_28, if_neg (nI_ge (by omega) (by omega)), if_neg (by simp (disch := omega) only [z_add, z_mul, z_sub, z_subm, z_addm, z_lt_t, z_lt_f, z_le_t, z_le_f, z_eq_t, z_eq_f, z_eqm, z_meq, z_mm, z_ltm, z_mlt, z_lem, z_mle, z_cl, z_ck, u1_1, u1_2, u2_1, u2_2, ↓reduceIte, Option.bind_some, Option.bind_none, bd2_some, lb_eq, and_true, and_false, true_and, false_and, not_true_eq_false, not_false_eq_true, eq_self_iff_true, if_true, if_false, Nat.reduceEqDiff, Nat.reduceAdd, Nat.reduceMul, Nat.reduceSub, Bool.false_eq_true, zl0, zl1, zl2, zl3, zl4, zl5, zl6, zl7, zl8, zl9, zl10, zl11, zl12, zl13, zl14, zl15, zl16, zl17, zl18, zl19, zl20, zl22, zl23, zl24, zl25, zl30, zl31, zl32, zl33, zl34, zl35, zl36, zl37, zl38, zl39, zl40, zl41, zl42, zl43, zl45, zl48, zl49, zl57, zl58, zl59, zl60, zl61, zl62, zl63, zl64, zl91, zl93, zl97, zl98, zl99, zl100, zl113, zl114, zl115, zl116, zl117, zl122, zl124, zl125, zl127, zl128, zl136, zl200, zl201, zl202, zl203, zl204, zl205, zl206, zl207, zl208, zl209, zl210, zl211, zl212, zl213, zl214, zl215, zl216, zl217, zl218, zl219, zl220, zl235, zl236, zl255, zl280, zl287, zl900, zl999, zl1000, zl1001, zl1136, zl1960, zl3000, zl3001, zl3002, zl3003, zl3004, zl3005, zl3006, zl3007, zl3008, zl3009, zl268435456, zl1000000000]), hrs]
      cases e : bsr v s by' st z p with
      | none => rw [if_pos (by decide)]
      | some t =>
        obtain ⟨ht, q, b, e1, e2, e3⟩ := bs_some e
        have hN := hv.1
        have hq := CX_L hX hp ht e1
        rw [oI_s, if_neg (by simp (disch := omega) only [z_add, z_mul, z_sub, z_subm, z_addm, z_lt_t, z_lt_f, z_le_t, z_le_f, z_eq_t, z_eq_f, z_eqm, z_meq, z_mm, z_ltm, z_mlt, z_lem, z_mle, z_cl, z_ck, u1_1, u1_2, u2_1, u2_2, ↓reduceIte, Option.bind_some, Option.bind_none, bd2_some, lb_eq, and_true, and_false, true_and, false_and, not_true_eq_false, not_false_eq_true, eq_self_iff_true, if_true, if_false, Nat.reduceEqDiff, Nat.reduceAdd, Nat.reduceMul, Nat.reduceSub, Bool.false_eq_true, zl0, zl1, zl2, zl3, zl4, zl5, zl6, zl7, zl8, zl9, zl10, zl11, zl12, zl13, zl14, zl15, zl16, zl17, zl18, zl19, zl20, zl22, zl23, zl24, zl25, zl30, zl31, zl32, zl33, zl34, zl35, zl36, zl37, zl38, zl39, zl40, zl41, zl42, zl43, zl45, zl48, zl49, zl57, zl58, zl59, zl60, zl61, zl62, zl63, zl64, zl91, zl93, zl97, zl98, zl99, zl100, zl113, zl114, zl115, zl116, zl117, zl122, zl124, zl125, zl127, zl128, zl136, zl200, zl201, zl202, zl203, zl204, zl205, zl206, zl207, zl208, zl209, zl210, zl211, zl212, zl213, zl214, zl215, zl216, zl217, zl218, zl219, zl220, zl235, zl236, zl255, zl280, zl287, zl900, zl999, zl1000, zl1001, zl1136, zl1960, zl3000, zl3001, zl3002, zl3003, zl3004, zl3005, zl3006, zl3007, zl3008, zl3009, zl268435456, zl1000000000]), hX.2.2.1, next_C hX.1 hv hX.2.1 hs.2.2.2.1 hp ht, Option.bind_some, e1, oI_s, bestFrom_C hv hs hb hX hK hd hF hq, Option.bind_some, show (1 : Int32) = nI 1 from rfl, nI_add]
        show _ = some (oI (match nxp v s (sA s) p t with | none => none | some q => rsr v s by' st z m q))
        rw [e1]
        exact ih n (j + 1) q hq (by omega) hi2 (by omega)
  unfold f_Ro_stationAt j_Ro_stationAt_24
  rw [place_C hS hv hs hw, lb_eq, show (280 : Int32) = nI 280 from rfl]
  by_cases c : 280 ≤ i
  · rw [if_pos (nI_le c (by omega)), bnd i c]
    obtain ⟨n, hn⟩ : ∃ n, FU = n + 1 := ⟨FU - 1, by have := FU_big; omega⟩
    rw [hn, l_Ro_stationAt_28, if_neg (by simp (disch := omega) only [z_add, z_mul, z_sub, z_subm, z_addm, z_lt_t, z_lt_f, z_le_t, z_le_f, z_eq_t, z_eq_f, z_eqm, z_meq, z_mm, z_ltm, z_mlt, z_lem, z_mle, z_cl, z_ck, u1_1, u1_2, u2_1, u2_2, ↓reduceIte, Option.bind_some, Option.bind_none, bd2_some, lb_eq, and_true, and_false, true_and, false_and, not_true_eq_false, not_false_eq_true, eq_self_iff_true, if_true, if_false, Nat.reduceEqDiff, Nat.reduceAdd, Nat.reduceMul, Nat.reduceSub, Bool.false_eq_true, zl0, zl1, zl2, zl3, zl4, zl5, zl6, zl7, zl8, zl9, zl10, zl11, zl12, zl13, zl14, zl15, zl16, zl17, zl18, zl19, zl20, zl22, zl23, zl24, zl25, zl30, zl31, zl32, zl33, zl34, zl35, zl36, zl37, zl38, zl39, zl40, zl41, zl42, zl43, zl45, zl48, zl49, zl57, zl58, zl59, zl60, zl61, zl62, zl63, zl64, zl91, zl93, zl97, zl98, zl99, zl100, zl113, zl114, zl115, zl116, zl117, zl122, zl124, zl125, zl127, zl128, zl136, zl200, zl201, zl202, zl203, zl204, zl205, zl206, zl207, zl208, zl209, zl210, zl211, zl212, zl213, zl214, zl215, zl216, zl217, zl218, zl219, zl220, zl235, zl236, zl255, zl280, zl287, zl900, zl999, zl1000, zl1001, zl1136, zl1960, zl3000, zl3001, zl3002, zl3003, zl3004, zl3005, zl3006, zl3007, zl3008, zl3009, zl268435456, zl1000000000]), if_neg (by decide), if_pos (by decide)]
    rfl
  · rw [if_neg (nI_ge (by omega) (by omega)), bestFrom_C hv hs hb hX hK hd hF hm, Option.bind_some]
    exact loop i FU 0 _ hm (by omega) (by omega) (by have := FU_big; omega)
