/-! the class: a round of spreading -/
def GKn (P : PM) (v : NV) (s : SV) (sl : Nat) (S : Nat → Prop) : Prop := CNet P 14 v ∧ ∀ p, S p → p < 280 ∧ ∀ t, t < vN v → ¬ sl.testBit t = true → known P v s p t
def GAr (P : PM) (o : Nat) (A : Nat → Nat) : Prop := ∀ j, j < 7 → P.1 o j = nI (A j)
def og (o : Nat) : Bool := o == 66 || o == 67 || o == 68
theorem GKn_og {P P' : PM} {v : NV} {s : SV} {sl : Nat} {S : Nat → Prop} (h : GKn P v s sl S) (g : sm og P P') : GKn P' v s sl S :=
  ⟨CNet_sm h.1 g rfl rfl rfl rfl rfl, fun p hp => ⟨(h.2 p hp).1, fun t ht e => by unfold known; rw [g.1 59 rfl]; exact (h.2 p hp).2 t ht e⟩⟩
theorem after_K {P : PM} {v : NV} {s : SV} {sl p t : Nat} {S : Nat → Prop} (hX : GKn P v s sl S) (hv : NVok v) (hsl : sl < 128) (hp : S p) (ht : t < vN v) :
    f_Pa_after (nI p) (nI t) (nI sl) P = some (oI (gw v s sl (p / 40) (p % 40 + 1) t)) := by
  have hN := hv.1
  obtain ⟨h280, hk⟩ := hX.2 p hp
  unfold f_Pa_after
  rw [place_n p (by omega), if_pos h280, if_neg (by decide), isStK hX.1 hv ht, if_neg (by decide), has_n (by omega) (by omega)]
  by_cases c : sl.testBit t = true
  · rw [if_pos c, if_neg (by decide)]
    unfold gw
    rw [if_pos c]
    rfl
  · rw [if_neg c, if_pos (by decide), show (280 : Int32) = nI 280 from rfl, pk_mul, nI_add, z_ck (by omega) (by omega), z_cl (by omega)]
    have k := hk t ht c
    unfold known at k
    rw [show t * 280 + p = 280 * t + p by omega, k]
    have e : gw v s sl (p / 40) (p % 40 + 1) t = car v (p / 40) (p % 40 + 1) t (sD s t) := by unfold gw; rw [if_neg c]
    rw [← e, mx_oI (fun k hk => by have := gw_le (by omega) hk; omega)]
theorem goes_in {v : NV} {s : SV} {sl w a1 : Nat} {S : Nat → Prop} {B : Nat → Nat} {k17 : Int32 → Int32 → Int32 → PM → Option (Int32 × PM)} (hv : NVok v) (hsl : sl < 128) (ha : a1 = 66 ∨ a1 = 67) (hB : Pos S (vN v) B) (hw : w < vN v)
    (hS : ∀ w z t k, 1 ≤ z → z ≤ 40 → S (40 * w + z - 1) → gw v s sl w z t = some (k + 1) → S (40 * t + k)) :
    ∀ (m n t : Nat) (A : Nat → Nat) (f : Bool) (P : PM), t + m = vN v → m < n → GKn P v s sl S → GAr P a1 A → GAr P 68 B → Pos S (vN v) A →
    ∃ P', l_Sp_goesOn_32 a1 7 k17 n (nI sl) (flg f) (nI w) (nI t) P = k17 (nI sl) (flg (if B w = 0 then (A, f) else spl v s sl B (prs w m t) (A, f)).2) (nI (w + 1)) P' ∧
      GAr P' a1 (if B w = 0 then (A, f) else spl v s sl B (prs w m t) (A, f)).1 ∧ sm (fun o => o == a1) P P' := by
  have hN := hv.1
  intro m
  induction m with
  | zero =>
    intro n t A f P ht hn hX hA hB2 hpA
    obtain ⟨n, rfl⟩ : ∃ r, n = r + 1 := ⟨n - 1, by omega⟩
    have e : (if B w = 0 then (A, f) else spl v s sl B (prs w 0 t) (A, f)) = (A, f) := by split <;> rfl
    rw [l_Sp_goesOn_32, hX.1.1, if_pos (nI_le (by omega) (by omega)), e]
    unfold j_Sp_goesOn_101
    rw [show (1 : Int32) = nI 1 from rfl, nI_add]
    exact ⟨P, rfl, hA, sm_refl⟩
  | succ m ih =>
    intro n t A f P ht hn hX hA hB2 hpA
    obtain ⟨n, rfl⟩ : ∃ r, n = r + 1 := ⟨n - 1, by omega⟩
    have hb := (hB w).1
    have hat := (hpA t).1
    rw [l_Sp_goesOn_32, hX.1.1, if_neg (nI_ge (by omega) (by omega)), z_ck (by omega) (by omega), z_cl (by omega), hB2 w (by omega)]
    by_cases c0 : B w = 0
    · rw [c0, if_pos (by decide), if_pos rfl]
      unfold j_Sp_goesOn_101
      rw [show (1 : Int32) = nI 1 from rfl, nI_add]
      exact ⟨P, rfl, hA, sm_refl⟩
    · have hpos : 0 < B w := by omega
      have hSw := ((hB w).2 hpos).2
      have hdiv : (40 * w + B w - 1) / 40 = w ∧ (40 * w + B w - 1) % 40 + 1 = B w := by omega
      rw [if_neg (by simp (disch := omega) only [z_add, z_mul, z_sub, z_subm, z_addm, z_lt_t, z_lt_f, z_le_t, z_le_f, z_eq_t, z_eq_f, z_eqm, z_meq, z_mm, z_ltm, z_mlt, z_lem, z_mle, z_cl, z_ck, u1_1, u1_2, u2_1, u2_2, ↓reduceIte, Option.bind_some, Option.bind_none, bd2_some, lb_eq, and_true, and_false, true_and, false_and, not_true_eq_false, not_false_eq_true, eq_self_iff_true, if_true, if_false, Nat.reduceEqDiff, Nat.reduceAdd, Nat.reduceMul, Nat.reduceSub, Bool.false_eq_true, zl0, zl1, zl2, zl3, zl4, zl5, zl6, zl7, zl8, zl9, zl10, zl11, zl12, zl13, zl14, zl15, zl16, zl17, zl18, zl19, zl20, zl22, zl23, zl24, zl25, zl30, zl31, zl32, zl33, zl34, zl35, zl36, zl37, zl38, zl39, zl40, zl41, zl42, zl43, zl45, zl48, zl49, zl57, zl58, zl59, zl60, zl61, zl62, zl63, zl64, zl91, zl93, zl97, zl98, zl99, zl100, zl113, zl114, zl115, zl116, zl117, zl122, zl124, zl125, zl127, zl128, zl136, zl200, zl201, zl202, zl203, zl204, zl205, zl206, zl207, zl208, zl209, zl210, zl211, zl212, zl213, zl214, zl215, zl216, zl217, zl218, zl219, zl220, zl235, zl236, zl255, zl280, zl287, zl900, zl999, zl1000, zl1001, zl1136, zl1960, zl3000, zl3001, zl3002, zl3003, zl3004, zl3005, zl3006, zl3007, zl3008, zl3009, zl268435456, zl1000000000]), z_ck (by omega) (by omega), plOf_n (by omega), after_K hX hv hsl hSw (by omega), hdiv.1, hdiv.2, Option.bind_some, z_ck (by omega) (by omega), z_cl (by omega), hA t (by omega)]
      unfold j_Sp_goesOn_95
      rw [z_ck (by omega) (by omega), show (1 : Int32) = nI 1 from rfl, nI_add, if_neg c0]
      have hs1 := spo_p (t := t) (f := f) hv hS hB hpA hpos
      show ∃ P', _ = k17 (nI sl) (flg (spl v s sl B (prs w m (t + 1)) (spo A t f (gw v s sl w (B w) t))).2) (nI (w + 1)) P' ∧ GAr P' a1 (spl v s sl B (prs w m (t + 1)) (spo A t f (gw v s sl w (B w) t))).1 ∧ _
      have ih2 : ∀ (A' : Nat → Nat) (f' : Bool) (P' : PM), GKn P' v s sl S → GAr P' a1 A' → GAr P' 68 B → Pos S (vN v) A' →
          ∃ P'', l_Sp_goesOn_32 a1 7 k17 n (nI sl) (flg f') (nI w) (nI (t + 1)) P' = k17 (nI sl) (flg (spl v s sl B (prs w m (t + 1)) (A', f')).2) (nI (w + 1)) P'' ∧ GAr P'' a1 (spl v s sl B (prs w m (t + 1)) (A', f')).1 ∧ sm (fun o => o == a1) P' P'' := by
        intro A' f' P' h1 h2 h3 h4
        have r := ih n (t + 1) A' f' P' (by omega) (by omega) h1 h2 h3 h4
        rw [if_neg c0] at r
        exact r
      cases e : gw v s sl w (B w) t with
      | none =>
        rw [show oI none = -nI 1 from rfl, if_pos (by simp (disch := omega) only [z_add, z_mul, z_sub, z_subm, z_addm, z_lt_t, z_lt_f, z_le_t, z_le_f, z_eq_t, z_eq_f, z_eqm, z_meq, z_mm, z_ltm, z_mlt, z_lem, z_mle, z_cl, z_ck, u1_1, u1_2, u2_1, u2_2, ↓reduceIte, Option.bind_some, Option.bind_none, bd2_some, lb_eq, and_true, and_false, true_and, false_and, not_true_eq_false, not_false_eq_true, eq_self_iff_true, if_true, if_false, Nat.reduceEqDiff, Nat.reduceAdd, Nat.reduceMul, Nat.reduceSub, Bool.false_eq_true, zl0, zl1, zl2, zl3, zl4, zl5, zl6, zl7, zl8, zl9, zl10, zl11, zl12, zl13, zl14, zl15, zl16, zl17, zl18, zl19, zl20, zl22, zl23, zl24, zl25, zl30, zl31, zl32, zl33, zl34, zl35, zl36, zl37, zl38, zl39, zl40, zl41, zl42, zl43, zl45, zl48, zl49, zl57, zl58, zl59, zl60, zl61, zl62, zl63, zl64, zl91, zl93, zl97, zl98, zl99, zl100, zl113, zl114, zl115, zl116, zl117, zl122, zl124, zl125, zl127, zl128, zl136, zl200, zl201, zl202, zl203, zl204, zl205, zl206, zl207, zl208, zl209, zl210, zl211, zl212, zl213, zl214, zl215, zl216, zl217, zl218, zl219, zl220, zl235, zl236, zl255, zl280, zl287, zl900, zl999, zl1000, zl1001, zl1136, zl1960, zl3000, zl3001, zl3002, zl3003, zl3004, zl3005, zl3006, zl3007, zl3008, zl3009, zl268435456, zl1000000000])]
        exact ih2 A f P hX hA hB2 hpA
      | some k =>
        have hk := gw_le hb e
        have es : spo A t f (some k) = if A t < k then (fun j => if j = t then k else A j, true) else (A, f) := rfl
        rw [e] at hs1
        rw [es] at hs1 ⊢
        rw [oI_s]
        by_cases c : A t < k
        · rw [if_pos c] at hs1 ⊢
          rw [if_neg (nI_ge c (by omega))]
          have hsm : sm (fun o => o == a1) P (u1 P a1 t (nI k)) := sm_u1 sm_refl (by simp)
          have hog : sm og P (u1 P a1 t (nI k)) := sm_u1 sm_refl (by rcases ha with rfl | rfl <;> rfl)
          obtain ⟨P', g1, g2, g3⟩ := ih2 _ true (u1 P a1 t (nI k)) (GKn_og hX hog) (fun j hj => by
            rw [u1_1]
            by_cases ej : j = t
            · rw [if_pos ⟨rfl, ej⟩]; exact congrArg nI (if_pos ej).symm
            · rw [if_neg (fun h => ej h.2), hA j hj]; exact congrArg nI (if_neg ej).symm) (fun j hj => by
            rw [u1_1, if_neg (fun h => by rcases ha with h' | h' <;> omega)]; exact hB2 j hj) hs1.1
          exact ⟨P', g1, g2, sm_trans hsm g3⟩
        · rw [if_neg c]
          rw [if_pos (nI_le (by omega) (by omega))]
          exact ih2 A f P hX hA hB2 hpA
theorem goes_out {v : NV} {s : SV} {sl a1 : Nat} {S : Nat → Prop} {B : Nat → Nat} (hv : NVok v) (hsl : sl < 128) (ha : a1 = 66 ∨ a1 = 67) (hB : Pos S (vN v) B)
    (hS : ∀ w z t k, 1 ≤ z → z ≤ 40 → S (40 * w + z - 1) → gw v s sl w z t = some (k + 1) → S (40 * t + k)) :
    ∀ (m n w : Nat) (A : Nat → Nat) (f : Bool) (P : PM), w + m = vN v → m < n → GKn P v s sl S → GAr P a1 A → GAr P 68 B → Pos S (vN v) A →
    ∃ P', l_Sp_goesOn_17 a1 7 n (nI sl) (flg f) (nI w) P = some (flg (spl v s sl B (spp B (vN v) m w) (A, f)).2, P') ∧ GAr P' a1 (spl v s sl B (spp B (vN v) m w) (A, f)).1 ∧ sm (fun o => o == a1) P P' := by
  have hN := hv.1
  intro m
  induction m with
  | zero =>
    intro n w A f P hw hn hX hA hB2 hpA
    obtain ⟨n, rfl⟩ : ∃ r, n = r + 1 := ⟨n - 1, by omega⟩
    rw [l_Sp_goesOn_17, hX.1.1, if_pos (nI_le (by omega) (by omega)), isz_flg]
    exact ⟨P, rfl, hA, sm_refl⟩
  | succ m ih =>
    intro n w A f P hw hn hX hA hB2 hpA
    obtain ⟨n, rfl⟩ : ∃ r, n = r + 1 := ⟨n - 1, by omega⟩
    rw [l_Sp_goesOn_17, hX.1.1, if_neg (nI_ge (by omega) (by omega)), show (0 : Int32) = nI 0 from rfl]
    obtain ⟨P1, g1, g2, g3⟩ := goes_in (k17 := fun z0 z1 z2 Pz => l_Sp_goesOn_17 a1 7 n z0 z1 z2 Pz) hv hsl ha hB (show w < vN v by omega) hS (vN v) FU 0 A f P (by omega) (by have := FU_big; omega) hX hA hB2 hpA
    have e : spl v s sl B (spp B (vN v) (m + 1) w) (A, f) = spl v s sl B (spp B (vN v) m (w + 1)) (if B w = 0 then (A, f) else spl v s sl B (prs w (vN v) 0) (A, f)) := by
      show spl v s sl B ((if B w = 0 then [] else prs w (vN v) 0) ++ spp B (vN v) m (w + 1)) (A, f) = _
      rw [spl_app]
      split <;> rfl
    have hp : Pos S (vN v) (if B w = 0 then (A, f) else spl v s sl B (prs w (vN v) 0) (A, f)).1 := by
      by_cases c : B w = 0
      · rw [if_pos c]; exact hpA
      · rw [if_neg c]
        exact (spl_p hv hS hB (prs w (vN v) 0) (A, f) (fun y hy => by rw [(prs_mem.mp hy).1]; omega) hpA).1
    have hog : sm og P P1 := sm_mono g3 (fun o q => by
      simp [og] at q
      simp
      rcases ha with rfl | rfl <;> omega)
    obtain ⟨P2, k1, k2, k3⟩ := ih n (w + 1) _ (if B w = 0 then (A, f) else spl v s sl B (prs w (vN v) 0) (A, f)).2 P1 (by omega) (by omega) (GKn_og hX hog) g2 (fun j hj => by rw [g3.1 68 (by rcases ha with rfl | rfl <;> rfl)]; exact hB2 j hj) hp
    rw [g1, e]
    exact ⟨P2, k1, k2, sm_trans g3 k3⟩
theorem goesOn_C {P : PM} {v : NV} {s : SV} {sl a1 : Nat} {S : Nat → Prop} {A : Nat → Nat} (hv : NVok v) (hsl : sl < 128) (ha : a1 = 66 ∨ a1 = 67) (hA : Pos S (vN v) A)
    (hS : ∀ w z t k, 1 ≤ z → z ≤ 40 → S (40 * w + z - 1) → gw v s sl w z t = some (k + 1) → S (40 * t + k)) (hX : GKn P v s sl S) (hg : GAr P a1 A) :
    ∃ P', f_Sp_goesOn a1 7 (nI sl) P = some (flg (rd v s sl A).2, P') ∧ GAr P' a1 (rd v s sl A).1 ∧ sm (fun o => o == a1 || o == 68) P P' := by
  have hN := hv.1
  have h0 : sm (fun o => o == a1 || o == 68) P (uc P a1 0 68 0 7) := ⟨fun o ho => by
    simp at ho
    funext j
    show (if o = 68 ∧ _ then _ else _) = _
    rw [if_neg (fun h => ho.2 h.1)], fun o _ => rfl⟩
  have hog : sm og P (uc P a1 0 68 0 7) := sm_mono h0 (fun o q => by
      simp [og] at q
      simp
      rcases ha with rfl | rfl <;> omega)
  obtain ⟨P1, g1, g2, g3⟩ := goes_out hv hsl ha hA hS (vN v) FU 0 A false (uc P a1 0 68 0 7) (by omega) (by have := FU_big; omega) (GKn_og hX hog) (fun j hj => by
    show (if a1 = 68 ∧ _ then _ else _) = _
    rw [if_neg (fun h => by rcases ha with h' | h' <;> omega)]
    exact hg j hj) (fun j hj => by
    show (if 68 = 68 ∧ 0 ≤ j ∧ j < 0 + 7 then P.1 a1 (0 + (j - 0)) else P.1 68 j) = _
    rw [if_pos (by omega), Nat.zero_add, Nat.sub_zero]
    exact hg j hj) hA
  refine ⟨P1, ?_, g2, sm_trans h0 (sm_mono g3 (fun o q => by simp at q; simp; exact q.1))⟩
  unfold f_Sp_goesOn
  exact g1
