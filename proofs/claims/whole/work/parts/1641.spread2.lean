/-! spread, rounds, crowd: runs -/
def A0 (w z : Nat) : Nat → Nat := fun j => if j = w then z else 0
theorem begin_C {P : PM} {o w z : Nat} (ho : o = 66 ∨ o = 67) (hw : w < 7) : ∃ P', f_Sp_begin o 7 (nI w) (nI z) P = some P' ∧ GAr P' o (A0 w z) ∧ sm (fun x => x == o) P P' := by
  unfold f_Sp_begin
  rw [fillAII (by decide), Option.bind_some, if_neg (by simp (disch := omega) only [z_add, z_mul, z_sub, z_subm, z_addm, z_lt_t, z_lt_f, z_le_t, z_le_f, z_eq_t, z_eq_f, z_eqm, z_meq, z_mm, z_ltm, z_mlt, z_lem, z_mle, z_cl, z_ck, u1_1, u1_2, u2_1, u2_2, ↓reduceIte, Option.bind_some, Option.bind_none, bd2_some, lb_eq, and_true, and_false, true_and, false_and, not_true_eq_false, not_false_eq_true, eq_self_iff_true, if_true, if_false, Nat.reduceEqDiff, Nat.reduceAdd, Nat.reduceMul, Nat.reduceSub, Bool.false_eq_true, zl0, zl1, zl2, zl3, zl4, zl5, zl6, zl7, zl8, zl9, zl10, zl11, zl12, zl13, zl14, zl15, zl16, zl17, zl18, zl19, zl20, zl22, zl23, zl24, zl25, zl30, zl31, zl32, zl33, zl34, zl35, zl36, zl37, zl38, zl39, zl40, zl41, zl42, zl43, zl45, zl48, zl49, zl57, zl58, zl59, zl60, zl61, zl62, zl63, zl64, zl91, zl93, zl97, zl98, zl99, zl100, zl113, zl114, zl115, zl116, zl117, zl122, zl124, zl125, zl127, zl128, zl136, zl200, zl201, zl202, zl203, zl204, zl205, zl206, zl207, zl208, zl209, zl210, zl211, zl212, zl213, zl214, zl215, zl216, zl217, zl218, zl219, zl220, zl235, zl236, zl255, zl280, zl287, zl900, zl999, zl1000, zl1001, zl1136, zl1960, zl3000, zl3001, zl3002, zl3003, zl3004, zl3005, zl3006, zl3007, zl3008, zl3009, zl268435456, zl1000000000]), show Int32.ofNat 7 = nI 7 from rfl, if_neg (nI_ge hw (by omega)), z_ck hw (by omega), z_cl (by omega)]
  refine ⟨_, rfl, fun j hj => ?_, sm_u1 (sm_rowI sm_refl (by simp)) (by simp)⟩
  unfold A0
  rw [u1_1, rowI_1]
  by_cases e : j = w
  · rw [if_pos ⟨rfl, e⟩, if_pos e]
  · rw [if_neg (fun h => e h.2), if_neg e, if_pos ⟨rfl, by omega, hj⟩]; rfl
theorem isAt_l {o w z : Nat} : ∀ (m n i : Nat) (P : PM), i + m = 7 → m < n → w < 7 → (∀ j, j < i → P.1 o j = nI (A0 w z j)) → ∃ P', l_Mo_isAt_2 o 7 n (nI w) (nI z) (nI i) P = some P' ∧ GAr P' o (A0 w z) ∧ sm (fun x => x == o) P P' := by
  intro m
  induction m with
  | zero =>
    intro n i P hi hn hw h
    obtain ⟨n, rfl⟩ : ∃ r, n = r + 1 := ⟨n - 1, by omega⟩
    rw [l_Mo_isAt_2, if_pos (by simp (disch := omega) only [z_add, z_mul, z_sub, z_subm, z_addm, z_lt_t, z_lt_f, z_le_t, z_le_f, z_eq_t, z_eq_f, z_eqm, z_meq, z_mm, z_ltm, z_mlt, z_lem, z_mle, z_cl, z_ck, u1_1, u1_2, u2_1, u2_2, ↓reduceIte, Option.bind_some, Option.bind_none, bd2_some, lb_eq, and_true, and_false, true_and, false_and, not_true_eq_false, not_false_eq_true, eq_self_iff_true, if_true, if_false, Nat.reduceEqDiff, Nat.reduceAdd, Nat.reduceMul, Nat.reduceSub, Bool.false_eq_true, zl0, zl1, zl2, zl3, zl4, zl5, zl6, zl7, zl8, zl9, zl10, zl11, zl12, zl13, zl14, zl15, zl16, zl17, zl18, zl19, zl20, zl22, zl23, zl24, zl25, zl30, zl31, zl32, zl33, zl34, zl35, zl36, zl37, zl38, zl39, zl40, zl41, zl42, zl43, zl45, zl48, zl49, zl57, zl58, zl59, zl60, zl61, zl62, zl63, zl64, zl91, zl93, zl97, zl98, zl99, zl100, zl113, zl114, zl115, zl116, zl117, zl122, zl124, zl125, zl127, zl128, zl136, zl200, zl201, zl202, zl203, zl204, zl205, zl206, zl207, zl208, zl209, zl210, zl211, zl212, zl213, zl214, zl215, zl216, zl217, zl218, zl219, zl220, zl235, zl236, zl255, zl280, zl287, zl900, zl999, zl1000, zl1001, zl1136, zl1960, zl3000, zl3001, zl3002, zl3003, zl3004, zl3005, zl3006, zl3007, zl3008, zl3009, zl268435456, zl1000000000])]
    exact ⟨P, rfl, fun j hj => h j (by omega), sm_refl⟩
  | succ m ih =>
    intro n i P hi hn hw h
    obtain ⟨n, rfl⟩ : ∃ r, n = r + 1 := ⟨n - 1, by omega⟩
    have go : ∀ x : Int32, x = nI (A0 w z i) → ∃ P', j_Mo_isAt_20 o 7 (fun z0 z1 z2 Pz => l_Mo_isAt_2 o 7 n z0 z1 z2 Pz) (nI w) (nI z) (nI i) (nI i) x P = some P' ∧ GAr P' o (A0 w z) ∧ sm (fun x => x == o) P P' := by
      rintro x rfl
      unfold j_Mo_isAt_20
      rw [z_ck (by omega) (by omega), z_cl (by omega), show (1 : Int32) = nI 1 from rfl, nI_add]
      obtain ⟨P', g1, g2, g3⟩ := ih n (i + 1) (u1 P o i (nI (A0 w z i))) (by omega) (by omega) hw (fun j hj => by
        rw [u1_1]
        by_cases e : j = i
        · rw [if_pos ⟨rfl, e⟩, e]
        · rw [if_neg (fun h => e h.2)]; exact h j (by omega))
      exact ⟨P', g1, g2, sm_trans (sm_u1 sm_refl (by simp)) g3⟩
    rw [l_Mo_isAt_2, if_neg (by simp (disch := omega) only [z_add, z_mul, z_sub, z_subm, z_addm, z_lt_t, z_lt_f, z_le_t, z_le_f, z_eq_t, z_eq_f, z_eqm, z_meq, z_mm, z_ltm, z_mlt, z_lem, z_mle, z_cl, z_ck, u1_1, u1_2, u2_1, u2_2, ↓reduceIte, Option.bind_some, Option.bind_none, bd2_some, lb_eq, and_true, and_false, true_and, false_and, not_true_eq_false, not_false_eq_true, eq_self_iff_true, if_true, if_false, Nat.reduceEqDiff, Nat.reduceAdd, Nat.reduceMul, Nat.reduceSub, Bool.false_eq_true, zl0, zl1, zl2, zl3, zl4, zl5, zl6, zl7, zl8, zl9, zl10, zl11, zl12, zl13, zl14, zl15, zl16, zl17, zl18, zl19, zl20, zl22, zl23, zl24, zl25, zl30, zl31, zl32, zl33, zl34, zl35, zl36, zl37, zl38, zl39, zl40, zl41, zl42, zl43, zl45, zl48, zl49, zl57, zl58, zl59, zl60, zl61, zl62, zl63, zl64, zl91, zl93, zl97, zl98, zl99, zl100, zl113, zl114, zl115, zl116, zl117, zl122, zl124, zl125, zl127, zl128, zl136, zl200, zl201, zl202, zl203, zl204, zl205, zl206, zl207, zl208, zl209, zl210, zl211, zl212, zl213, zl214, zl215, zl216, zl217, zl218, zl219, zl220, zl235, zl236, zl255, zl280, zl287, zl900, zl999, zl1000, zl1001, zl1136, zl1960, zl3000, zl3001, zl3002, zl3003, zl3004, zl3005, zl3006, zl3007, zl3008, zl3009, zl268435456, zl1000000000])]
    by_cases c : i = w
    · rw [if_pos (congrArg nI c)]
      exact go _ (by unfold A0; rw [if_pos c])
    · rw [if_neg (by simp (disch := omega) only [z_add, z_mul, z_sub, z_subm, z_addm, z_lt_t, z_lt_f, z_le_t, z_le_f, z_eq_t, z_eq_f, z_eqm, z_meq, z_mm, z_ltm, z_mlt, z_lem, z_mle, z_cl, z_ck, u1_1, u1_2, u2_1, u2_2, ↓reduceIte, Option.bind_some, Option.bind_none, bd2_some, lb_eq, and_true, and_false, true_and, false_and, not_true_eq_false, not_false_eq_true, eq_self_iff_true, if_true, if_false, Nat.reduceEqDiff, Nat.reduceAdd, Nat.reduceMul, Nat.reduceSub, Bool.false_eq_true, zl0, zl1, zl2, zl3, zl4, zl5, zl6, zl7, zl8, zl9, zl10, zl11, zl12, zl13, zl14, zl15, zl16, zl17, zl18, zl19, zl20, zl22, zl23, zl24, zl25, zl30, zl31, zl32, zl33, zl34, zl35, zl36, zl37, zl38, zl39, zl40, zl41, zl42, zl43, zl45, zl48, zl49, zl57, zl58, zl59, zl60, zl61, zl62, zl63, zl64, zl91, zl93, zl97, zl98, zl99, zl100, zl113, zl114, zl115, zl116, zl117, zl122, zl124, zl125, zl127, zl128, zl136, zl200, zl201, zl202, zl203, zl204, zl205, zl206, zl207, zl208, zl209, zl210, zl211, zl212, zl213, zl214, zl215, zl216, zl217, zl218, zl219, zl220, zl235, zl236, zl255, zl280, zl287, zl900, zl999, zl1000, zl1001, zl1136, zl1960, zl3000, zl3001, zl3002, zl3003, zl3004, zl3005, zl3006, zl3007, zl3008, zl3009, zl268435456, zl1000000000])]
      exact go _ (by unfold A0; rw [if_neg c]; rfl)
theorem isAt_M {P : PM} {o w z : Nat} (hw : w < 7) : ∃ P', f_Mo_isAt o 7 (nI w) (nI z) P = some P' ∧ GAr P' o (A0 w z) ∧ sm (fun x => x == o) P P' :=
  isAt_l 7 FU 0 P (by omega) (by have := FU_big; omega) hw (fun j hj => by omega)
/-- so many rounds, as long as they change -/
theorem run_l {v : NV} {s : SV} {sl N : Nat} {S : Nat → Prop} {A : Nat → Nat} (hv : NVok v) (hsl : sl < 128) (hA : Pos S (vN v) A) (hN1 : N < 100000)
    (hS : ∀ w z t k, 1 ≤ z → z ≤ 40 → S (40 * w + z - 1) → gw v s sl w z t = some (k + 1) → S (40 * t + k)) {R : Nat} (hR1 : ∀ i, i < R → (rd v s sl (itr v s sl A i)).2 = true) (hR2 : (rd v s sl (itr v s sl A R)).2 = false) (hR3 : ∀ n, R ≤ n → itr v s sl A n = itr v s sl A R) :
    ∀ (m n i c : Nat) (P : PM), i + m = N → m < n → (c = i ∧ i ≤ R ∨ c = R ∧ R < i) → GKn P v s sl S → GAr P 66 (itr v s sl A i) →
    ∃ P', l_Sp_runWith_26 n (nI sl) (nI N) (nI c) (nI i) P = some (nI (min N R), P') ∧ GAr P' 66 (itr v s sl A N) ∧ sm og P P' := by
  intro m
  induction m with
  | zero =>
    intro n i c P hi hn hc hX hg
    obtain ⟨n, rfl⟩ : ∃ r, n = r + 1 := ⟨n - 1, by omega⟩
    obtain rfl : i = N := by omega
    rw [l_Sp_runWith_26, if_pos (nI_le (by omega) (by omega))]
    refine ⟨P, ?_, hg, sm_refl⟩
    rcases hc with ⟨h1, h2⟩ | ⟨h1, h2⟩
    · rw [Nat.min_eq_left h2, h1]
    · rw [Nat.min_eq_right (by omega), h1]
  | succ m ih =>
    intro n i c P hi hn hc hX hg
    obtain ⟨n, rfl⟩ : ∃ r, n = r + 1 := ⟨n - 1, by omega⟩
    rw [l_Sp_runWith_26, if_neg (nI_ge (by omega) (by omega))]
    rcases hc with ⟨h1, h2⟩ | ⟨h1, h2⟩
    · subst h1
      rw [if_pos rfl]
      obtain ⟨P1, g1, g2, g3⟩ := goesOn_C (a1 := 66) hv hsl (Or.inl rfl) (itr_p hv hS hA c) hS hX hg
      have hog : sm og P P1 := sm_mono g3 (fun o q => by simp [og] at q; simp; omega)
      rw [g1, bd2_some]
      unfold j_Sp_runWith_56
      by_cases e : c = R
      · rw [e, hR2, if_pos (by decide), lb_eq, show nI R + (0 : Int32) = nI R from nI_add R 0, show (1 : Int32) = nI 1 from rfl, nI_add]
        obtain ⟨P2, k1, k2, k3⟩ := ih n (R + 1) R P1 (by omega) (by omega) (Or.inr ⟨rfl, by omega⟩) (GKn_og hX hog) (by rw [e] at g2; exact g2)
        exact ⟨P2, k1, k2, sm_trans hog k3⟩
      · rw [hR1 c (by omega), if_neg (by decide), lb_eq, show (1 : Int32) = nI 1 from rfl, nI_add]
        obtain ⟨P2, k1, k2, k3⟩ := ih n (c + 1) (c + 1) P1 (by omega) (by omega) (Or.inl ⟨rfl, by omega⟩) (GKn_og hX hog) g2
        exact ⟨P2, k1, k2, sm_trans hog k3⟩
    · rw [if_neg (by subst h1; intro h; have := (nI_eq (by omega) (by omega)).mp h; omega)]
      refine ⟨P, by rw [Nat.min_eq_right (by omega), h1], ?_, sm_refl⟩
      rw [hR3 N (by omega), ← hR3 i (by omega)]
      exact hg
/-- the reference's rounds, till nothing changes -/
theorem roundsM_l {v : NV} {s : SV} {sl : Nat} {S : Nat → Prop} {A : Nat → Nat} {ρ : Type} {W : Nat → Nat → PM → Option ρ} {F : Nat → PM → Option ρ} (hv : NVok v) (hsl : sl < 128) (hA : Pos S (vN v) A)
    (hS : ∀ w z t k, 1 ≤ z → z ≤ 40 → S (40 * w + z - 1) → gw v s sl w z t = some (k + 1) → S (40 * t + k)) {R : Nat} (hR1 : ∀ i, i < R → (rd v s sl (itr v s sl A i)).2 = true) (hR2 : (rd v s sl (itr v s sl A R)).2 = false) (hR3 : ∀ n, R ≤ n → itr v s sl A n = itr v s sl A R)
    (hW : ∀ n i P, MKn P v s → P.1 110 116 = nI (sA s) → W (n + 1) i P = bd2 (f_Mo_spreads 120 7 (nI sl) P) (fun v1 P2 => if v1 = (0 : Int32) then F i P2 else W n (i + 1) P2)) :
    ∀ (m n i : Nat) (P : PM), i + m = R → m < n → MKn P v s → P.1 110 116 = nI (sA s) → GAr P 120 (itr v s sl A i) →
    ∃ P', W n i P = F R P' ∧ GAr P' 120 (itr v s sl A R) ∧ sm ogm P P' := by
  intro m
  induction m with
  | zero =>
    intro n i P hi hn hX h116 hg
    obtain ⟨n, rfl⟩ : ∃ r, n = r + 1 := ⟨n - 1, by omega⟩
    obtain rfl : i = R := by omega
    obtain ⟨P1, g1, g2, g3⟩ := spreads_M (a1 := 120) hv hsl (Or.inl rfl) (itr_p hv hS hA i) hS hX hg
    rw [hW n i P hX h116, g1, bd2_some, hR2, if_pos (by decide)]
    refine ⟨P1, rfl, ?_, sm_mono g3 (fun o q => by simp [ogm] at q; simp; omega)⟩
    have := hR3 (i + 1) (by omega)
    rw [← this]
    exact g2
  | succ m ih =>
    intro n i P hi hn hX h116 hg
    obtain ⟨n, rfl⟩ : ∃ r, n = r + 1 := ⟨n - 1, by omega⟩
    obtain ⟨P1, g1, g2, g3⟩ := spreads_M (a1 := 120) hv hsl (Or.inl rfl) (itr_p hv hS hA i) hS hX hg
    have hog : sm ogm P P1 := sm_mono g3 (fun o q => by simp [ogm] at q; simp; omega)
    rw [hW n i P hX h116, g1, bd2_some, hR1 i (by omega), if_neg (by decide)]
    obtain ⟨P2, k1, k2, k3⟩ := ih n (i + 1) P1 (by omega) (by omega) (MKn_og hX hog) (by rw [hog.1 110 rfl]; exact h116) g2
    exact ⟨P2, k1, k2, sm_trans hog k3⟩
/-- and at most so many -/
theorem spreadM_l {v : NV} {s : SV} {N g : Nat} {S : Nat → Prop} {A : Nat → Nat} (hv : NVok v) (hs : SVok v s) (hA : Pos S (vN v) A) (hg7 : g < 7) (hN1 : N < 100000)
    (hS : ∀ w z t k, 1 ≤ z → z ≤ 40 → S (40 * w + z - 1) → gw v s (sA s) w z t = some (k + 1) → S (40 * t + k)) :
    ∀ (m n i : Nat) (P : PM), i + m = N → m < n → MKn P v s → P.1 110 116 = nI (sA s) → GAr P 120 (itr v s (sA s) A i) →
    ∃ P', l_Mo_spread_52 n (nI g) (nI N) (nI i) P = some (nI (itr v s (sA s) A N g), P') ∧ sm ogm P P' := by
  have h7 := pw_le hv.1
  have hsl : sA s < 128 := by have := hs.2.2.2.1; omega
  have fin : ∀ (P : PM) (A' : Nat → Nat), GAr P 120 A' → j_Mo_spread_84 (nI g) P = some (nI (A' g), P) := by
    intro P A' h
    unfold j_Mo_spread_84
    rw [z_ck hg7 (by omega), z_cl (by omega), h g hg7]
  intro m
  induction m with
  | zero =>
    intro n i P hi hn hX h116 hg
    obtain ⟨n, rfl⟩ : ∃ r, n = r + 1 := ⟨n - 1, by omega⟩
    obtain rfl : i = N := by omega
    rw [l_Mo_spread_52, if_pos (nI_le (by omega) (by omega)), fin P _ hg]
    exact ⟨P, rfl, sm_refl⟩
  | succ m ih =>
    intro n i P hi hn hX h116 hg
    obtain ⟨n, rfl⟩ : ∃ r, n = r + 1 := ⟨n - 1, by omega⟩
    obtain ⟨P1, g1, g2, g3⟩ := spreads_M (a1 := 120) hv hsl (Or.inl rfl) (itr_p hv hS hA i) hS hX hg
    have hog : sm ogm P P1 := sm_mono g3 (fun o q => by simp [ogm] at q; simp; omega)
    rw [l_Mo_spread_52, if_neg (nI_ge (by omega) (by omega)), show P.1 110 (116 : Int32).toNatClampNeg = nI (sA s) from h116, g1, bd2_some]
    cases e : (rd v s (sA s) (itr v s (sA s) A i)).2 with
    | false =>
      have h6 := (rd_p hv hS (itr_p hv hS hA i)).2.1 e
      have hst : ∀ d, itr v s (sA s) A (i + d) = itr v s (sA s) A i := by
        intro d
        induction d with
        | zero => rfl
        | succ d ih =>
          show (rd v s (sA s) (itr v s (sA s) A (i + d))).1 = _
          rw [ih]
          exact h6
      rw [if_pos (by decide), fin P1 _ g2, h6, ← hst (m + 1), show i + (m + 1) = N from hi]
      exact ⟨P1, rfl, hog⟩
    | true =>
      rw [if_neg (by decide), show (1 : Int32) = nI 1 from rfl, nI_add]
      obtain ⟨P2, k1, k2⟩ := ih n (i + 1) P1 (by omega) (by omega) (MKn_og hX hog) (by rw [hog.1 110 rfl]; exact h116) g2
      exact ⟨P2, k1, sm_trans hog k2⟩
