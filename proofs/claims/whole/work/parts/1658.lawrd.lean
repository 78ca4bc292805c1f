/-! reading laws: each reader on both sides -/
theorem cts_app : ∀ {fs gs : List Nat} {ts ts' : List Bool}, cts fs ts = some ts' → cts (fs ++ gs) ts = cts gs ts'
  | [], gs, ts, ts', h => by
    have : ts = ts' := by simpa [cts] using h
    rw [this]; rfl
  | e :: fs, gs, ts, ts', h => by
    obtain ⟨t1, h1, h2⟩ : ∃ t1, ct e ts = some t1 ∧ cts fs t1 = some ts' := by
      rw [cts] at h
      exact Option.bind_eq_some_iff.mp h
    show (ct e ts).bind (cts (fs ++ gs)) = _
    rw [h1]
    exact cts_app h2
theorem cts_one (e : Nat) (ts : List Bool) : cts [e] ts = ct e ts := by
  show (ct e ts).bind (cts []) = ct e ts
  cases ct e ts <;> rfl
theorem rd_bm {γ : GT} {F G : PM → Option PM} {τ : Bool} {m d f p : Nat} {Pc Pm : PM} (h : Rd γ F G τ m) (hc : LBc γ f p Pc) (hm : LBm γ d f p Pm) : ∃ Pm', G Pm = some Pm' ∧ LBm γ d f p Pm' := by
  obtain ⟨o', Pc', Pm', a1, a2, a3, a4⟩ := h d (.inr (f, p)) Pc Pm ⟨hc, hm⟩
  cases o' with
  | inl es => exact a4.elim
  | inr y =>
    have : (f, p) = y := a4
    subst this
    exact ⟨Pm', a2, a3.2⟩
/-- what has been read behind o when o' was told in between -/
theorem ro_sr {τ : Bool} {m : Nat} {o o' o'' : OT} (h : sr o o') (g : ro τ m o' o'') : ro τ m o o'' := by
  cases o with
  | inl es =>
    cases o' with
    | inl es' =>
      have : es' = es := h
      subst this
      exact g
    | inr x =>
      cases o'' with
      | inl es'' => exact g.elim
      | inr y => trivial
  | inr x =>
    cases o' with
    | inl es' => exact h.elim
    | inr y =>
      have : x = y := h
      subst this
      exact g
theorem sr_ro {τ : Bool} {m : Nat} {o o' o'' : OT} (g : ro τ m o o') (h : sr o' o'') : ro τ m o o'' := by
  cases o with
  | inl es =>
    cases o'' with
    | inl es'' =>
      cases o' with
      | inl es' =>
        have : es'' = es' := h
        subst this
        exact g
      | inr x => exact h.elim
    | inr x => trivial
  | inr x =>
    cases o' with
    | inl es' => exact g.elim
    | inr y =>
      cases o'' with
      | inl es'' => exact h.elim
      | inr z => exact Eq.trans (show x = y from g) (show y = z from h)
theorem ro_up {τ : Bool} {m m' : Nat} {o o' : OT} (h : ro τ m o o') (hm : m ≤ m') : ro τ m' o o' := by
  cases o with
  | inl es =>
    cases o' with
    | inl es' =>
      obtain ⟨fs, h1, h2⟩ := h
      exact ⟨fs, h1, fun ts ht => h2 ts (by omega)⟩
    | inr x => trivial
  | inr x =>
    cases o' with
    | inl es' => exact h.elim
    | inr y => exact h
theorem Rd_up {γ : GT} {F G : PM → Option PM} {τ : Bool} {m m' : Nat} (h : Rd γ F G τ m) (hm : m ≤ m') : Rd γ F G τ m' := by
  intro d o Pc Pm hl
  obtain ⟨o', Pc', Pm', a1, a2, a3, a4⟩ := h d o Pc Pm hl
  exact ⟨o', Pc', Pm', a1, a2, a3, ro_up a4 hm⟩
/-- a loop of readers, joined by signs -/
theorem loop_ok {γ : GT} (hγ : GOk γ) {χ : Nat → Prop} {op : Nat → Nat} {σ : Bool} {m : Nat} {RC RM : PM → Option PM} {LC : Nat → Nat → PM → Option PM} {LMm : Nat → PM → Option PM}
    (hχ : ∀ k, χ k → kok k ∧ k ≠ 24) (hd : ∀ k, χ k ∨ ¬ χ k) (hop : ∀ k, χ k → ∀ ts, ct (op k) (σ :: σ :: ts) = some (σ :: ts))
    (hR : Rd γ RC RM σ m)
    (sC : ∀ f i P k, i < 900 → χ k → P.1 1 5 = nI (kt k) → LC (f + 1) i P = (f_Ta_next P).bind fun P3 => (RC P3).bind fun P4 => (f_Ne_addCode 4 (cc (op k)) P4).bind fun P5 => LC f (i + 1) P5)
    (eC : ∀ f i P, (900 ≤ i ∨ ∀ k, χ k → P.1 1 5 ≠ nI (kt k)) → i ≤ 900 → LC (f + 1) i P = some P)
    (sM : ∀ f P k, χ k → f_Mo_is (nI k) P = nI 1 → P.1 109 9 = nI k → (∀ j, χ j → j ≠ k → f_Mo_is (nI j) P = nI 0) → LMm (f + 1) P = (f_Mo_next P).bind fun P2 => (RM P2).bind fun P4 => (f_Mo_codes (nI (op k)) P4).bind fun P5 => LMm f P5)
    (eM : ∀ f P, (∀ k, χ k → f_Mo_is (nI k) P = nI 0) → LMm (f + 1) P = some P) :
    ∀ (N i f g d : Nat) (o o0 : OT) (Pc Pm : PM), i + N = 900 → N < f → N < g → LSt γ d o Pc Pm → ro σ (m + 1) o0 o → (∀ es, o = .inl es → i ≤ es.length) →
      ∃ o' Pc' Pm', LC f i Pc = some Pc' ∧ LMm g Pm = some Pm' ∧ LSt γ d o' Pc' Pm' ∧ ro σ (m + 1) o0 o' := by
  have hn := hγ.1.1
  intro N
  induction N with
  | zero =>
    intro i f g d o o0 Pc Pm hi hf hg hL hro hle
    obtain ⟨f, rfl⟩ : ∃ z, f = z + 1 := ⟨f - 1, by omega⟩
    obtain ⟨g, rfl⟩ : ∃ z, g = z + 1 := ⟨g - 1, by omega⟩
    refine ⟨o, Pc, Pm, eC f i Pc (Or.inl (by omega)) (by omega), eM g Pm (fun k hk => ?_), hL, hro⟩
    have hk2 := hχ k hk
    have hk3 := kok_n hk2.1
    cases o with
    | inl es =>
      obtain ⟨k', p, q, h0⟩ := hL
      have h3 := h0.2.2.1
      have h5 := h0.2.2.2.2
      have := hle es rfl
      have h7 := h3.2.2.2
      have : k' = 24 := by
        by_cases e : k' = 24
        · exact e
        · have := h7.2.2.1 e
          omega
      rw [is_G h3.2.1 (by omega) hk3.2, if_neg (by omega)]
    | inr x => exact is_B hL.2.2.1 ⟨hL.2.2.2.2.1, hL.2.2.2.2.2.1⟩ hk3.2 hk3.1
  | succ N ih =>
    intro i f g d o o0 Pc Pm hi hf hg hL hro hle
    obtain ⟨f, rfl⟩ : ∃ z, f = z + 1 := ⟨f - 1, by omega⟩
    obtain ⟨g, rfl⟩ : ∃ z, g = z + 1 := ⟨g - 1, by omega⟩
    cases o with
    | inl es =>
      obtain ⟨k, p, q, h0⟩ := id hL
      have h3 := h0.2.2.1
      have hkk := kok_n h3.2.2.1
      rcases hd k with c | c
      · have hc := hχ k c
        obtain ⟨o1, Pc1, Pm1, a1, a2, a3, a4, -⟩ := ls_next hγ h0 hc.2
        obtain ⟨o2, Pc2, Pm2, b1, b2, b3, b4⟩ := hR (d + 1) o1 Pc1 Pm1 a3
        obtain ⟨Pc3, Pm3, c1, c2, c3⟩ := ls_code hγ (e := op k) b3
        have hr2 : ro σ (m + 1) o0 (ap o2 (op k)) ∧ ∀ es', ap o2 (op k) = .inl es' → i + 1 ≤ es'.length := by
          have hx := ro_sr a4 b4
          have hle2 := hle es rfl
          cases o2 with
          | inl es2 =>
            obtain ⟨fs, x1, x2⟩ := hx
            have y1 : ∀ ts, ts.length + (m + 1) < 64 → cts (fs ++ [op k]) (σ :: ts) = some (σ :: ts) := fun ts ht => by
              rw [cts_app (x2 (σ :: ts) (by simp only [List.length_cons]; omega)), cts_one]
              exact hop k c ts
            refine ⟨?_, fun es' he => ?_⟩
            · cases o0 with
              | inl es0 =>
                obtain ⟨fs0, z1, z2⟩ := hro
                exact ⟨fs0 ++ (fs ++ [op k]), by rw [x1, z1]; simp, fun ts ht => by rw [cts_app (z2 ts ht)]; exact y1 ts ht⟩
              | inr x => exact hro.elim
            · have : es' = es2 ++ [op k] := by
                have : (Sum.inl (es2 ++ [op k]) : OT) = .inl es' := he
                cases this; rfl
              rw [this, x1]
              simp only [List.length_append, List.length_cons, List.length_nil]
              omega
          | inr x =>
            refine ⟨?_, fun es' he => by cases he⟩
            cases o0 with
            | inl es0 => trivial
            | inr y => exact hro.elim
        obtain ⟨o', Pc', Pm', r1, r2, r3, r4⟩ := ih (i + 1) f g d (ap o2 (op k)) o0 Pc3 Pm3 (by omega) (by omega) (by omega) c3 hr2.1 hr2.2
        refine ⟨o', Pc', Pm', ?_, ?_, r3, r4⟩
        · rw [sC f i Pc k (by omega) c ((tk_C h3 hc.1).mpr rfl), a1, Option.bind_some, b1, Option.bind_some, c1, Option.bind_some, r1]
        · rw [sM g Pm k c (by rw [is_G h3.2.1 hkk.2 hkk.2, if_pos rfl]) h3.2.1.2.1 (fun j hj hne => by rw [is_G h3.2.1 hkk.2 (kok_n (hχ j hj).1).2, if_neg (fun e => hne e.symm)]), a2, Option.bind_some, b2, Option.bind_some, c2, Option.bind_some, r2]
      · refine ⟨.inl es, Pc, Pm, eC f i Pc (Or.inr (fun j hj => ?_)) (by omega), eM g Pm (fun j hj => ?_), hL, hro⟩
        · intro e
          have := (tk_C h3 (hχ j hj).1).mp e
          exact c (this ▸ hj)
        · rw [is_G h3.2.1 hkk.2 (kok_n (hχ j hj).1).2, if_neg (fun e => c ((show k = j from e) ▸ hj))]
    | inr x =>
      refine ⟨.inr x, Pc, Pm, eC f i Pc (Or.inr (fun j hj => ?_)) (by omega), eM g Pm (fun j hj => ?_), hL, hro⟩
      · have hj2 := hχ j hj
        have hj3 := kok_n hj2.1
        have l2 := kt_lt j hj3.2
        rw [hL.1.2.1.2.2.1]
        intro e
        have e2 := (nI_eq (by omega) (by omega)).mp e
        exact hj2.2 (kt_inj j hj3.2 24 (by omega) hj2.1 (by unfold kok; omega) (e2.symm.trans rfl))
      · have hj3 := kok_n (hχ j hj).1
        exact is_B hL.2.2.1 ⟨hL.2.2.2.2.1, hL.2.2.2.2.2.1⟩ hj3.2 hj3.1
theorem term_ok {γ : GT} (hγ : GOk γ) {rC rM : Nat → Int32 → PM → Option PM} {e : Int32} {m : Nat} (h : Rd γ (rC 6 e) (rM 0 e) false m) : Rd γ (f_Lr_readTerm rC e) (f_Mo_readTerm rM e) false (m + 1) := by
  intro d o Pc Pm hL
  obtain ⟨o1, Pc1, Pm1, a1, a2, a3, a4⟩ := h d o Pc Pm hL
  have hFU := FU_big
  obtain ⟨o', Pc', Pm', r1, r2, r3, r4⟩ := loop_ok hγ (χ := fun k => k = 34) (op := fun _ => 3002) (σ := false) (LC := fun f i P => l_Lr_readTerm_7 rC f e (nI i) P) (LMm := fun f P => l_Mo_readTerm_5 rM f e P)
    (fun k hk => by rw [hk]; exact ⟨by unfold kok; omega, by omega⟩) (fun k => Classical.em (k = 34)) (fun k _ ts => rfl) h
    (fun f i P k hi hk ht => by
      rw [l_Lr_readTerm_7, if_neg (by simp (disch := omega) only [z_add, z_mul, z_sub, z_subm, z_addm, z_lt_t, z_lt_f, z_le_t, z_le_f, z_eq_t, z_eq_f, z_eqm, z_meq, z_mm, z_ltm, z_mlt, z_lem, z_mle, z_cl, z_ck, u1_1, u1_2, u2_1, u2_2, ↓reduceIte, Option.bind_some, Option.bind_none, bd2_some, lb_eq, and_true, and_false, true_and, false_and, not_true_eq_false, not_false_eq_true, eq_self_iff_true, if_true, if_false, Nat.reduceEqDiff, Nat.reduceAdd, Nat.reduceMul, Nat.reduceSub, Bool.false_eq_true, zl0, zl1, zl2, zl3, zl4, zl5, zl6, zl7, zl8, zl9, zl10, zl11, zl12, zl13, zl14, zl15, zl16, zl17, zl18, zl19, zl20, zl22, zl23, zl24, zl25, zl30, zl31, zl32, zl33, zl34, zl35, zl36, zl37, zl38, zl39, zl40, zl41, zl42, zl43, zl45, zl48, zl49, zl57, zl58, zl59, zl60, zl61, zl62, zl63, zl64, zl91, zl93, zl97, zl98, zl99, zl100, zl113, zl114, zl115, zl116, zl117, zl122, zl124, zl125, zl127, zl128, zl136, zl200, zl201, zl202, zl203, zl204, zl205, zl206, zl207, zl208, zl209, zl210, zl211, zl212, zl213, zl214, zl215, zl216, zl217, zl218, zl219, zl220, zl235, zl236, zl255, zl280, zl287, zl900, zl999, zl1000, zl1001, zl1136, zl1960, zl3000, zl3001, zl3002, zl3003, zl3004, zl3005, zl3006, zl3007, zl3008, zl3009, zl268435456, zl1000000000]), if_pos (by rw [ht, hk]; rfl), z_one]; rfl)
    (fun f i P hx hi => by
      rw [l_Lr_readTerm_7]
      by_cases c : 900 ≤ i
      · rw [if_pos (by simp (disch := omega) only [z_add, z_mul, z_sub, z_subm, z_addm, z_lt_t, z_lt_f, z_le_t, z_le_f, z_eq_t, z_eq_f, z_eqm, z_meq, z_mm, z_ltm, z_mlt, z_lem, z_mle, z_cl, z_ck, u1_1, u1_2, u2_1, u2_2, ↓reduceIte, Option.bind_some, Option.bind_none, bd2_some, lb_eq, and_true, and_false, true_and, false_and, not_true_eq_false, not_false_eq_true, eq_self_iff_true, if_true, if_false, Nat.reduceEqDiff, Nat.reduceAdd, Nat.reduceMul, Nat.reduceSub, Bool.false_eq_true, zl0, zl1, zl2, zl3, zl4, zl5, zl6, zl7, zl8, zl9, zl10, zl11, zl12, zl13, zl14, zl15, zl16, zl17, zl18, zl19, zl20, zl22, zl23, zl24, zl25, zl30, zl31, zl32, zl33, zl34, zl35, zl36, zl37, zl38, zl39, zl40, zl41, zl42, zl43, zl45, zl48, zl49, zl57, zl58, zl59, zl60, zl61, zl62, zl63, zl64, zl91, zl93, zl97, zl98, zl99, zl100, zl113, zl114, zl115, zl116, zl117, zl122, zl124, zl125, zl127, zl128, zl136, zl200, zl201, zl202, zl203, zl204, zl205, zl206, zl207, zl208, zl209, zl210, zl211, zl212, zl213, zl214, zl215, zl216, zl217, zl218, zl219, zl220, zl235, zl236, zl255, zl280, zl287, zl900, zl999, zl1000, zl1001, zl1136, zl1960, zl3000, zl3001, zl3002, zl3003, zl3004, zl3005, zl3006, zl3007, zl3008, zl3009, zl268435456, zl1000000000])]
      · rw [if_neg (by simp (disch := omega) only [z_add, z_mul, z_sub, z_subm, z_addm, z_lt_t, z_lt_f, z_le_t, z_le_f, z_eq_t, z_eq_f, z_eqm, z_meq, z_mm, z_ltm, z_mlt, z_lem, z_mle, z_cl, z_ck, u1_1, u1_2, u2_1, u2_2, ↓reduceIte, Option.bind_some, Option.bind_none, bd2_some, lb_eq, and_true, and_false, true_and, false_and, not_true_eq_false, not_false_eq_true, eq_self_iff_true, if_true, if_false, Nat.reduceEqDiff, Nat.reduceAdd, Nat.reduceMul, Nat.reduceSub, Bool.false_eq_true, zl0, zl1, zl2, zl3, zl4, zl5, zl6, zl7, zl8, zl9, zl10, zl11, zl12, zl13, zl14, zl15, zl16, zl17, zl18, zl19, zl20, zl22, zl23, zl24, zl25, zl30, zl31, zl32, zl33, zl34, zl35, zl36, zl37, zl38, zl39, zl40, zl41, zl42, zl43, zl45, zl48, zl49, zl57, zl58, zl59, zl60, zl61, zl62, zl63, zl64, zl91, zl93, zl97, zl98, zl99, zl100, zl113, zl114, zl115, zl116, zl117, zl122, zl124, zl125, zl127, zl128, zl136, zl200, zl201, zl202, zl203, zl204, zl205, zl206, zl207, zl208, zl209, zl210, zl211, zl212, zl213, zl214, zl215, zl216, zl217, zl218, zl219, zl220, zl235, zl236, zl255, zl280, zl287, zl900, zl999, zl1000, zl1001, zl1136, zl1960, zl3000, zl3001, zl3002, zl3003, zl3004, zl3005, zl3006, zl3007, zl3008, zl3009, zl268435456, zl1000000000]), if_neg]
        rcases hx with hx | hx
        · omega
        · exact hx 34 rfl)
    (fun f P k hk h1 h2 _ => by
      rw [hk] at h1
      rw [l_Mo_readTerm_5, show (34 : Int32) = nI 34 from rfl, eats_1 h1]
      cases f_Mo_next P <;> rfl)
    (fun f P hx => by
      rw [l_Mo_readTerm_5, show (34 : Int32) = nI 34 from rfl, eats_0 (hx 34 rfl)]; rfl)
    900 0 FU FU d o1 o Pc1 Pm1 rfl (by omega) (by omega) a3 (ro_up a4 (by omega)) (fun es _ => Nat.zero_le _)
  refine ⟨o', Pc', Pm', ?_, ?_, r3, r4⟩
  · unfold f_Lr_readTerm
    rw [a1, Option.bind_some]; exact r1
  · unfold f_Mo_readTerm
    rw [a2, Option.bind_some]; exact r2
theorem sum_ok {γ : GT} (hγ : GOk γ) {rC rM : Nat → Int32 → PM → Option PM} {e : Int32} {m : Nat} (h : Rd γ (rC 5 e) (rM 2 e) false m) : Rd γ (f_Lr_readSum rC e) (f_Mo_readSum rM e) false (m + 1) := by
  intro d o Pc Pm hL
  obtain ⟨o1, Pc1, Pm1, a1, a2, a3, a4⟩ := h d o Pc Pm hL
  have hFU := FU_big
  obtain ⟨o', Pc', Pm', r1, r2, r3, r4⟩ := loop_ok hγ (χ := fun k => k = 32 ∨ k = 33) (op := fun k => 2968 + k) (σ := false) (LC := fun f i P => l_Lr_readSum_7 rC f e (nI i) P) (LMm := fun f P => l_Mo_readSum_5 rM f e P)
    (fun k hk => by rcases hk with rfl | rfl <;> exact ⟨by unfold kok; omega, by omega⟩) (fun k => Classical.em (k = 32 ∨ k = 33)) (fun k hk ts => by rcases hk with rfl | rfl <;> rfl) h
    (fun f i P k hi hk ht => by
      rw [l_Lr_readSum_7, if_neg (by simp (disch := omega) only [z_add, z_mul, z_sub, z_subm, z_addm, z_lt_t, z_lt_f, z_le_t, z_le_f, z_eq_t, z_eq_f, z_eqm, z_meq, z_mm, z_ltm, z_mlt, z_lem, z_mle, z_cl, z_ck, u1_1, u1_2, u2_1, u2_2, ↓reduceIte, Option.bind_some, Option.bind_none, bd2_some, lb_eq, and_true, and_false, true_and, false_and, not_true_eq_false, not_false_eq_true, eq_self_iff_true, if_true, if_false, Nat.reduceEqDiff, Nat.reduceAdd, Nat.reduceMul, Nat.reduceSub, Bool.false_eq_true, zl0, zl1, zl2, zl3, zl4, zl5, zl6, zl7, zl8, zl9, zl10, zl11, zl12, zl13, zl14, zl15, zl16, zl17, zl18, zl19, zl20, zl22, zl23, zl24, zl25, zl30, zl31, zl32, zl33, zl34, zl35, zl36, zl37, zl38, zl39, zl40, zl41, zl42, zl43, zl45, zl48, zl49, zl57, zl58, zl59, zl60, zl61, zl62, zl63, zl64, zl91, zl93, zl97, zl98, zl99, zl100, zl113, zl114, zl115, zl116, zl117, zl122, zl124, zl125, zl127, zl128, zl136, zl200, zl201, zl202, zl203, zl204, zl205, zl206, zl207, zl208, zl209, zl210, zl211, zl212, zl213, zl214, zl215, zl216, zl217, zl218, zl219, zl220, zl235, zl236, zl255, zl280, zl287, zl900, zl999, zl1000, zl1001, zl1136, zl1960, zl3000, zl3001, zl3002, zl3003, zl3004, zl3005, zl3006, zl3007, zl3008, zl3009, zl268435456, zl1000000000])]
      rcases hk with rfl | rfl
      · rw [if_pos (by rw [ht]; rfl)]
        unfold j_Lr_readSum_38
        rw [lb_eq, ht, z_one]; rfl
      · rw [if_neg (by rw [ht]; decide), if_pos (by rw [ht]; rfl)]
        unfold j_Lr_readSum_38
        rw [lb_eq, ht, z_one]; rfl)
    (fun f i P hx hi => by
      rw [l_Lr_readSum_7]
      by_cases c : 900 ≤ i
      · rw [if_pos (by simp (disch := omega) only [z_add, z_mul, z_sub, z_subm, z_addm, z_lt_t, z_lt_f, z_le_t, z_le_f, z_eq_t, z_eq_f, z_eqm, z_meq, z_mm, z_ltm, z_mlt, z_lem, z_mle, z_cl, z_ck, u1_1, u1_2, u2_1, u2_2, ↓reduceIte, Option.bind_some, Option.bind_none, bd2_some, lb_eq, and_true, and_false, true_and, false_and, not_true_eq_false, not_false_eq_true, eq_self_iff_true, if_true, if_false, Nat.reduceEqDiff, Nat.reduceAdd, Nat.reduceMul, Nat.reduceSub, Bool.false_eq_true, zl0, zl1, zl2, zl3, zl4, zl5, zl6, zl7, zl8, zl9, zl10, zl11, zl12, zl13, zl14, zl15, zl16, zl17, zl18, zl19, zl20, zl22, zl23, zl24, zl25, zl30, zl31, zl32, zl33, zl34, zl35, zl36, zl37, zl38, zl39, zl40, zl41, zl42, zl43, zl45, zl48, zl49, zl57, zl58, zl59, zl60, zl61, zl62, zl63, zl64, zl91, zl93, zl97, zl98, zl99, zl100, zl113, zl114, zl115, zl116, zl117, zl122, zl124, zl125, zl127, zl128, zl136, zl200, zl201, zl202, zl203, zl204, zl205, zl206, zl207, zl208, zl209, zl210, zl211, zl212, zl213, zl214, zl215, zl216, zl217, zl218, zl219, zl220, zl235, zl236, zl255, zl280, zl287, zl900, zl999, zl1000, zl1001, zl1136, zl1960, zl3000, zl3001, zl3002, zl3003, zl3004, zl3005, zl3006, zl3007, zl3008, zl3009, zl268435456, zl1000000000])]
      · rcases hx with hx | hx
        · omega
        · rw [if_neg (by simp (disch := omega) only [z_add, z_mul, z_sub, z_subm, z_addm, z_lt_t, z_lt_f, z_le_t, z_le_f, z_eq_t, z_eq_f, z_eqm, z_meq, z_mm, z_ltm, z_mlt, z_lem, z_mle, z_cl, z_ck, u1_1, u1_2, u2_1, u2_2, ↓reduceIte, Option.bind_some, Option.bind_none, bd2_some, lb_eq, and_true, and_false, true_and, false_and, not_true_eq_false, not_false_eq_true, eq_self_iff_true, if_true, if_false, Nat.reduceEqDiff, Nat.reduceAdd, Nat.reduceMul, Nat.reduceSub, Bool.false_eq_true, zl0, zl1, zl2, zl3, zl4, zl5, zl6, zl7, zl8, zl9, zl10, zl11, zl12, zl13, zl14, zl15, zl16, zl17, zl18, zl19, zl20, zl22, zl23, zl24, zl25, zl30, zl31, zl32, zl33, zl34, zl35, zl36, zl37, zl38, zl39, zl40, zl41, zl42, zl43, zl45, zl48, zl49, zl57, zl58, zl59, zl60, zl61, zl62, zl63, zl64, zl91, zl93, zl97, zl98, zl99, zl100, zl113, zl114, zl115, zl116, zl117, zl122, zl124, zl125, zl127, zl128, zl136, zl200, zl201, zl202, zl203, zl204, zl205, zl206, zl207, zl208, zl209, zl210, zl211, zl212, zl213, zl214, zl215, zl216, zl217, zl218, zl219, zl220, zl235, zl236, zl255, zl280, zl287, zl900, zl999, zl1000, zl1001, zl1136, zl1960, zl3000, zl3001, zl3002, zl3003, zl3004, zl3005, zl3006, zl3007, zl3008, zl3009, zl268435456, zl1000000000]), if_neg (show P.1 1 5 ≠ (43 : Int32) from hx 32 (Or.inl rfl)), if_neg (show P.1 1 5 ≠ (45 : Int32) from hx 33 (Or.inr rfl))])
    (fun f P k hk h1 h2 h3 => by
      rw [l_Mo_readSum_5, show (32 : Int32) = nI 32 from rfl, show (33 : Int32) = nI 33 from rfl]
      unfold j_Mo_readSum_23 j_Mo_readSum_41
      rcases hk with rfl | rfl
      · rw [h1, if_neg (by decide), h2, if_pos (by rfl)]; rfl
      · rw [h3 32 (Or.inl rfl) (by omega), if_pos (by rfl), h1, if_neg (by decide), h2, if_neg (by decide)]; rfl)
    (fun f P hx => by
      rw [l_Mo_readSum_5, show (32 : Int32) = nI 32 from rfl, hx 32 (Or.inl rfl), if_pos (by rfl), show (33 : Int32) = nI 33 from rfl, hx 33 (Or.inr rfl), if_pos (by rfl)])
    900 0 FU FU d o1 o Pc1 Pm1 rfl (by omega) (by omega) a3 (ro_up a4 (by omega)) (fun es _ => Nat.zero_le _)
  refine ⟨o', Pc', Pm', ?_, ?_, r3, r4⟩
  · unfold f_Lr_readSum
    rw [a1, Option.bind_some]; exact r1
  · unfold f_Mo_readSum
    rw [a2, Option.bind_some]; exact r2
theorem both_ok {γ : GT} (hγ : GOk γ) {rC rM : Nat → Int32 → PM → Option PM} {e : Int32} {m : Nat} (h : Rd γ (rC 2 e) (rM 4 e) true m) : Rd γ (f_Lr_readBoth rC e) (f_Mo_readBoth rM e) true (m + 1) := by
  intro d o Pc Pm hL
  obtain ⟨o1, Pc1, Pm1, a1, a2, a3, a4⟩ := h d o Pc Pm hL
  have hFU := FU_big
  obtain ⟨o', Pc', Pm', r1, r2, r3, r4⟩ := loop_ok hγ (χ := fun k => k = 17) (op := fun _ => 3007) (σ := true) (LC := fun f i P => l_Lr_readBoth_7 rC f e (nI i) P) (LMm := fun f P => l_Mo_readBoth_5 rM f e P)
    (fun k hk => by rw [hk]; exact ⟨by unfold kok; omega, by omega⟩) (fun k => Classical.em (k = 17)) (fun k _ ts => rfl) h
    (fun f i P k hi hk ht => by
      rw [l_Lr_readBoth_7, if_neg (by simp (disch := omega) only [z_add, z_mul, z_sub, z_subm, z_addm, z_lt_t, z_lt_f, z_le_t, z_le_f, z_eq_t, z_eq_f, z_eqm, z_meq, z_mm, z_ltm, z_mlt, z_lem, z_mle, z_cl, z_ck, u1_1, u1_2, u2_1, u2_2, ↓reduceIte, Option.bind_some, Option.bind_none, bd2_some, lb_eq, and_true, and_false, true_and, false_and, not_true_eq_false, not_false_eq_true, eq_self_iff_true, if_true, if_false, Nat.reduceEqDiff, Nat.reduceAdd, Nat.reduceMul, Nat.reduceSub, Bool.false_eq_true, zl0, zl1, zl2, zl3, zl4, zl5, zl6, zl7, zl8, zl9, zl10, zl11, zl12, zl13, zl14, zl15, zl16, zl17, zl18, zl19, zl20, zl22, zl23, zl24, zl25, zl30, zl31, zl32, zl33, zl34, zl35, zl36, zl37, zl38, zl39, zl40, zl41, zl42, zl43, zl45, zl48, zl49, zl57, zl58, zl59, zl60, zl61, zl62, zl63, zl64, zl91, zl93, zl97, zl98, zl99, zl100, zl113, zl114, zl115, zl116, zl117, zl122, zl124, zl125, zl127, zl128, zl136, zl200, zl201, zl202, zl203, zl204, zl205, zl206, zl207, zl208, zl209, zl210, zl211, zl212, zl213, zl214, zl215, zl216, zl217, zl218, zl219, zl220, zl235, zl236, zl255, zl280, zl287, zl900, zl999, zl1000, zl1001, zl1136, zl1960, zl3000, zl3001, zl3002, zl3003, zl3004, zl3005, zl3006, zl3007, zl3008, zl3009, zl268435456, zl1000000000]), if_pos (by rw [ht, hk]; rfl), z_one]; rfl)
    (fun f i P hx hi => by
      rw [l_Lr_readBoth_7]
      by_cases c : 900 ≤ i
      · rw [if_pos (by simp (disch := omega) only [z_add, z_mul, z_sub, z_subm, z_addm, z_lt_t, z_lt_f, z_le_t, z_le_f, z_eq_t, z_eq_f, z_eqm, z_meq, z_mm, z_ltm, z_mlt, z_lem, z_mle, z_cl, z_ck, u1_1, u1_2, u2_1, u2_2, ↓reduceIte, Option.bind_some, Option.bind_none, bd2_some, lb_eq, and_true, and_false, true_and, false_and, not_true_eq_false, not_false_eq_true, eq_self_iff_true, if_true, if_false, Nat.reduceEqDiff, Nat.reduceAdd, Nat.reduceMul, Nat.reduceSub, Bool.false_eq_true, zl0, zl1, zl2, zl3, zl4, zl5, zl6, zl7, zl8, zl9, zl10, zl11, zl12, zl13, zl14, zl15, zl16, zl17, zl18, zl19, zl20, zl22, zl23, zl24, zl25, zl30, zl31, zl32, zl33, zl34, zl35, zl36, zl37, zl38, zl39, zl40, zl41, zl42, zl43, zl45, zl48, zl49, zl57, zl58, zl59, zl60, zl61, zl62, zl63, zl64, zl91, zl93, zl97, zl98, zl99, zl100, zl113, zl114, zl115, zl116, zl117, zl122, zl124, zl125, zl127, zl128, zl136, zl200, zl201, zl202, zl203, zl204, zl205, zl206, zl207, zl208, zl209, zl210, zl211, zl212, zl213, zl214, zl215, zl216, zl217, zl218, zl219, zl220, zl235, zl236, zl255, zl280, zl287, zl900, zl999, zl1000, zl1001, zl1136, zl1960, zl3000, zl3001, zl3002, zl3003, zl3004, zl3005, zl3006, zl3007, zl3008, zl3009, zl268435456, zl1000000000])]
      · rw [if_neg (by simp (disch := omega) only [z_add, z_mul, z_sub, z_subm, z_addm, z_lt_t, z_lt_f, z_le_t, z_le_f, z_eq_t, z_eq_f, z_eqm, z_meq, z_mm, z_ltm, z_mlt, z_lem, z_mle, z_cl, z_ck, u1_1, u1_2, u2_1, u2_2, ↓reduceIte, Option.bind_some, Option.bind_none, bd2_some, lb_eq, and_true, and_false, true_and, false_and, not_true_eq_false, not_false_eq_true, eq_self_iff_true, if_true, if_false, Nat.reduceEqDiff, Nat.reduceAdd, Nat.reduceMul, Nat.reduceSub, Bool.false_eq_true, zl0, zl1, zl2, zl3, zl4, zl5, zl6, zl7, zl8, zl9, zl10, zl11, zl12, zl13, zl14, zl15, zl16, zl17, zl18, zl19, zl20, zl22, zl23, zl24, zl25, zl30, zl31, zl32, zl33, zl34, zl35, zl36, zl37, zl38, zl39, zl40, zl41, zl42, zl43, zl45, zl48, zl49, zl57, zl58, zl59, zl60, zl61, zl62, zl63, zl64, zl91, zl93, zl97, zl98, zl99, zl100, zl113, zl114, zl115, zl116, zl117, zl122, zl124, zl125, zl127, zl128, zl136, zl200, zl201, zl202, zl203, zl204, zl205, zl206, zl207, zl208, zl209, zl210, zl211, zl212, zl213, zl214, zl215, zl216, zl217, zl218, zl219, zl220, zl235, zl236, zl255, zl280, zl287, zl900, zl999, zl1000, zl1001, zl1136, zl1960, zl3000, zl3001, zl3002, zl3003, zl3004, zl3005, zl3006, zl3007, zl3008, zl3009, zl268435456, zl1000000000]), if_neg]
        rcases hx with hx | hx
        · omega
        · exact hx 17 rfl)
    (fun f P k hk h1 h2 _ => by
      rw [hk] at h1
      rw [l_Mo_readBoth_5, show (17 : Int32) = nI 17 from rfl, eats_1 h1]
      cases f_Mo_next P <;> rfl)
    (fun f P hx => by
      rw [l_Mo_readBoth_5, show (17 : Int32) = nI 17 from rfl, eats_0 (hx 17 rfl)]; rfl)
    900 0 FU FU d o1 o Pc1 Pm1 rfl (by omega) (by omega) a3 (ro_up a4 (by omega)) (fun es _ => Nat.zero_le _)
  refine ⟨o', Pc', Pm', ?_, ?_, r3, r4⟩
  · unfold f_Lr_readBoth
    rw [a1, Option.bind_some]; exact r1
  · unfold f_Mo_readBoth
    rw [a2, Option.bind_some]; exact r2
theorem truth_ok {γ : GT} (hγ : GOk γ) {rC rM : Nat → Int32 → PM → Option PM} {e : Int32} {m : Nat} (h : Rd γ (rC 1 e) (rM 5 e) true m) : Rd γ (f_Lr_readTruth rC e) (f_Mo_readTruth rM e) true (m + 1) := by
  intro d o Pc Pm hL
  obtain ⟨o1, Pc1, Pm1, a1, a2, a3, a4⟩ := h d o Pc Pm hL
  have hFU := FU_big
  obtain ⟨o', Pc', Pm', r1, r2, r3, r4⟩ := loop_ok hγ (χ := fun k => k = 18) (op := fun _ => 3008) (σ := true) (LC := fun f i P => l_Lr_readTruth_7 rC f e (nI i) P) (LMm := fun f P => l_Mo_readTruth_5 rM f e P)
    (fun k hk => by rw [hk]; exact ⟨by unfold kok; omega, by omega⟩) (fun k => Classical.em (k = 18)) (fun k _ ts => rfl) h
    (fun f i P k hi hk ht => by
      rw [l_Lr_readTruth_7, if_neg (by simp (disch := omega) only [z_add, z_mul, z_sub, z_subm, z_addm, z_lt_t, z_lt_f, z_le_t, z_le_f, z_eq_t, z_eq_f, z_eqm, z_meq, z_mm, z_ltm, z_mlt, z_lem, z_mle, z_cl, z_ck, u1_1, u1_2, u2_1, u2_2, ↓reduceIte, Option.bind_some, Option.bind_none, bd2_some, lb_eq, and_true, and_false, true_and, false_and, not_true_eq_false, not_false_eq_true, eq_self_iff_true, if_true, if_false, Nat.reduceEqDiff, Nat.reduceAdd, Nat.reduceMul, Nat.reduceSub, Bool.false_eq_true, zl0, zl1, zl2, zl3, zl4, zl5, zl6, zl7, zl8, zl9, zl10, zl11, zl12, zl13, zl14, zl15, zl16, zl17, zl18, zl19, zl20, zl22, zl23, zl24, zl25, zl30, zl31, zl32, zl33, zl34, zl35, zl36, zl37, zl38, zl39, zl40, zl41, zl42, zl43, zl45, zl48, zl49, zl57, zl58, zl59, zl60, zl61, zl62, zl63, zl64, zl91, zl93, zl97, zl98, zl99, zl100, zl113, zl114, zl115, zl116, zl117, zl122, zl124, zl125, zl127, zl128, zl136, zl200, zl201, zl202, zl203, zl204, zl205, zl206, zl207, zl208, zl209, zl210, zl211, zl212, zl213, zl214, zl215, zl216, zl217, zl218, zl219, zl220, zl235, zl236, zl255, zl280, zl287, zl900, zl999, zl1000, zl1001, zl1136, zl1960, zl3000, zl3001, zl3002, zl3003, zl3004, zl3005, zl3006, zl3007, zl3008, zl3009, zl268435456, zl1000000000]), if_pos (by rw [ht, hk]; rfl), z_one]; rfl)
    (fun f i P hx hi => by
      rw [l_Lr_readTruth_7]
      by_cases c : 900 ≤ i
      · rw [if_pos (by simp (disch := omega) only [z_add, z_mul, z_sub, z_subm, z_addm, z_lt_t, z_lt_f, z_le_t, z_le_f, z_eq_t, z_eq_f, z_eqm, z_meq, z_mm, z_ltm, z_mlt, z_lem, z_mle, z_cl, z_ck, u1_1, u1_2, u2_1, u2_2, ↓reduceIte, Option.bind_some, Option.bind_none, bd2_some, lb_eq, and_true, and_false, true_and, false_and, not_true_eq_false, not_false_eq_true, eq_self_iff_true, if_true, if_false, Nat.reduceEqDiff, Nat.reduceAdd, Nat.reduceMul, Nat.reduceSub, Bool.false_eq_true, zl0, zl1, zl2, zl3, zl4, zl5, zl6, zl7, zl8, zl9, zl10, zl11, zl12, zl13, zl14, zl15, zl16, zl17, zl18, zl19, zl20, zl22, zl23, zl24, zl25, zl30, zl31, zl32, zl33, zl34, zl35, zl36, zl37, zl38, zl39, zl40, zl41, zl42, zl43, zl45, zl48, zl49, zl57, zl58, zl59, zl60, zl61, zl62, zl63, zl64, zl91, zl93, zl97, zl98, zl99, zl100, zl113, zl114, zl115, zl116, zl117, zl122, zl124, zl125, zl127, zl128, zl136, zl200, zl201, zl202, zl203, zl204, zl205, zl206, zl207, zl208, zl209, zl210, zl211, zl212, zl213, zl214, zl215, zl216, zl217, zl218, zl219, zl220, zl235, zl236, zl255, zl280, zl287, zl900, zl999, zl1000, zl1001, zl1136, zl1960, zl3000, zl3001, zl3002, zl3003, zl3004, zl3005, zl3006, zl3007, zl3008, zl3009, zl268435456, zl1000000000])]
      · rw [if_neg (by simp (disch := omega) only [z_add, z_mul, z_sub, z_subm, z_addm, z_lt_t, z_lt_f, z_le_t, z_le_f, z_eq_t, z_eq_f, z_eqm, z_meq, z_mm, z_ltm, z_mlt, z_lem, z_mle, z_cl, z_ck, u1_1, u1_2, u2_1, u2_2, ↓reduceIte, Option.bind_some, Option.bind_none, bd2_some, lb_eq, and_true, and_false, true_and, false_and, not_true_eq_false, not_false_eq_true, eq_self_iff_true, if_true, if_false, Nat.reduceEqDiff, Nat.reduceAdd, Nat.reduceMul, Nat.reduceSub, Bool.false_eq_true, zl0, zl1, zl2, zl3, zl4, zl5, zl6, zl7, zl8, zl9, zl10, zl11, zl12, zl13, zl14, zl15, zl16, zl17, zl18, zl19, zl20, zl22, zl23, zl24, zl25, zl30, zl31, zl32, zl33, zl34, zl35, zl36, zl37, zl38, zl39, zl40, zl41, zl42, zl43, zl45, zl48, zl49, zl57, zl58, zl59, zl60, zl61, zl62, zl63, zl64, zl91, zl93, zl97, zl98, zl99, zl100, zl113, zl114, zl115, zl116, zl117, zl122, zl124, zl125, zl127, zl128, zl136, zl200, zl201, zl202, zl203, zl204, zl205, zl206, zl207, zl208, zl209, zl210, zl211, zl212, zl213, zl214, zl215, zl216, zl217, zl218, zl219, zl220, zl235, zl236, zl255, zl280, zl287, zl900, zl999, zl1000, zl1001, zl1136, zl1960, zl3000, zl3001, zl3002, zl3003, zl3004, zl3005, zl3006, zl3007, zl3008, zl3009, zl268435456, zl1000000000]), if_neg]
        rcases hx with hx | hx
        · omega
        · exact hx 18 rfl)
    (fun f P k hk h1 h2 _ => by
      rw [hk] at h1
      rw [l_Mo_readTruth_5, show (18 : Int32) = nI 18 from rfl, eats_1 h1]
      cases f_Mo_next P <;> rfl)
    (fun f P hx => by
      rw [l_Mo_readTruth_5, show (18 : Int32) = nI 18 from rfl, eats_0 (hx 18 rfl)]; rfl)
    900 0 FU FU d o1 o Pc1 Pm1 rfl (by omega) (by omega) a3 (ro_up a4 (by omega)) (fun es _ => Nat.zero_le _)
  refine ⟨o', Pc', Pm', ?_, ?_, r3, r4⟩
  · unfold f_Lr_readTruth
    rw [a1, Option.bind_some]; exact r1
  · unfold f_Mo_readTruth
    rw [a2, Option.bind_some]; exact r2
