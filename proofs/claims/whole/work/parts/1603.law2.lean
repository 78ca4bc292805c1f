theorem rec_loop (q fr : Nat) (a : Nat → Int32) (hq : q < 2) : ∀ (es : List Nat) (n i : Nat) (k : List Int32) (ts : List Bool) (t' : Bool) (P : PM),
    es.length < n → fr + (i + es.length) ≤ 900 → (∀ j, j < es.length → P.1 110 (236 + fr + (i + j)) = nI (es.getD j 0)) → P.1 110 (6 + q) = nI (i + es.length) → P.1 110 (4 + q) = nI fr → (∀ j, j < 6 → P.1 115 j = a j) →
    sk (P.1 114) k → tv k ts → cts es ts = some [t'] → ts.length ≤ 64 →
    ∃ P', l_Mo_reckons_73 n (nI q) (nI k.length) (nI i) P = some ((evs a es k).headD 0, P') ∧ sm (fun o => o == 114) P P' := by
  intro es
  induction es with
  | nil =>
    intro n i k ts t' P hn hi hc hm hf ha hk ht hts hkl
    obtain ⟨n, rfl⟩ : ∃ m, n = m + 1 := ⟨n - 1, by simp only [List.length_nil] at hn; omega⟩
    have hts2 : ts = [t'] := by simpa [cts] using hts
    subst hts2
    obtain ⟨x, k, rfl, hx, ht⟩ := tv_c ht
    have hl := tv_len ht
    have hk0 : k = [] := List.length_eq_zero_iff.mp hl
    subst hk0
    simp only [List.length_nil, Nat.add_zero] at *
    refine ⟨P, ?_, sm_refl⟩
    simp (disch := omega) only [z_add, z_mul, z_sub, z_subm, z_addm, z_lt_t, z_lt_f, z_le_t, z_le_f, z_eq_t, z_eq_f, z_eqm, z_meq, z_mm, z_ltm, z_mlt, z_lem, z_mle, z_cl, z_ck, u1_1, u1_2, u2_1, u2_2, ↓reduceIte, Option.bind_some, Option.bind_none, bd2_some, lb_eq, and_true, and_false, true_and, false_and, not_true_eq_false, not_false_eq_true, eq_self_iff_true, if_true, if_false, Nat.reduceEqDiff, Nat.reduceAdd, Nat.reduceMul, Nat.reduceSub, Bool.false_eq_true, zl0, zl1, zl2, zl3, zl4, zl5, zl6, zl7, zl8, zl9, zl10, zl11, zl12, zl13, zl14, zl15, zl16, zl17, zl18, zl19, zl20, zl22, zl23, zl24, zl25, zl30, zl31, zl32, zl33, zl34, zl35, zl36, zl37, zl38, zl39, zl40, zl41, zl42, zl43, zl45, zl48, zl49, zl57, zl58, zl59, zl60, zl61, zl62, zl63, zl64, zl91, zl93, zl97, zl98, zl99, zl100, zl113, zl114, zl115, zl116, zl117, zl122, zl124, zl125, zl127, zl128, zl136, zl200, zl201, zl202, zl203, zl204, zl205, zl206, zl207, zl208, zl209, zl210, zl211, zl212, zl213, zl214, zl215, zl216, zl217, zl218, zl219, zl220, zl235, zl236, zl255, zl280, zl287, zl900, zl999, zl1000, zl1001, zl1136, zl1960, zl3000, zl3001, zl3002, zl3003, zl3004, zl3005, zl3006, zl3007, zl3008, zl3009, zl268435456, zl1000000000, l_Mo_reckons_73, hm]
    have := hk.1
    simp only [List.length_nil] at this
    rw [this]
    rfl
  | cons e es ih =>
    intro n i k ts t' P hn hi hc hm hf ha hk ht hts hkl
    obtain ⟨n, rfl⟩ : ∃ m, n = m + 1 := ⟨n - 1, by omega⟩
    simp only [List.length_cons] at hn hi hc hm
    have hc0 : P.1 110 (236 + fr + i) = nI e := by simpa using hc 0 (by omega)
    obtain ⟨t1, hc1, hts⟩ : ∃ t1, ct e ts = some t1 ∧ cts es t1 = some [t'] := by
      rw [cts] at hts
      exact Option.bind_eq_some_iff.mp hts
    have htv := tv_stp (a := a) ht hc1
    have hlen := tv_len ht
    have key : ∀ (m : Nat) (v : Int32) (L : Nat), L = (stp a e k).length → sk (fun j => if j = m then v else P.1 114 j) (stp a e k) → ∃ P', l_Mo_reckons_73 n (nI q) (nI L) (nI (i + 1)) (u1 P 114 m v) = some ((evs a es (stp a e k)).headD 0, P') ∧ sm (fun o => o == 114) P P' := by
      intro m v L hL hs
      obtain ⟨P', h1, h2⟩ := ih n (i + 1) (stp a e k) t1 t' (u1 P 114 m v) (by omega) (by omega) (fun j hj => by
        have := hc (j + 1) (by omega)
        rw [List.getD_cons_succ] at this
        rw [u1_1, if_neg (by omega), show i + 1 + j = i + (j + 1) by omega]
        exact this) (by
        rw [u1_1, if_neg (by omega), hm]
        congr 1
        omega) (by
        rw [u1_1, if_neg (by omega), hf]) (fun j hj => by
        rw [u1_1, if_neg (by omega)]
        exact ha j hj) (sk_ext hs (fun j _ => by simp (disch := omega) only [z_add, z_mul, z_sub, z_subm, z_addm, z_lt_t, z_lt_f, z_le_t, z_le_f, z_eq_t, z_eq_f, z_eqm, z_meq, z_mm, z_ltm, z_mlt, z_lem, z_mle, z_cl, z_ck, u1_1, u1_2, u2_1, u2_2, ↓reduceIte, Option.bind_some, Option.bind_none, bd2_some, lb_eq, and_true, and_false, true_and, false_and, not_true_eq_false, not_false_eq_true, eq_self_iff_true, if_true, if_false, Nat.reduceEqDiff, Nat.reduceAdd, Nat.reduceMul, Nat.reduceSub, Bool.false_eq_true, zl0, zl1, zl2, zl3, zl4, zl5, zl6, zl7, zl8, zl9, zl10, zl11, zl12, zl13, zl14, zl15, zl16, zl17, zl18, zl19, zl20, zl22, zl23, zl24, zl25, zl30, zl31, zl32, zl33, zl34, zl35, zl36, zl37, zl38, zl39, zl40, zl41, zl42, zl43, zl45, zl48, zl49, zl57, zl58, zl59, zl60, zl61, zl62, zl63, zl64, zl91, zl93, zl97, zl98, zl99, zl100, zl113, zl114, zl115, zl116, zl117, zl122, zl124, zl125, zl127, zl128, zl136, zl200, zl201, zl202, zl203, zl204, zl205, zl206, zl207, zl208, zl209, zl210, zl211, zl212, zl213, zl214, zl215, zl216, zl217, zl218, zl219, zl220, zl235, zl236, zl255, zl280, zl287, zl900, zl999, zl1000, zl1001, zl1136, zl1960, zl3000, zl3001, zl3002, zl3003, zl3004, zl3005, zl3006, zl3007, zl3008, zl3009, zl268435456, zl1000000000])) htv hts (ct_len hc1 hkl)
      exact ⟨P', by rw [hL]; exact h1, sm_trans sm_one h2⟩
    rw [show evs a (e :: es) k = evs a es (stp a e k) from rfl]
    rcases ct_inv hc1 with ⟨h1, h2, rfl⟩ | ⟨h1, r, rfl, rfl⟩ | ⟨h1, r, rfl, rfl⟩ | ⟨h1, r, rfl, rfl⟩ | ⟨h1, r, rfl, rfl⟩ | ⟨h1, r, rfl, rfl⟩
    · by_cases h3 : e < 1000
      · have hst : stp a e k = nI e :: k := if_pos h3
        simp (disch := omega) only [z_add, z_mul, z_sub, z_subm, z_addm, z_lt_t, z_lt_f, z_le_t, z_le_f, z_eq_t, z_eq_f, z_eqm, z_meq, z_mm, z_ltm, z_mlt, z_lem, z_mle, z_cl, z_ck, u1_1, u1_2, u2_1, u2_2, ↓reduceIte, Option.bind_some, Option.bind_none, bd2_some, lb_eq, and_true, and_false, true_and, false_and, not_true_eq_false, not_false_eq_true, eq_self_iff_true, if_true, if_false, Nat.reduceEqDiff, Nat.reduceAdd, Nat.reduceMul, Nat.reduceSub, Bool.false_eq_true, zl0, zl1, zl2, zl3, zl4, zl5, zl6, zl7, zl8, zl9, zl10, zl11, zl12, zl13, zl14, zl15, zl16, zl17, zl18, zl19, zl20, zl22, zl23, zl24, zl25, zl30, zl31, zl32, zl33, zl34, zl35, zl36, zl37, zl38, zl39, zl40, zl41, zl42, zl43, zl45, zl48, zl49, zl57, zl58, zl59, zl60, zl61, zl62, zl63, zl64, zl91, zl93, zl97, zl98, zl99, zl100, zl113, zl114, zl115, zl116, zl117, zl122, zl124, zl125, zl127, zl128, zl136, zl200, zl201, zl202, zl203, zl204, zl205, zl206, zl207, zl208, zl209, zl210, zl211, zl212, zl213, zl214, zl215, zl216, zl217, zl218, zl219, zl220, zl235, zl236, zl255, zl280, zl287, zl900, zl999, zl1000, zl1001, zl1136, zl1960, zl3000, zl3001, zl3002, zl3003, zl3004, zl3005, zl3006, zl3007, zl3008, zl3009, zl268435456, zl1000000000, l_Mo_reckons_73, hm, hf, hc0, j_Mo_reckons_147, j_Mo_reckons_273, Nat.add_sub_cancel]
        refine key _ _ _ (by rw [hst]; rfl) ?_
        rw [hst]
        exact ⟨by simp, sk_up hk (Nat.le_refl _)⟩
      · have hst : stp a e k = a (e - 1000) :: k := by unfold stp; rw [if_neg h3, if_pos h1]
        simp (disch := omega) only [z_add, z_mul, z_sub, z_subm, z_addm, z_lt_t, z_lt_f, z_le_t, z_le_f, z_eq_t, z_eq_f, z_eqm, z_meq, z_mm, z_ltm, z_mlt, z_lem, z_mle, z_cl, z_ck, u1_1, u1_2, u2_1, u2_2, ↓reduceIte, Option.bind_some, Option.bind_none, bd2_some, lb_eq, and_true, and_false, true_and, false_and, not_true_eq_false, not_false_eq_true, eq_self_iff_true, if_true, if_false, Nat.reduceEqDiff, Nat.reduceAdd, Nat.reduceMul, Nat.reduceSub, Bool.false_eq_true, zl0, zl1, zl2, zl3, zl4, zl5, zl6, zl7, zl8, zl9, zl10, zl11, zl12, zl13, zl14, zl15, zl16, zl17, zl18, zl19, zl20, zl22, zl23, zl24, zl25, zl30, zl31, zl32, zl33, zl34, zl35, zl36, zl37, zl38, zl39, zl40, zl41, zl42, zl43, zl45, zl48, zl49, zl57, zl58, zl59, zl60, zl61, zl62, zl63, zl64, zl91, zl93, zl97, zl98, zl99, zl100, zl113, zl114, zl115, zl116, zl117, zl122, zl124, zl125, zl127, zl128, zl136, zl200, zl201, zl202, zl203, zl204, zl205, zl206, zl207, zl208, zl209, zl210, zl211, zl212, zl213, zl214, zl215, zl216, zl217, zl218, zl219, zl220, zl235, zl236, zl255, zl280, zl287, zl900, zl999, zl1000, zl1001, zl1136, zl1960, zl3000, zl3001, zl3002, zl3003, zl3004, zl3005, zl3006, zl3007, zl3008, zl3009, zl268435456, zl1000000000, l_Mo_reckons_73, hm, hf, hc0, j_Mo_reckons_147, j_Mo_reckons_273, Nat.add_sub_cancel]
        refine key _ _ _ (by rw [hst]; rfl) ?_
        rw [hst]
        refine ⟨?_, sk_up hk (Nat.le_refl _)⟩
        simp only [↓reduceIte]
        exact ha _ (by omega)
    · obtain ⟨y, k, rfl, hy, ht⟩ := tv_c ht
      obtain ⟨x, k, rfl, hx, ht⟩ := tv_c ht
      simp only [List.length_cons] at *
      have hst : stp a e (y :: x :: k) = jn e x y :: k := by rcases h1 with rfl | rfl | rfl <;> rfl
      have ho : e = 3000 ∨ e = 3001 ∨ e = 3002 := by rcases h1 with rfl | rfl | rfl <;> decide
      rw [hst] at key
      simp (disch := omega) only [z_add, z_mul, z_sub, z_subm, z_addm, z_lt_t, z_lt_f, z_le_t, z_le_f, z_eq_t, z_eq_f, z_eqm, z_meq, z_mm, z_ltm, z_mlt, z_lem, z_mle, z_cl, z_ck, u1_1, u1_2, u2_1, u2_2, ↓reduceIte, Option.bind_some, Option.bind_none, bd2_some, lb_eq, and_true, and_false, true_and, false_and, not_true_eq_false, not_false_eq_true, eq_self_iff_true, if_true, if_false, Nat.reduceEqDiff, Nat.reduceAdd, Nat.reduceMul, Nat.reduceSub, Bool.false_eq_true, zl0, zl1, zl2, zl3, zl4, zl5, zl6, zl7, zl8, zl9, zl10, zl11, zl12, zl13, zl14, zl15, zl16, zl17, zl18, zl19, zl20, zl22, zl23, zl24, zl25, zl30, zl31, zl32, zl33, zl34, zl35, zl36, zl37, zl38, zl39, zl40, zl41, zl42, zl43, zl45, zl48, zl49, zl57, zl58, zl59, zl60, zl61, zl62, zl63, zl64, zl91, zl93, zl97, zl98, zl99, zl100, zl113, zl114, zl115, zl116, zl117, zl122, zl124, zl125, zl127, zl128, zl136, zl200, zl201, zl202, zl203, zl204, zl205, zl206, zl207, zl208, zl209, zl210, zl211, zl212, zl213, zl214, zl215, zl216, zl217, zl218, zl219, zl220, zl235, zl236, zl255, zl280, zl287, zl900, zl999, zl1000, zl1001, zl1136, zl1960, zl3000, zl3001, zl3002, zl3003, zl3004, zl3005, zl3006, zl3007, zl3008, zl3009, zl268435456, zl1000000000, l_Mo_reckons_73, hm, hf, hc0, j_Mo_reckons_273, Nat.add_sub_cancel]
      rw [hst]
      have e1 := hk.1
      have e2 := hk.2.1
      simp only [List.length_cons] at e1
      rw [e1, e2, show f_Mo_between (nI e) x y P = jn e x y from rfl]
      exact key _ _ _ (by simp) ⟨by simp, sk_up hk.2.2 (Nat.le_refl _)⟩
    · obtain ⟨y, k, rfl, hy, ht⟩ := tv_c ht
      obtain ⟨x, k, rfl, hx, ht⟩ := tv_c ht
      simp only [List.length_cons] at *
      have hst : stp a e (y :: x :: k) = jn e x y :: k := by rcases h1 with rfl | rfl | rfl <;> rfl
      have ho : e = 3003 ∨ e = 3004 ∨ e = 3005 := by rcases h1 with rfl | rfl | rfl <;> decide
      rw [hst] at key
      simp (disch := omega) only [z_add, z_mul, z_sub, z_subm, z_addm, z_lt_t, z_lt_f, z_le_t, z_le_f, z_eq_t, z_eq_f, z_eqm, z_meq, z_mm, z_ltm, z_mlt, z_lem, z_mle, z_cl, z_ck, u1_1, u1_2, u2_1, u2_2, ↓reduceIte, Option.bind_some, Option.bind_none, bd2_some, lb_eq, and_true, and_false, true_and, false_and, not_true_eq_false, not_false_eq_true, eq_self_iff_true, if_true, if_false, Nat.reduceEqDiff, Nat.reduceAdd, Nat.reduceMul, Nat.reduceSub, Bool.false_eq_true, zl0, zl1, zl2, zl3, zl4, zl5, zl6, zl7, zl8, zl9, zl10, zl11, zl12, zl13, zl14, zl15, zl16, zl17, zl18, zl19, zl20, zl22, zl23, zl24, zl25, zl30, zl31, zl32, zl33, zl34, zl35, zl36, zl37, zl38, zl39, zl40, zl41, zl42, zl43, zl45, zl48, zl49, zl57, zl58, zl59, zl60, zl61, zl62, zl63, zl64, zl91, zl93, zl97, zl98, zl99, zl100, zl113, zl114, zl115, zl116, zl117, zl122, zl124, zl125, zl127, zl128, zl136, zl200, zl201, zl202, zl203, zl204, zl205, zl206, zl207, zl208, zl209, zl210, zl211, zl212, zl213, zl214, zl215, zl216, zl217, zl218, zl219, zl220, zl235, zl236, zl255, zl280, zl287, zl900, zl999, zl1000, zl1001, zl1136, zl1960, zl3000, zl3001, zl3002, zl3003, zl3004, zl3005, zl3006, zl3007, zl3008, zl3009, zl268435456, zl1000000000, l_Mo_reckons_73, hm, hf, hc0, j_Mo_reckons_273, Nat.add_sub_cancel]
      rw [hst]
      have e1 := hk.1
      have e2 := hk.2.1
      simp only [List.length_cons] at e1
      rw [e1, e2, show f_Mo_between (nI e) x y P = jn e x y from rfl]
      exact key _ _ _ (by simp) ⟨by simp, sk_up hk.2.2 (Nat.le_refl _)⟩
    · subst h1
      obtain ⟨x, k, rfl, hx, ht⟩ := tv_c ht
      simp only [List.length_cons] at *
      have hst : stp a 3006 (x :: k) = (nI 1 - x) :: k := rfl
      rw [hst] at key
      simp (disch := omega) only [z_add, z_mul, z_sub, z_subm, z_addm, z_lt_t, z_lt_f, z_le_t, z_le_f, z_eq_t, z_eq_f, z_eqm, z_meq, z_mm, z_ltm, z_mlt, z_lem, z_mle, z_cl, z_ck, u1_1, u1_2, u2_1, u2_2, ↓reduceIte, Option.bind_some, Option.bind_none, bd2_some, lb_eq, and_true, and_false, true_and, false_and, not_true_eq_false, not_false_eq_true, eq_self_iff_true, if_true, if_false, Nat.reduceEqDiff, Nat.reduceAdd, Nat.reduceMul, Nat.reduceSub, Bool.false_eq_true, zl0, zl1, zl2, zl3, zl4, zl5, zl6, zl7, zl8, zl9, zl10, zl11, zl12, zl13, zl14, zl15, zl16, zl17, zl18, zl19, zl20, zl22, zl23, zl24, zl25, zl30, zl31, zl32, zl33, zl34, zl35, zl36, zl37, zl38, zl39, zl40, zl41, zl42, zl43, zl45, zl48, zl49, zl57, zl58, zl59, zl60, zl61, zl62, zl63, zl64, zl91, zl93, zl97, zl98, zl99, zl100, zl113, zl114, zl115, zl116, zl117, zl122, zl124, zl125, zl127, zl128, zl136, zl200, zl201, zl202, zl203, zl204, zl205, zl206, zl207, zl208, zl209, zl210, zl211, zl212, zl213, zl214, zl215, zl216, zl217, zl218, zl219, zl220, zl235, zl236, zl255, zl280, zl287, zl900, zl999, zl1000, zl1001, zl1136, zl1960, zl3000, zl3001, zl3002, zl3003, zl3004, zl3005, zl3006, zl3007, zl3008, zl3009, zl268435456, zl1000000000, l_Mo_reckons_73, hm, hf, hc0, j_Mo_reckons_273, Nat.add_sub_cancel]
      rw [hst, hk.1]
      exact key _ _ _ (by simp) ⟨by simp, sk_up hk.2 (Nat.le_refl _)⟩
    · obtain ⟨y, k, rfl, hy, ht⟩ := tv_c ht
      obtain ⟨x, k, rfl, hx, ht⟩ := tv_c ht
      simp only [List.length_cons] at *
      have hst : stp a e (y :: x :: k) = jn e x y :: k := by rcases h1 with rfl | rfl <;> rfl
      have ho : e = 3007 ∨ e = 3008 := by rcases h1 with rfl | rfl <;> decide
      rw [hst] at key
      simp (disch := omega) only [z_add, z_mul, z_sub, z_subm, z_addm, z_lt_t, z_lt_f, z_le_t, z_le_f, z_eq_t, z_eq_f, z_eqm, z_meq, z_mm, z_ltm, z_mlt, z_lem, z_mle, z_cl, z_ck, u1_1, u1_2, u2_1, u2_2, ↓reduceIte, Option.bind_some, Option.bind_none, bd2_some, lb_eq, and_true, and_false, true_and, false_and, not_true_eq_false, not_false_eq_true, eq_self_iff_true, if_true, if_false, Nat.reduceEqDiff, Nat.reduceAdd, Nat.reduceMul, Nat.reduceSub, Bool.false_eq_true, zl0, zl1, zl2, zl3, zl4, zl5, zl6, zl7, zl8, zl9, zl10, zl11, zl12, zl13, zl14, zl15, zl16, zl17, zl18, zl19, zl20, zl22, zl23, zl24, zl25, zl30, zl31, zl32, zl33, zl34, zl35, zl36, zl37, zl38, zl39, zl40, zl41, zl42, zl43, zl45, zl48, zl49, zl57, zl58, zl59, zl60, zl61, zl62, zl63, zl64, zl91, zl93, zl97, zl98, zl99, zl100, zl113, zl114, zl115, zl116, zl117, zl122, zl124, zl125, zl127, zl128, zl136, zl200, zl201, zl202, zl203, zl204, zl205, zl206, zl207, zl208, zl209, zl210, zl211, zl212, zl213, zl214, zl215, zl216, zl217, zl218, zl219, zl220, zl235, zl236, zl255, zl280, zl287, zl900, zl999, zl1000, zl1001, zl1136, zl1960, zl3000, zl3001, zl3002, zl3003, zl3004, zl3005, zl3006, zl3007, zl3008, zl3009, zl268435456, zl1000000000, l_Mo_reckons_73, hm, hf, hc0, j_Mo_reckons_273, Nat.add_sub_cancel]
      rw [hst]
      have e1 := hk.1
      have e2 := hk.2.1
      simp only [List.length_cons] at e1
      rw [e1, e2, show f_Mo_between (nI e) x y P = jn e x y from rfl]
      exact key _ _ _ (by simp) ⟨by simp, sk_up hk.2.2 (Nat.le_refl _)⟩
    · subst h1
      obtain ⟨z, k, rfl, hz, ht⟩ := tv_c ht
      obtain ⟨y, k, rfl, hy, ht⟩ := tv_c ht
      obtain ⟨x, k, rfl, hx, ht⟩ := tv_c ht
      simp only [List.length_cons] at *
      have hst : stp a 3009 (z :: y :: x :: k) = (if x = nI 0 then z else y) :: k := rfl
      rw [hst] at key
      have e1 := hk.1
      have e2 := hk.2.1
      have e3 := hk.2.2.1
      simp only [List.length_cons] at e1 e2
      rcases hx trivial with rfl | rfl
      · simp (disch := omega) only [z_add, z_mul, z_sub, z_subm, z_addm, z_lt_t, z_lt_f, z_le_t, z_le_f, z_eq_t, z_eq_f, z_eqm, z_meq, z_mm, z_ltm, z_mlt, z_lem, z_mle, z_cl, z_ck, u1_1, u1_2, u2_1, u2_2, ↓reduceIte, Option.bind_some, Option.bind_none, bd2_some, lb_eq, and_true, and_false, true_and, false_and, not_true_eq_false, not_false_eq_true, eq_self_iff_true, if_true, if_false, Nat.reduceEqDiff, Nat.reduceAdd, Nat.reduceMul, Nat.reduceSub, Bool.false_eq_true, zl0, zl1, zl2, zl3, zl4, zl5, zl6, zl7, zl8, zl9, zl10, zl11, zl12, zl13, zl14, zl15, zl16, zl17, zl18, zl19, zl20, zl22, zl23, zl24, zl25, zl30, zl31, zl32, zl33, zl34, zl35, zl36, zl37, zl38, zl39, zl40, zl41, zl42, zl43, zl45, zl48, zl49, zl57, zl58, zl59, zl60, zl61, zl62, zl63, zl64, zl91, zl93, zl97, zl98, zl99, zl100, zl113, zl114, zl115, zl116, zl117, zl122, zl124, zl125, zl127, zl128, zl136, zl200, zl201, zl202, zl203, zl204, zl205, zl206, zl207, zl208, zl209, zl210, zl211, zl212, zl213, zl214, zl215, zl216, zl217, zl218, zl219, zl220, zl235, zl236, zl255, zl280, zl287, zl900, zl999, zl1000, zl1001, zl1136, zl1960, zl3000, zl3001, zl3002, zl3003, zl3004, zl3005, zl3006, zl3007, zl3008, zl3009, zl268435456, zl1000000000, l_Mo_reckons_73, hm, hf, hc0, j_Mo_reckons_236, j_Mo_reckons_273, Nat.add_sub_cancel, e1, e2, e3, show k.length + 1 + 1 + 1 - 2 = k.length + 1 by omega]
        rw [hst]
        refine key _ _ _ (by simp) ?_
        exact ⟨by simp, sk_up hk.2.2.2 (Nat.le_refl _)⟩
      · simp (disch := omega) only [z_add, z_mul, z_sub, z_subm, z_addm, z_lt_t, z_lt_f, z_le_t, z_le_f, z_eq_t, z_eq_f, z_eqm, z_meq, z_mm, z_ltm, z_mlt, z_lem, z_mle, z_cl, z_ck, u1_1, u1_2, u2_1, u2_2, ↓reduceIte, Option.bind_some, Option.bind_none, bd2_some, lb_eq, and_true, and_false, true_and, false_and, not_true_eq_false, not_false_eq_true, eq_self_iff_true, if_true, if_false, Nat.reduceEqDiff, Nat.reduceAdd, Nat.reduceMul, Nat.reduceSub, Bool.false_eq_true, zl0, zl1, zl2, zl3, zl4, zl5, zl6, zl7, zl8, zl9, zl10, zl11, zl12, zl13, zl14, zl15, zl16, zl17, zl18, zl19, zl20, zl22, zl23, zl24, zl25, zl30, zl31, zl32, zl33, zl34, zl35, zl36, zl37, zl38, zl39, zl40, zl41, zl42, zl43, zl45, zl48, zl49, zl57, zl58, zl59, zl60, zl61, zl62, zl63, zl64, zl91, zl93, zl97, zl98, zl99, zl100, zl113, zl114, zl115, zl116, zl117, zl122, zl124, zl125, zl127, zl128, zl136, zl200, zl201, zl202, zl203, zl204, zl205, zl206, zl207, zl208, zl209, zl210, zl211, zl212, zl213, zl214, zl215, zl216, zl217, zl218, zl219, zl220, zl235, zl236, zl255, zl280, zl287, zl900, zl999, zl1000, zl1001, zl1136, zl1960, zl3000, zl3001, zl3002, zl3003, zl3004, zl3005, zl3006, zl3007, zl3008, zl3009, zl268435456, zl1000000000, l_Mo_reckons_73, hm, hf, hc0, j_Mo_reckons_236, j_Mo_reckons_273, Nat.add_sub_cancel, e1, e2, e3, show k.length + 1 + 1 + 1 - 2 = k.length + 1 by omega]
        rw [hst]
        refine key _ _ _ (by simp) ?_
        exact ⟨by simp; intro h; exact absurd h (by decide), sk_up hk.2.2.2 (Nat.le_refl _)⟩
