/-! lists -/
theorem mn_n {a b : Nat} (ha : a < 2147483648) (hb : b < 2147483648) : mn (nI a) (nI b) = nI (min a b) := by
  unfold mn
  by_cases c : a < b
  · rw [Nat.min_eq_left (by omega)]
    first
      | rw [if_pos (nI_lt c hb)]
      | rw [if_neg (nI_nlt (by omega) (by omega))]
      | rw [if_pos (nI_le (by omega) hb)]
  · rw [Nat.min_eq_right (by omega)]
    first
      | rw [if_neg (nI_nlt (by omega) (by omega))]
      | (by_cases e : a = b
         · subst e; split <;> rfl
         · first
           | rw [if_neg (nI_ge (by omega) (by omega))]
           | rw [if_pos (nI_lt (by omega) (by omega))])
theorem cut_7 {q t : Nat} (hq : q ≤ 3) (ht : t < 7) (P : PM) : f_Tr_cut (nI q) (nI t).toInt64 P = (nI t).toInt64 := by
  have h1 : q = 0 ∨ q = 1 ∨ q = 2 ∨ q = 3 := by omega
  have h2 : t = 0 ∨ t = 1 ∨ t = 2 ∨ t = 3 ∨ t = 4 ∨ t = 5 ∨ t = 6 := by omega
  rcases h1 with rfl | rfl | rfl | rfl <;> rcases h2 with rfl | rfl | rfl | rfl | rfl | rfl | rfl <;> rfl
def wL (t : TV) (k n : Nat) (f : Nat → Int64) : TV := fun l => if l = k then ((t k).1, (t k).2.1, fun i => if i < n then f i else (t k).2.2 i) else t l
theorem CX_tr {P P' : PM} {v : NV} {s : SV} {by' p0 : Nat} {L : List Nat} (h : CX P v s by' p0 L) (g : sm trs P P') : CX P' v s by' p0 L :=
  ⟨CNet_sm h.1 g rfl rfl rfl rfl rfl, ⟨FS_ro h.2.1.1 (g.1 58 rfl) (g.1 62 rfl) (g.2 61 rfl), h.2.1.2.1, CC1_ro h.2.1.2.2.1 (g.1 59 rfl) (g.1 60 rfl), fun p hp t ht e => by unfold known; rw [g.1 59 rfl]; exact h.2.1.2.2.2 p hp t ht e⟩, by rw [g.1 21 rfl]; exact h.2.2.1, by rw [g.1 63 rfl]; exact h.2.2.2⟩
theorem lists_C {v : NV} {s : SV} {st z w q k : Nat} {L : List Nat} {K : Nat → Nat} {f : Nat → Int64} {m : Nat} (hv : NVok v) (hs : SVok v s) (hw : sW s = some w) (hk : k < 4) (hq : q ≤ 3)
    (hd : ∀ p, p ∈ L → K p = (dsr v s 1 st z p).getD FR9) (hF : ∀ j, K j ≤ FR9) (hm : m ≤ 40) (hf : ∀ i, i < m → ∃ t, t < 7 ∧ rsr v s 1 st z i (pl s w) = some t ∧ f i = (nI t).toInt64) :
    ∀ (d n i : Nat) (P : PM), i + d = m → d < n → CX P v s 1 (pl s w) L → CSt P 21 s → KC P K → P.1 29 k = nI q →
    ∃ P', l_Yr_lists_88 n (nI k) (nI m) (nI i) P = some (nI m, P') ∧ sm trs P P' ∧ (∀ l j, P'.2 (25 + l) j = if l = k ∧ i ≤ j ∧ j < m then f j else P.2 (25 + l) j) ∧ P'.1 = P.1 := by
  intro d
  induction d with
  | zero =>
    intro n i P hi hn hX hS hK h29
    obtain ⟨n, rfl⟩ : ∃ r, n = r + 1 := ⟨n - 1, by omega⟩
    rw [l_Yr_lists_88, if_pos (nI_le (by omega) (by omega))]
    exact ⟨P, rfl, sm_refl, fun l j => by rw [if_neg (by omega)], rfl⟩
  | succ d ih =>
    intro n i P hi hn hX hS hK h29
    obtain ⟨n, rfl⟩ : ∃ r, n = r + 1 := ⟨n - 1, by omega⟩
    obtain ⟨t, ht, h1, h2⟩ := hf i (by omega)
    have hsm : sm trs P (u2 P (25 + k) i (f i)) := sm_u2 sm_refl (by simp [trs]; omega)
    have e1 : f_Tr_put (nI k) (nI i) (nI t).toInt64 P = some (u2 P (25 + k) i (f i)) := by
      unfold f_Tr_put
      rw [tray_t hk, if_neg (by decide), if_neg (by simp (disch := omega) only [z_add, z_mul, z_sub, z_subm, z_addm, z_lt_t, z_lt_f, z_le_t, z_le_f, z_eq_t, z_eq_f, z_eqm, z_meq, z_mm, z_ltm, z_mlt, z_lem, z_mle, z_cl, z_ck, u1_1, u1_2, u2_1, u2_2, ↓reduceIte, Option.bind_some, Option.bind_none, bd2_some, lb_eq, and_true, and_false, true_and, false_and, not_true_eq_false, not_false_eq_true, eq_self_iff_true, if_true, if_false, Nat.reduceEqDiff, Nat.reduceAdd, Nat.reduceMul, Nat.reduceSub, Bool.false_eq_true, zl0, zl1, zl2, zl3, zl4, zl5, zl6, zl7, zl8, zl9, zl10, zl11, zl12, zl13, zl14, zl15, zl16, zl17, zl18, zl19, zl20, zl22, zl23, zl24, zl25, zl30, zl31, zl32, zl33, zl34, zl35, zl36, zl37, zl38, zl39, zl40, zl41, zl42, zl43, zl45, zl48, zl49, zl57, zl58, zl59, zl60, zl61, zl62, zl63, zl64, zl91, zl93, zl97, zl98, zl99, zl100, zl113, zl114, zl115, zl116, zl117, zl122, zl124, zl125, zl127, zl128, zl136, zl200, zl201, zl202, zl203, zl204, zl205, zl206, zl207, zl208, zl209, zl210, zl211, zl212, zl213, zl214, zl215, zl216, zl217, zl218, zl219, zl220, zl235, zl236, zl255, zl280, zl287, zl900, zl999, zl1000, zl1001, zl1136, zl1960, zl3000, zl3001, zl3002, zl3003, zl3004, zl3005, zl3006, zl3007, zl3008, zl3009, zl268435456, zl1000000000]), if_neg (by simp (disch := omega) only [z_add, z_mul, z_sub, z_subm, z_addm, z_lt_t, z_lt_f, z_le_t, z_le_f, z_eq_t, z_eq_f, z_eqm, z_meq, z_mm, z_ltm, z_mlt, z_lem, z_mle, z_cl, z_ck, u1_1, u1_2, u2_1, u2_2, ↓reduceIte, Option.bind_some, Option.bind_none, bd2_some, lb_eq, and_true, and_false, true_and, false_and, not_true_eq_false, not_false_eq_true, eq_self_iff_true, if_true, if_false, Nat.reduceEqDiff, Nat.reduceAdd, Nat.reduceMul, Nat.reduceSub, Bool.false_eq_true, zl0, zl1, zl2, zl3, zl4, zl5, zl6, zl7, zl8, zl9, zl10, zl11, zl12, zl13, zl14, zl15, zl16, zl17, zl18, zl19, zl20, zl22, zl23, zl24, zl25, zl30, zl31, zl32, zl33, zl34, zl35, zl36, zl37, zl38, zl39, zl40, zl41, zl42, zl43, zl45, zl48, zl49, zl57, zl58, zl59, zl60, zl61, zl62, zl63, zl64, zl91, zl93, zl97, zl98, zl99, zl100, zl113, zl114, zl115, zl116, zl117, zl122, zl124, zl125, zl127, zl128, zl136, zl200, zl201, zl202, zl203, zl204, zl205, zl206, zl207, zl208, zl209, zl210, zl211, zl212, zl213, zl214, zl215, zl216, zl217, zl218, zl219, zl220, zl235, zl236, zl255, zl280, zl287, zl900, zl999, zl1000, zl1001, zl1136, zl1960, zl3000, zl3001, zl3002, zl3003, zl3004, zl3005, zl3006, zl3007, zl3008, zl3009, zl268435456, zl1000000000]), z_ck hk (by omega), z_ck hk (by omega), z_ck (by omega) (by omega), z_cl (by omega), z_cl (by omega), h29, cut_7 hq ht, h2]
    rw [l_Yr_lists_88, if_neg (nI_ge (by omega) (by omega)), ro_stationAt hv hs hw (by omega) hX hS hK hd hF (by omega), Option.bind_some, h1, oI_s, e1, Option.bind_some, show (1 : Int32) = nI 1 from rfl, nI_add]
    obtain ⟨P', g1, g2, g3, g4⟩ := ih n (i + 1) (u2 P (25 + k) i (f i)) (by omega) (by omega) (CX_tr hX hsm) (CSt_ro hS rfl rfl) hK h29
    refine ⟨P', g1, sm_trans hsm g2, fun l j => ?_, g4⟩
    rw [g3, u2_2]
    by_cases c : l = k
    · subst c
      by_cases c2 : j = i
      · subst c2; rw [if_neg (by omega), if_pos ⟨rfl, rfl⟩, if_pos (by omega)]
      · rw [if_neg (c := 25 + l = 25 + l ∧ j = i) (fun h => c2 h.2)]
        by_cases c3 : i + 1 ≤ j ∧ j < m
        · rw [if_pos ⟨rfl, c3⟩, if_pos (by omega)]
        · rw [if_neg (fun h => c3 h.2), if_neg (by omega)]
    · rw [if_neg (fun h => c h.1), if_neg (by omega), if_neg (fun h => c h.1)]
theorem MX_tr {P P' : PM} {v : NV} {s : SV} (h : MX P v s) (g : sm mtrs P P') : MX P' v s :=
  ⟨fun k t hk ht => by rw [g.1 117 rfl]; exact h.1 k t hk ht, MNet_sm h.2 g rfl⟩
theorem lists_M {v : NV} {s : SV} {st z w k len : Nat} {K : Nat → Nat} {f : Nat → Int64} {m : Nat} (hv : NVok v) (hs : SVok v s) (hw : sW s = some w) (hk : k < 4)
    (hd : ∀ p, p < 280 → K p = (dsr v s 1 st z p).getD F2) (hF : ∀ j, K j ≤ F2) (hlen : len ≤ 40) (hml : m ≤ len) (hend : m = len ∨ rsr v s 1 st z m (pl s w) = none) (hf : ∀ i, i < m → ∃ t, t < 7 ∧ rsr v s 1 st z i (pl s w) = some t ∧ f i = (nI t).toInt64) :
    ∀ (d n i : Nat) (P : PM), i + d = m → d < n → MX P v s → MSt P 110 113 s → KM P K → P.1 128 k = nI len →
    ∃ P', l_Mo_lists_71 n (nI k) (nI i) P = some (nI m, P') ∧ sm mtrs P P' ∧ (∀ j, P'.2 129 j = if 40 * k + i ≤ j ∧ j < 40 * k + m then f (j - 40 * k) else P.2 129 j) ∧ P'.1 = P.1 := by
  intro d
  induction d with
  | zero =>
    intro n i P hi hn hX hS hK h128
    obtain ⟨n, rfl⟩ : ∃ r, n = r + 1 := ⟨n - 1, by omega⟩
    obtain rfl : i = m := by omega
    refine ⟨P, ?_, sm_refl, fun j => by rw [if_neg (by omega)], rfl⟩
    rw [l_Mo_lists_71, z_ck hk (by omega), z_cl (by omega), h128]
    by_cases c : i = len
    · rw [if_pos (nI_le (by omega) (by omega))]
    · rw [if_neg (nI_ge (by omega) (by omega)), show (1 : Int32) = nI 1 from rfl, mo_stationAt hv hs hw (by omega) hX (standNow_M hS hv hs hw) hK hd hF (by omega), Option.bind_some, hend.resolve_left c, if_pos (by decide)]
  | succ d ih =>
    intro n i P hi hn hX hS hK h128
    obtain ⟨n, rfl⟩ : ∃ r, n = r + 1 := ⟨n - 1, by omega⟩
    obtain ⟨t, ht, h1, h2⟩ := hf i (by omega)
    have hsm : sm mtrs P (u2 P 129 (40 * k + i) (f i)) := sm_u2 sm_refl rfl
    have e1 := mo_stationAt (i := i) hv hs hw (by omega) hX (standNow_M hS hv hs hw) hK hd hF (by omega)
    rw [h1, oI_s] at e1
    obtain ⟨P', g1, g2, g3, g4⟩ := ih n (i + 1) (u2 P 129 (40 * k + i) (f i)) (by omega) (by omega) (MX_tr hX hsm) (MSt_sm hS hsm rfl) hK h128
    refine ⟨P', ?_, sm_trans hsm g2, fun j => ?_, g4⟩
    · rw [l_Mo_lists_71, z_ck hk (by omega), z_cl (by omega), h128, if_neg (nI_ge (by omega) (by omega)), show (1 : Int32) = nI 1 from rfl, e1, Option.bind_some, if_neg (by simp (disch := omega) only [z_add, z_mul, z_sub, z_subm, z_addm, z_lt_t, z_lt_f, z_le_t, z_le_f, z_eq_t, z_eq_f, z_eqm, z_meq, z_mm, z_ltm, z_mlt, z_lem, z_mle, z_cl, z_ck, u1_1, u1_2, u2_1, u2_2, ↓reduceIte, Option.bind_some, Option.bind_none, bd2_some, lb_eq, and_true, and_false, true_and, false_and, not_true_eq_false, not_false_eq_true, eq_self_iff_true, if_true, if_false, Nat.reduceEqDiff, Nat.reduceAdd, Nat.reduceMul, Nat.reduceSub, Bool.false_eq_true, zl0, zl1, zl2, zl3, zl4, zl5, zl6, zl7, zl8, zl9, zl10, zl11, zl12, zl13, zl14, zl15, zl16, zl17, zl18, zl19, zl20, zl22, zl23, zl24, zl25, zl30, zl31, zl32, zl33, zl34, zl35, zl36, zl37, zl38, zl39, zl40, zl41, zl42, zl43, zl45, zl48, zl49, zl57, zl58, zl59, zl60, zl61, zl62, zl63, zl64, zl91, zl93, zl97, zl98, zl99, zl100, zl113, zl114, zl115, zl116, zl117, zl122, zl124, zl125, zl127, zl128, zl136, zl200, zl201, zl202, zl203, zl204, zl205, zl206, zl207, zl208, zl209, zl210, zl211, zl212, zl213, zl214, zl215, zl216, zl217, zl218, zl219, zl220, zl235, zl236, zl255, zl280, zl287, zl900, zl999, zl1000, zl1001, zl1136, zl1960, zl3000, zl3001, zl3002, zl3003, zl3004, zl3005, zl3006, zl3007, zl3008, zl3009, zl268435456, zl1000000000]), Option.bind_some, show (40 : Int32) = nI 40 from rfl, pk_mul, nI_add, z_ck (by omega) (by omega), z_cl (by omega), ← h2, nI_add]
      exact g1
    · rw [g3, u2_2]
      by_cases c2 : j = 40 * k + i
      · rw [if_neg (by omega), if_pos ⟨rfl, c2⟩, if_pos (by omega), show j - 40 * k = i by omega]
      · rw [if_neg (c := 129 = 129 ∧ j = 40 * k + i) (fun h => c2 h.2)]
        by_cases c3 : 40 * k + (i + 1) ≤ j ∧ j < 40 * k + m
        · rw [if_pos c3, if_pos (by omega)]
        · rw [if_neg c3, if_neg (by omega)]
