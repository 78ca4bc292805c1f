/-! lists -/
theorem mn_n {a b : Nat} (ha : a < 2147483648) (hb : b < 2147483648) : mn (nI a) (nI b) = nI (min a b) := by
  unfold mn
  by_cases c : a < b
  · rw [Nat.min_eq_left (by omega)]
    first
      | rw [if_pos (nI_lt c hb)]
      | rw [if_neg (nI_nlt (by omega) (by omega))]
      | rw [if_pos (nI_le (by omega) hb)]
  · rw [Nat.min_eq_right (by omega)]
    first
      | rw [if_neg (nI_nlt (by omega) (by omega))]
      | (by_cases e : a = b
         · subst e; split <;> rfl
         · first
           | rw [if_neg (nI_ge (by omega) (by omega))]
           | rw [if_pos (nI_lt (by omega) (by omega))])
theorem cut_7 {q t : Nat} (hq : q ≤ 3) (ht : t < 7) (P : PM) : f_Tr_cut (nI q) (nI t).toInt64 P = (nI t).toInt64 := by
  have h1 : q = 0 ∨ q = 1 ∨ q = 2 ∨ q = 3 := by omega
  have h2 : t = 0 ∨ t = 1 ∨ t = 2 ∨ t = 3 ∨ t = 4 ∨ t = 5 ∨ t = 6 := by omega
  rcases h1 with rfl | rfl | rfl | rfl <;> rcases h2 with rfl | rfl | rfl | rfl | rfl | rfl | rfl <;> rfl
def wL (t : TV) (k n : Nat) (f : Nat → Int64) : TV := fun l => if l = k then ((t k).1, (t k).2.1, fun i => if i < n then f i else (t k).2.2 i) else t l
theorem CX_tr {P P' : PM} {v : NV} {s : SV} {by' p0 : Nat} {L : List Nat} (h : CX P v s by' p0 L) (g : sm trs P P') : CX P' v s by' p0 L :=
  ⟨CNet_sm h.1 g rfl rfl rfl rfl rfl, ⟨FS_ro h.2.1.1 (g.1 58 rfl) (g.1 62 rfl) (g.2 61 rfl), h.2.1.2.1, CC1_ro h.2.1.2.2.1 (g.1 59 rfl) (g.1 60 rfl), fun p hp t ht e => by unfold known; rw [g.1 59 rfl]; exact h.2.1.2.2.2 p hp t ht e⟩, by rw [g.1 21 rfl]; exact h.2.2.1, by rw [g.1 63 rfl]; exact h.2.2.2⟩
theorem lists_C {v : NV} {s : SV} {st z w q k : Nat} {L : List Nat} {K : Nat → Nat} {f : Nat → Int64} {m : Nat} (hv : NVok v) (hs : SVok v s) (hw : sW s = some w) (hk : k < 4) (hq : q ≤ 3)
    (hd : ∀ p, p ∈ L → K p = (dsr v s 1 st z p).getD FR9) (hF : ∀ j, K j ≤ FR9) (hm : m ≤ 40) (hf : ∀ i, i < m → ∃ t, t < 7 ∧ rsr v s 1 st z i (pl s w) = some t ∧ f i = (nI t).toInt64) :
    ∀ (d n i : Nat) (P : PM), i + d = m → d < n → CX P v s 1 (pl s w) L → CSt P 21 s → KC P K → P.1 29 k = nI q →
    ∃ P', l_Yr_lists_88 n (nI k) (nI m) (nI i) P = some (nI m, P') ∧ sm trs P P' ∧ (∀ l j, P'.2 (25 + l) j = if l = k ∧ i ≤ j ∧ j < m then f j else P.2 (25 + l) j) ∧ P'.1 = P.1 := by
  intro d
  induction d with
  | zero =>
    intro n i P hi hn hX hS hK h29
    obtain ⟨n, rfl⟩ : ∃ r, n = r + 1 := ⟨n - 1, by omega⟩
    rw [l_Yr_lists_88, if_pos (nI_le (by omega) (by omega))]
    exact ⟨P, rfl, sm_refl, fun l j => by rw [if_neg (by omega)], rfl⟩
  | succ d ih =>
    intro n i P hi hn hX hS hK h29
    obtain ⟨n, rfl⟩ : ∃ r, n = r + 1 := ⟨n - 1, by omega⟩
    obtain ⟨t, ht, h1, h2⟩ := hf i (by omega)
    have hsm : sm trs P (u2 P (25 + k) i (f i)) := sm_u2 sm_refl (by simp [trs]; omega)
    have e1 : f_Tr_put (nI k) (nI i) (nI t).toInt64 P = some (u2 P (25 + k) i (f i)) := by
      unfold f_Tr_put
      rw [tray_t hk, if_neg (by decide), if_neg (by simp (disch := omega) only [z_add, z_mul, z_sub, z_subm, z_addm, z_lt_t, z_lt_f, z_le_t, z_le_f, z_eq_t, z_eq_f, z_eqm, z_meq, z_mm, z_ltm, z_mlt, z_lem, z_mle, z_cl, z_ck, u1_1, u1_2, u2_1, u2_2, ↓reduceIte, Option.bind_some, Option.bind_none, bd2_some, lb_eq, and_true, and_false, true_and, false_and, not_true_eq_false, not_false_eq_true, eq_self_iff_true, if_true, if_false, Nat.reduceEqDiff, Nat.reduceAdd, Nat.reduceMul, Nat.reduceSub, Bool.false_eq_true, zl0, zl1, zl2, zl3, zl4, zl5, zl6, zl7, zl8, zl9, zl10, zl11, zl12, zl13, zl14, zl15, zl16, zl17, zl18, zl19, zl20, zl22, zl23, zl24, zl25, zl30, zl31, zl32, zl33, zl34, zl35, zl36, zl37, zl38, zl39, zl40, zl41, zl42, zl43, zl45, zl48, zl49, zl57, zl58, zl59, zl60, zl61, zl62, zl63, zl64, zl91, zl93, zl97, zl98, zl99, zl100, zl113, zl114, zl115, zl116, zl117, zl122, zl124, zl125, zl127, zl128, zl136, zl200, zl201, zl202, zl203, zl204, zl205, zl206, zl207, zl208, zl209, zl210, zl211, zl212, zl213, zl214, zl215, zl216, zl217, zl218, zl219, zl220, zl235, zl236, zl255, zl280, zl287, zl900, zl999, zl1000, zl1001, zl1136, zl1960, zl3000, zl3001, zl3002, zl3003, zl3004, zl3005, zl3006, zl3007, zl3008, zl3009, zl268435456, zl1000000000]), if_neg (by simp (disch := omega) only [z_add, z_mul, z_sub, z_subm, z_addm, z_lt_t, z_lt_f, z_le_t, z_le_f, z_eq_t, z_eq_f, z_eqm, z_meq, z_mm, z_ltm, z_mlt, z_lem, z_mle, z_cl, z_ck, u1_1, u1_2, u2_1, u2_2, ↓reduceIte, Option.bind_some, Option.bind_none, bd2_some, lb_eq, and_true, and_false, true_and, false_and, not_true_eq_false, not_false_eq_true, eq_self_iff_true, if_true, if_false, Nat.reduceEqDiff, Nat.reduceAdd, Nat.reduceMul, Nat.reduceSub, Bool.false_eq_true, zl0, zl1, zl2, zl3, zl4, zl5, zl6, zl7, zl8, zl9, zl10, zl11, zl12, zl13, zl14, zl15, zl16, zl17, zl18, zl19, zl20, zl22, zl23, zl24, zl25, zl30, zl31, zl32, zl33, zl34, zl35, zl36, zl37, zl38, zl39, zl40, zl41, zl42, zl43, zl45, zl48, zl49, zl57, zl58, zl59, zl60, zl61, zl62, zl63, zl64, zl91, zl93, zl97, zl98, zl99, zl100, zl113, zl114, zl115, zl116, zl117, zl122, zl124, zl125, zl127, zl128, zl136, zl200, zl201, zl202, zl203, zl204, zl205, zl206, zl207, zl208, zl209, zl210, zl211, zl212, zl213, zl214, zl215, zl216, zl217, zl218, zl219, zl220, zl235, zl236, zl255, zl280, zl287, zl900, zl999, zl1000, zl1001, zl1136, zl1960, zl3000, zl3001, zl3002, zl3003, zl3004, zl3005, zl3006, zl3007, zl3008, zl3009, zl268435456, zl1000000000]), z_ck hk (by omega), z_ck hk (by omega), z_ck (by omega) (by omega), z_cl (by omega), z_cl (by omega), h29, cut_7 hq ht, h2]
    rw [l_Yr_lists_88, if_neg (nI_ge (by omega) (by omega)), ro_stationAt hv hs hw (by omega) hX hS hK hd hF (by omega), Option.bind_some, h1, oI_s, e1, Option.bind_some, show (1 : Int32) = nI 1 from rfl, nI_add]
    obtain ⟨P', g1, g2, g3, g4⟩ := ih n (i + 1) (u2 P (25 + k) i (f i)) (by omega) (by omega) (CX_tr hX hsm) (CSt_ro hS rfl rfl) hK h29
    refine ⟨P', g1, sm_trans hsm g2, fun l j => ?_, g4⟩
    rw [g3, u2_2]
    by_cases c : l = k
    · subst c
      by_cases c2 : j = i
      · subst c2; rw [if_neg (by omega), if_pos ⟨rfl, rfl⟩, if_pos (by omega)]
      · rw [if_neg (c := 25 + l = 25 + l ∧ j = i) (fun h => c2 h.2)]
        by_cases c3 : i + 1 ≤ j ∧ j < m
        · rw [if_pos ⟨rfl, c3⟩, if_pos (by omega)]
        · rw [if_neg (fun h => c3 h.2), if_neg (by omega)]
    · rw [if_neg (fun h => c h.1), if_neg (by omega), if_neg (fun h => c h.1)]
theorem MX_tr {P P' : PM} {v : NV} {s : SV} (h : MX P v s) (g : sm mtrs P P') : MX P' v s :=
  ⟨fun k t hk ht => by rw [g.1 117 rfl]; exact h.1 k t hk ht, MNet_sm h.2 g rfl⟩
theorem lists_M {v : NV} {s : SV} {st z w k len : Nat} {K : Nat → Nat} {f : Nat → Int64} {m : Nat} (hv : NVok v) (hs : SVok v s) (hw : sW s = some w) (hk : k < 4)
    (hd : ∀ p, p < 280 → K p = (dsr v s 1 st z p).getD F2) (hF : ∀ j, K j ≤ F2) (hlen : len ≤ 40) (hml : m ≤ len) (hend : m = len ∨ rsr v s 1 st z m (pl s w) = none) (hf : ∀ i, i < m → ∃ t, t < 7 ∧ rsr v s 1 st z i (pl s w) = some t ∧ f i = (nI t).toInt64) :
    ∀ (d n i : Nat) (P : PM), i + d = m → d < n → MX P v s → MSt P 110 113 s → KM P K → P.1 128 k = nI len →
    ∃ P', l_Mo_lists_71 n (nI k) (nI i) P = some (nI m, P') ∧ sm mtrs P P' ∧ (∀ j, P'.2 129 j = if 40 * k + i ≤ j ∧ j < 40 * k + m then f (j - 40 * k) else P.2 129 j) ∧ P'.1 = P.1 := by
  intro d
  induction d with
  | zero =>
    intro n i P hi hn hX hS hK h128
    obtain ⟨n, rfl⟩ : ∃ r, n = r + 1 := ⟨n - 1, by omega⟩
    obtain rfl : i = m := by omega
    refine ⟨P, ?_, sm_refl, fun j => by rw [if_neg (by omega)], rfl⟩
    rw [l_Mo_lists_71, z_ck hk (by omega), z_cl (by omega), h128]
    by_cases c : i = len
    · rw [if_pos (nI_le (by omega) (by omega))]
    · rw [if_neg (nI_ge (by omega) (by omega)), show (1 : Int32) = nI 1 from rfl, mo_stationAt hv hs hw (by omega) hX (standNow_M hS hv hs hw) hK hd hF (by omega), Option.bind_some, hend.resolve_left c, if_pos (by decide)]
  | succ d ih =>
    intro n i P hi hn hX hS hK h128
    obtain ⟨n, rfl⟩ : ∃ r, n = r + 1 := ⟨n - 1, by omega⟩
    obtain ⟨t, ht, h1, h2⟩ := hf i (by omega)
    have hsm : sm mtrs P (u2 P 129 (40 * k + i) (f i)) := sm_u2 sm_refl rfl
    have e1 := mo_stationAt (i := i) hv hs hw (by omega) hX (standNow_M hS hv hs hw) hK hd hF (by omega)
    rw [h1, oI_s] at e1
    obtain ⟨P', g1, g2, g3, g4⟩ := ih n (i + 1) (u2 P 129 (40 * k + i) (f i)) (by omega) (by omega) (MX_tr hX hsm) (MSt_sm hS hsm rfl) hK h128
    refine ⟨P', ?_, sm_trans hsm g2, fun j => ?_, g4⟩
    · rw [l_Mo_lists_71, z_ck hk (by omega), z_cl (by omega), h128, if_neg (nI_ge (by omega) (by omega)), show (1 : Int32) = nI 1 from rfl, e1, Option.bind_some, if_neg (by simp (disch := omega) only [z_add, z_mul, z_sub, z_subm, z_addm, z_lt_t, z_lt_f, z_le_t, z_le_f, z_eq_t, z_eq_f, z_eqm, z_meq, z_mm, z_ltm, z_mlt, z_lem, z_mle, z_cl, z_ck, u1_1, u1_2, u2_1, u2_2, ↓reduceIte, Option.bind_some, Option.bind_none, bd2_some, lb_eq, and_true, and_false, true_and, false_and, not_true_eq_false, not_false_eq_true, eq_self_iff_true, if_true, if_false, Nat.reduceEqDiff, Nat.reduceAdd, Nat.reduceMul, Nat.reduceSub, Bool.false_eq_true, zl0, zl1, zl2, zl3, zl4, zl5, zl6, zl7, zl8, zl9, zl10, zl11, zl12, zl13, zl14, zl15, zl16, zl17, zl18, zl19, zl20, zl22, zl23, zl24, zl25, zl30, zl31, zl32, zl33, zl34, zl35, zl36, zl37, zl38, zl39, zl40, zl41, zl42, zl43, zl45, zl48, zl49, zl57, zl58, zl59, zl60, zl61, zl62, zl63, zl64, zl91, zl93, zl97, zl98, zl99, zl100, zl113, zl114, zl115, zl116, zl117, zl122, zl124, zl125, zl127, zl128, zl136, zl200, zl201, zl202, zl203, zl204, zl205, zl206, zl207, zl208, zl209, zl210, zl211, zl212, zl213, zl214, zl215, zl216, zl217, zl218, zl219, zl220, zl235, zl236, zl255, zl280, zl287, zl900, zl999, zl1000, zl1001, zl1136, zl1960, zl3000, zl3001, zl3002, zl3003, zl3004, zl3005, zl3006, zl3007, zl3008, zl3009, zl268435456, zl1000000000]), Option.bind_some, show (40 : Int32) = nI 40 from rfl, pk_mul, nI_add, z_ck (by omega) (by omega), z_cl (by omega), ← h2, nI_add]
      exact g1
    · rw [g3, u2_2]
      by_cases c2 : j = 40 * k + i
      · rw [if_neg (by omega), if_pos ⟨rfl, c2⟩, if_pos (by omega), show j - 40 * k = i by omega]
      · rw [if_neg (c := 129 = 129 ∧ j = 40 * k + i) (fun h => c2 h.2)]
        by_cases c3 : 40 * k + (i + 1) ≤ j ∧ j < 40 * k + m
        · rw [if_pos c3, if_pos (by omega)]
        · rw [if_neg c3, if_neg (by omega)]
theorem lists_ok {P : PM} {a : AS} {x y : Int32} (hC : CRep P a) (hM : MRep P a) (hca : CCa P (aV a)) (hok : AOk a) :
    ∃ v P1 P2, f_Yr_lists x y P = some (v, P1) ∧ f_Mo_lists x y P1 = some (v, P2) ∧ Inv P2 := by
  have hN := hok.1.1
  have hq3 : ∀ k q, (aT a k).1 = some q → q ≤ 3 := fun k q h => (hok.2.2.2.2.1 k).2.1 q h
  rcases i_cases x 4 (by omega) with ⟨k, hk, rfl⟩ | hx
  · have hwt : ∀ P : PM, f_Mo_within (nI k).toInt64 (0 : Int64) (3 : Int64) P = nI 1 := fun P => by rw [w03, if_pos (by rw [nI_ti (by omega)]; omega)]
    rcases i_cases y (vN (aV a)) (by omega) with ⟨g, hg, rfl⟩ | hy
    · by_cases hm : (aT a k).1 = none
      · refine join (r := -nI 6) (a' := a) hM ⟨P, ?_, hC, hca, sm_refl⟩ (fun P1 hM1 => ⟨u1 P1 109 0 (0 : Int32), ?_, MRep_me hM1 me_th, sm_th⟩) hok
        · unfold f_Yr_lists
          rw [tray_t hk, if_neg (by decide), isStK hC.1 hok.1 hg, if_neg (by decide), miss_C hC.2.2.2.1 hk (hq3 k), if_pos hm]
          rfl
        · have hM2 : MRep (u1 P1 109 0 (0 : Int32)) a := MRep_me hM1 me_th
          unfold f_Mo_lists
          rw [hwt, if_neg (by decide), isSt_Mk hM2 hok hg, Option.bind_some, if_neg (by decide), noTray_k hM2.2.2.2.1 hk (hq3 k), if_pos hm]
          rfl
      · cases hw : sW (aS a) with
        | none =>
          refine join (r := -nI 5) (a' := a) hM ⟨P, ?_, hC, hca, sm_refl⟩ (fun P1 hM1 => ⟨u1 P1 109 0 (0 : Int32), ?_, MRep_me hM1 me_th, sm_th⟩) hok
          · unfold f_Yr_lists
            rw [tray_t hk, if_neg (by decide), isStK hC.1 hok.1 hg, if_neg (by decide), miss_C hC.2.2.2.1 hk (hq3 k), if_neg hm, Option.bind_some, if_pos (by decide), hC.2.1.1, hw]
            rfl
          · have hM2 : MRep (u1 P1 109 0 (0 : Int32)) a := MRep_me hM1 me_th
            unfold f_Mo_lists
            rw [hwt, if_neg (by decide), isSt_Mk hM2 hok hg, Option.bind_some, if_neg (by decide), noTray_k hM2.2.2.2.1 hk (hq3 k), if_neg hm, Option.bind_some, if_pos (by decide), m113 hM2.2.1, hw]
            rfl
        | some w =>
          obtain ⟨h280, _, h7⟩ := pl_ok hok.1 hok.2.1 hw
          obtain ⟨L, K, P1, g1, g2, g3, g4, g8, g5, g6, g7⟩ := seek_C (st := g) (z := 1) (by' := 1) hC hok hca hw (by omega) (by omega) (by omega)
          have hml : pl (aS a) w ∈ L := (g2.2.1.2.1 _).mpr Rch_0
          have mo1 : ∀ P' : PM, MRep P' a → ∃ K2 P2, f_Mo_lists (nI k) (nI g) P' = (if nI ((dsr (aV a) (aS a) 1 g 1 (pl (aS a) w)).getD F2) = (268435456 : Int32) then some ((-5 : Int32), P2) else l_Mo_lists_71 FU (nI k) (0 : Int32) P2) ∧ MX P2 (aV a) (aS a) ∧ KM P2 K2 ∧
              (∀ p, p < 280 → K2 p = (dsr (aV a) (aS a) 1 g 1 p).getD F2) ∧ (∀ j, K2 j ≤ F2) ∧ MRep P2 a ∧ sm mo P' P2 := by
            intro P' h'
            have hM2 : MRep (u1 P' 109 0 (0 : Int32)) a := MRep_me h' me_th
            obtain ⟨K2, P2, k1, k2, k3, k4, k5, k6, k7⟩ := laysFar_M (by' := 1) (st := g) (z := 1) hM2 hok hw (by omega) (by omega) (by omega) (by omega)
            refine ⟨K2, P2, ?_, k2, k3, k4, k5, k6, sm_trans sm_th (ly_mo k7)⟩
            unfold f_Mo_lists
            rw [hwt, if_neg (by decide), isSt_Mk hM2 hok hg, Option.bind_some, if_neg (by decide), noTray_k hM2.2.2.2.1 hk (hq3 k), if_neg hm, Option.bind_some, if_pos (by decide), m113 hM2.2.1, hw, oI_s, if_neg (by simp (disch := omega) only [z_add, z_mul, z_sub, z_subm, z_addm, z_lt_t, z_lt_f, z_le_t, z_le_f, z_eq_t, z_eq_f, z_eqm, z_meq, z_mm, z_ltm, z_mlt, z_lem, z_mle, z_cl, z_ck, u1_1, u1_2, u2_1, u2_2, ↓reduceIte, Option.bind_some, Option.bind_none, bd2_some, lb_eq, and_true, and_false, true_and, false_and, not_true_eq_false, not_false_eq_true, eq_self_iff_true, if_true, if_false, Nat.reduceEqDiff, Nat.reduceAdd, Nat.reduceMul, Nat.reduceSub, Bool.false_eq_true, zl0, zl1, zl2, zl3, zl4, zl5, zl6, zl7, zl8, zl9, zl10, zl11, zl12, zl13, zl14, zl15, zl16, zl17, zl18, zl19, zl20, zl22, zl23, zl24, zl25, zl30, zl31, zl32, zl33, zl34, zl35, zl36, zl37, zl38, zl39, zl40, zl41, zl42, zl43, zl45, zl48, zl49, zl57, zl58, zl59, zl60, zl61, zl62, zl63, zl64, zl91, zl93, zl97, zl98, zl99, zl100, zl113, zl114, zl115, zl116, zl117, zl122, zl124, zl125, zl127, zl128, zl136, zl200, zl201, zl202, zl203, zl204, zl205, zl206, zl207, zl208, zl209, zl210, zl211, zl212, zl213, zl214, zl215, zl216, zl217, zl218, zl219, zl220, zl235, zl236, zl255, zl280, zl287, zl900, zl999, zl1000, zl1001, zl1136, zl1960, zl3000, zl3001, zl3002, zl3003, zl3004, zl3005, zl3006, zl3007, zl3008, zl3009, zl268435456, zl1000000000]), show (1 : Int32) = nI 1 from rfl, k1, bd2_some]
          have cl1 : f_Yr_lists (nI k) (nI g) P = (if flg (dsr (aV a) (aS a) 1 g 1 (pl (aS a) w)).isSome = (0 : Int32) then some ((-5 : Int32), P1) else ((f_Ro_passingsNeeded P1).bind (fun v9 => (f_Tr_lengthOf (nI k) P1).bind (fun v10 => lb (mn v9 v10) (fun y11 => l_Yr_lists_88 FU (nI k) y11 (0 : Int32) P1))))) := by
            unfold f_Yr_lists
            rw [tray_t hk, if_neg (by decide), isStK hC.1 hok.1 hg, if_neg (by decide), miss_C hC.2.2.2.1 hk (hq3 k), if_neg hm, Option.bind_some, if_pos (by decide), hC.2.1.1, hw, oI_s, if_neg (by simp (disch := omega) only [z_add, z_mul, z_sub, z_subm, z_addm, z_lt_t, z_lt_f, z_le_t, z_le_f, z_eq_t, z_eq_f, z_eqm, z_meq, z_mm, z_ltm, z_mlt, z_lem, z_mle, z_cl, z_ck, u1_1, u1_2, u2_1, u2_2, ↓reduceIte, Option.bind_some, Option.bind_none, bd2_some, lb_eq, and_true, and_false, true_and, false_and, not_true_eq_false, not_false_eq_true, eq_self_iff_true, if_true, if_false, Nat.reduceEqDiff, Nat.reduceAdd, Nat.reduceMul, Nat.reduceSub, Bool.false_eq_true, zl0, zl1, zl2, zl3, zl4, zl5, zl6, zl7, zl8, zl9, zl10, zl11, zl12, zl13, zl14, zl15, zl16, zl17, zl18, zl19, zl20, zl22, zl23, zl24, zl25, zl30, zl31, zl32, zl33, zl34, zl35, zl36, zl37, zl38, zl39, zl40, zl41, zl42, zl43, zl45, zl48, zl49, zl57, zl58, zl59, zl60, zl61, zl62, zl63, zl64, zl91, zl93, zl97, zl98, zl99, zl100, zl113, zl114, zl115, zl116, zl117, zl122, zl124, zl125, zl127, zl128, zl136, zl200, zl201, zl202, zl203, zl204, zl205, zl206, zl207, zl208, zl209, zl210, zl211, zl212, zl213, zl214, zl215, zl216, zl217, zl218, zl219, zl220, zl235, zl236, zl255, zl280, zl287, zl900, zl999, zl1000, zl1001, zl1136, zl1960, zl3000, zl3001, zl3002, zl3003, zl3004, zl3005, zl3006, zl3007, zl3008, zl3009, zl268435456, zl1000000000]), show (1 : Int32) = nI 1 from rfl, g1, bd2_some]
          cases e : dsr (aV a) (aS a) 1 g 1 (pl (aS a) w) with
          | none =>
            rw [e] at cl1 mo1
            refine join (r := -nI 5) (a' := a) hM ⟨P1, by rw [cl1, if_pos (by rfl)]; rfl, g5, g6, g7⟩ (fun P' h' => ?_) hok
            obtain ⟨K2, P2, k1, k2, k3, k4, k5, k6, k7⟩ := mo1 P' h'
            exact ⟨P2, by rw [k1, if_pos (by rfl)]; rfl, k6, k7⟩
          | some c =>
            rw [e] at cl1 mo1
            obtain ⟨Ln, H, r1, r2, _, r4, r5⟩ := rst_len (c := ccb 1 (aV a)) (M := 280) (h := hrb 1 (aV a)) (fun p t q _ e => (nxp_in hok.1 e).1) (fun _ _ => rfl) c _ e
            have h3 : rk (ds (nxp (aV a) (aS a) (sA (aS a))) (ccb 1 (aV a)) (glb g 1) (vN (aV a))) 280 (pl (aS a) w) < 280 := rk_M h280
            have h4 : Ln ≤ rk (ds (nxp (aV a) (aS a) (sA (aS a))) (ccb 1 (aV a)) (glb g 1) (vN (aV a))) 280 (pl (aS a) w) := r1
            have hlen := (hok.2.2.2.2.1 k).1
            have hc9 := ds_le9 hok.1 h280 e
            obtain ⟨q, hqq⟩ : ∃ q, (aT a k).1 = some q := by cases e : (aT a k).1 with | none => exact absurd e hm | some q => exact ⟨q, rfl⟩
            have rlt : ∀ i p t, rsr (aV a) (aS a) 1 g 1 i p = some t → t < vN (aV a) := by
              intro i
              induction i with
              | zero => intro p t h; exact (bs_some h).1
              | succ i ih =>
                intro p t h
                have hrs : rsr (aV a) (aS a) 1 g 1 (i + 1) p = (match bsr (aV a) (aS a) 1 g 1 p with | none => none | some t => (match nxp (aV a) (aS a) (sA (aS a)) p t with | none => none | some q => rsr (aV a) (aS a) 1 g 1 i q)) := rfl
                rw [hrs] at h
                cases e1 : bsr (aV a) (aS a) 1 g 1 p with
                | none => rw [e1] at h; cases h
                | some t1 =>
                  rw [e1] at h
                  cases e2 : nxp (aV a) (aS a) (sA (aS a)) p t1 with
                  | none => simp only [e2] at h; cases h
                  | some q1 => simp only [e2] at h; exact ih q1 t h
            obtain ⟨f, hfd⟩ : ∃ f : Nat → Int64, f = fun i => (oI (rsr (aV a) (aS a) 1 g 1 i (pl (aS a) w))).toInt64 := ⟨_, rfl⟩
            have hf : ∀ i, i < min Ln (aT a k).2.1 → ∃ t, t < 7 ∧ rsr (aV a) (aS a) 1 g 1 i (pl (aS a) w) = some t ∧ f i = (nI t).toInt64 := by
              intro i hi
              obtain ⟨t, ht⟩ := r4 i (by omega)
              exact ⟨t, by have := rlt i _ t ht; omega, ht, by rw [hfd]; show (oI (rsr _ _ _ _ _ i _)).toInt64 = _; rw [show rsr (aV a) (aS a) 1 g 1 i (pl (aS a) w) = some t from ht]; rfl⟩
            have h29 : P1.1 29 k = nI q := by rw [(g5.2.2.2.1 k hk).1, hqq]; rfl
            obtain ⟨P3, q1, q2, q3, q4⟩ := lists_C (f := f) (m := min Ln (aT a k).2.1) hok.1 hok.2.1 hw hk (hq3 k q hqq) g4 g8 (by omega) hf (min Ln (aT a k).2.1) FU 0 P1 (by omega) (by have := FU_big; omega) g2 g5.2.1 g3 h29
            have hcl : K (pl (aS a) w) = c := by rw [g4 _ hml, e]; rfl
            refine join (r := nI (min Ln (aT a k).2.1)) (a' := setT a (wL (aT a) k (min Ln (aT a k).2.1) f)) hM ⟨P3, ?_, CRep_tr g5 q2 ?_, CCa_ro g6 (q2.1 59 rfl) (q2.1 60 rfl), sm_trans g7 (sm_mono q2 (fun o ho => by simp [cl] at ho; simp [trs]; omega))⟩ (fun P' h' => ?_) (AOk_T hok (fun l => ?_))
            · rw [cl1, if_neg (show ¬ flg (some c).isSome = (0 : Int32) from (by decide : ¬ flg true = (0 : Int32)))]
              have hpn : f_Ro_passingsNeeded P1 = some (nI Ln) := by
                unfold f_Ro_passingsNeeded
                rw [place_C g5.2.1 hok.1 hok.2.1 hw, costOf_C g3 h280, Option.bind_some, hcl, show (1000 : Int32) = nI 1000 from rfl, pk_div (by omega) (by omega) (by omega), pk_mul, pk_sub (by omega)]
                exact congrArg (fun x => some (nI x)) (by omega)
              rw [hpn, Option.bind_some, len_C g5.2.2.2.1 hk, Option.bind_some, mn_n (by omega) (by omega), lb_eq]
              exact q1
            · intro l hl
              obtain ⟨t1, t2, t3⟩ := g5.2.2.2.1 l hl
              rw [q4]
              unfold wL
              by_cases cc' : l = k
              · subst cc'
                rw [if_pos rfl]
                refine ⟨t1, t2, fun i hi => ?_⟩
                rw [q3]
                show _ = if i < min Ln (aT a l).2.1 then f i else (aT a l).2.2 i
                by_cases c2 : i < min Ln (aT a l).2.1
                · rw [if_pos ⟨rfl, Nat.zero_le _, c2⟩, if_pos c2]
                · rw [if_neg (fun h => c2 h.2.2), if_neg c2]; exact t3 i hi
              · rw [if_neg cc']
                refine ⟨t1, t2, fun i hi => ?_⟩
                rw [q3, if_neg (fun h => cc' h.1)]; exact t3 i hi
            · obtain ⟨K2, P2, k1, k2, k3, k4, k5, k6, k7⟩ := mo1 P' h'
              have h128 : P2.1 128 k = nI (aT a k).2.1 := (k6.2.2.2.1 k hk).2.1
              obtain ⟨P4, m1, m2, m3, m4⟩ := lists_M (f := f) (m := min Ln (aT a k).2.1) hok.1 hok.2.1 hw hk k4 k5 hlen (by omega) (by
                by_cases c2 : Ln ≤ (aT a k).2.1
                · right; rw [Nat.min_eq_left c2]; exact r5 Ln (Nat.le_refl _)
                · left; omega) hf (min Ln (aT a k).2.1) FU 0 P2 (by omega) (by have := FU_big; omega) k2 k6.2.1 k3 h128
              refine ⟨P4, ?_, MRep_tr k6 m2 ?_, sm_trans k7 (sm_mono m2 (fun o ho => by simp [mo] at ho; simp [mtrs]; omega))⟩
              · rw [k1, show (some c).getD F2 = c from rfl, if_neg (by simp (disch := omega) only [z_add, z_mul, z_sub, z_subm, z_addm, z_lt_t, z_lt_f, z_le_t, z_le_f, z_eq_t, z_eq_f, z_eqm, z_meq, z_mm, z_ltm, z_mlt, z_lem, z_mle, z_cl, z_ck, u1_1, u1_2, u2_1, u2_2, ↓reduceIte, Option.bind_some, Option.bind_none, bd2_some, lb_eq, and_true, and_false, true_and, false_and, not_true_eq_false, not_false_eq_true, eq_self_iff_true, if_true, if_false, Nat.reduceEqDiff, Nat.reduceAdd, Nat.reduceMul, Nat.reduceSub, Bool.false_eq_true, zl0, zl1, zl2, zl3, zl4, zl5, zl6, zl7, zl8, zl9, zl10, zl11, zl12, zl13, zl14, zl15, zl16, zl17, zl18, zl19, zl20, zl22, zl23, zl24, zl25, zl30, zl31, zl32, zl33, zl34, zl35, zl36, zl37, zl38, zl39, zl40, zl41, zl42, zl43, zl45, zl48, zl49, zl57, zl58, zl59, zl60, zl61, zl62, zl63, zl64, zl91, zl93, zl97, zl98, zl99, zl100, zl113, zl114, zl115, zl116, zl117, zl122, zl124, zl125, zl127, zl128, zl136, zl200, zl201, zl202, zl203, zl204, zl205, zl206, zl207, zl208, zl209, zl210, zl211, zl212, zl213, zl214, zl215, zl216, zl217, zl218, zl219, zl220, zl235, zl236, zl255, zl280, zl287, zl900, zl999, zl1000, zl1001, zl1136, zl1960, zl3000, zl3001, zl3002, zl3003, zl3004, zl3005, zl3006, zl3007, zl3008, zl3009, zl268435456, zl1000000000])]
                exact m1
              · intro l hl
                obtain ⟨t1, t2, t3⟩ := k6.2.2.2.1 l hl
                have hll := (hok.2.2.2.2.1 l).1
                rw [m4]
                unfold wL
                by_cases cc' : l = k
                · subst cc'
                  rw [if_pos rfl]
                  refine ⟨t1, t2, fun i hi => ?_⟩
                  rw [m3]
                  show _ = if i < min Ln (aT a l).2.1 then f i else (aT a l).2.2 i
                  by_cases c2 : i < min Ln (aT a l).2.1
                  · rw [if_pos (by omega), if_pos c2, show 40 * l + i - 40 * l = i by omega]
                  · rw [if_neg (by omega), if_neg c2]; exact t3 i hi
                · rw [if_neg cc']
                  refine ⟨t1, t2, fun i hi => ?_⟩
                  rw [m3, if_neg (by omega)]; exact t3 i hi
            · unfold wL
              by_cases cc' : l = k
              · rw [if_pos cc']; exact hok.2.2.2.2.1 k
              · rw [if_neg cc']; exact hok.2.2.2.2.1 l
    · refine join (r := -nI 2) (a' := a) hM ⟨P, ?_, hC, hca, sm_refl⟩ (fun P1 hM1 => ⟨u1 P1 109 0 (0 : Int32), ?_, MRep_me hM1 me_th, sm_th⟩) hok
      · unfold f_Yr_lists
        rw [tray_t hk, if_neg (by decide), isSt_Cn hC.1 hok.1 hy]
        rfl
      · have hM2 : MRep (u1 P1 109 0 (0 : Int32)) a := MRep_me hM1 me_th
        unfold f_Mo_lists
        rw [hwt, if_neg (by decide), isSt_Mn hM2 hok hy]
        rfl
  · refine join (r := -nI 2) (a' := a) hM ⟨P, ?_, hC, hca, sm_refl⟩ (fun P1 hM1 => ⟨u1 P1 109 0 (0 : Int32), ?_, MRep_me hM1 me_th, sm_th⟩) hok
    · unfold f_Yr_lists
      rw [tray_f hx]; rfl
    · unfold f_Mo_lists
      rw [w03, if_neg (show ¬ (0 ≤ x.toInt ∧ x.toInt < 4) from hx)]; rfl
