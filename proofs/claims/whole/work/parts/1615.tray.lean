/-! trays -/
theorem joinG {ρ : Type} {P : PM} {a a' : AS} {r : ρ} {fc fm : PM → Option (ρ × PM)} (hM : MRep P a)
    (hc : ∃ P1, fc P = some (r, P1) ∧ CRep P1 a' ∧ CCa P1 (aV a') ∧ sm cl P P1) (hm : ∀ P, MRep P a → ∃ P2, fm P = some (r, P2) ∧ MRep P2 a' ∧ sm mo P P2) (hok : AOk a') :
    ∃ v P1 P2, fc P = some (v, P1) ∧ fm P1 = some (v, P2) ∧ Inv P2 := by
  obtain ⟨P1, h1, h2, h3, h4⟩ := hc
  obtain ⟨P2, g1, g2, g3⟩ := hm P1 (MRep_lo hM h4)
  exact ⟨r, P1, P2, h1, g1, a', hok, CRep_hi h2 g3, g2, CCa_hi h3 g3⟩
theorem tray_in (x : Int32) (P : PM) : f_Tr_isTray x P = if 0 ≤ x.toInt ∧ x.toInt < 4 then nI 1 else nI 0 := by
  unfold f_Tr_isTray j_Tr_isTray_13
  have e4 : (4 : Int32).toInt = 4 := rfl
  by_cases c : x < 0
  · have := Int32.lt_iff_toInt_lt.mp c
    have e0 : (0 : Int32).toInt = 0 := rfl
    rw [if_pos c, if_neg (by omega)]; rfl
  · have c1 : ¬ x.toInt < 0 := fun q => c (Int32.lt_iff_toInt_lt.mpr q)
    rw [if_neg c]
    by_cases c2 : 4 ≤ x
    · have := Int32.le_iff_toInt_le.mp c2
      rw [if_pos c2, if_neg (by omega)]; rfl
    · have c3 : ¬ 4 ≤ x.toInt := fun q => c2 (Int32.le_iff_toInt_le.mpr q)
      rw [if_neg c2, if_pos (by omega)]; rfl
theorem tray_t {k : Nat} (hk : k < 4) (P : PM) : f_Tr_isTray (nI k) P = nI 1 := by
  rw [tray_in, nI_ti (by omega)]
  exact if_pos (by omega)
theorem tray_f {x : Int32} (h : ¬ (0 ≤ x.toInt ∧ x.toInt < 4)) (P : PM) : f_Tr_isTray x P = nI 0 := by
  rw [tray_in]
  exact if_neg h
theorem w03 {x : Int32} {P : PM} : f_Mo_within x.toInt64 (0 : Int64) (3 : Int64) P = if 0 ≤ x.toInt ∧ x.toInt < 4 then nI 1 else nI 0 := by
  rw [within_i, tl_ti, show (0 : Int64).toInt = 0 from rfl, show (3 : Int64).toInt = 3 from rfl]
  by_cases c : 0 ≤ x.toInt ∧ x.toInt < 4
  · rw [if_pos c, if_pos (by omega)]
  · rw [if_neg c, if_neg (by omega)]
theorem rowL_2 (P : PM) (k a b : Nat) (x : Int64) (u v : Nat) : (rowL P k a b x).2 u v = if u = k ∧ a ≤ v ∧ v < b then x else P.2 u v := rfl
theorem rowL_1 (P : PM) (k a b : Nat) (x : Int64) : (rowL P k a b x).1 = P.1 := rfl
theorem sm_rowL {S : Nat → Bool} {P P' : PM} {k a b : Nat} {x : Int64} (h : sm S P P') (q : S k = true) : sm S P (rowL P' k a b x) := by
  refine ⟨fun o ho => h.1 o ho, fun o ho => ?_⟩
  rw [← h.2 o ho]
  funext v
  rw [rowL_2, if_neg]
  rintro ⟨rfl, _⟩
  rw [q] at ho
  cases ho
def nT (t : TV) (k q m : Nat) : TV := fun j => if j = k then (some q, m, fun _ => 0) else t j
def wT (t : TV) (k i : Nat) (x : Int64) : TV := fun j => if j = k then ((t k).1, (t k).2.1, fun l => if l = i then x else (t k).2.2 l) else t j
def trs (o : Nat) : Bool := 25 ≤ o && o ≤ 30
theorem CRep_tr {P P' : PM} {a : AS} {t : TV} (hC : CRep P a) (h : sm trs P P') (ht : CTr P' t) : CRep P' (setT a t) :=
  ⟨CNet_sm hC.1 h rfl rfl rfl rfl rfl, CSt_sm hC.2.1 h rfl rfl, CPast_sm hC.2.2.1 h (fun o ho => by simp [ps] at ho; simp [trs]; omega) (by rw [h.1 31 rfl]) (by rw [h.1 31 rfl]), ht, CIm_sm hC.2.2.2.2.1 h (fun o h1 h2 => by simp [trs]; omega), CTp_sm hC.2.2.2.2.2 h rfl rfl⟩
def mtrs (o : Nat) : Bool := o == 127 || o == 128 || o == 129
theorem MPast_ro {P P' : PM} {p : List SV} (h : MPast P p) (e : P'.1 110 = P.1 110) : MPast P' p := by
  unfold MPast MSt at *
  rw [e]
  exact h
theorem MRep_tr {P P' : PM} {a : AS} {t : TV} (hM : MRep P a) (h : sm mtrs P P') (ht : MTr P' t) : MRep P' (setT a t) := by
  obtain ⟨m1, m2, m3, m4, m5, m6⟩ := hM
  exact ⟨MNet_sm m1 h rfl, MSt_sm m2 h rfl, MPast_ro m3 (h.1 110 rfl), ht, MIm_ix m5 (h.1 111 rfl) (fun j _ => by rw [h.1 110 rfl]), MTp_sm m6 h rfl (by rw [h.1 109 rfl]) (by rw [h.1 109 rfl]) (by rw [h.1 109 rfl])⟩
theorem AOk_T {a : AS} {t : TV} (h : AOk a) (ht : ∀ k, (t k).2.1 ≤ 40 ∧ (∀ q, (t k).1 = some q → q ≤ 3) ∧ ((t k).1 = none → (t k).2.1 = 0)) : AOk (setT a t) :=
  ⟨h.1, h.2.1, h.2.2.1, h.2.2.2.1, ht, h.2.2.2.2.2.1, h.2.2.2.2.2.2⟩
theorem nums_l (k m : Nat) (hk : k < 4) (hm : m ≤ 40) : ∀ (n i : Nat) (P : PM), i ≤ m → m - i < n → l_Mo_numbers_64 n (nI k) (nI m) (nI i) P = some (nI 0, rowL P 129 (40 * k + i) (40 * k + m) 0) := by
  intro n
  induction n with
  | zero => intro i P _ h; omega
  | succ n ih =>
    intro i P hi hn
    rw [l_Mo_numbers_64]
    by_cases h : i = m
    · subst h
      rw [if_pos (nI_le (Nat.le_refl _) (by omega)), rowL_nil (Nat.le_refl _)]
      rfl
    · simp (disch := omega) only [z_add, z_mul, z_sub, z_subm, z_addm, z_lt_t, z_lt_f, z_le_t, z_le_f, z_eq_t, z_eq_f, z_eqm, z_meq, z_mm, z_ltm, z_mlt, z_lem, z_mle, z_cl, z_ck, u1_1, u1_2, u2_1, u2_2, ↓reduceIte, Option.bind_some, Option.bind_none, bd2_some, lb_eq, and_true, and_false, true_and, false_and, not_true_eq_false, not_false_eq_true, eq_self_iff_true, if_true, if_false, Nat.reduceEqDiff, Nat.reduceAdd, Nat.reduceMul, Nat.reduceSub, Bool.false_eq_true, zl0, zl1, zl2, zl3, zl4, zl5, zl6, zl7, zl8, zl9, zl10, zl11, zl12, zl13, zl14, zl15, zl16, zl17, zl18, zl19, zl20, zl22, zl23, zl24, zl25, zl30, zl31, zl32, zl33, zl34, zl35, zl36, zl37, zl38, zl39, zl40, zl41, zl42, zl43, zl45, zl48, zl49, zl57, zl58, zl59, zl60, zl61, zl62, zl63, zl64, zl91, zl93, zl97, zl98, zl99, zl100, zl113, zl114, zl115, zl116, zl117, zl122, zl124, zl125, zl127, zl128, zl136, zl200, zl201, zl202, zl203, zl204, zl205, zl206, zl207, zl208, zl209, zl210, zl211, zl212, zl213, zl214, zl215, zl216, zl217, zl218, zl219, zl220, zl235, zl236, zl255, zl280, zl287, zl900, zl999, zl1000, zl1001, zl1136, zl1960, zl3000, zl3001, zl3002, zl3003, zl3004, zl3005, zl3006, zl3007, zl3008, zl3009, zl268435456, zl1000000000]
      have := ih (i + 1) (u2 P 129 (40 * k + i) 0) (by omega) (by omega)
      rw [this, ← Nat.add_assoc, rowL_u2 (by omega)]
theorem numbers_ok {P : PM} {a : AS} {x y z : Int32} (hC : CRep P a) (hM : MRep P a) (hca : CCa P (aV a)) (hok : AOk a) :
    ∃ v P1 P2, f_Yr_numbers x y z P = some (v, P1) ∧ f_Mo_numbers x y z P1 = some (v, P2) ∧ Inv P2 := by
  have e0 : (0 : Int32).toInt = 0 := rfl
  have e3 : (3 : Int32).toInt = 3 := rfl
  have e40 : (40 : Int32).toInt = 40 := rfl
  by_cases hx : (0 ≤ x.toInt ∧ x.toInt < 4) ∧ (0 ≤ y.toInt ∧ y.toInt < 4)
  · by_cases hz : 0 ≤ z.toInt ∧ z.toInt ≤ 40
    · obtain ⟨k, hk, rfl⟩ : ∃ k, k < 4 ∧ x = nI k := (i_cases x 4 (by omega)).resolve_right (fun q => q hx.1)
      obtain ⟨q, hq, rfl⟩ : ∃ k, k < 4 ∧ y = nI k := (i_cases y 4 (by omega)).resolve_right (fun q => q hx.2)
      obtain ⟨m, hm, rfl⟩ : ∃ k, k < 41 ∧ z = nI k := (i_cases z 41 (by omega)).resolve_right (fun q => q (by omega))
      refine join (r := nI 0) (a' := setT a (nT (aT a) k q m)) hM ?_ ?_ (AOk_T hok (fun j => ?_))
      · have hs : sm trs P (rowL (u1 (u1 P 29 k (nI q)) 30 k (nI m)) (25 + k) 0 40 0) := sm_rowL (sm_u1 (sm_u1 sm_refl rfl) rfl) (by simp [trs]; omega)
        refine ⟨_, ?_, CRep_tr hC hs ?_, CCa_ro hca (hs.1 59 rfl) (hs.1 60 rfl), sm_mono hs (fun o ho => by simp [cl] at ho; simp [trs]; omega)⟩
        · unfold f_Yr_numbers f_Tr_make
          rw [tray_t hk, if_neg (by decide)]
          simp (disch := omega) only [z_add, z_mul, z_sub, z_subm, z_addm, z_lt_t, z_lt_f, z_le_t, z_le_f, z_eq_t, z_eq_f, z_eqm, z_meq, z_mm, z_ltm, z_mlt, z_lem, z_mle, z_cl, z_ck, u1_1, u1_2, u2_1, u2_2, ↓reduceIte, Option.bind_some, Option.bind_none, bd2_some, lb_eq, and_true, and_false, true_and, false_and, not_true_eq_false, not_false_eq_true, eq_self_iff_true, if_true, if_false, Nat.reduceEqDiff, Nat.reduceAdd, Nat.reduceMul, Nat.reduceSub, Bool.false_eq_true, zl0, zl1, zl2, zl3, zl4, zl5, zl6, zl7, zl8, zl9, zl10, zl11, zl12, zl13, zl14, zl15, zl16, zl17, zl18, zl19, zl20, zl22, zl23, zl24, zl25, zl30, zl31, zl32, zl33, zl34, zl35, zl36, zl37, zl38, zl39, zl40, zl41, zl42, zl43, zl45, zl48, zl49, zl57, zl58, zl59, zl60, zl61, zl62, zl63, zl64, zl91, zl93, zl97, zl98, zl99, zl100, zl113, zl114, zl115, zl116, zl117, zl122, zl124, zl125, zl127, zl128, zl136, zl200, zl201, zl202, zl203, zl204, zl205, zl206, zl207, zl208, zl209, zl210, zl211, zl212, zl213, zl214, zl215, zl216, zl217, zl218, zl219, zl220, zl235, zl236, zl255, zl280, zl287, zl900, zl999, zl1000, zl1001, zl1136, zl1960, zl3000, zl3001, zl3002, zl3003, zl3004, zl3005, zl3006, zl3007, zl3008, zl3009, zl268435456, zl1000000000]
          rw [fillAJJ (by omega)]
          rfl
        · intro j hj
          unfold nT
          by_cases c : j = k
          · subst c
            rw [if_pos rfl]
            refine ⟨?_, ?_, fun i hi => ?_⟩
            · rw [rowL_1]; simp (disch := omega) only [z_add, z_mul, z_sub, z_subm, z_addm, z_lt_t, z_lt_f, z_le_t, z_le_f, z_eq_t, z_eq_f, z_eqm, z_meq, z_mm, z_ltm, z_mlt, z_lem, z_mle, z_cl, z_ck, u1_1, u1_2, u2_1, u2_2, ↓reduceIte, Option.bind_some, Option.bind_none, bd2_some, lb_eq, and_true, and_false, true_and, false_and, not_true_eq_false, not_false_eq_true, eq_self_iff_true, if_true, if_false, Nat.reduceEqDiff, Nat.reduceAdd, Nat.reduceMul, Nat.reduceSub, Bool.false_eq_true, zl0, zl1, zl2, zl3, zl4, zl5, zl6, zl7, zl8, zl9, zl10, zl11, zl12, zl13, zl14, zl15, zl16, zl17, zl18, zl19, zl20, zl22, zl23, zl24, zl25, zl30, zl31, zl32, zl33, zl34, zl35, zl36, zl37, zl38, zl39, zl40, zl41, zl42, zl43, zl45, zl48, zl49, zl57, zl58, zl59, zl60, zl61, zl62, zl63, zl64, zl91, zl93, zl97, zl98, zl99, zl100, zl113, zl114, zl115, zl116, zl117, zl122, zl124, zl125, zl127, zl128, zl136, zl200, zl201, zl202, zl203, zl204, zl205, zl206, zl207, zl208, zl209, zl210, zl211, zl212, zl213, zl214, zl215, zl216, zl217, zl218, zl219, zl220, zl235, zl236, zl255, zl280, zl287, zl900, zl999, zl1000, zl1001, zl1136, zl1960, zl3000, zl3001, zl3002, zl3003, zl3004, zl3005, zl3006, zl3007, zl3008, zl3009, zl268435456, zl1000000000]; rfl
            · rw [rowL_1]; simp (disch := omega) only [z_add, z_mul, z_sub, z_subm, z_addm, z_lt_t, z_lt_f, z_le_t, z_le_f, z_eq_t, z_eq_f, z_eqm, z_meq, z_mm, z_ltm, z_mlt, z_lem, z_mle, z_cl, z_ck, u1_1, u1_2, u2_1, u2_2, ↓reduceIte, Option.bind_some, Option.bind_none, bd2_some, lb_eq, and_true, and_false, true_and, false_and, not_true_eq_false, not_false_eq_true, eq_self_iff_true, if_true, if_false, Nat.reduceEqDiff, Nat.reduceAdd, Nat.reduceMul, Nat.reduceSub, Bool.false_eq_true, zl0, zl1, zl2, zl3, zl4, zl5, zl6, zl7, zl8, zl9, zl10, zl11, zl12, zl13, zl14, zl15, zl16, zl17, zl18, zl19, zl20, zl22, zl23, zl24, zl25, zl30, zl31, zl32, zl33, zl34, zl35, zl36, zl37, zl38, zl39, zl40, zl41, zl42, zl43, zl45, zl48, zl49, zl57, zl58, zl59, zl60, zl61, zl62, zl63, zl64, zl91, zl93, zl97, zl98, zl99, zl100, zl113, zl114, zl115, zl116, zl117, zl122, zl124, zl125, zl127, zl128, zl136, zl200, zl201, zl202, zl203, zl204, zl205, zl206, zl207, zl208, zl209, zl210, zl211, zl212, zl213, zl214, zl215, zl216, zl217, zl218, zl219, zl220, zl235, zl236, zl255, zl280, zl287, zl900, zl999, zl1000, zl1001, zl1136, zl1960, zl3000, zl3001, zl3002, zl3003, zl3004, zl3005, zl3006, zl3007, zl3008, zl3009, zl268435456, zl1000000000]
            · rw [rowL_2, if_pos ⟨rfl, Nat.zero_le _, by have : i < m := hi; omega⟩]
          · obtain ⟨h1, h2, h3⟩ := hC.2.2.2.1 j hj
            rw [if_neg c]
            refine ⟨?_, ?_, fun i hi => ?_⟩
            · rw [rowL_1]; simp (disch := omega) only [z_add, z_mul, z_sub, z_subm, z_addm, z_lt_t, z_lt_f, z_le_t, z_le_f, z_eq_t, z_eq_f, z_eqm, z_meq, z_mm, z_ltm, z_mlt, z_lem, z_mle, z_cl, z_ck, u1_1, u1_2, u2_1, u2_2, ↓reduceIte, Option.bind_some, Option.bind_none, bd2_some, lb_eq, and_true, and_false, true_and, false_and, not_true_eq_false, not_false_eq_true, eq_self_iff_true, if_true, if_false, Nat.reduceEqDiff, Nat.reduceAdd, Nat.reduceMul, Nat.reduceSub, Bool.false_eq_true, zl0, zl1, zl2, zl3, zl4, zl5, zl6, zl7, zl8, zl9, zl10, zl11, zl12, zl13, zl14, zl15, zl16, zl17, zl18, zl19, zl20, zl22, zl23, zl24, zl25, zl30, zl31, zl32, zl33, zl34, zl35, zl36, zl37, zl38, zl39, zl40, zl41, zl42, zl43, zl45, zl48, zl49, zl57, zl58, zl59, zl60, zl61, zl62, zl63, zl64, zl91, zl93, zl97, zl98, zl99, zl100, zl113, zl114, zl115, zl116, zl117, zl122, zl124, zl125, zl127, zl128, zl136, zl200, zl201, zl202, zl203, zl204, zl205, zl206, zl207, zl208, zl209, zl210, zl211, zl212, zl213, zl214, zl215, zl216, zl217, zl218, zl219, zl220, zl235, zl236, zl255, zl280, zl287, zl900, zl999, zl1000, zl1001, zl1136, zl1960, zl3000, zl3001, zl3002, zl3003, zl3004, zl3005, zl3006, zl3007, zl3008, zl3009, zl268435456, zl1000000000, c]; exact h1
            · rw [rowL_1]; simp (disch := omega) only [z_add, z_mul, z_sub, z_subm, z_addm, z_lt_t, z_lt_f, z_le_t, z_le_f, z_eq_t, z_eq_f, z_eqm, z_meq, z_mm, z_ltm, z_mlt, z_lem, z_mle, z_cl, z_ck, u1_1, u1_2, u2_1, u2_2, ↓reduceIte, Option.bind_some, Option.bind_none, bd2_some, lb_eq, and_true, and_false, true_and, false_and, not_true_eq_false, not_false_eq_true, eq_self_iff_true, if_true, if_false, Nat.reduceEqDiff, Nat.reduceAdd, Nat.reduceMul, Nat.reduceSub, Bool.false_eq_true, zl0, zl1, zl2, zl3, zl4, zl5, zl6, zl7, zl8, zl9, zl10, zl11, zl12, zl13, zl14, zl15, zl16, zl17, zl18, zl19, zl20, zl22, zl23, zl24, zl25, zl30, zl31, zl32, zl33, zl34, zl35, zl36, zl37, zl38, zl39, zl40, zl41, zl42, zl43, zl45, zl48, zl49, zl57, zl58, zl59, zl60, zl61, zl62, zl63, zl64, zl91, zl93, zl97, zl98, zl99, zl100, zl113, zl114, zl115, zl116, zl117, zl122, zl124, zl125, zl127, zl128, zl136, zl200, zl201, zl202, zl203, zl204, zl205, zl206, zl207, zl208, zl209, zl210, zl211, zl212, zl213, zl214, zl215, zl216, zl217, zl218, zl219, zl220, zl235, zl236, zl255, zl280, zl287, zl900, zl999, zl1000, zl1001, zl1136, zl1960, zl3000, zl3001, zl3002, zl3003, zl3004, zl3005, zl3006, zl3007, zl3008, zl3009, zl268435456, zl1000000000, c]; exact h2
            · rw [rowL_2, if_neg (by omega)]; exact h3 i hi
      · intro P hM
        have hM1 : MRep (u1 P 109 0 (0 : Int32)) a := MRep_me hM me_th
        have hs : sm mtrs (u1 P 109 0 (0 : Int32)) (rowL (u1 (u1 (u1 P 109 0 (0 : Int32)) 127 k (nI q)) 128 k (nI m)) 129 (40 * k + 0) (40 * k + m) 0) := sm_rowL (sm_u1 (sm_u1 sm_refl rfl) rfl) rfl
        refine ⟨_, ?_, MRep_tr hM1 hs ?_, sm_trans sm_th (sm_mono hs (fun o ho => by simp [mo] at ho; simp [mtrs]; omega))⟩
        · have hwi : f_Mo_within (nI m).toInt64 (0 : Int64) (40 : Int64) (u1 P 109 0 (0 : Int32)) = nI 1 := by
            rw [within_i, tl_ti]
            exact if_pos hz
          unfold f_Mo_numbers
          rw [w03, if_pos hx.1, if_neg (by decide), w03, if_pos hx.2, if_neg (by decide), hwi, if_neg (by decide), z_ck (by omega) (by omega), z_ck (by omega) (by omega), z_cl (by omega)]
          exact nums_l k m hk (by omega) FU 0 _ (by omega) (by have := FU_big; omega)
        · intro j hj
          unfold nT
          by_cases c : j = k
          · subst c
            rw [if_pos rfl]
            refine ⟨?_, ?_, fun i hi => ?_⟩
            · rw [rowL_1]; simp (disch := omega) only [z_add, z_mul, z_sub, z_subm, z_addm, z_lt_t, z_lt_f, z_le_t, z_le_f, z_eq_t, z_eq_f, z_eqm, z_meq, z_mm, z_ltm, z_mlt, z_lem, z_mle, z_cl, z_ck, u1_1, u1_2, u2_1, u2_2, ↓reduceIte, Option.bind_some, Option.bind_none, bd2_some, lb_eq, and_true, and_false, true_and, false_and, not_true_eq_false, not_false_eq_true, eq_self_iff_true, if_true, if_false, Nat.reduceEqDiff, Nat.reduceAdd, Nat.reduceMul, Nat.reduceSub, Bool.false_eq_true, zl0, zl1, zl2, zl3, zl4, zl5, zl6, zl7, zl8, zl9, zl10, zl11, zl12, zl13, zl14, zl15, zl16, zl17, zl18, zl19, zl20, zl22, zl23, zl24, zl25, zl30, zl31, zl32, zl33, zl34, zl35, zl36, zl37, zl38, zl39, zl40, zl41, zl42, zl43, zl45, zl48, zl49, zl57, zl58, zl59, zl60, zl61, zl62, zl63, zl64, zl91, zl93, zl97, zl98, zl99, zl100, zl113, zl114, zl115, zl116, zl117, zl122, zl124, zl125, zl127, zl128, zl136, zl200, zl201, zl202, zl203, zl204, zl205, zl206, zl207, zl208, zl209, zl210, zl211, zl212, zl213, zl214, zl215, zl216, zl217, zl218, zl219, zl220, zl235, zl236, zl255, zl280, zl287, zl900, zl999, zl1000, zl1001, zl1136, zl1960, zl3000, zl3001, zl3002, zl3003, zl3004, zl3005, zl3006, zl3007, zl3008, zl3009, zl268435456, zl1000000000]; rfl
            · rw [rowL_1]; simp (disch := omega) only [z_add, z_mul, z_sub, z_subm, z_addm, z_lt_t, z_lt_f, z_le_t, z_le_f, z_eq_t, z_eq_f, z_eqm, z_meq, z_mm, z_ltm, z_mlt, z_lem, z_mle, z_cl, z_ck, u1_1, u1_2, u2_1, u2_2, ↓reduceIte, Option.bind_some, Option.bind_none, bd2_some, lb_eq, and_true, and_false, true_and, false_and, not_true_eq_false, not_false_eq_true, eq_self_iff_true, if_true, if_false, Nat.reduceEqDiff, Nat.reduceAdd, Nat.reduceMul, Nat.reduceSub, Bool.false_eq_true, zl0, zl1, zl2, zl3, zl4, zl5, zl6, zl7, zl8, zl9, zl10, zl11, zl12, zl13, zl14, zl15, zl16, zl17, zl18, zl19, zl20, zl22, zl23, zl24, zl25, zl30, zl31, zl32, zl33, zl34, zl35, zl36, zl37, zl38, zl39, zl40, zl41, zl42, zl43, zl45, zl48, zl49, zl57, zl58, zl59, zl60, zl61, zl62, zl63, zl64, zl91, zl93, zl97, zl98, zl99, zl100, zl113, zl114, zl115, zl116, zl117, zl122, zl124, zl125, zl127, zl128, zl136, zl200, zl201, zl202, zl203, zl204, zl205, zl206, zl207, zl208, zl209, zl210, zl211, zl212, zl213, zl214, zl215, zl216, zl217, zl218, zl219, zl220, zl235, zl236, zl255, zl280, zl287, zl900, zl999, zl1000, zl1001, zl1136, zl1960, zl3000, zl3001, zl3002, zl3003, zl3004, zl3005, zl3006, zl3007, zl3008, zl3009, zl268435456, zl1000000000]
            · rw [rowL_2, if_pos ⟨rfl, by omega, by have : i < m := hi; omega⟩]
          · obtain ⟨h1, h2, h3⟩ := hM1.2.2.2.1 j hj
            rw [if_neg c]
            refine ⟨?_, ?_, fun i hi => ?_⟩
            · rw [rowL_1]; simp (disch := omega) only [z_add, z_mul, z_sub, z_subm, z_addm, z_lt_t, z_lt_f, z_le_t, z_le_f, z_eq_t, z_eq_f, z_eqm, z_meq, z_mm, z_ltm, z_mlt, z_lem, z_mle, z_cl, z_ck, u1_1, u1_2, u2_1, u2_2, ↓reduceIte, Option.bind_some, Option.bind_none, bd2_some, lb_eq, and_true, and_false, true_and, false_and, not_true_eq_false, not_false_eq_true, eq_self_iff_true, if_true, if_false, Nat.reduceEqDiff, Nat.reduceAdd, Nat.reduceMul, Nat.reduceSub, Bool.false_eq_true, zl0, zl1, zl2, zl3, zl4, zl5, zl6, zl7, zl8, zl9, zl10, zl11, zl12, zl13, zl14, zl15, zl16, zl17, zl18, zl19, zl20, zl22, zl23, zl24, zl25, zl30, zl31, zl32, zl33, zl34, zl35, zl36, zl37, zl38, zl39, zl40, zl41, zl42, zl43, zl45, zl48, zl49, zl57, zl58, zl59, zl60, zl61, zl62, zl63, zl64, zl91, zl93, zl97, zl98, zl99, zl100, zl113, zl114, zl115, zl116, zl117, zl122, zl124, zl125, zl127, zl128, zl136, zl200, zl201, zl202, zl203, zl204, zl205, zl206, zl207, zl208, zl209, zl210, zl211, zl212, zl213, zl214, zl215, zl216, zl217, zl218, zl219, zl220, zl235, zl236, zl255, zl280, zl287, zl900, zl999, zl1000, zl1001, zl1136, zl1960, zl3000, zl3001, zl3002, zl3003, zl3004, zl3005, zl3006, zl3007, zl3008, zl3009, zl268435456, zl1000000000, c]; exact h1
            · rw [rowL_1]; simp (disch := omega) only [z_add, z_mul, z_sub, z_subm, z_addm, z_lt_t, z_lt_f, z_le_t, z_le_f, z_eq_t, z_eq_f, z_eqm, z_meq, z_mm, z_ltm, z_mlt, z_lem, z_mle, z_cl, z_ck, u1_1, u1_2, u2_1, u2_2, ↓reduceIte, Option.bind_some, Option.bind_none, bd2_some, lb_eq, and_true, and_false, true_and, false_and, not_true_eq_false, not_false_eq_true, eq_self_iff_true, if_true, if_false, Nat.reduceEqDiff, Nat.reduceAdd, Nat.reduceMul, Nat.reduceSub, Bool.false_eq_true, zl0, zl1, zl2, zl3, zl4, zl5, zl6, zl7, zl8, zl9, zl10, zl11, zl12, zl13, zl14, zl15, zl16, zl17, zl18, zl19, zl20, zl22, zl23, zl24, zl25, zl30, zl31, zl32, zl33, zl34, zl35, zl36, zl37, zl38, zl39, zl40, zl41, zl42, zl43, zl45, zl48, zl49, zl57, zl58, zl59, zl60, zl61, zl62, zl63, zl64, zl91, zl93, zl97, zl98, zl99, zl100, zl113, zl114, zl115, zl116, zl117, zl122, zl124, zl125, zl127, zl128, zl136, zl200, zl201, zl202, zl203, zl204, zl205, zl206, zl207, zl208, zl209, zl210, zl211, zl212, zl213, zl214, zl215, zl216, zl217, zl218, zl219, zl220, zl235, zl236, zl255, zl280, zl287, zl900, zl999, zl1000, zl1001, zl1136, zl1960, zl3000, zl3001, zl3002, zl3003, zl3004, zl3005, zl3006, zl3007, zl3008, zl3009, zl268435456, zl1000000000, c]; exact h2
            · have h40 := (hok.2.2.2.2.1 j).1
              rw [rowL_2, if_neg (by omega)]; exact h3 i hi
      · unfold nT
        by_cases c : j = k
        · rw [if_pos c]
          exact ⟨by show m ≤ 40; omega, fun r hr => by cases hr; omega, fun hr => by cases hr⟩
        · rw [if_neg c]
          exact hok.2.2.2.2.1 j
    · refine join (r := -nI 3) (a' := a) hM ⟨P, ?_, hC, hca, sm_refl⟩ (fun P hM => ⟨u1 P 109 0 (0 : Int32), ?_, MRep_me hM me_th, sm_th⟩) hok
      · unfold f_Yr_numbers
        have n1 : ¬ y < 0 := fun q => by have := Int32.lt_iff_toInt_lt.mp q; omega
        have n2 : y ≤ 3 := Int32.le_iff_toInt_le.mpr (by omega)
        rw [show f_Tr_isTray x P = nI 1 by (rw [tray_in]; exact if_pos hx.1), if_neg (by decide), if_neg n1, if_pos n2]
        by_cases c : z < 0
        · rw [if_pos c]; rfl
        · have c1 : ¬ z.toInt < 0 := fun q => c (Int32.lt_iff_toInt_lt.mpr q)
          rw [if_neg c, if_neg (fun q => by have := Int32.le_iff_toInt_le.mp q; omega)]
          rfl
      · have hwi : f_Mo_within z.toInt64 (0 : Int64) (40 : Int64) (u1 P 109 0 (0 : Int32)) = nI 0 := by
          rw [within_i, tl_ti]
          exact if_neg hz
        unfold f_Mo_numbers
        rw [w03, if_pos hx.1, if_neg (by decide), w03, if_pos hx.2, if_neg (by decide), hwi]
        rfl
  · refine join (r := -nI 2) (a' := a) hM ⟨P, ?_, hC, hca, sm_refl⟩ (fun P hM => ⟨u1 P 109 0 (0 : Int32), ?_, MRep_me hM me_th, sm_th⟩) hok
    · unfold f_Yr_numbers
      by_cases c : 0 ≤ x.toInt ∧ x.toInt < 4
      · rw [show f_Tr_isTray x P = nI 1 by (rw [tray_in]; exact if_pos c), if_neg (by decide)]
        by_cases c2 : y < 0
        · rw [if_pos c2]; rfl
        · have c3 : ¬ y.toInt < 0 := fun q => c2 (Int32.lt_iff_toInt_lt.mpr q)
          rw [if_neg c2, if_neg (fun q => by have := Int32.le_iff_toInt_le.mp q; omega)]
          rfl
      · rw [tray_f c]; rfl
    · unfold f_Mo_numbers
      rw [w03]
      by_cases c : 0 ≤ x.toInt ∧ x.toInt < 4
      · rw [if_pos c, if_neg (by decide), w03, if_neg (fun q => hx ⟨c, q⟩)]; rfl
      · rw [if_neg c]; rfl
/-- what a tray refuses -/
theorem miss_C {P : PM} {t : TV} {k : Nat} (h : CTr P t) (hk : k < 4) (hq : ∀ q, (t k).1 = some q → q ≤ 3) : f_Tr_isMissing (nI k) P = some (if (t k).1 = none then nI 1 else nI 0) := by
  unfold f_Tr_isMissing j_Tr_isMissing_18
  rw [tray_t hk, if_neg (by decide), z_ck (by omega) (by omega), z_cl (by omega), (h k hk).1]
  cases e : (t k).1 with
  | none => rfl
  | some q =>
    have := hq q e
    rw [oI_s, if_neg (by simp (disch := omega) only [z_add, z_mul, z_sub, z_subm, z_addm, z_lt_t, z_lt_f, z_le_t, z_le_f, z_eq_t, z_eq_f, z_eqm, z_meq, z_mm, z_ltm, z_mlt, z_lem, z_mle, z_cl, z_ck, u1_1, u1_2, u2_1, u2_2, ↓reduceIte, Option.bind_some, Option.bind_none, bd2_some, lb_eq, and_true, and_false, true_and, false_and, not_true_eq_false, not_false_eq_true, eq_self_iff_true, if_true, if_false, Nat.reduceEqDiff, Nat.reduceAdd, Nat.reduceMul, Nat.reduceSub, Bool.false_eq_true, zl0, zl1, zl2, zl3, zl4, zl5, zl6, zl7, zl8, zl9, zl10, zl11, zl12, zl13, zl14, zl15, zl16, zl17, zl18, zl19, zl20, zl22, zl23, zl24, zl25, zl30, zl31, zl32, zl33, zl34, zl35, zl36, zl37, zl38, zl39, zl40, zl41, zl42, zl43, zl45, zl48, zl49, zl57, zl58, zl59, zl60, zl61, zl62, zl63, zl64, zl91, zl93, zl97, zl98, zl99, zl100, zl113, zl114, zl115, zl116, zl117, zl122, zl124, zl125, zl127, zl128, zl136, zl200, zl201, zl202, zl203, zl204, zl205, zl206, zl207, zl208, zl209, zl210, zl211, zl212, zl213, zl214, zl215, zl216, zl217, zl218, zl219, zl220, zl235, zl236, zl255, zl280, zl287, zl900, zl999, zl1000, zl1001, zl1136, zl1960, zl3000, zl3001, zl3002, zl3003, zl3004, zl3005, zl3006, zl3007, zl3008, zl3009, zl268435456, zl1000000000])]
    rfl
theorem len_C {P : PM} {t : TV} {k : Nat} (h : CTr P t) (hk : k < 4) : f_Tr_lengthOf (nI k) P = some (nI (t k).2.1) := by
  unfold f_Tr_lengthOf
  rw [tray_t hk, if_neg (by decide), z_ck (by omega) (by omega), z_cl (by omega), (h k hk).2.1]
theorem num_C {P : PM} {t : TV} {k i : Nat} (h : CTr P t) (hk : k < 4) (hi : i < (t k).2.1) (h40 : i < 40) : f_Tr_numberAt (nI k) (nI i) P = some ((t k).2.2 i) := by
  unfold f_Tr_numberAt
  rw [tray_t hk, if_neg (by decide)]
  have := (h k hk).2.2 i hi
  simp (disch := omega) only [z_add, z_mul, z_sub, z_subm, z_addm, z_lt_t, z_lt_f, z_le_t, z_le_f, z_eq_t, z_eq_f, z_eqm, z_meq, z_mm, z_ltm, z_mlt, z_lem, z_mle, z_cl, z_ck, u1_1, u1_2, u2_1, u2_2, ↓reduceIte, Option.bind_some, Option.bind_none, bd2_some, lb_eq, and_true, and_false, true_and, false_and, not_true_eq_false, not_false_eq_true, eq_self_iff_true, if_true, if_false, Nat.reduceEqDiff, Nat.reduceAdd, Nat.reduceMul, Nat.reduceSub, Bool.false_eq_true, zl0, zl1, zl2, zl3, zl4, zl5, zl6, zl7, zl8, zl9, zl10, zl11, zl12, zl13, zl14, zl15, zl16, zl17, zl18, zl19, zl20, zl22, zl23, zl24, zl25, zl30, zl31, zl32, zl33, zl34, zl35, zl36, zl37, zl38, zl39, zl40, zl41, zl42, zl43, zl45, zl48, zl49, zl57, zl58, zl59, zl60, zl61, zl62, zl63, zl64, zl91, zl93, zl97, zl98, zl99, zl100, zl113, zl114, zl115, zl116, zl117, zl122, zl124, zl125, zl127, zl128, zl136, zl200, zl201, zl202, zl203, zl204, zl205, zl206, zl207, zl208, zl209, zl210, zl211, zl212, zl213, zl214, zl215, zl216, zl217, zl218, zl219, zl220, zl235, zl236, zl255, zl280, zl287, zl900, zl999, zl1000, zl1001, zl1136, zl1960, zl3000, zl3001, zl3002, zl3003, zl3004, zl3005, zl3006, zl3007, zl3008, zl3009, zl268435456, zl1000000000]
  rw [this]
theorem noTray_k {P : PM} {t : TV} {k : Nat} (h : MTr P t) (hk : k < 4) (hq : ∀ q, (t k).1 = some q → q ≤ 3) : f_Mo_noTray (nI k) P = some (if (t k).1 = none then -nI 6 else nI 0) := by
  have e : f_Mo_within (nI k).toInt64 (0 : Int64) (3 : Int64) P = nI 1 := by
    rw [w03, nI_ti (by omega)]
    exact if_pos (by omega)
  unfold f_Mo_noTray
  rw [e, if_neg (by decide), z_ck hk (by omega), z_cl (by omega), (h k hk).1]
  cases e : (t k).1 with
  | none => rfl
  | some q =>
    have := hq q e
    rw [oI_s, if_neg (by simp (disch := omega) only [z_add, z_mul, z_sub, z_subm, z_addm, z_lt_t, z_lt_f, z_le_t, z_le_f, z_eq_t, z_eq_f, z_eqm, z_meq, z_mm, z_ltm, z_mlt, z_lem, z_mle, z_cl, z_ck, u1_1, u1_2, u2_1, u2_2, ↓reduceIte, Option.bind_some, Option.bind_none, bd2_some, lb_eq, and_true, and_false, true_and, false_and, not_true_eq_false, not_false_eq_true, eq_self_iff_true, if_true, if_false, Nat.reduceEqDiff, Nat.reduceAdd, Nat.reduceMul, Nat.reduceSub, Bool.false_eq_true, zl0, zl1, zl2, zl3, zl4, zl5, zl6, zl7, zl8, zl9, zl10, zl11, zl12, zl13, zl14, zl15, zl16, zl17, zl18, zl19, zl20, zl22, zl23, zl24, zl25, zl30, zl31, zl32, zl33, zl34, zl35, zl36, zl37, zl38, zl39, zl40, zl41, zl42, zl43, zl45, zl48, zl49, zl57, zl58, zl59, zl60, zl61, zl62, zl63, zl64, zl91, zl93, zl97, zl98, zl99, zl100, zl113, zl114, zl115, zl116, zl117, zl122, zl124, zl125, zl127, zl128, zl136, zl200, zl201, zl202, zl203, zl204, zl205, zl206, zl207, zl208, zl209, zl210, zl211, zl212, zl213, zl214, zl215, zl216, zl217, zl218, zl219, zl220, zl235, zl236, zl255, zl280, zl287, zl900, zl999, zl1000, zl1001, zl1136, zl1960, zl3000, zl3001, zl3002, zl3003, zl3004, zl3005, zl3006, zl3007, zl3008, zl3009, zl268435456, zl1000000000])]
    rfl
theorem noTray_x {P : PM} {x : Int32} (hx : ¬ (0 ≤ x.toInt ∧ x.toInt < 4)) : f_Mo_noTray x P = some (-nI 2) := by
  have e : f_Mo_within x.toInt64 (0 : Int64) (3 : Int64) P = nI 0 := by
    rw [w03]
    exact if_neg hx
  unfold f_Mo_noTray
  rw [e]
  rfl
theorem write_ok {P : PM} {a : AS} {x i : Int32} {y : Int64} (hC : CRep P a) (hM : MRep P a) (hca : CCa P (aV a)) (hok : AOk a) :
    ∃ v P1 P2, f_Yr_write x i y P = some (v, P1) ∧ f_Mo_write x i y P1 = some (v, P2) ∧ Inv P2 := by
  have hq := fun k => (hok.2.2.2.2.1 k).2.1
  rcases i_cases x 4 (by omega) with ⟨k, hk, rfl⟩ | hx
  · have h40 := (hok.2.2.2.2.1 k).1
    by_cases hm : (aT a k).1 = none
    · refine joinG (r := (-6 : Int64)) (a' := a) hM ⟨P, ?_, hC, hca, sm_refl⟩ (fun P hM => ⟨u1 P 109 0 (0 : Int32), ?_, MRep_me hM me_th, sm_th⟩) hok
      · unfold f_Yr_write
        rw [tray_t hk, if_neg (by decide), miss_C hC.2.2.2.1 hk (hq k), if_pos hm]
        rfl
      · have hM1 : MRep (u1 P 109 0 (0 : Int32)) a := MRep_me hM me_th
        unfold f_Mo_write
        rw [noTray_k hM1.2.2.2.1 hk (hq k), if_pos hm]
        rfl
    · by_cases hi : 0 ≤ i.toInt ∧ i.toInt < (aT a k).2.1
      · obtain ⟨j, hj, rfl⟩ : ∃ j, j < (aT a k).2.1 ∧ i = nI j := (i_cases i _ (by omega)).resolve_right (fun q => q hi)
        obtain ⟨q, hqq⟩ : ∃ q, (aT a k).1 = some q := by cases e : (aT a k).1 with | none => exact absurd e hm | some q => exact ⟨q, rfl⟩
        refine joinG (r := f_Tr_cut (nI q) y P) (a' := setT a (wT (aT a) k j (f_Tr_cut (nI q) y P))) hM ?_ ?_ (AOk_T hok (fun l => ?_))
        · have hs : sm trs P (u2 P (25 + k) j (f_Tr_cut (nI q) y P)) := sm_u2 sm_refl (by simp [trs]; omega)
          refine ⟨_, ?_, CRep_tr hC hs ?_, CCa_ro hca (hs.1 59 rfl) (hs.1 60 rfl), sm_mono hs (fun o ho => by simp [cl] at ho; simp [trs]; omega)⟩
          · have h29 : P.1 29 k = nI q := by rw [(hC.2.2.2.1 k hk).1, hqq]; rfl
            have e1 : f_Tr_put (nI k) (nI j) y P = some (u2 P (25 + k) j (f_Tr_cut (nI q) y P)) := by
              unfold f_Tr_put
              rw [tray_t hk, if_neg (by decide)]
              simp (disch := omega) only [z_add, z_mul, z_sub, z_subm, z_addm, z_lt_t, z_lt_f, z_le_t, z_le_f, z_eq_t, z_eq_f, z_eqm, z_meq, z_mm, z_ltm, z_mlt, z_lem, z_mle, z_cl, z_ck, u1_1, u1_2, u2_1, u2_2, ↓reduceIte, Option.bind_some, Option.bind_none, bd2_some, lb_eq, and_true, and_false, true_and, false_and, not_true_eq_false, not_false_eq_true, eq_self_iff_true, if_true, if_false, Nat.reduceEqDiff, Nat.reduceAdd, Nat.reduceMul, Nat.reduceSub, Bool.false_eq_true, zl0, zl1, zl2, zl3, zl4, zl5, zl6, zl7, zl8, zl9, zl10, zl11, zl12, zl13, zl14, zl15, zl16, zl17, zl18, zl19, zl20, zl22, zl23, zl24, zl25, zl30, zl31, zl32, zl33, zl34, zl35, zl36, zl37, zl38, zl39, zl40, zl41, zl42, zl43, zl45, zl48, zl49, zl57, zl58, zl59, zl60, zl61, zl62, zl63, zl64, zl91, zl93, zl97, zl98, zl99, zl100, zl113, zl114, zl115, zl116, zl117, zl122, zl124, zl125, zl127, zl128, zl136, zl200, zl201, zl202, zl203, zl204, zl205, zl206, zl207, zl208, zl209, zl210, zl211, zl212, zl213, zl214, zl215, zl216, zl217, zl218, zl219, zl220, zl235, zl236, zl255, zl280, zl287, zl900, zl999, zl1000, zl1001, zl1136, zl1960, zl3000, zl3001, zl3002, zl3003, zl3004, zl3005, zl3006, zl3007, zl3008, zl3009, zl268435456, zl1000000000, h29]
            have e2 : f_Tr_numberAt (nI k) (nI j) (u2 P (25 + k) j (f_Tr_cut (nI q) y P)) = some (f_Tr_cut (nI q) y P) := by
              unfold f_Tr_numberAt
              rw [tray_t hk, if_neg (by decide)]
              simp (disch := omega) only [z_add, z_mul, z_sub, z_subm, z_addm, z_lt_t, z_lt_f, z_le_t, z_le_f, z_eq_t, z_eq_f, z_eqm, z_meq, z_mm, z_ltm, z_mlt, z_lem, z_mle, z_cl, z_ck, u1_1, u1_2, u2_1, u2_2, ↓reduceIte, Option.bind_some, Option.bind_none, bd2_some, lb_eq, and_true, and_false, true_and, false_and, not_true_eq_false, not_false_eq_true, eq_self_iff_true, if_true, if_false, Nat.reduceEqDiff, Nat.reduceAdd, Nat.reduceMul, Nat.reduceSub, Bool.false_eq_true, zl0, zl1, zl2, zl3, zl4, zl5, zl6, zl7, zl8, zl9, zl10, zl11, zl12, zl13, zl14, zl15, zl16, zl17, zl18, zl19, zl20, zl22, zl23, zl24, zl25, zl30, zl31, zl32, zl33, zl34, zl35, zl36, zl37, zl38, zl39, zl40, zl41, zl42, zl43, zl45, zl48, zl49, zl57, zl58, zl59, zl60, zl61, zl62, zl63, zl64, zl91, zl93, zl97, zl98, zl99, zl100, zl113, zl114, zl115, zl116, zl117, zl122, zl124, zl125, zl127, zl128, zl136, zl200, zl201, zl202, zl203, zl204, zl205, zl206, zl207, zl208, zl209, zl210, zl211, zl212, zl213, zl214, zl215, zl216, zl217, zl218, zl219, zl220, zl235, zl236, zl255, zl280, zl287, zl900, zl999, zl1000, zl1001, zl1136, zl1960, zl3000, zl3001, zl3002, zl3003, zl3004, zl3005, zl3006, zl3007, zl3008, zl3009, zl268435456, zl1000000000]
            unfold f_Yr_write
            rw [tray_t hk, if_neg (by decide), miss_C hC.2.2.2.1 hk (hq k), if_neg hm, Option.bind_some, if_pos (by decide), len_C hC.2.2.2.1 hk]
            simp (disch := omega) only [z_add, z_mul, z_sub, z_subm, z_addm, z_lt_t, z_lt_f, z_le_t, z_le_f, z_eq_t, z_eq_f, z_eqm, z_meq, z_mm, z_ltm, z_mlt, z_lem, z_mle, z_cl, z_ck, u1_1, u1_2, u2_1, u2_2, ↓reduceIte, Option.bind_some, Option.bind_none, bd2_some, lb_eq, and_true, and_false, true_and, false_and, not_true_eq_false, not_false_eq_true, eq_self_iff_true, if_true, if_false, Nat.reduceEqDiff, Nat.reduceAdd, Nat.reduceMul, Nat.reduceSub, Bool.false_eq_true, zl0, zl1, zl2, zl3, zl4, zl5, zl6, zl7, zl8, zl9, zl10, zl11, zl12, zl13, zl14, zl15, zl16, zl17, zl18, zl19, zl20, zl22, zl23, zl24, zl25, zl30, zl31, zl32, zl33, zl34, zl35, zl36, zl37, zl38, zl39, zl40, zl41, zl42, zl43, zl45, zl48, zl49, zl57, zl58, zl59, zl60, zl61, zl62, zl63, zl64, zl91, zl93, zl97, zl98, zl99, zl100, zl113, zl114, zl115, zl116, zl117, zl122, zl124, zl125, zl127, zl128, zl136, zl200, zl201, zl202, zl203, zl204, zl205, zl206, zl207, zl208, zl209, zl210, zl211, zl212, zl213, zl214, zl215, zl216, zl217, zl218, zl219, zl220, zl235, zl236, zl255, zl280, zl287, zl900, zl999, zl1000, zl1001, zl1136, zl1960, zl3000, zl3001, zl3002, zl3003, zl3004, zl3005, zl3006, zl3007, zl3008, zl3009, zl268435456, zl1000000000, e1, e2]
          · intro l hl
            unfold wT
            by_cases c : l = k
            · subst c
              rw [if_pos rfl]
              obtain ⟨h1, h2, h3⟩ := hC.2.2.2.1 l hl
              refine ⟨h1, h2, fun i hi => ?_⟩
              show (if 25 + l = 25 + l ∧ i = j then _ else _) = if i = j then _ else _
              by_cases c2 : i = j
              · rw [if_pos ⟨rfl, c2⟩, if_pos c2]
              · rw [if_neg (fun q => c2 q.2), if_neg c2]; exact h3 i hi
            · obtain ⟨h1, h2, h3⟩ := hC.2.2.2.1 l hl
              rw [if_neg c]
              refine ⟨h1, h2, fun i hi => ?_⟩
              rw [u2_2, if_neg (by omega)]; exact h3 i hi
        · intro P' hM
          have hM1 : MRep (u1 P' 109 0 (0 : Int32)) a := MRep_me hM me_th
          have hs : sm mtrs (u1 P' 109 0 (0 : Int32)) (u2 (u1 P' 109 0 (0 : Int32)) 129 (40 * k + j) (f_Tr_cut (nI q) y P)) := sm_u2 sm_refl rfl
          refine ⟨_, ?_, MRep_tr hM1 hs ?_, sm_trans sm_th (sm_mono hs (fun o ho => by simp [mo] at ho; simp [mtrs]; omega))⟩
          · have h127 : (u1 P' 109 0 (0 : Int32)).1 127 k = nI q := by rw [(hM1.2.2.2.1 k hk).1, hqq]; rfl
            have h128 : (u1 P' 109 0 (0 : Int32)).1 128 k = nI (aT a k).2.1 := (hM1.2.2.2.1 k hk).2.1
            have hwi : f_Mo_within (nI j).toInt64 (0 : Int64) ((nI (aT a k).2.1 - (1 : Int32)).toInt64) (u1 P' 109 0 (0 : Int32)) = nI 1 := by
              rw [within_i, tl_ti, tl_ti, show (1 : Int32) = nI 1 from rfl, pk_sub_toInt (by omega) (by omega), nI_ti (by omega), show (0 : Int64).toInt = 0 from rfl, if_pos (by omega)]
            unfold f_Mo_write
            rw [noTray_k hM1.2.2.2.1 hk (hq k), if_neg hm, Option.bind_some, if_pos (by decide), z_ck (by omega) (by omega), z_cl (by omega), h128, hwi, if_neg (by decide), h127]
            rw [show (40 : Int32) = nI 40 from rfl, pk_mul, nI_add, z_ck (by omega) (by omega), z_ck (by omega) (by omega), z_ck (by omega) (by omega), z_cl (by omega), u2_2, if_pos ⟨rfl, rfl⟩]
            rfl
          · intro l hl
            unfold wT
            by_cases c : l = k
            · subst c
              rw [if_pos rfl]
              obtain ⟨h1, h2, h3⟩ := hM1.2.2.2.1 l hl
              refine ⟨h1, h2, fun i hi => ?_⟩
              show (if 129 = 129 ∧ 40 * l + i = 40 * l + j then _ else _) = if i = j then _ else _
              by_cases c2 : i = j
              · rw [if_pos ⟨rfl, by omega⟩, if_pos c2]
              · rw [if_neg (fun q => c2 (by omega)), if_neg c2]; exact h3 i hi
            · obtain ⟨h1, h2, h3⟩ := hM1.2.2.2.1 l hl
              have h40l := (hok.2.2.2.2.1 l).1
              rw [if_neg c]
              refine ⟨h1, h2, fun i hi => ?_⟩
              rw [u2_2, if_neg (by omega)]; exact h3 i hi
        · unfold wT
          by_cases c : l = k
          · rw [if_pos c]
            exact hok.2.2.2.2.1 k
          · rw [if_neg c]
            exact hok.2.2.2.2.1 l
      · refine joinG (r := (-7 : Int64)) (a' := a) hM ⟨P, ?_, hC, hca, sm_refl⟩ (fun P hM => ⟨u1 P 109 0 (0 : Int32), ?_, MRep_me hM me_th, sm_th⟩) hok
        · unfold f_Yr_write
          rw [tray_t hk, if_neg (by decide), miss_C hC.2.2.2.1 hk (hq k), if_neg hm, Option.bind_some, if_pos (by decide)]
          by_cases c : i < 0
          · rw [if_pos c]
          · have c1 : ¬ i.toInt < 0 := fun q => c (Int32.lt_iff_toInt_lt.mpr q)
            have c2 : ¬ i < nI (aT a k).2.1 := fun q => by
              have := Int32.lt_iff_toInt_lt.mp q
              rw [nI_ti (by omega)] at this
              omega
            rw [if_neg c, len_C hC.2.2.2.1 hk, Option.bind_some, if_neg c2]
        · have hM1 : MRep (u1 P 109 0 (0 : Int32)) a := MRep_me hM me_th
          have h128 : (u1 P 109 0 (0 : Int32)).1 128 k = nI (aT a k).2.1 := (hM1.2.2.2.1 k hk).2.1
          have hwi : f_Mo_within i.toInt64 (0 : Int64) ((nI (aT a k).2.1 - (1 : Int32)).toInt64) (u1 P 109 0 (0 : Int32)) = nI 0 := by
            rw [within_i, tl_ti, tl_ti, show (1 : Int32) = nI 1 from rfl, pk_sub_toInt (by omega) (by omega), show (0 : Int64).toInt = 0 from rfl, if_neg (by omega)]
          unfold f_Mo_write
          rw [noTray_k hM1.2.2.2.1 hk (hq k), if_neg hm, Option.bind_some, if_pos (by decide), z_ck (by omega) (by omega), z_cl (by omega), h128, hwi]
          rfl
  · refine joinG (r := (-2 : Int64)) (a' := a) hM ⟨P, ?_, hC, hca, sm_refl⟩ (fun P hM => ⟨u1 P 109 0 (0 : Int32), ?_, MRep_me hM me_th, sm_th⟩) hok
    · unfold f_Yr_write
      rw [tray_f hx]; rfl
    · have hM1 : MRep (u1 P 109 0 (0 : Int32)) a := MRep_me hM me_th
      unfold f_Mo_write
      rw [noTray_x hx]; rfl
