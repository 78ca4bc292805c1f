/-! seasons -/
def nd (x : Int32) : Int32 := (1103515245 : Int32) * x + (12345 : Int32)
def shx (x : Int32) : Int32 := (x.toUInt32 >>> ((16 : Int32).toUInt32 &&& Int32.toUInt32 31)).toInt32
def hh (x : Int32) : Nat := x.toBitVec.toNat / 65536
theorem shx_n (x : Int32) : shx x = nI (hh x) ∧ hh x < 65536 := by
  have h := pk_ushr x (16 : Int32) 16 (by decide +kernel)
  have hlt : hh x < 65536 := by
    unfold hh
    have := x.toBitVec.isLt
    omega
  refine ⟨?_, hlt⟩
  apply Int32.toBitVec_inj.mp
  apply BitVec.eq_of_toNat_eq
  rw [pk_tn (by omega)]
  exact h
def dnum (x : Int32) : Nat :=
  if hh (nd x) % 6 < 3 then hh (nd (nd x)) % 7 else if hh (nd x) % 6 = 3 then 10 + hh (nd (nd x)) % 7
  else if hh (nd x) % 6 = 4 then 100 + 10 * (hh (nd (nd x)) % 7) + hh (nd (nd (nd x))) % 10 else 1001 + 100 * (hh (nd (nd x)) % 7) + hh (nd (nd (nd x))) % 9
def dnx (x : Int32) : Int32 := if hh (nd x) % 6 < 4 then nd (nd x) else nd (nd (nd x))
noncomputable def srun (v : NV) : Nat → Int32 → SV → Nat → Nat × SV
  | 0, _, s, d => (d, s)
  | n + 1, x, s, d => srun v n (dnx x) (dk v s (dnum x)).2 (if (dk v s (dnum x)).1 = 0 then d + 1 else d)
theorem dnum_lt (x : Int32) : dnum x < 2000 := by
  unfold dnum
  split
  · omega
  · split
    · omega
    · split <;> omega
theorem dk_n {v : NV} {s : SV} {k : Nat} (hk : k < 2000) (h : (dk v s k).1 ≠ 0) : (dk v s k).2 = s := by
  have e : dd v s (lN k) = dk v s k := by
    unfold dd
    rw [lN_ti (by omega), if_pos (by omega)]
    rfl
  rw [← e] at h ⊢
  exact dd_n h
theorem srun_ok {v : NV} : ∀ {n : Nat} {x : Int32} {s : SV} {d : Nat}, SVok v s → SVok v (srun v n x s d).2
  | 0, _, _, _, h => h
  | n + 1, x, s, d, h => by
    unfold srun
    exact srun_ok (dk_ok h)
theorem srun_d {v : NV} : ∀ {n : Nat} {x : Int32} {s : SV} {d : Nat}, d ≤ (srun v n x s d).1 ∧ (srun v n x s d).1 ≤ d + n
  | 0, _, _, _ => ⟨Nat.le_refl _, Nat.le_refl _⟩
  | n + 1, x, s, d => by
    have := @srun_d v n (dnx x) (dk v s (dnum x)).2 (if (dk v s (dnum x)).1 = 0 then d + 1 else d)
    unfold srun
    split at this
    · rename_i c; rw [if_pos c]; omega
    · rename_i c; rw [if_neg c]; omega
theorem srun_0 {v : NV} : ∀ {n : Nat} {x : Int32} {s : SV} {d : Nat}, (srun v n x s d).1 = d → (srun v n x s d).2 = s
  | 0, _, _, _, _ => rfl
  | n + 1, x, s, d, h => by
    unfold srun at *
    by_cases c : (dk v s (dnum x)).1 = 0
    · rw [if_pos c] at h
      have := (@srun_d v n (dnx x) (dk v s (dnum x)).2 (d + 1)).1
      omega
    · rw [if_neg c] at h ⊢
      have := srun_0 h
      rw [this]
      exact dk_n (dnum_lt x) c
theorem draw_C (P : PM) : f_De_draw P = some (nI (hh (nd (P.1 31 8))), u1 P 31 8 (nd (P.1 31 8))) := by
  have h := (shx_n (nd (P.1 31 8))).1
  unfold f_De_draw
  rw [u1_1, if_pos ⟨rfl, rfl⟩]
  rw [← h]
  rfl
def tr5 (o : Nat) : Bool := on4 21 o || o == 31
theorem tryDrawn_C {P : PM} {v : NV} {s : SV} {x : Int32} (hx : P.1 31 8 = x) (hn : CNet P 14 v) (hv : NVok v) (h : CSt P 21 s) (hs : SVok v s) :
    ∃ P', f_De_tryDrawn P = some (nI (dk v s (dnum x)).1, P') ∧ CSt P' 21 (dk v s (dnum x)).2 ∧ P'.1 31 8 = dnx x ∧ sm tr5 P P' ∧ P'.1 31 5 = P.1 31 5 ∧ P'.1 31 7 = P.1 31 7 := by
  obtain ⟨P1, hP1⟩ : ∃ P1, P1 = u1 P 31 8 (nd x) := ⟨_, rfl⟩
  obtain ⟨P2, hP2⟩ : ∃ P2, P2 = u1 P1 31 8 (nd (nd x)) := ⟨_, rfl⟩
  obtain ⟨P3, hP3⟩ : ∃ P3, P3 = u1 P2 31 8 (nd (nd (nd x))) := ⟨_, rfl⟩
  have x1 : P1.1 31 8 = nd x := by rw [hP1, u1_1, if_pos ⟨rfl, rfl⟩]
  have x2 : P2.1 31 8 = nd (nd x) := by rw [hP2, u1_1, if_pos ⟨rfl, rfl⟩]
  have x3 : P3.1 31 8 = nd (nd (nd x)) := by rw [hP3, u1_1, if_pos ⟨rfl, rfl⟩]
  have d1 : f_De_draw P = some (nI (hh (nd x)), P1) := by rw [draw_C, hx, hP1]
  have d2 : f_De_draw P1 = some (nI (hh (nd (nd x))), P2) := by rw [draw_C, x1, hP2]
  have d3 : f_De_draw P2 = some (nI (hh (nd (nd (nd x)))), P3) := by rw [draw_C, x2, hP3]
  have q2 : sm (fun o => o == 31) P P2 := by rw [hP2, hP1]; exact sm_u1 (sm_u1 sm_refl rfl) rfl
  have q3 : sm (fun o => o == 31) P P3 := by rw [hP3]; exact sm_u1 q2 rfl
  have f2 : P2.1 31 5 = P.1 31 5 ∧ P2.1 31 7 = P.1 31 7 := by rw [hP2, hP1]; exact ⟨by rw [u1_1, if_neg (by omega), u1_1, if_neg (by omega)], by rw [u1_1, if_neg (by omega), u1_1, if_neg (by omega)]⟩
  have f3 : P3.1 31 5 = P.1 31 5 ∧ P3.1 31 7 = P.1 31 7 := by rw [hP3]; exact ⟨by rw [u1_1, if_neg (by omega), f2.1], by rw [u1_1, if_neg (by omega), f2.2]⟩
  have b1 := (shx_n (nd x)).2
  have b2 := (shx_n (nd (nd x))).2
  have b3 := (shx_n (nd (nd (nd x)))).2
  have n2 : CNet P2 14 v := CNet_sm hn q2 rfl rfl rfl rfl rfl
  have n3 : CNet P3 14 v := CNet_sm hn q3 rfl rfl rfl rfl rfl
  have s2 : CSt P2 21 s := CSt_sm h q2 rfl rfl
  have s3 : CSt P3 21 s := CSt_sm h q3 rfl rfl
  have fin : ∀ (Pk P' : PM), sm (fun o => o == 31) P Pk → sm (on4 21) Pk P' → Pk.1 31 5 = P.1 31 5 ∧ Pk.1 31 7 = P.1 31 7 → sm tr5 P P' ∧ P'.1 31 5 = P.1 31 5 ∧ P'.1 31 7 = P.1 31 7 ∧ P'.1 31 8 = Pk.1 31 8 := by
    intro Pk P' h1 h2 h3
    refine ⟨sm_trans (sm_mono h1 (fun o q => by simp [tr5] at q; simp; omega)) (sm_mono h2 (fun o q => by simp [tr5] at q; exact q.1)), by rw [h2.1 31 rfl]; exact h3.1, by rw [h2.1 31 rfl]; exact h3.2, by rw [h2.1 31 rfl]⟩
  unfold f_De_tryDrawn
  rw [d1, bd2_some, lb_eq, d2, bd2_some, lb_eq, show (6 : Int32) = nI 6 from rfl, pk_rem (by omega) (by omega) (by omega), show (7 : Int32) = nI 7 from rfl, pk_rem (by omega) (by omega) (by omega), d3, bd2_some, bd2_some, show (10 : Int32) = nI 10 from rfl, pk_rem (by omega) (by omega) (by omega), show (9 : Int32) = nI 9 from rfl, pk_rem (by omega) (by omega) (by omega), show (1 : Int32) = nI 1 from rfl, nI_add]
  unfold dnum dnx
  by_cases c1 : hh (nd x) % 6 < 3
  · rw [if_neg (by simp (disch := omega) only [z_add, z_mul, z_sub, z_subm, z_addm, z_lt_t, z_lt_f, z_le_t, z_le_f, z_eq_t, z_eq_f, z_eqm, z_meq, z_mm, z_ltm, z_mlt, z_lem, z_mle, z_cl, z_ck, u1_1, u1_2, u2_1, u2_2, ↓reduceIte, Option.bind_some, Option.bind_none, bd2_some, lb_eq, and_true, and_false, true_and, false_and, not_true_eq_false, not_false_eq_true, eq_self_iff_true, if_true, if_false, Nat.reduceEqDiff, Nat.reduceAdd, Nat.reduceMul, Nat.reduceSub, Bool.false_eq_true, zl0, zl1, zl2, zl3, zl4, zl5, zl6, zl7, zl8, zl9, zl10, zl11, zl12, zl13, zl14, zl15, zl16, zl17, zl18, zl19, zl20, zl22, zl23, zl24, zl25, zl30, zl31, zl32, zl33, zl34, zl35, zl36, zl37, zl38, zl39, zl40, zl41, zl42, zl43, zl45, zl48, zl49, zl57, zl58, zl59, zl60, zl61, zl62, zl63, zl64, zl91, zl93, zl97, zl98, zl99, zl100, zl113, zl114, zl115, zl116, zl117, zl122, zl124, zl125, zl127, zl128, zl136, zl200, zl201, zl202, zl203, zl204, zl205, zl206, zl207, zl208, zl209, zl210, zl211, zl212, zl213, zl214, zl215, zl216, zl217, zl218, zl219, zl220, zl235, zl236, zl255, zl280, zl287, zl900, zl999, zl1000, zl1001, zl1136, zl1960, zl3000, zl3001, zl3002, zl3003, zl3004, zl3005, zl3006, zl3007, zl3008, zl3009, zl268435456, zl1000000000]), if_pos c1, if_pos (by omega)]
    obtain ⟨P', g1, g2, g3⟩ := passAny_C (t := hh (nd (nd x)) % 7) (Or.inl rfl) n2 hv s2 hs (by omega)
    obtain ⟨r1, r2, r3, r4⟩ := fin P2 P' q2 g3 f2
    have e : dk v s (hh (nd (nd x)) % 7) = aps v s (hh (nd (nd x)) % 7) := by unfold dk; rw [if_pos (by omega)]
    rw [g1, e]
    exact ⟨P', rfl, g2, r4.trans x2, r1, r2, r3⟩
  rw [if_pos (by simp (disch := omega) only [z_add, z_mul, z_sub, z_subm, z_addm, z_lt_t, z_lt_f, z_le_t, z_le_f, z_eq_t, z_eq_f, z_eqm, z_meq, z_mm, z_ltm, z_mlt, z_lem, z_mle, z_cl, z_ck, u1_1, u1_2, u2_1, u2_2, ↓reduceIte, Option.bind_some, Option.bind_none, bd2_some, lb_eq, and_true, and_false, true_and, false_and, not_true_eq_false, not_false_eq_true, eq_self_iff_true, if_true, if_false, Nat.reduceEqDiff, Nat.reduceAdd, Nat.reduceMul, Nat.reduceSub, Bool.false_eq_true, zl0, zl1, zl2, zl3, zl4, zl5, zl6, zl7, zl8, zl9, zl10, zl11, zl12, zl13, zl14, zl15, zl16, zl17, zl18, zl19, zl20, zl22, zl23, zl24, zl25, zl30, zl31, zl32, zl33, zl34, zl35, zl36, zl37, zl38, zl39, zl40, zl41, zl42, zl43, zl45, zl48, zl49, zl57, zl58, zl59, zl60, zl61, zl62, zl63, zl64, zl91, zl93, zl97, zl98, zl99, zl100, zl113, zl114, zl115, zl116, zl117, zl122, zl124, zl125, zl127, zl128, zl136, zl200, zl201, zl202, zl203, zl204, zl205, zl206, zl207, zl208, zl209, zl210, zl211, zl212, zl213, zl214, zl215, zl216, zl217, zl218, zl219, zl220, zl235, zl236, zl255, zl280, zl287, zl900, zl999, zl1000, zl1001, zl1136, zl1960, zl3000, zl3001, zl3002, zl3003, zl3004, zl3005, zl3006, zl3007, zl3008, zl3009, zl268435456, zl1000000000]), if_neg c1]
  by_cases c2 : hh (nd x) % 6 = 3
  · rw [if_pos (by rw [c2]; decide), if_pos c2, if_pos (by omega)]
    obtain ⟨P', g1, g2, g3⟩ := sleepAny_C (t := hh (nd (nd x)) % 7) (Or.inl rfl) n2 hv s2 (by omega)
    obtain ⟨r1, r2, r3, r4⟩ := fin P2 P' q2 g3 f2
    have e : dk v s (10 + hh (nd (nd x)) % 7) = asl v s (hh (nd (nd x)) % 7) := by unfold dk; rw [if_neg (by omega), if_pos (by omega), Nat.add_sub_cancel_left]
    rw [g1, e]
    exact ⟨P', rfl, g2, r4.trans x2, r1, r2, r3⟩
  rw [if_neg (by simp (disch := omega) only [z_add, z_mul, z_sub, z_subm, z_addm, z_lt_t, z_lt_f, z_le_t, z_le_f, z_eq_t, z_eq_f, z_eqm, z_meq, z_mm, z_ltm, z_mlt, z_lem, z_mle, z_cl, z_ck, u1_1, u1_2, u2_1, u2_2, ↓reduceIte, Option.bind_some, Option.bind_none, bd2_some, lb_eq, and_true, and_false, true_and, false_and, not_true_eq_false, not_false_eq_true, eq_self_iff_true, if_true, if_false, Nat.reduceEqDiff, Nat.reduceAdd, Nat.reduceMul, Nat.reduceSub, Bool.false_eq_true, zl0, zl1, zl2, zl3, zl4, zl5, zl6, zl7, zl8, zl9, zl10, zl11, zl12, zl13, zl14, zl15, zl16, zl17, zl18, zl19, zl20, zl22, zl23, zl24, zl25, zl30, zl31, zl32, zl33, zl34, zl35, zl36, zl37, zl38, zl39, zl40, zl41, zl42, zl43, zl45, zl48, zl49, zl57, zl58, zl59, zl60, zl61, zl62, zl63, zl64, zl91, zl93, zl97, zl98, zl99, zl100, zl113, zl114, zl115, zl116, zl117, zl122, zl124, zl125, zl127, zl128, zl136, zl200, zl201, zl202, zl203, zl204, zl205, zl206, zl207, zl208, zl209, zl210, zl211, zl212, zl213, zl214, zl215, zl216, zl217, zl218, zl219, zl220, zl235, zl236, zl255, zl280, zl287, zl900, zl999, zl1000, zl1001, zl1136, zl1960, zl3000, zl3001, zl3002, zl3003, zl3004, zl3005, zl3006, zl3007, zl3008, zl3009, zl268435456, zl1000000000]), if_neg c2, if_neg (show ¬ hh (nd x) % 6 < 4 by omega)]
  by_cases c3 : hh (nd x) % 6 = 4
  · rw [if_pos (by rw [c3]; decide), if_pos c3]
    obtain ⟨P', g1, g2, g3⟩ := dullAny_C (t := hh (nd (nd x)) % 7) (n := hh (nd (nd (nd x))) % 10) (Or.inl rfl) n3 hv s3 (by omega) (by omega)
    obtain ⟨r1, r2, r3, r4⟩ := fin P3 P' q3 g3 f3
    have e : dk v s (100 + 10 * (hh (nd (nd x)) % 7) + hh (nd (nd (nd x))) % 10) = adl v s (hh (nd (nd x)) % 7) (hh (nd (nd (nd x))) % 10) := by
      unfold dk
      rw [if_neg (by omega), if_neg (by omega), if_neg (by omega), if_pos (by omega)]
      congr 1 <;> omega
    rw [g1, e]
    exact ⟨P', rfl, g2, r4.trans x3, r1, r2, r3⟩
  · rw [if_neg (by simp (disch := omega) only [z_add, z_mul, z_sub, z_subm, z_addm, z_lt_t, z_lt_f, z_le_t, z_le_f, z_eq_t, z_eq_f, z_eqm, z_meq, z_mm, z_ltm, z_mlt, z_lem, z_mle, z_cl, z_ck, u1_1, u1_2, u2_1, u2_2, ↓reduceIte, Option.bind_some, Option.bind_none, bd2_some, lb_eq, and_true, and_false, true_and, false_and, not_true_eq_false, not_false_eq_true, eq_self_iff_true, if_true, if_false, Nat.reduceEqDiff, Nat.reduceAdd, Nat.reduceMul, Nat.reduceSub, Bool.false_eq_true, zl0, zl1, zl2, zl3, zl4, zl5, zl6, zl7, zl8, zl9, zl10, zl11, zl12, zl13, zl14, zl15, zl16, zl17, zl18, zl19, zl20, zl22, zl23, zl24, zl25, zl30, zl31, zl32, zl33, zl34, zl35, zl36, zl37, zl38, zl39, zl40, zl41, zl42, zl43, zl45, zl48, zl49, zl57, zl58, zl59, zl60, zl61, zl62, zl63, zl64, zl91, zl93, zl97, zl98, zl99, zl100, zl113, zl114, zl115, zl116, zl117, zl122, zl124, zl125, zl127, zl128, zl136, zl200, zl201, zl202, zl203, zl204, zl205, zl206, zl207, zl208, zl209, zl210, zl211, zl212, zl213, zl214, zl215, zl216, zl217, zl218, zl219, zl220, zl235, zl236, zl255, zl280, zl287, zl900, zl999, zl1000, zl1001, zl1136, zl1960, zl3000, zl3001, zl3002, zl3003, zl3004, zl3005, zl3006, zl3007, zl3008, zl3009, zl268435456, zl1000000000]), if_neg c3]
    obtain ⟨P', g1, g2, g3⟩ := offAny_C (t := hh (nd (nd x)) % 7) (z := 1 + hh (nd (nd (nd x))) % 9) (Or.inl rfl) n3 hv s3 (by omega) (by omega)
    obtain ⟨r1, r2, r3, r4⟩ := fin P3 P' q3 g3 f3
    have e : dk v s (1001 + 100 * (hh (nd (nd x)) % 7) + hh (nd (nd (nd x))) % 9) = aof v s (hh (nd (nd x)) % 7) (1 + hh (nd (nd (nd x))) % 9) := by
      unfold dk
      rw [if_neg (by omega), if_neg (by omega), if_pos (by omega)]
      congr 1 <;> omega
    rw [g1, e]
    exact ⟨P', rfl, g2, r4.trans x3, r1, r2, r3⟩
theorem trySeason_l {v : NV} (hv : NVok v) (m : Nat) (hm : m ≤ 40) : ∀ (q n i d : Nat) (x : Int32) (s : SV) (P : PM), i + q = m → d ≤ i → q < n → P.1 31 8 = x → CNet P 14 v → CSt P 21 s → SVok v s →
    ∃ P', l_De_trySeason_10 n (nI m) (nI d) (nI i) P = some (nI (srun v q x s d).1, P') ∧ CSt P' 21 (srun v q x s d).2 ∧ sm tr5 P P' ∧ P'.1 31 5 = P.1 31 5 ∧ P'.1 31 7 = P.1 31 7 := by
  intro q
  induction q with
  | zero =>
    intro n i d x s P hi hd hn hx h1 h3 hs
    obtain ⟨n, rfl⟩ : ∃ q, n = q + 1 := ⟨n - 1, by omega⟩
    rw [l_De_trySeason_10, if_pos (nI_le (by omega) (by omega))]
    exact ⟨P, rfl, h3, sm_refl, rfl, rfl⟩
  | succ q ih =>
    intro n i d x s P hi hd hn hx h1 h3 hs
    obtain ⟨n, rfl⟩ : ∃ q, n = q + 1 := ⟨n - 1, by omega⟩
    obtain ⟨P1, g1, g2, g3, g4, g5, g6⟩ := tryDrawn_C hx h1 hv h3 hs
    have hlt := @dk_lt v s (dnum x)
    rw [l_De_trySeason_10, if_neg (nI_ge (by omega) (by omega)), g1, bd2_some]
    unfold j_De_trySeason_29
    have n1 : CNet P1 14 v := CNet_sm h1 g4 rfl rfl rfl rfl rfl
    by_cases c : (dk v s (dnum x)).1 = 0
    · obtain ⟨P2, k1, k2, k3, k4, k5⟩ := ih n (i + 1) (d + 1) (dnx x) _ P1 (by omega) (by omega) (by omega) g3 n1 g2 (dk_ok hs)
      have e : srun v (q + 1) x s d = srun v q (dnx x) (dk v s (dnum x)).2 (d + 1) := by rw [srun, if_pos c]
      rw [e, if_pos (by rw [c]; rfl), lb_eq, show (1 : Int32) = nI 1 from rfl, nI_add, nI_add]
      exact ⟨P2, k1, k2, sm_trans g4 k3, k4.trans g5, k5.trans g6⟩
    · obtain ⟨P2, k1, k2, k3, k4, k5⟩ := ih n (i + 1) d (dnx x) _ P1 (by omega) (by omega) (by omega) g3 n1 g2 (dk_ok hs)
      have e : srun v (q + 1) x s d = srun v q (dnx x) (dk v s (dnum x)).2 d := by rw [srun, if_neg c]
      rw [e, if_neg (by simp (disch := omega) only [z_add, z_mul, z_sub, z_subm, z_addm, z_lt_t, z_lt_f, z_le_t, z_le_f, z_eq_t, z_eq_f, z_eqm, z_meq, z_mm, z_ltm, z_mlt, z_lem, z_mle, z_cl, z_ck, u1_1, u1_2, u2_1, u2_2, ↓reduceIte, Option.bind_some, Option.bind_none, bd2_some, lb_eq, and_true, and_false, true_and, false_and, not_true_eq_false, not_false_eq_true, eq_self_iff_true, if_true, if_false, Nat.reduceEqDiff, Nat.reduceAdd, Nat.reduceMul, Nat.reduceSub, Bool.false_eq_true, zl0, zl1, zl2, zl3, zl4, zl5, zl6, zl7, zl8, zl9, zl10, zl11, zl12, zl13, zl14, zl15, zl16, zl17, zl18, zl19, zl20, zl22, zl23, zl24, zl25, zl30, zl31, zl32, zl33, zl34, zl35, zl36, zl37, zl38, zl39, zl40, zl41, zl42, zl43, zl45, zl48, zl49, zl57, zl58, zl59, zl60, zl61, zl62, zl63, zl64, zl91, zl93, zl97, zl98, zl99, zl100, zl113, zl114, zl115, zl116, zl117, zl122, zl124, zl125, zl127, zl128, zl136, zl200, zl201, zl202, zl203, zl204, zl205, zl206, zl207, zl208, zl209, zl210, zl211, zl212, zl213, zl214, zl215, zl216, zl217, zl218, zl219, zl220, zl235, zl236, zl255, zl280, zl287, zl900, zl999, zl1000, zl1001, zl1136, zl1960, zl3000, zl3001, zl3002, zl3003, zl3004, zl3005, zl3006, zl3007, zl3008, zl3009, zl268435456, zl1000000000]), lb_eq, show (0 : Int32) = nI 0 from rfl, nI_add, show (1 : Int32) = nI 1 from rfl, nI_add, Nat.add_zero]
      exact ⟨P2, k1, k2, sm_trans g4 k3, k4.trans g5, k5.trans g6⟩
theorem draw_M (P : PM) (b : Nat) (hb : 0 < b) (hb2 : b < 100) : f_Mo_draw (nI b) P = some (nI (hh (nd (P.1 109 19)) % b), u1 P 109 19 (nd (P.1 109 19))) := by
  have h := (shx_n (nd (P.1 109 19))).1
  have h2 := (shx_n (nd (P.1 109 19))).2
  unfold f_Mo_draw
  rw [u1_1, if_pos ⟨rfl, rfl⟩]
  have e : shx (nd (P.1 109 19)) - shx (nd (P.1 109 19)) / nI b * nI b = nI (hh (nd (P.1 109 19)) % b) := by
    rw [h, pk_rem (by omega) (by omega) (by omega)]
  rw [← e, ck_t (decide_eq_true (by simp (disch := omega) only [z_add, z_mul, z_sub, z_subm, z_addm, z_lt_t, z_lt_f, z_le_t, z_le_f, z_eq_t, z_eq_f, z_eqm, z_meq, z_mm, z_ltm, z_mlt, z_lem, z_mle, z_cl, z_ck, u1_1, u1_2, u2_1, u2_2, ↓reduceIte, Option.bind_some, Option.bind_none, bd2_some, lb_eq, and_true, and_false, true_and, false_and, not_true_eq_false, not_false_eq_true, eq_self_iff_true, if_true, if_false, Nat.reduceEqDiff, Nat.reduceAdd, Nat.reduceMul, Nat.reduceSub, Bool.false_eq_true, zl0, zl1, zl2, zl3, zl4, zl5, zl6, zl7, zl8, zl9, zl10, zl11, zl12, zl13, zl14, zl15, zl16, zl17, zl18, zl19, zl20, zl22, zl23, zl24, zl25, zl30, zl31, zl32, zl33, zl34, zl35, zl36, zl37, zl38, zl39, zl40, zl41, zl42, zl43, zl45, zl48, zl49, zl57, zl58, zl59, zl60, zl61, zl62, zl63, zl64, zl91, zl93, zl97, zl98, zl99, zl100, zl113, zl114, zl115, zl116, zl117, zl122, zl124, zl125, zl127, zl128, zl136, zl200, zl201, zl202, zl203, zl204, zl205, zl206, zl207, zl208, zl209, zl210, zl211, zl212, zl213, zl214, zl215, zl216, zl217, zl218, zl219, zl220, zl235, zl236, zl255, zl280, zl287, zl900, zl999, zl1000, zl1001, zl1136, zl1960, zl3000, zl3001, zl3002, zl3003, zl3004, zl3005, zl3006, zl3007, zl3008, zl3009, zl268435456, zl1000000000]))]
  rfl
theorem drawn_M {P : PM} {x : Int32} (hx : P.1 109 19 = x) : ∃ P', f_Mo_drawn P = some (nI (dnum x), P') ∧ P'.1 109 19 = dnx x ∧ sm (fun o => o == 109) P P' ∧ ∀ j, j ≠ 19 → P'.1 109 j = P.1 109 j := by
  obtain ⟨P1, hP1⟩ : ∃ P1, P1 = u1 P 109 19 (nd x) := ⟨_, rfl⟩
  obtain ⟨P2, hP2⟩ : ∃ P2, P2 = u1 P1 109 19 (nd (nd x)) := ⟨_, rfl⟩
  obtain ⟨P3, hP3⟩ : ∃ P3, P3 = u1 P2 109 19 (nd (nd (nd x))) := ⟨_, rfl⟩
  have x1 : P1.1 109 19 = nd x := by rw [hP1, u1_1, if_pos ⟨rfl, rfl⟩]
  have x2 : P2.1 109 19 = nd (nd x) := by rw [hP2, u1_1, if_pos ⟨rfl, rfl⟩]
  have x3 : P3.1 109 19 = nd (nd (nd x)) := by rw [hP3, u1_1, if_pos ⟨rfl, rfl⟩]
  have q2 : sm (fun o => o == 109) P P2 := by rw [hP2, hP1]; exact sm_u1 (sm_u1 sm_refl rfl) rfl
  have q3 : sm (fun o => o == 109) P P3 := by rw [hP3]; exact sm_u1 q2 rfl
  have f2 : ∀ j, j ≠ 19 → P2.1 109 j = P.1 109 j := fun j q => by rw [hP2, u1_1, if_neg (fun c => q c.2), hP1, u1_1, if_neg (fun c => q c.2)]
  have f3 : ∀ j, j ≠ 19 → P3.1 109 j = P.1 109 j := fun j q => by rw [hP3, u1_1, if_neg (fun c => q c.2), f2 j q]
  have d1 : f_Mo_draw (6 : Int32) P = some (nI (hh (nd x) % 6), P1) := by rw [show (6 : Int32) = nI 6 from rfl, draw_M P 6 (by omega) (by omega), hx, hP1]
  have d2 : f_Mo_draw (7 : Int32) P1 = some (nI (hh (nd (nd x)) % 7), P2) := by rw [show (7 : Int32) = nI 7 from rfl, draw_M P1 7 (by omega) (by omega), x1, hP2]
  have d3 : f_Mo_draw (10 : Int32) P2 = some (nI (hh (nd (nd (nd x))) % 10), P3) := by rw [show (10 : Int32) = nI 10 from rfl, draw_M P2 10 (by omega) (by omega), x2, hP3]
  have d4 : f_Mo_draw (9 : Int32) P2 = some (nI (hh (nd (nd (nd x))) % 9), P3) := by rw [show (9 : Int32) = nI 9 from rfl, draw_M P2 9 (by omega) (by omega), x2, hP3]
  unfold f_Mo_drawn
  rw [d1, bd2_some, d2, bd2_some, d3, bd2_some, d4, bd2_some]
  unfold dnum dnx
  by_cases c1 : hh (nd x) % 6 < 3
  · rw [if_neg (by simp (disch := omega) only [z_add, z_mul, z_sub, z_subm, z_addm, z_lt_t, z_lt_f, z_le_t, z_le_f, z_eq_t, z_eq_f, z_eqm, z_meq, z_mm, z_ltm, z_mlt, z_lem, z_mle, z_cl, z_ck, u1_1, u1_2, u2_1, u2_2, ↓reduceIte, Option.bind_some, Option.bind_none, bd2_some, lb_eq, and_true, and_false, true_and, false_and, not_true_eq_false, not_false_eq_true, eq_self_iff_true, if_true, if_false, Nat.reduceEqDiff, Nat.reduceAdd, Nat.reduceMul, Nat.reduceSub, Bool.false_eq_true, zl0, zl1, zl2, zl3, zl4, zl5, zl6, zl7, zl8, zl9, zl10, zl11, zl12, zl13, zl14, zl15, zl16, zl17, zl18, zl19, zl20, zl22, zl23, zl24, zl25, zl30, zl31, zl32, zl33, zl34, zl35, zl36, zl37, zl38, zl39, zl40, zl41, zl42, zl43, zl45, zl48, zl49, zl57, zl58, zl59, zl60, zl61, zl62, zl63, zl64, zl91, zl93, zl97, zl98, zl99, zl100, zl113, zl114, zl115, zl116, zl117, zl122, zl124, zl125, zl127, zl128, zl136, zl200, zl201, zl202, zl203, zl204, zl205, zl206, zl207, zl208, zl209, zl210, zl211, zl212, zl213, zl214, zl215, zl216, zl217, zl218, zl219, zl220, zl235, zl236, zl255, zl280, zl287, zl900, zl999, zl1000, zl1001, zl1136, zl1960, zl3000, zl3001, zl3002, zl3003, zl3004, zl3005, zl3006, zl3007, zl3008, zl3009, zl268435456, zl1000000000]), if_pos c1, if_pos (by omega)]
    exact ⟨P2, rfl, x2, q2, f2⟩
  rw [if_pos (by simp (disch := omega) only [z_add, z_mul, z_sub, z_subm, z_addm, z_lt_t, z_lt_f, z_le_t, z_le_f, z_eq_t, z_eq_f, z_eqm, z_meq, z_mm, z_ltm, z_mlt, z_lem, z_mle, z_cl, z_ck, u1_1, u1_2, u2_1, u2_2, ↓reduceIte, Option.bind_some, Option.bind_none, bd2_some, lb_eq, and_true, and_false, true_and, false_and, not_true_eq_false, not_false_eq_true, eq_self_iff_true, if_true, if_false, Nat.reduceEqDiff, Nat.reduceAdd, Nat.reduceMul, Nat.reduceSub, Bool.false_eq_true, zl0, zl1, zl2, zl3, zl4, zl5, zl6, zl7, zl8, zl9, zl10, zl11, zl12, zl13, zl14, zl15, zl16, zl17, zl18, zl19, zl20, zl22, zl23, zl24, zl25, zl30, zl31, zl32, zl33, zl34, zl35, zl36, zl37, zl38, zl39, zl40, zl41, zl42, zl43, zl45, zl48, zl49, zl57, zl58, zl59, zl60, zl61, zl62, zl63, zl64, zl91, zl93, zl97, zl98, zl99, zl100, zl113, zl114, zl115, zl116, zl117, zl122, zl124, zl125, zl127, zl128, zl136, zl200, zl201, zl202, zl203, zl204, zl205, zl206, zl207, zl208, zl209, zl210, zl211, zl212, zl213, zl214, zl215, zl216, zl217, zl218, zl219, zl220, zl235, zl236, zl255, zl280, zl287, zl900, zl999, zl1000, zl1001, zl1136, zl1960, zl3000, zl3001, zl3002, zl3003, zl3004, zl3005, zl3006, zl3007, zl3008, zl3009, zl268435456, zl1000000000]), if_neg c1]
  by_cases c2 : hh (nd x) % 6 = 3
  · rw [if_pos (by rw [c2]; decide), if_pos c2, if_pos (by omega), show (10 : Int32) = nI 10 from rfl, nI_add]
    exact ⟨P2, rfl, x2, q2, f2⟩
  rw [if_neg (by simp (disch := omega) only [z_add, z_mul, z_sub, z_subm, z_addm, z_lt_t, z_lt_f, z_le_t, z_le_f, z_eq_t, z_eq_f, z_eqm, z_meq, z_mm, z_ltm, z_mlt, z_lem, z_mle, z_cl, z_ck, u1_1, u1_2, u2_1, u2_2, ↓reduceIte, Option.bind_some, Option.bind_none, bd2_some, lb_eq, and_true, and_false, true_and, false_and, not_true_eq_false, not_false_eq_true, eq_self_iff_true, if_true, if_false, Nat.reduceEqDiff, Nat.reduceAdd, Nat.reduceMul, Nat.reduceSub, Bool.false_eq_true, zl0, zl1, zl2, zl3, zl4, zl5, zl6, zl7, zl8, zl9, zl10, zl11, zl12, zl13, zl14, zl15, zl16, zl17, zl18, zl19, zl20, zl22, zl23, zl24, zl25, zl30, zl31, zl32, zl33, zl34, zl35, zl36, zl37, zl38, zl39, zl40, zl41, zl42, zl43, zl45, zl48, zl49, zl57, zl58, zl59, zl60, zl61, zl62, zl63, zl64, zl91, zl93, zl97, zl98, zl99, zl100, zl113, zl114, zl115, zl116, zl117, zl122, zl124, zl125, zl127, zl128, zl136, zl200, zl201, zl202, zl203, zl204, zl205, zl206, zl207, zl208, zl209, zl210, zl211, zl212, zl213, zl214, zl215, zl216, zl217, zl218, zl219, zl220, zl235, zl236, zl255, zl280, zl287, zl900, zl999, zl1000, zl1001, zl1136, zl1960, zl3000, zl3001, zl3002, zl3003, zl3004, zl3005, zl3006, zl3007, zl3008, zl3009, zl268435456, zl1000000000]), if_neg c2, if_neg (show ¬ hh (nd x) % 6 < 4 by omega)]
  by_cases c3 : hh (nd x) % 6 = 4
  · rw [if_pos (by rw [c3]; decide), if_pos c3, show (10 : Int32) = nI 10 from rfl, pk_mul, show (100 : Int32) = nI 100 from rfl, nI_add, nI_add]
    exact ⟨P3, rfl, x3, q3, f3⟩
  · rw [if_neg (by simp (disch := omega) only [z_add, z_mul, z_sub, z_subm, z_addm, z_lt_t, z_lt_f, z_le_t, z_le_f, z_eq_t, z_eq_f, z_eqm, z_meq, z_mm, z_ltm, z_mlt, z_lem, z_mle, z_cl, z_ck, u1_1, u1_2, u2_1, u2_2, ↓reduceIte, Option.bind_some, Option.bind_none, bd2_some, lb_eq, and_true, and_false, true_and, false_and, not_true_eq_false, not_false_eq_true, eq_self_iff_true, if_true, if_false, Nat.reduceEqDiff, Nat.reduceAdd, Nat.reduceMul, Nat.reduceSub, Bool.false_eq_true, zl0, zl1, zl2, zl3, zl4, zl5, zl6, zl7, zl8, zl9, zl10, zl11, zl12, zl13, zl14, zl15, zl16, zl17, zl18, zl19, zl20, zl22, zl23, zl24, zl25, zl30, zl31, zl32, zl33, zl34, zl35, zl36, zl37, zl38, zl39, zl40, zl41, zl42, zl43, zl45, zl48, zl49, zl57, zl58, zl59, zl60, zl61, zl62, zl63, zl64, zl91, zl93, zl97, zl98, zl99, zl100, zl113, zl114, zl115, zl116, zl117, zl122, zl124, zl125, zl127, zl128, zl136, zl200, zl201, zl202, zl203, zl204, zl205, zl206, zl207, zl208, zl209, zl210, zl211, zl212, zl213, zl214, zl215, zl216, zl217, zl218, zl219, zl220, zl235, zl236, zl255, zl280, zl287, zl900, zl999, zl1000, zl1001, zl1136, zl1960, zl3000, zl3001, zl3002, zl3003, zl3004, zl3005, zl3006, zl3007, zl3008, zl3009, zl268435456, zl1000000000]), if_neg c3, show (100 : Int32) = nI 100 from rfl, pk_mul, show (1001 : Int32) = nI 1001 from rfl, nI_add, nI_add]
    exact ⟨P3, rfl, x3, q3, f3⟩
theorem season_l {v : NV} (hv : NVok v) (m : Nat) (hm : m ≤ 40) : ∀ (q n i d : Nat) (x : Int32) (s : SV) (P : PM), i + q = m → d ≤ i → q < n → P.1 109 19 = x → MNet P 110 0 v → MSt P 110 113 s → SVok v s →
    ∃ P', l_Mo_season_34 n (nI m) (nI d) (nI i) P = (if (srun v q x s d).1 = 0 then some (nI 0, P') else (f_Mo_notes P').bind (fun P3 => some (nI (srun v q x s d).1, P3))) ∧ MSt P' 110 113 (srun v q x s d).2 ∧ mk P P' := by
  intro q
  induction q with
  | zero =>
    intro n i d x s P hi hd hn hx h1 h3 hs
    obtain ⟨n, rfl⟩ : ∃ q, n = q + 1 := ⟨n - 1, by omega⟩
    rw [l_Mo_season_34, if_pos (nI_le (by omega) (by omega))]
    refine ⟨P, ?_, h3, mk_refl⟩
    unfold srun
    by_cases c : d = 0
    · rw [c]; rfl
    · rw [if_neg (by simp (disch := omega) only [z_add, z_mul, z_sub, z_subm, z_addm, z_lt_t, z_lt_f, z_le_t, z_le_f, z_eq_t, z_eq_f, z_eqm, z_meq, z_mm, z_ltm, z_mlt, z_lem, z_mle, z_cl, z_ck, u1_1, u1_2, u2_1, u2_2, ↓reduceIte, Option.bind_some, Option.bind_none, bd2_some, lb_eq, and_true, and_false, true_and, false_and, not_true_eq_false, not_false_eq_true, eq_self_iff_true, if_true, if_false, Nat.reduceEqDiff, Nat.reduceAdd, Nat.reduceMul, Nat.reduceSub, Bool.false_eq_true, zl0, zl1, zl2, zl3, zl4, zl5, zl6, zl7, zl8, zl9, zl10, zl11, zl12, zl13, zl14, zl15, zl16, zl17, zl18, zl19, zl20, zl22, zl23, zl24, zl25, zl30, zl31, zl32, zl33, zl34, zl35, zl36, zl37, zl38, zl39, zl40, zl41, zl42, zl43, zl45, zl48, zl49, zl57, zl58, zl59, zl60, zl61, zl62, zl63, zl64, zl91, zl93, zl97, zl98, zl99, zl100, zl113, zl114, zl115, zl116, zl117, zl122, zl124, zl125, zl127, zl128, zl136, zl200, zl201, zl202, zl203, zl204, zl205, zl206, zl207, zl208, zl209, zl210, zl211, zl212, zl213, zl214, zl215, zl216, zl217, zl218, zl219, zl220, zl235, zl236, zl255, zl280, zl287, zl900, zl999, zl1000, zl1001, zl1136, zl1960, zl3000, zl3001, zl3002, zl3003, zl3004, zl3005, zl3006, zl3007, zl3008, zl3009, zl268435456, zl1000000000]), if_neg c]
  | succ q ih =>
    intro n i d x s P hi hd hn hx h1 h3 hs
    obtain ⟨n, rfl⟩ : ∃ q, n = q + 1 := ⟨n - 1, by omega⟩
    obtain ⟨P1, g1, g2, g3, g4⟩ := drawn_M hx
    have hlt := @dk_lt v s (dnum x)
    have hk := dnum_lt x
    have n1 : MNet P1 110 0 v := MNet_sm h1 g3 rfl
    have s1 : MSt P1 110 113 s := MSt_sm h3 g3 rfl
    have e : dd v s (lN (dnum x)) = dk v s (dnum x) := by
      unfold dd
      rw [lN_ti (by omega), if_pos (by omega)]
      rfl
    obtain ⟨P2, k1, k2⟩ := whyNot_M (lN (dnum x)) n1 hv s1 hs
    rw [e] at k1
    have m1 : mk P P1 := ⟨sm_mono g3 (fun o q => by simp at q ⊢; exact q.2), fun j _ => by rw [g3.1 110 rfl], fun j _ r => g4 j r⟩
    have m2 : mk P P2 := mk_trans m1 (mk_mj (mj_sm k2))
    have x2 : P2.1 109 19 = dnx x := by rw [k2.1 109 rfl, g2]
    have n2 : MNet P2 110 0 v := MNet_sm n1 k2 rfl
    have s2 : MSt P2 110 113 s := MSt_sm s1 k2 rfl
    rw [l_Mo_season_34, if_neg (nI_ge (by omega) (by omega)), g1, bd2_some, nI_l (by omega), k1, bd2_some]
    unfold j_Mo_season_68
    by_cases c : (dk v s (dnum x)).1 = 0
    · obtain ⟨P3, l1, l2, l3⟩ := does_M n2 hv s2 hs hk c
      obtain ⟨P4, r1, r2, r3⟩ := ih n (i + 1) (d + 1) (dnx x) _ P3 (by omega) (by omega) (by omega) (by rw [l3.1.1 109 rfl, x2]) (MNet_mj n2 l3) l2 (dk_ok hs)
      have e2 : srun v (q + 1) x s d = srun v q (dnx x) (dk v s (dnum x)).2 (d + 1) := by rw [srun, if_pos c]
      rw [e2, if_pos (by rw [c]; rfl), l1, Option.bind_some, show (1 : Int32) = nI 1 from rfl, nI_add, nI_add]
      exact ⟨P4, r1, r2, mk_trans (mk_trans m2 (mk_mj l3)) r3⟩
    · obtain ⟨P4, r1, r2, r3⟩ := ih n (i + 1) d (dnx x) _ P2 (by omega) (by omega) (by omega) x2 n2 (by rw [dk_n hk c]; exact s2) (dk_ok hs)
      have e2 : srun v (q + 1) x s d = srun v q (dnx x) (dk v s (dnum x)).2 d := by rw [srun, if_neg c]
      rw [e2, if_neg (by simp (disch := omega) only [z_add, z_mul, z_sub, z_subm, z_addm, z_lt_t, z_lt_f, z_le_t, z_le_f, z_eq_t, z_eq_f, z_eqm, z_meq, z_mm, z_ltm, z_mlt, z_lem, z_mle, z_cl, z_ck, u1_1, u1_2, u2_1, u2_2, ↓reduceIte, Option.bind_some, Option.bind_none, bd2_some, lb_eq, and_true, and_false, true_and, false_and, not_true_eq_false, not_false_eq_true, eq_self_iff_true, if_true, if_false, Nat.reduceEqDiff, Nat.reduceAdd, Nat.reduceMul, Nat.reduceSub, Bool.false_eq_true, zl0, zl1, zl2, zl3, zl4, zl5, zl6, zl7, zl8, zl9, zl10, zl11, zl12, zl13, zl14, zl15, zl16, zl17, zl18, zl19, zl20, zl22, zl23, zl24, zl25, zl30, zl31, zl32, zl33, zl34, zl35, zl36, zl37, zl38, zl39, zl40, zl41, zl42, zl43, zl45, zl48, zl49, zl57, zl58, zl59, zl60, zl61, zl62, zl63, zl64, zl91, zl93, zl97, zl98, zl99, zl100, zl113, zl114, zl115, zl116, zl117, zl122, zl124, zl125, zl127, zl128, zl136, zl200, zl201, zl202, zl203, zl204, zl205, zl206, zl207, zl208, zl209, zl210, zl211, zl212, zl213, zl214, zl215, zl216, zl217, zl218, zl219, zl220, zl235, zl236, zl255, zl280, zl287, zl900, zl999, zl1000, zl1001, zl1136, zl1960, zl3000, zl3001, zl3002, zl3003, zl3004, zl3005, zl3006, zl3007, zl3008, zl3009, zl268435456, zl1000000000]), show (1 : Int32) = nI 1 from rfl, nI_add]
      exact ⟨P4, r1, r2, mk_trans m2 r3⟩
theorem season_ok {P : PM} {a : AS} {x w : Int32} (hC : CRep P a) (hM : MRep P a) (hca : CCa P (aV a)) (hok : AOk a) :
    ∃ v P1 P2, f_Yr_season x w P = some (v, P1) ∧ f_Mo_season x w P1 = some (v, P2) ∧ Inv P2 := by
  by_cases hx : 1 ≤ w.toInt ∧ w.toInt ≤ 40
  · obtain ⟨m, hm, rfl⟩ : ∃ k, k < 41 ∧ w = nI k := (i_cases w 41 (by omega)).resolve_right (fun q => q (by omega))
    have h1m : 1 ≤ m := by have := hx.1; rw [nI_ti (by omega)] at this; omega
    obtain ⟨R, hR⟩ : ∃ R, R = srun (aV a) m x (aS a) 0 := ⟨_, rfl⟩
    have hd := @srun_d (aV a) m x (aS a) 0
    have hk2 := @srun_ok (aV a) m x (aS a) 0 hok.2.1
    have hz := @srun_0 (aV a) m x (aS a) 0
    rw [← hR] at hd hk2 hz
    refine join (r := nI R.1) (a' := if R.1 = 0 then a else setSP a R.2 ((aS a :: aP a).take 10)) hM ?_ ?_ ?_
    · obtain ⟨P1, g1, g2, g3⟩ := note_C hC.2.2.1 hok.2.2.1 hC.2.1
      have q1 : sm (fun o => ps o || o == 31) P (u1 P1 31 8 x) := sm_u1 (sm_mono g3 (fun o q => by simp at q; exact q.1)) rfl
      obtain ⟨P2, k1, k2, k3, k4, k5⟩ := trySeason_l hok.1 m (by omega) m FU 0 0 x (aS a) (u1 P1 31 8 x) (by omega) (Nat.le_refl _) (by have := FU_big; omega) (by rw [u1_1, if_pos ⟨rfl, rfl⟩]) (CNet_sm hC.1 q1 rfl rfl rfl rfl rfl) (CSt_sm hC.2.1 q1 rfl rfl) hok.2.1
      rw [← hR] at k1 k2
      have s12 : sm tr5 P1 P2 := sm_trans (sm_u1 sm_refl rfl) k3
      have q2 : CNoted P2 (aP a) (aS a) := CNoted_sm g2 s12 (fun o ho => by simp [ps] at ho; simp [tr5, on4]; omega) (by rw [k4, u1_1, if_neg (by omega)]) (by rw [k5, u1_1, if_neg (by omega)])
      have s2 : sm dr P P2 := sm_trans (sm_mono g3 (fun o ho => by simp [dr] at ho; exact ho.2)) (sm_mono s12 (fun o ho => by simp [dr] at ho; simp [tr5, on4]; omega))
      obtain ⟨f1, P3, f2, f3, f4, f5⟩ := fin_C hC hok hca q2 s2 k2
      have e1 : f_De_trySeason x (nI m) P1 = some (nI R.1, P2) := k1
      unfold f_Yr_season
      rw [if_neg (by simp (disch := omega) only [z_add, z_mul, z_sub, z_subm, z_addm, z_lt_t, z_lt_f, z_le_t, z_le_f, z_eq_t, z_eq_f, z_eqm, z_meq, z_mm, z_ltm, z_mlt, z_lem, z_mle, z_cl, z_ck, u1_1, u1_2, u2_1, u2_2, ↓reduceIte, Option.bind_some, Option.bind_none, bd2_some, lb_eq, and_true, and_false, true_and, false_and, not_true_eq_false, not_false_eq_true, eq_self_iff_true, if_true, if_false, Nat.reduceEqDiff, Nat.reduceAdd, Nat.reduceMul, Nat.reduceSub, Bool.false_eq_true, zl0, zl1, zl2, zl3, zl4, zl5, zl6, zl7, zl8, zl9, zl10, zl11, zl12, zl13, zl14, zl15, zl16, zl17, zl18, zl19, zl20, zl22, zl23, zl24, zl25, zl30, zl31, zl32, zl33, zl34, zl35, zl36, zl37, zl38, zl39, zl40, zl41, zl42, zl43, zl45, zl48, zl49, zl57, zl58, zl59, zl60, zl61, zl62, zl63, zl64, zl91, zl93, zl97, zl98, zl99, zl100, zl113, zl114, zl115, zl116, zl117, zl122, zl124, zl125, zl127, zl128, zl136, zl200, zl201, zl202, zl203, zl204, zl205, zl206, zl207, zl208, zl209, zl210, zl211, zl212, zl213, zl214, zl215, zl216, zl217, zl218, zl219, zl220, zl235, zl236, zl255, zl280, zl287, zl900, zl999, zl1000, zl1001, zl1136, zl1960, zl3000, zl3001, zl3002, zl3003, zl3004, zl3005, zl3006, zl3007, zl3008, zl3009, zl268435456, zl1000000000]), if_pos (by simp (disch := omega) only [z_add, z_mul, z_sub, z_subm, z_addm, z_lt_t, z_lt_f, z_le_t, z_le_f, z_eq_t, z_eq_f, z_eqm, z_meq, z_mm, z_ltm, z_mlt, z_lem, z_mle, z_cl, z_ck, u1_1, u1_2, u2_1, u2_2, ↓reduceIte, Option.bind_some, Option.bind_none, bd2_some, lb_eq, and_true, and_false, true_and, false_and, not_true_eq_false, not_false_eq_true, eq_self_iff_true, if_true, if_false, Nat.reduceEqDiff, Nat.reduceAdd, Nat.reduceMul, Nat.reduceSub, Bool.false_eq_true, zl0, zl1, zl2, zl3, zl4, zl5, zl6, zl7, zl8, zl9, zl10, zl11, zl12, zl13, zl14, zl15, zl16, zl17, zl18, zl19, zl20, zl22, zl23, zl24, zl25, zl30, zl31, zl32, zl33, zl34, zl35, zl36, zl37, zl38, zl39, zl40, zl41, zl42, zl43, zl45, zl48, zl49, zl57, zl58, zl59, zl60, zl61, zl62, zl63, zl64, zl91, zl93, zl97, zl98, zl99, zl100, zl113, zl114, zl115, zl116, zl117, zl122, zl124, zl125, zl127, zl128, zl136, zl200, zl201, zl202, zl203, zl204, zl205, zl206, zl207, zl208, zl209, zl210, zl211, zl212, zl213, zl214, zl215, zl216, zl217, zl218, zl219, zl220, zl235, zl236, zl255, zl280, zl287, zl900, zl999, zl1000, zl1001, zl1136, zl1960, zl3000, zl3001, zl3002, zl3003, zl3004, zl3005, zl3006, zl3007, zl3008, zl3009, zl268435456, zl1000000000]), g1, Option.bind_some, e1, bd2_some]
      by_cases c : R.1 = 0
      · obtain ⟨r1, r2⟩ := f1 (hz c)
        rw [if_pos (by rw [c]; decide), if_pos c]
        exact ⟨P2, rfl, r1, r2, dr_cl s2⟩
      · rw [if_neg (by simp (disch := omega) only [z_add, z_mul, z_sub, z_subm, z_addm, z_lt_t, z_lt_f, z_le_t, z_le_f, z_eq_t, z_eq_f, z_eqm, z_meq, z_mm, z_ltm, z_mlt, z_lem, z_mle, z_cl, z_ck, u1_1, u1_2, u2_1, u2_2, ↓reduceIte, Option.bind_some, Option.bind_none, bd2_some, lb_eq, and_true, and_false, true_and, false_and, not_true_eq_false, not_false_eq_true, eq_self_iff_true, if_true, if_false, Nat.reduceEqDiff, Nat.reduceAdd, Nat.reduceMul, Nat.reduceSub, Bool.false_eq_true, zl0, zl1, zl2, zl3, zl4, zl5, zl6, zl7, zl8, zl9, zl10, zl11, zl12, zl13, zl14, zl15, zl16, zl17, zl18, zl19, zl20, zl22, zl23, zl24, zl25, zl30, zl31, zl32, zl33, zl34, zl35, zl36, zl37, zl38, zl39, zl40, zl41, zl42, zl43, zl45, zl48, zl49, zl57, zl58, zl59, zl60, zl61, zl62, zl63, zl64, zl91, zl93, zl97, zl98, zl99, zl100, zl113, zl114, zl115, zl116, zl117, zl122, zl124, zl125, zl127, zl128, zl136, zl200, zl201, zl202, zl203, zl204, zl205, zl206, zl207, zl208, zl209, zl210, zl211, zl212, zl213, zl214, zl215, zl216, zl217, zl218, zl219, zl220, zl235, zl236, zl255, zl280, zl287, zl900, zl999, zl1000, zl1001, zl1136, zl1960, zl3000, zl3001, zl3002, zl3003, zl3004, zl3005, zl3006, zl3007, zl3008, zl3009, zl268435456, zl1000000000]), if_neg c, f2]
        exact ⟨P3, rfl, f3, f4, f5⟩
    · intro P hM
      have hM1 : MRep (u1 P 109 0 (0 : Int32)) a := MRep_me hM me_th
      have hcp := @cpy_sm (u1 P 109 0 (0 : Int32)) 110 113 116 0 0 11
      have q1 : sm (fun o => o == 116 || o == 109) (u1 P 109 0 (0 : Int32)) (u1 (cpy (u1 P 109 0 (0 : Int32)) 110 113 116 0 0 11) 109 19 x) := sm_u1 (sm_mono hcp (fun o q => by simp at q ⊢; exact q.1)) rfl
      obtain ⟨P2, k1, k2, k3⟩ := season_l hok.1 m (by omega) m FU 0 0 x (aS a) (u1 (cpy (u1 P 109 0 (0 : Int32)) 110 113 116 0 0 11) 109 19 x) (by omega) (Nat.le_refl _) (by have := FU_big; omega) (by rw [u1_1, if_pos ⟨rfl, rfl⟩]) (MNet_sm hM1.1 q1 rfl) (MSt_sm hM1.2.1 q1 rfl) hok.2.1
      rw [← hR] at k1 k2
      have m19 : mk (cpy (u1 P 109 0 (0 : Int32)) 110 113 116 0 0 11) (u1 (cpy (u1 P 109 0 (0 : Int32)) 110 113 116 0 0 11) 109 19 x) := ⟨sm_u1 sm_refl rfl, fun j _ => by rw [u1_1, if_neg (by omega)], fun j _ r => by rw [u1_1, if_neg (fun c => r c.2)]⟩
      obtain ⟨f1, f2, _, P3, f3, f4, f5⟩ := fin_M hM1 hok k2 (mk_trans m19 k3)
      have hwi : f_Mo_within (nI m).toInt64 (1 : Int64) (40 : Int64) (u1 P 109 0 (0 : Int32)) = nI 1 := by
        rw [within_i, tl_ti]
        exact if_pos hx
      unfold f_Mo_season
      rw [hwi, if_neg (by decide), keeps_M, Option.bind_some]
      change ∃ P2, l_Mo_season_34 FU (nI m) (nI 0) (nI 0) _ = _ ∧ _
      rw [k1]
      by_cases c : R.1 = 0
      · rw [if_pos c, if_pos c]
        exact ⟨P2, by rw [c], f1 (hz c), sm_trans sm_th (er2_mo f2)⟩
      · rw [if_neg c, if_neg c, f3]
        exact ⟨P3, rfl, f4, sm_trans sm_th (er2_mo f5)⟩
    · split
      · exact hok
      · exact AOk_SP hok hk2
  · have e1 : (1 : Int32).toInt = 1 := rfl
    have e40 : (40 : Int32).toInt = 40 := rfl
    refine join (r := -nI 3) (a' := a) hM ⟨P, ?_, hC, hca, sm_refl⟩ (fun P hM => ⟨u1 P 109 0 (0 : Int32), ?_, MRep_me hM me_th, sm_th⟩) hok
    · unfold f_Yr_season
      by_cases c2 : w < 1
      · rw [if_pos c2]; rfl
      · have c3 : ¬ w.toInt < 1 := fun q => c2 (Int32.lt_iff_toInt_lt.mpr q)
        rw [if_neg c2, if_neg (fun q => by have := Int32.le_iff_toInt_le.mp q; omega)]
        rfl
    · have hwi : f_Mo_within w.toInt64 (1 : Int64) (40 : Int64) (u1 P 109 0 (0 : Int32)) = nI 0 := by
        rw [within_i, tl_ti]
        exact if_neg hx
      unfold f_Mo_season
      rw [hwi]; rfl
