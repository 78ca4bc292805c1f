/-! the start; the law's loop -/
def z0 : PM := (fun _ _ => 0, fun _ _ => 0)
def PB0 : PM := PF_Mo_init (PF_Yr_init z0)
def t0 : TV := fun _ => (none, 0, fun _ => 0)
def a0 : AS := (v0, s0, [], t0, fun _ => none, 0, fun _ => 0, nI 0, -nI 1)
theorem P0_row {o : Nat} (h : o ≠ 1 ∧ o ≠ 11 ∧ o ≠ 21 ∧ o ≠ 29 ∧ o ≠ 32 ∧ (o < 36 ∨ 56 < o) ∧ o ≠ 59 ∧ o ≠ 104 ∧ o ≠ 106 ∧ o ≠ 109 ∧ o ≠ 110 ∧ o ≠ 127) : PB0.1 o = fun _ => 0 := by
  unfold PB0 PF_Mo_init PF_Yr_init PF_St_init PF_Sp_init PF_Ro_init PF_Pa_init PF_De_init PF_Tr_init PF_Nr_init PF_Lr_init PF_Ne_init PF_Sa_init PF_Ta_init
  simp (disch := omega) only [u1r, rowI_r]
  rfl
theorem P0_59 {j : Nat} (h : j < 1960) : PB0.1 59 j = -nI 2 := by
  unfold PB0 PF_Mo_init PF_Yr_init PF_St_init PF_Sp_init PF_Ro_init PF_Pa_init PF_Ne_init PF_Sa_init
  simp (disch := omega) only [u1r, rowI_r]
  rw [rowI_1, if_pos ⟨rfl, by omega, h⟩]
  rfl
theorem P0_110 {j : Nat} (h : j ≠ 113) : PB0.1 110 j = nI 0 := by
  unfold PB0 PF_Mo_init
  rw [u1c h, rowI_1]
  by_cases c : j < 1136
  · rw [if_pos ⟨rfl, by omega, c⟩]; rfl
  · rw [if_neg (by omega)]
    unfold PF_Yr_init PF_St_init PF_Sp_init PF_Ro_init PF_Pa_init PF_De_init PF_Tr_init PF_Nr_init PF_Lr_init PF_Ne_init PF_Sa_init PF_Ta_init
    simp (disch := omega) only [u1r, rowI_r]
    rfl
theorem z_row {o j : Nat} (h : o ≠ 1 ∧ o ≠ 11 ∧ o ≠ 21 ∧ o ≠ 29 ∧ o ≠ 32 ∧ (o < 36 ∨ 56 < o) ∧ o ≠ 59 ∧ o ≠ 104 ∧ o ≠ 106 ∧ o ≠ 109 ∧ o ≠ 110 ∧ o ≠ 127) : PB0.1 o j = nI 0 := by
  rw [P0_row h]; rfl
theorem a0_C : CRep PB0 a0 := by
  refine ⟨⟨z_row (by omega), z_row (by omega), fun i hi => z_row (by omega), fun s t hs ht => z_row (by omega), fun s t hs ht => z_row (by omega), ⟨0, z_row (by omega), z_row (by omega), Nat.zero_le _, (fun j hj => by cases hj)⟩, ⟨0, z_row (by omega), z_row (by omega), Nat.zero_le _, (fun j hj => by cases hj)⟩⟩, ⟨rfl, rfl, rfl, rfl, fun i hi => z_row (by omega)⟩, ⟨0, by omega, z_row (by omega), z_row (by omega), (fun j hj => by cases hj)⟩, fun k hk => ⟨?_, z_row (by omega), (fun i hi => by cases hi)⟩, fun i hi => ⟨z_row (by omega), (fun n s h => by cases h)⟩, ⟨rfl, (fun i hi => by cases hi), rfl, rfl⟩⟩
  obtain rfl | rfl | rfl | rfl : k = 0 ∨ k = 1 ∨ k = 2 ∨ k = 3 := by omega
  all_goals rfl
theorem a0_M : MRep PB0 a0 := by
  refine ⟨⟨P0_110 (by omega), P0_110 (by omega), fun i hi => P0_110 (by omega), fun s t hs ht => P0_110 (by omega), fun s t hs ht => P0_110 (by omega), ⟨P0_110 (by omega), fun h => absurd rfl h⟩, ⟨P0_110 (by omega), fun h => absurd rfl h⟩⟩, ⟨rfl, P0_110 (by omega), P0_110 (by omega), P0_110 (by omega), fun i hi => P0_110 (by omega)⟩, ⟨P0_110 (by omega), (fun j hj => by cases hj)⟩, fun k hk => ⟨?_, z_row (by omega), (fun i hi => by cases hi)⟩, fun i hi => ⟨z_row (by omega), (fun n s h => by cases h)⟩, ⟨rfl, (fun i hi => by cases hi), rfl, rfl⟩⟩
  obtain rfl | rfl | rfl | rfl : k = 0 ∨ k = 1 ∨ k = 2 ∨ k = 3 := by omega
  all_goals rfl
theorem a0_inv : Inv PB0 := by
  refine ⟨a0, ⟨v0_ok, s0_ok, Nat.zero_le _, (fun j hj => by cases hj), fun k => ⟨Nat.zero_le _, (fun q h => by cases h), fun _ => rfl⟩, (fun i n s h => by cases h), Nat.zero_le _, fun i => by show 0 < 256; omega⟩, a0_C, a0_M, fun t ht => ⟨0, Nat.zero_le _, z_row (by omega), fun p hp => Or.inl (P0_59 (by omega))⟩⟩
/-- one call on both sides, and on -/
theorem fin2 {fc : Option (Int32 × PM)} {fm : PM → Option (Int32 × PM)} {J : PM → Option (Int32 × PM)} (hJ : ∀ P, Inv P → ∃ P', J P = some (1, P')) (h : ∃ v P1 P2, fc = some (v, P1) ∧ fm P1 = some (v, P2) ∧ Inv P2) :
    ∃ P', bd2 fc (fun v Pz => bd2 (fm Pz) (fun w Pw => if v = w then J Pw else some (0, Pw))) = some (1, P') := by
  obtain ⟨v, P1, P2, h1, h2, h3⟩ := h
  obtain ⟨P', h4⟩ := hJ P2 h3
  exact ⟨P', by rw [h1, bd2_some, h2, bd2_some, if_pos rfl, h4]⟩
theorem finL {fc : Option (Int64 × PM)} {fm : PM → Option (Int64 × PM)} {J : PM → Option (Int32 × PM)} (hJ : ∀ P, Inv P → ∃ P', J P = some (1, P')) (h : ∃ v P1 P2, fc = some (v, P1) ∧ fm P1 = some (v, P2) ∧ Inv P2) :
    ∃ P', bd2 fc (fun v Pz => bd2 (fm Pz) (fun w Pw => if lg_cmp v w = (0 : Int32) then J Pw else some (0, Pw))) = some (1, P') := by
  obtain ⟨v, P1, P2, h1, h2, h3⟩ := h
  obtain ⟨P', h4⟩ := hJ P2 h3
  exact ⟨P', by rw [h1, bd2_some, h2, bd2_some, if_pos ((lgc_eq v v).mpr rfl), h4]⟩
theorem finP {fc : Option Int32} {fm : Option (Int32 × PM)} {J : PM → Option (Int32 × PM)} (hJ : ∀ P, Inv P → ∃ P', J P = some (1, P')) (h : ∃ v P2, fc = some v ∧ fm = some (v, P2) ∧ Inv P2) :
    ∃ P', fc.bind (fun v => bd2 fm (fun w Pw => if v = w then J Pw else some (0, Pw))) = some (1, P') := by
  obtain ⟨v, P2, h1, h2, h3⟩ := h
  obtain ⟨P', h4⟩ := hJ P2 h3
  exact ⟨P', by rw [h1, Option.bind_some, h2, bd2_some, if_pos rfl, h4]⟩
theorem finF {v : Int32} {fm : Option (Int32 × PM)} {J : PM → Option (Int32 × PM)} (hJ : ∀ P, Inv P → ∃ P', J P = some (1, P')) (h : ∃ P2, fm = some (v, P2) ∧ Inv P2) :
    ∃ P', bd2 fm (fun w Pw => if v = w then J Pw else some (0, Pw)) = some (1, P') := by
  obtain ⟨P2, h2, h3⟩ := h
  obtain ⟨P', h4⟩ := hJ P2 h3
  exact ⟨P', by rw [h2, bd2_some, if_pos rfl, h4]⟩
set_option maxRecDepth 20000 in
set_option maxHeartbeats 4000000 in
theorem law_ok {xs : Nat → Int32} {L : Nat} (hL : L ≤ 3072) : ∀ (n i : Nat) (P : PM), Inv P → L + 7 < i + n → i ≤ L + 6 → ∃ P', l_La_law_18 xs L n (nI i) P = some (1, P') := by
  intro n
  induction n with
  | zero => intro i P _ h hi; exact absurd h (by omega)
  | succ n ih =>
    intro i P hI hn hi
    have e6 : (Int32.ofNat L - (6 : Int32)).toInt = (L : Int) - 6 := by
      show (nI L - nI 6).toInt = _
      rw [pk_sub_toInt (by omega) (by omega)]
      rfl
    rw [l_La_law_18]
    by_cases c : Int32.ofNat L - (6 : Int32) < nI i
    · rw [if_pos c]; exact ⟨P, rfl⟩
    · rw [if_neg c]
      have hlt : i + 6 ≤ L := by
        have h1 : ¬ (Int32.ofNat L - (6 : Int32)).toInt < (nI i).toInt := fun h => c (Int32.lt_iff_toInt_lt.mpr h)
        rw [e6, nI_ti (by omega)] at h1
        omega
      have b0 : inb (nI i) L = true := inb_t (by omega) (by omega)
      have b1 : inb (nI i + (1 : Int32)) L = true := by rw [show (1 : Int32) = nI 1 from rfl, z_add]; exact inb_t (by omega) (by omega)
      have b2 : inb (nI i + (2 : Int32)) L = true := by rw [show (2 : Int32) = nI 2 from rfl, z_add]; exact inb_t (by omega) (by omega)
      have b3 : inb (nI i + (3 : Int32)) L = true := by rw [show (3 : Int32) = nI 3 from rfl, z_add]; exact inb_t (by omega) (by omega)
      have b4 : inb (nI i + (4 : Int32)) L = true := by rw [show (4 : Int32) = nI 4 from rfl, z_add]; exact inb_t (by omega) (by omega)
      have b5 : inb (nI i + (5 : Int32)) L = true := by rw [show (5 : Int32) = nI 5 from rfl, z_add]; exact inb_t (by omega) (by omega)
      have hJ : ∀ P, Inv P → ∃ P', j_La_law_1565 xs L (fun z0 Pz => l_La_law_18 xs L n z0 Pz) (nI i) P = some (1, P') := fun P h => by
        unfold j_La_law_1565
        rw [show (6 : Int32) = nI 6 from rfl, z_add]
        exact ih (i + 6) P h (by omega) (by omega)
      obtain ⟨a, hok, hC, hM, hca⟩ := id hI
      simp only [ck_t b0, ck_t b1, ck_t b2, ck_t b3, ck_t b4, ck_t b5]
      by_cases c0 : (xs (nI i).toNatClampNeg) &&& (63 : Int32) = (0 : Int32)
      · rw [if_pos c0]; exact fin2 hJ (feed_ok hC hM hca hok)
      rw [if_neg c0]
      by_cases c1 : (xs (nI i).toNatClampNeg) &&& (63 : Int32) = (1 : Int32)
      · rw [if_pos c1]; exact fin2 hJ (net_ok hC hM hca hok)
      rw [if_neg c1]
      by_cases c2 : (xs (nI i).toNatClampNeg) &&& (63 : Int32) = (2 : Int32)
      · rw [if_pos c2]; exact finF hJ (fault_ok hC hM hca hok)
      rw [if_neg c2]
      by_cases c3 : (xs (nI i).toNatClampNeg) &&& (63 : Int32) = (3 : Int32)
      · rw [if_pos c3]; exact finP hJ (station_ok hC hM hca hok)
      rw [if_neg c3]
      by_cases c4 : (xs (nI i).toNatClampNeg) &&& (63 : Int32) = (4 : Int32)
      · rw [if_pos c4]; exact finP hJ (way_ok hC hM hca hok)
      rw [if_neg c4]
      by_cases c5 : (xs (nI i).toNatClampNeg) &&& (63 : Int32) = (5 : Int32)
      · rw [if_pos c5]; exact fin2 hJ (brings_ok hC hM hca hok)
      rw [if_neg c5]
      by_cases c6 : (xs (nI i).toNatClampNeg) &&& (63 : Int32) = (6 : Int32)
      · rw [if_pos c6]; exact fin2 hJ (pass_ok hC hM hca hok)
      rw [if_neg c6]
      by_cases c7 : (xs (nI i).toNatClampNeg) &&& (63 : Int32) = (7 : Int32)
      · rw [if_pos c7]; exact fin2 hJ (off_ok hC hM hca hok)
      rw [if_neg c7]
      by_cases c8 : (xs (nI i).toNatClampNeg) &&& (63 : Int32) = (8 : Int32)
      · rw [if_pos c8]; exact fin2 hJ (sleep_ok hC hM hca hok)
      rw [if_neg c8]
      by_cases c9 : (xs (nI i).toNatClampNeg) &&& (63 : Int32) = (9 : Int32)
      · rw [if_pos c9]; exact fin2 hJ (dull_ok hC hM hca hok)
      rw [if_neg c9]
      by_cases c10 : (xs (nI i).toNatClampNeg) &&& (63 : Int32) = (10 : Int32)
      · rw [if_pos c10]; exact fin2 hJ (undo_ok hC hM hca hok)
      rw [if_neg c10]
      by_cases c11 : (xs (nI i).toNatClampNeg) &&& (63 : Int32) = (11 : Int32)
      · rw [if_pos c11]; exact fin2 hJ (judge_ok hC hM hca hok)
      rw [if_neg c11]
      by_cases c12 : (xs (nI i).toNatClampNeg) &&& (63 : Int32) = (12 : Int32)
      · rw [if_pos c12]; exact fin2 hJ (perform_ok hC hM hca hok)
      rw [if_neg c12]
      by_cases c13 : (xs (nI i).toNatClampNeg) &&& (63 : Int32) = (13 : Int32)
      · rw [if_pos c13]; exact fin2 hJ (season_ok hC hM hca hok)
      rw [if_neg c13]
      by_cases c14 : (xs (nI i).toNatClampNeg) &&& (63 : Int32) = (14 : Int32)
      · rw [if_pos c14]; exact fin2 hJ (soonest_ok hC hM hca hok)
      rw [if_neg c14]
      by_cases c15 : (xs (nI i).toNatClampNeg) &&& (63 : Int32) = (15 : Int32)
      · rw [if_pos c15]; exact fin2 hJ (soonBy_ok hC hM hca hok)
      rw [if_neg c15]
      by_cases c16 : (xs (nI i).toNatClampNeg) &&& (63 : Int32) = (16 : Int32)
      · rw [if_pos c16]; exact fin2 hJ (fewest_ok hC hM hca hok)
      rw [if_neg c16]
      by_cases c17 : (xs (nI i).toNatClampNeg) &&& (63 : Int32) = (17 : Int32)
      · rw [if_pos c17]; exact fin2 hJ (fewBy_ok hC hM hca hok)
      rw [if_neg c17]
      by_cases c18 : (xs (nI i).toNatClampNeg) &&& (63 : Int32) = (18 : Int32)
      · rw [if_pos c18]; exact fin2 hJ (biggest_ok hC hM hca hok)
      rw [if_neg c18]
      by_cases c19 : (xs (nI i).toNatClampNeg) &&& (63 : Int32) = (19 : Int32)
      · rw [if_pos c19]; exact fin2 hJ (reach_ok hC hM hca hok)
      rw [if_neg c19]
      by_cases c20 : (xs (nI i).toNatClampNeg) &&& (63 : Int32) = (20 : Int32)
      · rw [if_pos c20]; exact fin2 hJ (needed_ok hC hM hca hok)
      rw [if_neg c20]
      by_cases c21 : (xs (nI i).toNatClampNeg) &&& (63 : Int32) = (21 : Int32)
      · rw [if_pos c21]; exact fin2 hJ (sleepers_ok hC hM hca hok)
      rw [if_neg c21]
      by_cases c22 : (xs (nI i).toNatClampNeg) &&& (63 : Int32) = (22 : Int32)
      · rw [if_pos c22]; exact fin2 hJ (spread_ok hC hM hca hok)
      rw [if_neg c22]
      by_cases c23 : (xs (nI i).toNatClampNeg) &&& (63 : Int32) = (23 : Int32)
      · rw [if_pos c23]; exact fin2 hJ (rounds_ok hC hM hca hok)
      rw [if_neg c23]
      by_cases c24 : (xs (nI i).toNatClampNeg) &&& (63 : Int32) = (24 : Int32)
      · rw [if_pos c24]; exact fin2 hJ (crowd_ok hC hM hca hok)
      rw [if_neg c24]
      by_cases c25 : (xs (nI i).toNatClampNeg) &&& (63 : Int32) = (25 : Int32)
      · rw [if_pos c25]; exact fin2 hJ (stopper_ok hC hM hca hok)
      rw [if_neg c25]
      by_cases c26 : (xs (nI i).toNatClampNeg) &&& (63 : Int32) = (26 : Int32)
      · rw [if_pos c26]; exact fin2 hJ (meets_ok hC hM hca hok)
      rw [if_neg c26]
      by_cases c27 : (xs (nI i).toNatClampNeg) &&& (63 : Int32) = (27 : Int32)
      · rw [if_pos c27]; exact finL hJ (back_ok hC hM hca hok)
      rw [if_neg c27]
      by_cases c28 : (xs (nI i).toNatClampNeg) &&& (63 : Int32) = (28 : Int32)
      · rw [if_pos c28]; exact fin2 hJ (backBy_ok hC hM hca hok)
      rw [if_neg c28]
      by_cases c29 : (xs (nI i).toNatClampNeg) &&& (63 : Int32) = (29 : Int32)
      · rw [if_pos c29]; exact fin2 hJ (surely_ok hC hM hca hok)
      rw [if_neg c29]
      by_cases c30 : (xs (nI i).toNatClampNeg) &&& (63 : Int32) = (30 : Int32)
      · rw [if_pos c30]; exact fin2 hJ (dulls_ok hC hM hca hok)
      rw [if_neg c30]
      by_cases c31 : (xs (nI i).toNatClampNeg) &&& (63 : Int32) = (31 : Int32)
      · rw [if_pos c31]; exact fin2 hJ (attempt_ok hC hM hca hok)
      rw [if_neg c31]
      by_cases c32 : (xs (nI i).toNatClampNeg) &&& (63 : Int32) = (32 : Int32)
      · rw [if_pos c32]; exact fin2 hJ (forces_ok hC hM hca hok)
      rw [if_neg c32]
      by_cases c33 : (xs (nI i).toNatClampNeg) &&& (63 : Int32) = (33 : Int32)
      · rw [if_pos c33]; exact fin2 hJ (best_ok hC hM hca hok)
      rw [if_neg c33]
      by_cases c34 : (xs (nI i).toNatClampNeg) &&& (63 : Int32) = (34 : Int32)
      · rw [if_pos c34]; exact finL hJ (chance_ok hC hM hca hok)
      rw [if_neg c34]
      by_cases c35 : (xs (nI i).toNatClampNeg) &&& (63 : Int32) = (35 : Int32)
      · rw [if_pos c35]; exact fin2 hJ (likeliest_ok hC hM hca hok)
      rw [if_neg c35]
      by_cases c36 : (xs (nI i).toNatClampNeg) &&& (63 : Int32) = (36 : Int32)
      · rw [if_pos c36]; exact fin2 hJ (numbers_ok hC hM hca hok)
      rw [if_neg c36]
      by_cases c37 : (xs (nI i).toNatClampNeg) &&& (63 : Int32) = (37 : Int32)
      · rw [if_pos c37]; exact finL hJ (write_ok hC hM hca hok)
      rw [if_neg c37]
      by_cases c38 : (xs (nI i).toNatClampNeg) &&& (63 : Int32) = (38 : Int32)
      · rw [if_pos c38]; exact fin2 hJ (lists_ok hC hM hca hok)
      rw [if_neg c38]
      by_cases c39 : (xs (nI i).toNatClampNeg) &&& (63 : Int32) = (39 : Int32)
      · rw [if_pos c39]; exact fin2 hJ (image_ok hC hM hca hok)
      rw [if_neg c39]
      by_cases c40 : (xs (nI i).toNatClampNeg) &&& (63 : Int32) = (40 : Int32)
      · rw [if_pos c40]; exact fin2 hJ (restore_ok hC hM hca hok)
      rw [if_neg c40]
      by_cases c41 : (xs (nI i).toNatClampNeg) &&& (63 : Int32) = (41 : Int32)
      · rw [if_pos c41]; exact finP hJ (count_ok hC hM hca hok)
      rw [if_neg c41]
      exact hJ P hI
theorem whole_math (xs : Nat → Int32) (L : Nat) (hL : L ≤ 3072) : ∃ P', l_La_law_18 xs L FU (0 : Int32) (PF_Mo_init (PF_Yr_init (fun _ _ => 0, fun _ _ => 0))) = some (1, P') :=
  law_ok hL FU 0 PB0 a0_inv (by have := FU_big; omega) (Nat.zero_le _)
