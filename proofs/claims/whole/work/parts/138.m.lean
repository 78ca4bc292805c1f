/-! methods as functions, by program: Mo_likeliest Mo_cut Mo_numbers Mo_write Mo_lists Mo_image Mo_restore -/
abbrev c_Mo_likeliest : ByteArray := prog_14_method_120_code
abbrev y_Mo_likeliest : MethodName := ⟨"YawnRouteModel", "likeliest", "(I)I"⟩
abbrev cw_Mo_likeliest : Cond := .code y_Mo_likeliest c_Mo_likeliest 4 (some .int)
theorem w_Mo_likeliest : VW 12 y_Mo_likeliest c_Mo_likeliest 4 (some .int) 1 := ⟨by decide, lk1906, lk1907, lk14, lk1908, ⟨by decide, by decide, by decide +kernel⟩, by decide⟩
noncomputable def j_Mo_likeliest_78 (k43 : Int32 → Int32 → PM → Option (Int32 × PM)) (x2 : Int32) (x3 : Int32) (P : PM) : Option (Int32 × PM) := k43 x2 (x3 + (1 : Int32)) P
noncomputable def j_Mo_likeliest_72 (k43 : Int32 → Int32 → PM → Option (Int32 × PM)) (x2 : Int32) (x3 : Int32) (s0 : Int64) (s1 : Int64) (P : PM) : Option (Int32 × PM) := if (lg_cmp s0 s1) ≤ (0 : Int32) then (j_Mo_likeliest_78 k43 x2 x3 P) else (j_Mo_likeliest_78 k43 x3 x3 P)
noncomputable def l_Mo_likeliest_43 : Nat → Int32 → Int32 → PM → Option (Int32 × PM)
  | 0, _, _, _ => none
  | n + 1, x2, x3, P => if (P.1 110 (1 : Int32).toNatClampNeg) ≤ x3 then (some (x2, P)) else ((f_Mo_likelyAt x3 P).bind (fun v2 => if x2 = (-1 : Int32) then (j_Mo_likeliest_72 (fun z0 z1 Pz => l_Mo_likeliest_43 n z0 z1 Pz) x2 x3 v2 (0 : Int64) P) else ((f_Mo_likelyAt x2 P).bind (fun v4 => j_Mo_likeliest_72 (fun z0 z1 Pz => l_Mo_likeliest_43 n z0 z1 Pz) x2 x3 v2 v4 P))))
noncomputable def f_Mo_likeliest (a1 : Int32) (P : PM) : Option (Int32 × PM) := if (f_Mo_within (a1.toInt64) (0 : Int64) (6 : Int64) (u1 P 109 0 (0 : Int32))) = (0 : Int32) then (some ((-3 : Int32), (u1 P 109 0 (0 : Int32)))) else (if ((u1 P 109 0 (0 : Int32)).1 110 (113 : Int32).toNatClampNeg) = (-1 : Int32) then (some ((-5 : Int32), (u1 P 109 0 (0 : Int32)))) else ((f_Mo_laysLikely a1 (u1 P 109 0 (0 : Int32))).bind (fun P3 => l_Mo_likeliest_43 FU (-1 : Int32) (0 : Int32) P3)))
theorem t_j_Mo_likeliest_78 {G : GX} (hG : GOK G) {E : EV} (hE : E0 E) (d : Nat) (hd : 6 ≤ d) {Q : QT} (k43 : Int32 → Int32 → PM → Option (Int32 × PM)) (hk43 : ∀ (x2 : Int32) (x3 : Int32) (P : PM), St E rIP (k43 x2 x3 P) Q → Go G c_Mo_likeliest "YawnRouteModel" 4 (some .int) false d nOb nOb Q 43 [(0, .ref (ad E 109)), (2, .int x2), (3, .int x3)] [] P E) (x2 : Int32) (x3 : Int32) (P : PM) (h : St E rIP (j_Mo_likeliest_78 k43 x2 x3 P) Q) : Go G c_Mo_likeliest "YawnRouteModel" 4 (some .int) false d nOb nOb Q 78 [(0, .ref (ad E 109)), (2, .int x2), (3, .int x3)] [] P E := by
  rw [j_Mo_likeliest_78] at h
  refine Go.iinc (i := 3) (n := 1) 2 (x3 + (1 : Int32)) [(3, .int (x3 + (1 : Int32))), (0, .ref (ad E 109)), (2, .int x2)] (by decide +kernel) rfl rfl (by decide) rfl ?_
  refine Go.goto (off := -38) 43 (by decide +kernel) (by decide) ?_
  refine Go.sub [1, 2, 0] [(0, .ref (ad E 109)), (2, .int x2), (3, .int (x3 + (1 : Int32)))] rfl ?_
  exact hk43 x2 (x3 + (1 : Int32)) P h
theorem t_j_Mo_likeliest_72 {G : GX} (hG : GOK G) {E : EV} (hE : E0 E) (d : Nat) (hd : 6 ≤ d) {Q : QT} (k43 : Int32 → Int32 → PM → Option (Int32 × PM)) (hk43 : ∀ (x2 : Int32) (x3 : Int32) (P : PM), St E rIP (k43 x2 x3 P) Q → Go G c_Mo_likeliest "YawnRouteModel" 4 (some .int) false d nOb nOb Q 43 [(0, .ref (ad E 109)), (2, .int x2), (3, .int x3)] [] P E) (x2 : Int32) (x3 : Int32) (s0 : Int64) (s1 : Int64) (P : PM) (h : St E rIP (j_Mo_likeliest_72 k43 x2 x3 s0 s1 P) Q) : Go G c_Mo_likeliest "YawnRouteModel" 4 (some .int) false d nOb nOb Q 72 [(0, .ref (ad E 109)), (2, .int x2), (3, .int x3)] [.long s1, .long s0] P E := by
  rw [j_Mo_likeliest_72] at h
  refine Go.lcmp (by decide +kernel) ?_
  refine Go.if_le (off := 5) 78 (by decide +kernel) (by decide) (fun c1 => ?_) (fun c1 => ?_)
  · rw [if_pos c1] at h
    exact t_j_Mo_likeliest_78 hG hE d hd k43 hk43 x2 x3 P h
  · rw [if_neg c1] at h
    refine Go.iload_n (k := 3) (i := 3) 2 (by decide +kernel) rfl rfl ?_
    refine Go.istore_n (k := 2) (i := 2) [(2, .int x3), (0, .ref (ad E 109)), (3, .int x3)] (by decide +kernel) rfl (by decide) rfl ?_
    refine Go.sub [1, 0, 2] [(0, .ref (ad E 109)), (2, .int x3), (3, .int x3)] rfl ?_
    exact t_j_Mo_likeliest_78 hG hE d hd k43 hk43 x3 x3 P h
theorem t_l_Mo_likeliest_43 {G : GX} (hG : GOK G) {E : EV} (hE : E0 E) (d : Nat) (hd : 6 ≤ d) {Q : QT} : ∀ (n : Nat) (x2 : Int32) (x3 : Int32) (P : PM), St E rIP (l_Mo_likeliest_43 n x2 x3 P) Q → Go G c_Mo_likeliest "YawnRouteModel" 4 (some .int) false d nOb nOb Q 43 [(0, .ref (ad E 109)), (2, .int x2), (3, .int x3)] [] P E := by
  intro n
  induction n with
  | zero =>
    intro x2 x3 P h
    rw [l_Mo_likeliest_43] at h
    exact St.none_ h
  | succ n ih =>
    intro x2 x3 P h
    rw [l_Mo_likeliest_43] at h
    refine Go.iload_n (k := 3) (i := 3) 2 (by decide +kernel) rfl rfl ?_
    refine Go.aload_n (k := 0) (i := 0) 0 (by decide +kernel) rfl rfl ?_
    refine Go.get 109 1 (.ref (ad E 110)) (by decide) (by decide) sh109 (ltO hE sh109) (vlR hE rfl rfl) lk1331 (by decide +kernel) ?_
    refine Go.iconst (n := 1) (1 : Int32) (by decide +kernel) rfl ?_
    refine Go.iaload 110 3408 sh110 (ltA hE sh110 (by decide)) (vp_in_iff.mpr (by decide)) (by decide +kernel) ?_
    refine Go.icmp_ge (off := 34) 84 (by decide +kernel) (by decide) (fun c1 => ?_) (fun c1 => ?_)
    · rw [if_pos c1] at h
      refine Go.iload_n (k := 2) (i := 2) 1 (by decide +kernel) rfl rfl ?_
      exact Go.iret rfl rfl hE.2 (by decide +kernel) (St.fIP h)
    · rw [if_neg c1] at h
      refine Go.aload_n (k := 0) (i := 0) 0 (by decide +kernel) rfl rfl ?_
      refine Go.iload_n (k := 3) (i := 3) 2 (by decide +kernel) rfl rfl ?_
      obtain ⟨v2, hv2, h⟩ := St.bind h
      refine Go.cV_l (P1 := P) (v := v2) (d - 1) 109 [.int x3] sh109 hE w_Mo_likelyAt (e_Mo_likelyAt hG hE (d - 1) (by omega) x3 P ⟨_, hv2, rfl, rfl, rfl⟩) lk1895 rfl (by omega) (Nat.le_of_ble_eq_true rfl) (by decide +kernel) _ rfl ?_
      refine Go.iload_n (k := 2) (i := 2) 1 (by decide +kernel) rfl rfl ?_
      refine Go.iconst (n := -1) (-1 : Int32) (by decide +kernel) rfl ?_
      refine Go.icmp_ne (off := 7) 67 (by decide +kernel) (by decide) (fun c3 => ?_) (fun c3 => ?_)
      · rw [if_neg c3] at h
        refine Go.aload_n (k := 0) (i := 0) 0 (by decide +kernel) rfl rfl ?_
        refine Go.iload_n (k := 2) (i := 2) 1 (by decide +kernel) rfl rfl ?_
        obtain ⟨v4, hv4, h⟩ := St.bind h
        refine Go.cV_l (P1 := P) (v := v4) (d - 1) 109 [.int x2] sh109 hE w_Mo_likelyAt (e_Mo_likelyAt hG hE (d - 1) (by omega) x2 P ⟨_, hv4, rfl, rfl, rfl⟩) lk1895 rfl (by omega) (Nat.le_of_ble_eq_true rfl) (by decide +kernel) _ rfl ?_
        exact t_j_Mo_likeliest_72 hG hE d hd (fun z0 z1 Pz => l_Mo_likeliest_43 n z0 z1 Pz) (fun z0 z1 Pz q => ih z0 z1 Pz q) x2 x3 v2 v4 P h
      · rw [if_pos c3] at h
        refine Go.lconst (n := 0) (0 : Int64) (by decide +kernel) rfl ?_
        refine Go.goto (off := 8) 72 (by decide +kernel) (by decide) ?_
        exact t_j_Mo_likeliest_72 hG hE d hd (fun z0 z1 Pz => l_Mo_likeliest_43 n z0 z1 Pz) (fun z0 z1 Pz q => ih z0 z1 Pz q) x2 x3 v2 (0 : Int64) P h
theorem t_f_Mo_likeliest {G : GX} (hG : GOK G) {E : EV} (hE : E0 E) (d : Nat) (hd : 6 ≤ d) {Q : QT} (a1 : Int32) (P : PM) (h : St E rIP (f_Mo_likeliest a1 P) Q) : Go G c_Mo_likeliest "YawnRouteModel" 4 (some .int) false d nOb nOb Q 0 [(0, .ref (ad E 109)), (1, .int a1)] [] P E := by
  rw [f_Mo_likeliest] at h
  refine Go.aload_n (k := 0) (i := 0) 0 (by decide +kernel) rfl rfl ?_
  refine Go.iconst (n := 0) (0 : Int32) (by decide +kernel) rfl ?_
  refine Go.put 109 0 (by decide) (by decide) sh109 (ltO hE sh109) (Or.inl rfl) rfl rfl rfl lk1330 (by decide +kernel) ?_
  refine Go.iload_n (k := 1) (i := 1) 1 (by decide +kernel) rfl rfl ?_
  refine Go.i2l (by decide +kernel) ?_
  refine Go.lconst (n := 0) (0 : Int64) (by decide +kernel) rfl ?_
  refine Go.ldc2 (6 : Int64) lk1884 (by decide +kernel) ?_
  refine Go.cS_i (P1 := (u1 P 109 0 (0 : Int32))) (v := (f_Mo_within (a1.toInt64) (0 : Int64) (6 : Int64) (u1 P 109 0 (0 : Int32)))) (d - 1) [.long (a1.toInt64), .long (0 : Int64), .long (6 : Int64)] hE w_Mo_within (e_Mo_within hG hE (d - 1) (by omega) (a1.toInt64) (0 : Int64) (6 : Int64) (u1 P 109 0 (0 : Int32)) ⟨rfl, rfl, rfl⟩) lk1438 rfl (by omega) (Nat.le_of_ble_eq_true rfl) (by decide +kernel) _ rfl ?_
  refine Go.if_ne (off := 6) 20 (by decide +kernel) (by decide) (fun c1 => ?_) (fun c1 => ?_)
  · rw [if_neg c1] at h
    refine Go.aload_n (k := 0) (i := 0) 0 (by decide +kernel) rfl rfl ?_
    refine Go.get 109 1 (.ref (ad E 110)) (by decide) (by decide) sh109 (ltO hE sh109) (vlR hE rfl rfl) lk1331 (by decide +kernel) ?_
    refine Go.bipush (n := 113) (113 : Int32) (by decide +kernel) (by decide) ?_
    refine Go.iaload 110 3408 sh110 (ltA hE sh110 (by decide)) (vp_in_iff.mpr (by decide)) (by decide +kernel) ?_
    refine Go.iconst (n := -1) (-1 : Int32) (by decide +kernel) rfl ?_
    refine Go.icmp_ne (off := 6) 34 (by decide +kernel) (by decide) (fun c2 => ?_) (fun c2 => ?_)
    · rw [if_neg c2] at h
      refine Go.aload_n (k := 0) (i := 0) 0 (by decide +kernel) rfl rfl ?_
      refine Go.iload_n (k := 1) (i := 1) 1 (by decide +kernel) rfl rfl ?_
      obtain ⟨P3, hP3, h⟩ := St.bind h
      refine Go.cV_v (P1 := P3) (d - 1) 109 [.int a1] sh109 hE w_Mo_laysLikely (e_Mo_laysLikely hG hE (d - 1) (by omega) a1 (u1 P 109 0 (0 : Int32)) ⟨_, hP3, rfl, rfl, rfl⟩) lk1887 rfl (by omega) (Nat.le_of_ble_eq_true rfl) (by decide +kernel) _ rfl ?_
      refine Go.iconst (n := -1) (-1 : Int32) (by decide +kernel) rfl ?_
      refine Go.istore_n (k := 2) (i := 2) [(2, .int (-1 : Int32)), (0, .ref (ad E 109)), (1, .int a1)] (by decide +kernel) rfl (by decide) rfl ?_
      refine Go.iconst (n := 0) (0 : Int32) (by decide +kernel) rfl ?_
      refine Go.istore_n (k := 3) (i := 3) [(3, .int (0 : Int32)), (2, .int (-1 : Int32)), (0, .ref (ad E 109)), (1, .int a1)] (by decide +kernel) rfl (by decide) rfl ?_
      refine Go.sub [2, 1, 0] [(0, .ref (ad E 109)), (2, .int (-1 : Int32)), (3, .int (0 : Int32))] rfl ?_
      exact t_l_Mo_likeliest_43 hG hE d hd FU (-1 : Int32) (0 : Int32) P3 h
    · rw [if_pos c2] at h
      refine Go.bipush (n := -5) (-5 : Int32) (by decide +kernel) (by decide) ?_
      exact Go.iret rfl rfl hE.2 (by decide +kernel) (St.fIP h)
  · rw [if_pos c1] at h
    refine Go.bipush (n := -3) (-3 : Int32) (by decide +kernel) (by decide) ?_
    exact Go.iret rfl rfl hE.2 (by decide +kernel) (St.fIP h)
theorem e_Mo_likeliest {G : GX} (hG : GOK G) {E : EV} (hE : E0 E) (d : Nat) (hd : 6 ≤ d) (a1 : Int32) (P : PM) {Q : QT} (h : St E rIP (f_Mo_likeliest a1 P) Q) : Con G y_Mo_likeliest cw_Mo_likeliest d nOb nOb [.ref (ad E 109), .int a1] P E Q :=
  Con.of hG (by decide +kernel) rfl (fun h => by cases h) hE.2 (Nat.le_of_ble_eq_true rfl) (t_f_Mo_likeliest hG hE d hd a1 P h)
abbrev c_Mo_cut : ByteArray := prog_14_method_121_code
abbrev y_Mo_cut : MethodName := ⟨"YawnRouteModel", "cut", "(JI)J"⟩
abbrev cw_Mo_cut : Cond := .code y_Mo_cut c_Mo_cut 3 (some .long)
theorem w_Mo_cut : SW y_Mo_cut c_Mo_cut 3 (some .long) 2 := ⟨lk1919, lk14, lk1920, ⟨by decide, by decide, by decide +kernel⟩, by decide⟩
noncomputable def f_Mo_cut (a0 : Int64) (a2 : Int32) (P : PM) : Int64 := if a2 = (0 : Int32) then ((((a0.toInt32).toInt8.toInt32).toInt64)) else (if a2 = (1 : Int32) then ((((a0.toInt32).toInt16.toInt32).toInt64)) else (if a2 = (2 : Int32) then (((a0.toInt32).toInt64)) else (a0)))
theorem t_f_Mo_cut {G : GX} (hG : GOK G) {E : EV} (hE : E0 E) (d : Nat) (hd : 1 ≤ d) {P : PM} {Q : QT} (a0 : Int64) (a2 : Int32) (h : Q (some (.long (f_Mo_cut a0 a2 P))) P E) : Go G c_Mo_cut "YawnRouteModel" 3 (some .long) false d nOb nOb Q 0 [(0, .long a0), (2, .int a2)] [] P E := by
  rw [f_Mo_cut] at h
  refine Go.iload_n (k := 2) (i := 2) 1 (by decide +kernel) rfl rfl ?_
  refine Go.if_ne (off := 10) 11 (by decide +kernel) (by decide) (fun c1 => ?_) (fun c1 => ?_)
  · rw [if_neg c1] at h
    refine Go.iload_n (k := 2) (i := 2) 1 (by decide +kernel) rfl rfl ?_
    refine Go.iconst (n := 1) (1 : Int32) (by decide +kernel) rfl ?_
    refine Go.icmp_ne (off := 10) 23 (by decide +kernel) (by decide) (fun c2 => ?_) (fun c2 => ?_)
    · rw [if_neg c2] at h
      refine Go.iload_n (k := 2) (i := 2) 1 (by decide +kernel) rfl rfl ?_
      refine Go.iconst (n := 2) (2 : Int32) (by decide +kernel) rfl ?_
      refine Go.icmp_ne (off := 9) 34 (by decide +kernel) (by decide) (fun c3 => ?_) (fun c3 => ?_)
      · rw [if_neg c3] at h
        refine Go.lload_n (k := 0) (i := 0) 0 (by decide +kernel) rfl rfl ?_
        exact Go.lret rfl hE.2 (by decide +kernel) h
      · rw [if_pos c3] at h
        refine Go.lload_n (k := 0) (i := 0) 0 (by decide +kernel) rfl rfl ?_
        refine Go.l2i (by decide +kernel) ?_
        refine Go.i2l (by decide +kernel) ?_
        refine Go.goto (off := 4) 35 (by decide +kernel) (by decide) ?_
        exact Go.lret rfl hE.2 (by decide +kernel) h
    · rw [if_pos c2] at h
      refine Go.lload_n (k := 0) (i := 0) 0 (by decide +kernel) rfl rfl ?_
      refine Go.l2i (by decide +kernel) ?_
      refine Go.i2s (by decide +kernel) ?_
      refine Go.i2l (by decide +kernel) ?_
      refine Go.goto (off := 15) 35 (by decide +kernel) (by decide) ?_
      exact Go.lret rfl hE.2 (by decide +kernel) h
  · rw [if_pos c1] at h
    refine Go.lload_n (k := 0) (i := 0) 0 (by decide +kernel) rfl rfl ?_
    refine Go.l2i (by decide +kernel) ?_
    refine Go.i2b (by decide +kernel) ?_
    refine Go.i2l (by decide +kernel) ?_
    refine Go.goto (off := 27) 35 (by decide +kernel) (by decide) ?_
    exact Go.lret rfl hE.2 (by decide +kernel) h
theorem e_Mo_cut {G : GX} (hG : GOK G) {E : EV} (hE : E0 E) (d : Nat) (hd : 1 ≤ d) (a0 : Int64) (a2 : Int32) (P : PM) {Q : QT} (h : Q (some (.long (f_Mo_cut a0 a2 P))) P E) : Con G y_Mo_cut cw_Mo_cut d nOb nOb [.long a0, .int a2] P E Q :=
  Con.of hG (by decide +kernel) rfl (fun h => by cases h) hE.2 (Nat.le_of_ble_eq_true rfl) (t_f_Mo_cut hG hE d hd a0 a2 h)
abbrev c_Mo_numbers : ByteArray := prog_14_method_122_code
abbrev y_Mo_numbers : MethodName := ⟨"YawnRouteModel", "numbers", "(III)I"⟩
abbrev cw_Mo_numbers : Cond := .code y_Mo_numbers c_Mo_numbers 5 (some .int)
theorem w_Mo_numbers : VW 12 y_Mo_numbers c_Mo_numbers 5 (some .int) 3 := ⟨by decide, lk1910, lk1911, lk14, lk1912, ⟨by decide, by decide, by decide +kernel⟩, by decide⟩
noncomputable def l_Mo_numbers_64 : Nat → Int32 → Int32 → Int32 → PM → Option (Int32 × PM)
  | 0, _, _, _, _ => none
  | n + 1, x1, x3, x4, P => if x3 ≤ x4 then (some ((0 : Int32), P)) else (ck (inb (((40 : Int32) * x1) + x4) 160) (l_Mo_numbers_64 n x1 x3 (x4 + (1 : Int32)) (u2 P 129 (((40 : Int32) * x1) + x4).toNatClampNeg (0 : Int64))))
noncomputable def f_Mo_numbers (a1 : Int32) (a2 : Int32) (a3 : Int32) (P : PM) : Option (Int32 × PM) := if (f_Mo_within (a1.toInt64) (0 : Int64) (3 : Int64) (u1 P 109 0 (0 : Int32))) = (0 : Int32) then (some ((-2 : Int32), (u1 P 109 0 (0 : Int32)))) else (if (f_Mo_within (a2.toInt64) (0 : Int64) (3 : Int64) (u1 P 109 0 (0 : Int32))) = (0 : Int32) then (some ((-2 : Int32), (u1 P 109 0 (0 : Int32)))) else (if (f_Mo_within (a3.toInt64) (0 : Int64) (40 : Int64) (u1 P 109 0 (0 : Int32))) = (0 : Int32) then (some ((-3 : Int32), (u1 P 109 0 (0 : Int32)))) else (ck (inb a1 4) (ck (inb a1 4) (l_Mo_numbers_64 FU a1 a3 (0 : Int32) (u1 (u1 (u1 P 109 0 (0 : Int32)) 127 a1.toNatClampNeg a2) 128 a1.toNatClampNeg a3))))))
theorem t_l_Mo_numbers_64 {G : GX} (hG : GOK G) {E : EV} (hE : E0 E) (d : Nat) (hd : 2 ≤ d) {Q : QT} : ∀ (n : Nat) (x1 : Int32) (x3 : Int32) (x4 : Int32) (P : PM), St E rIP (l_Mo_numbers_64 n x1 x3 x4 P) Q → Go G c_Mo_numbers "YawnRouteModel" 5 (some .int) false d nOb nOb Q 64 [(0, .ref (ad E 109)), (1, .int x1), (3, .int x3), (4, .int x4)] [] P E := by
  intro n
  induction n with
  | zero =>
    intro x1 x3 x4 P h
    rw [l_Mo_numbers_64] at h
    exact St.none_ h
  | succ n ih =>
    intro x1 x3 x4 P h
    rw [l_Mo_numbers_64] at h
    refine Go.iload (i := 4) 3 (by decide +kernel) rfl ?_
    refine Go.iload_n (k := 3) (i := 3) 2 (by decide +kernel) rfl rfl ?_
    refine Go.icmp_ge (off := 22) 89 (by decide +kernel) (by decide) (fun c1 => ?_) (fun c1 => ?_)
    · rw [if_pos c1] at h
      refine Go.iconst (n := 0) (0 : Int32) (by decide +kernel) rfl ?_
      exact Go.iret rfl rfl hE.2 (by decide +kernel) (St.fIP h)
    · rw [if_neg c1] at h
      refine Go.aload_n (k := 0) (i := 0) 0 (by decide +kernel) rfl rfl ?_
      refine Go.get 109 32 (.ref (ad E 129)) (by decide) (by decide) sh109 (ltO hE sh109) (vlR hE rfl rfl) lk1362 (by decide +kernel) ?_
      refine Go.bipush (n := 40) (40 : Int32) (by decide +kernel) (by decide) ?_
      refine Go.iload_n (k := 1) (i := 1) 1 (by decide +kernel) rfl rfl ?_
      refine Go.imul (by decide +kernel) ?_
      refine Go.iload (i := 4) 3 (by decide +kernel) rfl ?_
      refine Go.iadd (by decide +kernel) ?_
      refine Go.lconst (n := 0) (0 : Int64) (by decide +kernel) rfl ?_
      obtain ⟨b2, h⟩ := St.ck h
      refine Go.lastore 129 160 sh129 (ltA hE sh129 (by decide)) (inb_in b2) (by decide +kernel) ?_
      refine Go.iinc (i := 4) (n := 1) 3 (x4 + (1 : Int32)) [(4, .int (x4 + (1 : Int32))), (0, .ref (ad E 109)), (1, .int x1), (3, .int x3)] (by decide +kernel) rfl rfl (by decide) rfl ?_
      refine Go.goto (off := -22) 64 (by decide +kernel) (by decide) ?_
      refine Go.sub [1, 2, 3, 0] [(0, .ref (ad E 109)), (1, .int x1), (3, .int x3), (4, .int (x4 + (1 : Int32)))] rfl ?_
      exact ih x1 x3 (x4 + (1 : Int32)) (u2 P 129 (((40 : Int32) * x1) + x4).toNatClampNeg (0 : Int64)) h
theorem t_f_Mo_numbers {G : GX} (hG : GOK G) {E : EV} (hE : E0 E) (d : Nat) (hd : 2 ≤ d) {Q : QT} (a1 : Int32) (a2 : Int32) (a3 : Int32) (P : PM) (h : St E rIP (f_Mo_numbers a1 a2 a3 P) Q) : Go G c_Mo_numbers "YawnRouteModel" 5 (some .int) false d nOb nOb Q 0 [(0, .ref (ad E 109)), (1, .int a1), (2, .int a2), (3, .int a3)] [] P E := by
  rw [f_Mo_numbers] at h
  refine Go.aload_n (k := 0) (i := 0) 0 (by decide +kernel) rfl rfl ?_
  refine Go.iconst (n := 0) (0 : Int32) (by decide +kernel) rfl ?_
  refine Go.put 109 0 (by decide) (by decide) sh109 (ltO hE sh109) (Or.inl rfl) rfl rfl rfl lk1330 (by decide +kernel) ?_
  refine Go.iload_n (k := 1) (i := 1) 1 (by decide +kernel) rfl rfl ?_
  refine Go.i2l (by decide +kernel) ?_
  refine Go.lconst (n := 0) (0 : Int64) (by decide +kernel) rfl ?_
  refine Go.ldc2 (3 : Int64) lk1641 (by decide +kernel) ?_
  refine Go.cS_i (P1 := (u1 P 109 0 (0 : Int32))) (v := (f_Mo_within (a1.toInt64) (0 : Int64) (3 : Int64) (u1 P 109 0 (0 : Int32)))) (d - 1) [.long (a1.toInt64), .long (0 : Int64), .long (3 : Int64)] hE w_Mo_within (e_Mo_within hG hE (d - 1) (by omega) (a1.toInt64) (0 : Int64) (3 : Int64) (u1 P 109 0 (0 : Int32)) ⟨rfl, rfl, rfl⟩) lk1438 rfl (by omega) (Nat.le_of_ble_eq_true rfl) (by decide +kernel) _ rfl ?_
  refine Go.if_eq (off := 15) 29 (by decide +kernel) (by decide) (fun c1 => ?_) (fun c1 => ?_)
  · rw [if_pos c1] at h
    refine Go.bipush (n := -2) (-2 : Int32) (by decide +kernel) (by decide) ?_
    exact Go.iret rfl rfl hE.2 (by decide +kernel) (St.fIP h)
  · rw [if_neg c1] at h
    refine Go.iload_n (k := 2) (i := 2) 2 (by decide +kernel) rfl rfl ?_
    refine Go.i2l (by decide +kernel) ?_
    refine Go.lconst (n := 0) (0 : Int64) (by decide +kernel) rfl ?_
    refine Go.ldc2 (3 : Int64) lk1641 (by decide +kernel) ?_
    refine Go.cS_i (P1 := (u1 P 109 0 (0 : Int32))) (v := (f_Mo_within (a2.toInt64) (0 : Int64) (3 : Int64) (u1 P 109 0 (0 : Int32)))) (d - 1) [.long (a2.toInt64), .long (0 : Int64), .long (3 : Int64)] hE w_Mo_within (e_Mo_within hG hE (d - 1) (by omega) (a2.toInt64) (0 : Int64) (3 : Int64) (u1 P 109 0 (0 : Int32)) ⟨rfl, rfl, rfl⟩) lk1438 rfl (by omega) (Nat.le_of_ble_eq_true rfl) (by decide +kernel) _ rfl ?_
    refine Go.if_ne (off := 6) 32 (by decide +kernel) (by decide) (fun c2 => ?_) (fun c2 => ?_)
    · rw [if_neg c2] at h
      refine Go.iload_n (k := 3) (i := 3) 3 (by decide +kernel) rfl rfl ?_
      refine Go.i2l (by decide +kernel) ?_
      refine Go.lconst (n := 0) (0 : Int64) (by decide +kernel) rfl ?_
      refine Go.ldc2 (40 : Int64) lk1618 (by decide +kernel) ?_
      refine Go.cS_i (P1 := (u1 P 109 0 (0 : Int32))) (v := (f_Mo_within (a3.toInt64) (0 : Int64) (40 : Int64) (u1 P 109 0 (0 : Int32)))) (d - 1) [.long (a3.toInt64), .long (0 : Int64), .long (40 : Int64)] hE w_Mo_within (e_Mo_within hG hE (d - 1) (by omega) (a3.toInt64) (0 : Int64) (40 : Int64) (u1 P 109 0 (0 : Int32)) ⟨rfl, rfl, rfl⟩) lk1438 rfl (by omega) (Nat.le_of_ble_eq_true rfl) (by decide +kernel) _ rfl ?_
      refine Go.if_ne (off := 6) 47 (by decide +kernel) (by decide) (fun c3 => ?_) (fun c3 => ?_)
      · rw [if_neg c3] at h
        refine Go.aload_n (k := 0) (i := 0) 0 (by decide +kernel) rfl rfl ?_
        refine Go.get 109 30 (.ref (ad E 127)) (by decide) (by decide) sh109 (ltO hE sh109) (vlR hE rfl rfl) lk1360 (by decide +kernel) ?_
        refine Go.iload_n (k := 1) (i := 1) 1 (by decide +kernel) rfl rfl ?_
        refine Go.iload_n (k := 2) (i := 2) 2 (by decide +kernel) rfl rfl ?_
        obtain ⟨b4, h⟩ := St.ck h
        refine Go.iastore 127 4 sh127 (ltA hE sh127 (by decide)) (inb_in b4) (by decide +kernel) ?_
        refine Go.aload_n (k := 0) (i := 0) 0 (by decide +kernel) rfl rfl ?_
        refine Go.get 109 31 (.ref (ad E 128)) (by decide) (by decide) sh109 (ltO hE sh109) (vlR hE rfl rfl) lk1361 (by decide +kernel) ?_
        refine Go.iload_n (k := 1) (i := 1) 1 (by decide +kernel) rfl rfl ?_
        refine Go.iload_n (k := 3) (i := 3) 3 (by decide +kernel) rfl rfl ?_
        obtain ⟨b5, h⟩ := St.ck h
        refine Go.iastore 128 4 sh128 (ltA hE sh128 (by decide)) (inb_in b5) (by decide +kernel) ?_
        refine Go.iconst (n := 0) (0 : Int32) (by decide +kernel) rfl ?_
        refine Go.istore (i := 4) [(4, .int (0 : Int32)), (0, .ref (ad E 109)), (1, .int a1), (2, .int a2), (3, .int a3)] (by decide +kernel) (by decide) rfl ?_
        refine Go.sub [1, 2, 4, 0] [(0, .ref (ad E 109)), (1, .int a1), (3, .int a3), (4, .int (0 : Int32))] rfl ?_
        exact t_l_Mo_numbers_64 hG hE d hd FU a1 a3 (0 : Int32) (u1 (u1 (u1 P 109 0 (0 : Int32)) 127 a1.toNatClampNeg a2) 128 a1.toNatClampNeg a3) h
      · rw [if_pos c3] at h
        refine Go.bipush (n := -3) (-3 : Int32) (by decide +kernel) (by decide) ?_
        exact Go.iret rfl rfl hE.2 (by decide +kernel) (St.fIP h)
    · rw [if_pos c2] at h
      refine Go.bipush (n := -2) (-2 : Int32) (by decide +kernel) (by decide) ?_
      exact Go.iret rfl rfl hE.2 (by decide +kernel) (St.fIP h)
theorem e_Mo_numbers {G : GX} (hG : GOK G) {E : EV} (hE : E0 E) (d : Nat) (hd : 2 ≤ d) (a1 : Int32) (a2 : Int32) (a3 : Int32) (P : PM) {Q : QT} (h : St E rIP (f_Mo_numbers a1 a2 a3 P) Q) : Con G y_Mo_numbers cw_Mo_numbers d nOb nOb [.ref (ad E 109), .int a1, .int a2, .int a3] P E Q :=
  Con.of hG (by decide +kernel) rfl (fun h => by cases h) hE.2 (Nat.le_of_ble_eq_true rfl) (t_f_Mo_numbers hG hE d hd a1 a2 a3 P h)
abbrev c_Mo_write : ByteArray := prog_14_method_123_code
abbrev y_Mo_write : MethodName := ⟨"YawnRouteModel", "write", "(IIJ)J"⟩
abbrev cw_Mo_write : Cond := .code y_Mo_write c_Mo_write 6 (some .long)
theorem w_Mo_write : VW 12 y_Mo_write c_Mo_write 6 (some .long) 3 := ⟨by decide, lk1914, lk1915, lk14, lk1916, ⟨by decide, by decide, by decide +kernel⟩, by decide⟩
noncomputable def f_Mo_write (a1 : Int32) (a2 : Int32) (a3 : Int64) (P : PM) : Option (Int64 × PM) := (f_Mo_noTray a1 (u1 P 109 0 (0 : Int32))).bind (fun v1 => if v1 = (0 : Int32) then (ck (inb a1 4) (if (f_Mo_within (a2.toInt64) (0 : Int64) ((((u1 P 109 0 (0 : Int32)).1 128 a1.toNatClampNeg) - (1 : Int32)).toInt64) (u1 P 109 0 (0 : Int32))) = (0 : Int32) then (some ((-7 : Int64), (u1 P 109 0 (0 : Int32)))) else (ck (inb a1 4) (ck (inb (((40 : Int32) * a1) + a2) 160) (ck (inb (((40 : Int32) * a1) + a2) 160) (some (((u2 (u1 P 109 0 (0 : Int32)) 129 (((40 : Int32) * a1) + a2).toNatClampNeg (f_Mo_cut a3 ((u1 P 109 0 (0 : Int32)).1 127 a1.toNatClampNeg) (u1 P 109 0 (0 : Int32)))).2 129 (((40 : Int32) * a1) + a2).toNatClampNeg), (u2 (u1 P 109 0 (0 : Int32)) 129 (((40 : Int32) * a1) + a2).toNatClampNeg (f_Mo_cut a3 ((u1 P 109 0 (0 : Int32)).1 127 a1.toNatClampNeg) (u1 P 109 0 (0 : Int32))))))))))) else (some ((v1.toInt64), (u1 P 109 0 (0 : Int32)))))
theorem t_f_Mo_write {G : GX} (hG : GOK G) {E : EV} (hE : E0 E) (d : Nat) (hd : 3 ≤ d) {Q : QT} (a1 : Int32) (a2 : Int32) (a3 : Int64) (P : PM) (h : St E rLP (f_Mo_write a1 a2 a3 P) Q) : Go G c_Mo_write "YawnRouteModel" 6 (some .long) false d nOb nOb Q 0 [(0, .ref (ad E 109)), (1, .int a1), (2, .int a2), (3, .long a3)] [] P E := by
  rw [f_Mo_write] at h
  refine Go.aload_n (k := 0) (i := 0) 0 (by decide +kernel) rfl rfl ?_
  refine Go.iconst (n := 0) (0 : Int32) (by decide +kernel) rfl ?_
  refine Go.put 109 0 (by decide) (by decide) sh109 (ltO hE sh109) (Or.inl rfl) rfl rfl rfl lk1330 (by decide +kernel) ?_
  refine Go.aload_n (k := 0) (i := 0) 0 (by decide +kernel) rfl rfl ?_
  refine Go.iload_n (k := 1) (i := 1) 1 (by decide +kernel) rfl rfl ?_
  obtain ⟨v1, hv1, h⟩ := St.bind h
  refine Go.cV_i (P1 := (u1 P 109 0 (0 : Int32))) (v := v1) (d - 1) 109 [.int a1] sh109 hE w_Mo_noTray (e_Mo_noTray hG hE (d - 1) (by omega) a1 (u1 P 109 0 (0 : Int32)) ⟨_, hv1, rfl, rfl, rfl⟩) lk1642 rfl (by omega) (Nat.le_of_ble_eq_true rfl) (by decide +kernel) _ rfl ?_
  refine Go.istore (i := 5) [(5, .int v1), (0, .ref (ad E 109)), (1, .int a1), (2, .int a2), (3, .long a3)] (by decide +kernel) (by decide) rfl ?_
  refine Go.iload (i := 5) 0 (by decide +kernel) rfl ?_
  refine Go.if_eq (off := 7) 21 (by decide +kernel) (by decide) (fun c2 => ?_) (fun c2 => ?_)
  · rw [if_pos c2] at h
    refine Go.iload_n (k := 2) (i := 2) 3 (by decide +kernel) rfl rfl ?_
    refine Go.i2l (by decide +kernel) ?_
    refine Go.lconst (n := 0) (0 : Int64) (by decide +kernel) rfl ?_
    refine Go.aload_n (k := 0) (i := 0) 1 (by decide +kernel) rfl rfl ?_
    refine Go.get 109 31 (.ref (ad E 128)) (by decide) (by decide) sh109 (ltO hE sh109) (vlR hE rfl rfl) lk1361 (by decide +kernel) ?_
    refine Go.iload_n (k := 1) (i := 1) 2 (by decide +kernel) rfl rfl ?_
    obtain ⟨b3, h⟩ := St.ck h
    refine Go.iaload 128 4 sh128 (ltA hE sh128 (by decide)) (inb_in b3) (by decide +kernel) ?_
    refine Go.iconst (n := 1) (1 : Int32) (by decide +kernel) rfl ?_
    refine Go.isub (by decide +kernel) ?_
    refine Go.i2l (by decide +kernel) ?_
    refine Go.cS_i (P1 := (u1 P 109 0 (0 : Int32))) (v := (f_Mo_within (a2.toInt64) (0 : Int64) ((((u1 P 109 0 (0 : Int32)).1 128 a1.toNatClampNeg) - (1 : Int32)).toInt64) (u1 P 109 0 (0 : Int32)))) (d - 1) [.long (a2.toInt64), .long (0 : Int64), .long ((((u1 P 109 0 (0 : Int32)).1 128 a1.toNatClampNeg) - (1 : Int32)).toInt64)] hE w_Mo_within (e_Mo_within hG hE (d - 1) (by omega) (a2.toInt64) (0 : Int64) ((((u1 P 109 0 (0 : Int32)).1 128 a1.toNatClampNeg) - (1 : Int32)).toInt64) (u1 P 109 0 (0 : Int32)) ⟨rfl, rfl, rfl⟩) lk1438 rfl (by omega) (Nat.le_of_ble_eq_true rfl) (by decide +kernel) _ rfl ?_
    refine Go.if_ne (off := 7) 43 (by decide +kernel) (by decide) (fun c4 => ?_) (fun c4 => ?_)
    · rw [if_neg c4] at h
      refine Go.aload_n (k := 0) (i := 0) 1 (by decide +kernel) rfl rfl ?_
      refine Go.get 109 32 (.ref (ad E 129)) (by decide) (by decide) sh109 (ltO hE sh109) (vlR hE rfl rfl) lk1362 (by decide +kernel) ?_
      refine Go.bipush (n := 40) (40 : Int32) (by decide +kernel) (by decide) ?_
      refine Go.iload_n (k := 1) (i := 1) 2 (by decide +kernel) rfl rfl ?_
      refine Go.imul (by decide +kernel) ?_
      refine Go.iload_n (k := 2) (i := 2) 3 (by decide +kernel) rfl rfl ?_
      refine Go.iadd (by decide +kernel) ?_
      refine Go.lload_n (k := 3) (i := 3) 4 (by decide +kernel) rfl rfl ?_
      refine Go.aload_n (k := 0) (i := 0) 1 (by decide +kernel) rfl rfl ?_
      refine Go.get 109 30 (.ref (ad E 127)) (by decide) (by decide) sh109 (ltO hE sh109) (vlR hE rfl rfl) lk1360 (by decide +kernel) ?_
      refine Go.iload_n (k := 1) (i := 1) 2 (by decide +kernel) rfl rfl ?_
      obtain ⟨b5, h⟩ := St.ck h
      refine Go.iaload 127 4 sh127 (ltA hE sh127 (by decide)) (inb_in b5) (by decide +kernel) ?_
      refine Go.cS_l (P1 := (u1 P 109 0 (0 : Int32))) (v := (f_Mo_cut a3 ((u1 P 109 0 (0 : Int32)).1 127 a1.toNatClampNeg) (u1 P 109 0 (0 : Int32)))) (d - 1) [.long a3, .int ((u1 P 109 0 (0 : Int32)).1 127 a1.toNatClampNeg)] hE w_Mo_cut (e_Mo_cut hG hE (d - 1) (by omega) a3 ((u1 P 109 0 (0 : Int32)).1 127 a1.toNatClampNeg) (u1 P 109 0 (0 : Int32)) ⟨rfl, rfl, rfl⟩) lk1918 rfl (by omega) (Nat.le_of_ble_eq_true rfl) (by decide +kernel) _ rfl ?_
      obtain ⟨b6, h⟩ := St.ck h
      refine Go.lastore 129 160 sh129 (ltA hE sh129 (by decide)) (inb_in b6) (by decide +kernel) ?_
      refine Go.aload_n (k := 0) (i := 0) 1 (by decide +kernel) rfl rfl ?_
      refine Go.get 109 32 (.ref (ad E 129)) (by decide) (by decide) sh109 (ltO hE sh109) (vlR hE rfl rfl) lk1362 (by decide +kernel) ?_
      refine Go.bipush (n := 40) (40 : Int32) (by decide +kernel) (by decide) ?_
      refine Go.iload_n (k := 1) (i := 1) 2 (by decide +kernel) rfl rfl ?_
      refine Go.imul (by decide +kernel) ?_
      refine Go.iload_n (k := 2) (i := 2) 3 (by decide +kernel) rfl rfl ?_
      refine Go.iadd (by decide +kernel) ?_
      obtain ⟨b7, h⟩ := St.ck h
      refine Go.laload 129 160 sh129 (ltA hE sh129 (by decide)) (inb_in b7) (by decide +kernel) ?_
      exact Go.lret rfl hE.2 (by decide +kernel) (St.fLP h)
    · rw [if_pos c4] at h
      refine Go.ldc2 (-7 : Int64) lk1917 (by decide +kernel) ?_
      exact Go.lret rfl hE.2 (by decide +kernel) (St.fLP h)
  · rw [if_neg c2] at h
    refine Go.iload (i := 5) 0 (by decide +kernel) rfl ?_
    refine Go.i2l (by decide +kernel) ?_
    exact Go.lret rfl hE.2 (by decide +kernel) (St.fLP h)
theorem e_Mo_write {G : GX} (hG : GOK G) {E : EV} (hE : E0 E) (d : Nat) (hd : 3 ≤ d) (a1 : Int32) (a2 : Int32) (a3 : Int64) (P : PM) {Q : QT} (h : St E rLP (f_Mo_write a1 a2 a3 P) Q) : Con G y_Mo_write cw_Mo_write d nOb nOb [.ref (ad E 109), .int a1, .int a2, .long a3] P E Q :=
  Con.of hG (by decide +kernel) rfl (fun h => by cases h) hE.2 (Nat.le_of_ble_eq_true rfl) (t_f_Mo_write hG hE d hd a1 a2 a3 P h)
abbrev c_Mo_lists : ByteArray := prog_14_method_124_code
abbrev y_Mo_lists : MethodName := ⟨"YawnRouteModel", "lists", "(II)I"⟩
abbrev cw_Mo_lists : Cond := .code y_Mo_lists c_Mo_lists 5 (some .int)
theorem w_Mo_lists : VW 12 y_Mo_lists c_Mo_lists 5 (some .int) 2 := ⟨by decide, lk1922, lk1923, lk14, lk1924, ⟨by decide, by decide, by decide +kernel⟩, by decide⟩
noncomputable def l_Mo_lists_71 : Nat → Int32 → Int32 → PM → Option (Int32 × PM)
  | 0, _, _, _ => none
  | n + 1, x1, x4, P => ck (inb x1 4) (if (P.1 128 x1.toNatClampNeg) ≤ x4 then (some (x4, P)) else ((f_Mo_stationAt x4 (1 : Int32) P).bind (fun v3 => if v3 = (-1 : Int32) then (some (x4, P)) else ((f_Mo_stationAt x4 (1 : Int32) P).bind (fun v5 => ck (inb (((40 : Int32) * x1) + x4) 160) (l_Mo_lists_71 n x1 (x4 + (1 : Int32)) (u2 P 129 (((40 : Int32) * x1) + x4).toNatClampNeg (v5.toInt64))))))))
noncomputable def f_Mo_lists (a1 : Int32) (a2 : Int32) (P : PM) : Option (Int32 × PM) := if (f_Mo_within (a1.toInt64) (0 : Int64) (3 : Int64) (u1 P 109 0 (0 : Int32))) = (0 : Int32) then (some ((-2 : Int32), (u1 P 109 0 (0 : Int32)))) else ((f_Mo_isStation (a2.toInt64) (u1 P 109 0 (0 : Int32))).bind (fun v2 => if v2 = (0 : Int32) then (some ((-2 : Int32), (u1 P 109 0 (0 : Int32)))) else ((f_Mo_noTray a1 (u1 P 109 0 (0 : Int32))).bind (fun v4 => if v4 = (0 : Int32) then (if ((u1 P 109 0 (0 : Int32)).1 110 (113 : Int32).toNatClampNeg) = (-1 : Int32) then (some ((-5 : Int32), (u1 P 109 0 (0 : Int32)))) else (bd2 (f_Mo_laysFar a2 (1 : Int32) (1 : Int32) (u1 P 109 0 (0 : Int32))) (fun v7 P8 => if v7 = (268435456 : Int32) then (some ((-5 : Int32), P8)) else (l_Mo_lists_71 FU a1 (0 : Int32) P8)))) else (some (v4, (u1 P 109 0 (0 : Int32))))))))
theorem t_l_Mo_lists_71 {G : GX} (hG : GOK G) {E : EV} (hE : E0 E) (d : Nat) (hd : 6 ≤ d) {Q : QT} : ∀ (n : Nat) (x1 : Int32) (x4 : Int32) (P : PM), St E rIP (l_Mo_lists_71 n x1 x4 P) Q → Go G c_Mo_lists "YawnRouteModel" 5 (some .int) false d nOb nOb Q 71 [(0, .ref (ad E 109)), (1, .int x1), (4, .int x4)] [] P E := by
  intro n
  induction n with
  | zero =>
    intro x1 x4 P h
    rw [l_Mo_lists_71] at h
    exact St.none_ h
  | succ n ih =>
    intro x1 x4 P h
    rw [l_Mo_lists_71] at h
    refine Go.iload (i := 4) 2 (by decide +kernel) rfl ?_
    refine Go.aload_n (k := 0) (i := 0) 0 (by decide +kernel) rfl rfl ?_
    refine Go.get 109 31 (.ref (ad E 128)) (by decide) (by decide) sh109 (ltO hE sh109) (vlR hE rfl rfl) lk1361 (by decide +kernel) ?_
    refine Go.iload_n (k := 1) (i := 1) 1 (by decide +kernel) rfl rfl ?_
    obtain ⟨b1, h⟩ := St.ck h
    refine Go.iaload 128 4 sh128 (ltA hE sh128 (by decide)) (inb_in b1) (by decide +kernel) ?_
    refine Go.icmp_ge (off := 40) 119 (by decide +kernel) (by decide) (fun c2 => ?_) (fun c2 => ?_)
    · rw [if_pos c2] at h
      refine Go.iload (i := 4) 2 (by decide +kernel) rfl ?_
      exact Go.iret rfl rfl hE.2 (by decide +kernel) (St.fIP h)
    · rw [if_neg c2] at h
      refine Go.aload_n (k := 0) (i := 0) 0 (by decide +kernel) rfl rfl ?_
      refine Go.iload (i := 4) 2 (by decide +kernel) rfl ?_
      refine Go.iconst (n := 1) (1 : Int32) (by decide +kernel) rfl ?_
      obtain ⟨v3, hv3, h⟩ := St.bind h
      refine Go.cV_i (P1 := P) (v := v3) (d - 1) 109 [.int x4, .int (1 : Int32)] sh109 hE w_Mo_stationAt (e_Mo_stationAt hG hE (d - 1) (by omega) x4 (1 : Int32) P ⟨_, hv3, rfl, rfl, rfl⟩) lk1732 rfl (by omega) (Nat.le_of_ble_eq_true rfl) (by decide +kernel) _ rfl ?_
      refine Go.iconst (n := -1) (-1 : Int32) (by decide +kernel) rfl ?_
      refine Go.icmp_eq (off := 29) 119 (by decide +kernel) (by decide) (fun c4 => ?_) (fun c4 => ?_)
      · rw [if_pos c4] at h
        refine Go.iload (i := 4) 2 (by decide +kernel) rfl ?_
        exact Go.iret rfl rfl hE.2 (by decide +kernel) (St.fIP h)
      · rw [if_neg c4] at h
        refine Go.aload_n (k := 0) (i := 0) 0 (by decide +kernel) rfl rfl ?_
        refine Go.get 109 32 (.ref (ad E 129)) (by decide) (by decide) sh109 (ltO hE sh109) (vlR hE rfl rfl) lk1362 (by decide +kernel) ?_
        refine Go.bipush (n := 40) (40 : Int32) (by decide +kernel) (by decide) ?_
        refine Go.iload_n (k := 1) (i := 1) 1 (by decide +kernel) rfl rfl ?_
        refine Go.imul (by decide +kernel) ?_
        refine Go.iload (i := 4) 2 (by decide +kernel) rfl ?_
        refine Go.iadd (by decide +kernel) ?_
        refine Go.aload_n (k := 0) (i := 0) 0 (by decide +kernel) rfl rfl ?_
        refine Go.iload (i := 4) 2 (by decide +kernel) rfl ?_
        refine Go.iconst (n := 1) (1 : Int32) (by decide +kernel) rfl ?_
        obtain ⟨v5, hv5, h⟩ := St.bind h
        refine Go.cV_i (P1 := P) (v := v5) (d - 1) 109 [.int x4, .int (1 : Int32)] sh109 hE w_Mo_stationAt (e_Mo_stationAt hG hE (d - 1) (by omega) x4 (1 : Int32) P ⟨_, hv5, rfl, rfl, rfl⟩) lk1732 rfl (by omega) (Nat.le_of_ble_eq_true rfl) (by decide +kernel) _ rfl ?_
        refine Go.i2l (by decide +kernel) ?_
        obtain ⟨b6, h⟩ := St.ck h
        refine Go.lastore 129 160 sh129 (ltA hE sh129 (by decide)) (inb_in b6) (by decide +kernel) ?_
        refine Go.iinc (i := 4) (n := 1) 2 (x4 + (1 : Int32)) [(4, .int (x4 + (1 : Int32))), (0, .ref (ad E 109)), (1, .int x1)] (by decide +kernel) rfl rfl (by decide) rfl ?_
        refine Go.goto (off := -45) 71 (by decide +kernel) (by decide) ?_
        refine Go.sub [1, 2, 0] [(0, .ref (ad E 109)), (1, .int x1), (4, .int (x4 + (1 : Int32)))] rfl ?_
        exact ih x1 (x4 + (1 : Int32)) (u2 P 129 (((40 : Int32) * x1) + x4).toNatClampNeg (v5.toInt64)) h
theorem t_f_Mo_lists {G : GX} (hG : GOK G) {E : EV} (hE : E0 E) (d : Nat) (hd : 6 ≤ d) {Q : QT} (a1 : Int32) (a2 : Int32) (P : PM) (h : St E rIP (f_Mo_lists a1 a2 P) Q) : Go G c_Mo_lists "YawnRouteModel" 5 (some .int) false d nOb nOb Q 0 [(0, .ref (ad E 109)), (1, .int a1), (2, .int a2)] [] P E := by
  rw [f_Mo_lists] at h
  refine Go.aload_n (k := 0) (i := 0) 0 (by decide +kernel) rfl rfl ?_
  refine Go.iconst (n := 0) (0 : Int32) (by decide +kernel) rfl ?_
  refine Go.put 109 0 (by decide) (by decide) sh109 (ltO hE sh109) (Or.inl rfl) rfl rfl rfl lk1330 (by decide +kernel) ?_
  refine Go.iload_n (k := 1) (i := 1) 1 (by decide +kernel) rfl rfl ?_
  refine Go.i2l (by decide +kernel) ?_
  refine Go.lconst (n := 0) (0 : Int64) (by decide +kernel) rfl ?_
  refine Go.ldc2 (3 : Int64) lk1641 (by decide +kernel) ?_
  refine Go.cS_i (P1 := (u1 P 109 0 (0 : Int32))) (v := (f_Mo_within (a1.toInt64) (0 : Int64) (3 : Int64) (u1 P 109 0 (0 : Int32)))) (d - 1) [.long (a1.toInt64), .long (0 : Int64), .long (3 : Int64)] hE w_Mo_within (e_Mo_within hG hE (d - 1) (by omega) (a1.toInt64) (0 : Int64) (3 : Int64) (u1 P 109 0 (0 : Int32)) ⟨rfl, rfl, rfl⟩) lk1438 rfl (by omega) (Nat.le_of_ble_eq_true rfl) (by decide +kernel) _ rfl ?_
  refine Go.if_eq (off := 12) 26 (by decide +kernel) (by decide) (fun c1 => ?_) (fun c1 => ?_)
  · rw [if_pos c1] at h
    refine Go.bipush (n := -2) (-2 : Int32) (by decide +kernel) (by decide) ?_
    exact Go.iret rfl rfl hE.2 (by decide +kernel) (St.fIP h)
  · rw [if_neg c1] at h
    refine Go.aload_n (k := 0) (i := 0) 0 (by decide +kernel) rfl rfl ?_
    refine Go.iload_n (k := 2) (i := 2) 2 (by decide +kernel) rfl rfl ?_
    refine Go.i2l (by decide +kernel) ?_
    obtain ⟨v2, hv2, h⟩ := St.bind h
    refine Go.cV_i (P1 := (u1 P 109 0 (0 : Int32))) (v := v2) (d - 1) 109 [.long (a2.toInt64)] sh109 hE w_Mo_isStation (e_Mo_isStation hG hE (d - 1) (by omega) (a2.toInt64) (u1 P 109 0 (0 : Int32)) ⟨_, hv2, rfl, rfl, rfl⟩) lk1555 rfl (by omega) (Nat.le_of_ble_eq_true rfl) (by decide +kernel) _ rfl ?_
    refine Go.if_ne (off := 6) 29 (by decide +kernel) (by decide) (fun c3 => ?_) (fun c3 => ?_)
    · rw [if_neg c3] at h
      refine Go.aload_n (k := 0) (i := 0) 0 (by decide +kernel) rfl rfl ?_
      refine Go.iload_n (k := 1) (i := 1) 1 (by decide +kernel) rfl rfl ?_
      obtain ⟨v4, hv4, h⟩ := St.bind h
      refine Go.cV_i (P1 := (u1 P 109 0 (0 : Int32))) (v := v4) (d - 1) 109 [.int a1] sh109 hE w_Mo_noTray (e_Mo_noTray hG hE (d - 1) (by omega) a1 (u1 P 109 0 (0 : Int32)) ⟨_, hv4, rfl, rfl, rfl⟩) lk1642 rfl (by omega) (Nat.le_of_ble_eq_true rfl) (by decide +kernel) _ rfl ?_
      refine Go.istore_n (k := 3) (i := 3) [(3, .int v4), (0, .ref (ad E 109)), (1, .int a1), (2, .int a2)] (by decide +kernel) rfl (by decide) rfl ?_
      refine Go.iload_n (k := 3) (i := 3) 0 (by decide +kernel) rfl rfl ?_
      refine Go.if_eq (off := 5) 41 (by decide +kernel) (by decide) (fun c5 => ?_) (fun c5 => ?_)
      · rw [if_pos c5] at h
        refine Go.aload_n (k := 0) (i := 0) 1 (by decide +kernel) rfl rfl ?_
        refine Go.get 109 1 (.ref (ad E 110)) (by decide) (by decide) sh109 (ltO hE sh109) (vlR hE rfl rfl) lk1331 (by decide +kernel) ?_
        refine Go.bipush (n := 113) (113 : Int32) (by decide +kernel) (by decide) ?_
        refine Go.iaload 110 3408 sh110 (ltA hE sh110 (by decide)) (vp_in_iff.mpr (by decide)) (by decide +kernel) ?_
        refine Go.iconst (n := -1) (-1 : Int32) (by decide +kernel) rfl ?_
        refine Go.icmp_eq (off := 16) 65 (by decide +kernel) (by decide) (fun c6 => ?_) (fun c6 => ?_)
        · rw [if_pos c6] at h
          refine Go.bipush (n := -5) (-5 : Int32) (by decide +kernel) (by decide) ?_
          exact Go.iret rfl rfl hE.2 (by decide +kernel) (St.fIP h)
        · rw [if_neg c6] at h
          refine Go.aload_n (k := 0) (i := 0) 1 (by decide +kernel) rfl rfl ?_
          refine Go.iload_n (k := 2) (i := 2) 3 (by decide +kernel) rfl rfl ?_
          refine Go.iconst (n := 1) (1 : Int32) (by decide +kernel) rfl ?_
          refine Go.iconst (n := 1) (1 : Int32) (by decide +kernel) rfl ?_
          obtain ⟨v7, P8, hv7, h⟩ := St.bd2 h
          refine Go.cV_i (P1 := P8) (v := v7) (d - 1) 109 [.int a2, .int (1 : Int32), .int (1 : Int32)] sh109 hE w_Mo_laysFar (e_Mo_laysFar hG hE (d - 1) (by omega) a2 (1 : Int32) (1 : Int32) (u1 P 109 0 (0 : Int32)) ⟨_, hv7, rfl, rfl, rfl⟩) lk1696 rfl (by omega) (Nat.le_of_ble_eq_true rfl) (by decide +kernel) _ rfl ?_
          refine Go.ldcw (268435456 : Int32) lk1707 (by decide +kernel) ?_
          refine Go.icmp_ne (off := 6) 68 (by decide +kernel) (by decide) (fun c9 => ?_) (fun c9 => ?_)
          · rw [if_neg c9] at h
            refine Go.iconst (n := 0) (0 : Int32) (by decide +kernel) rfl ?_
            refine Go.istore (i := 4) [(4, .int (0 : Int32)), (3, .int v4), (0, .ref (ad E 109)), (1, .int a1), (2, .int a2)] (by decide +kernel) (by decide) rfl ?_
            refine Go.sub [2, 3, 0] [(0, .ref (ad E 109)), (1, .int a1), (4, .int (0 : Int32))] rfl ?_
            exact t_l_Mo_lists_71 hG hE d hd FU a1 (0 : Int32) P8 h
          · rw [if_pos c9] at h
            refine Go.bipush (n := -5) (-5 : Int32) (by decide +kernel) (by decide) ?_
            exact Go.iret rfl rfl hE.2 (by decide +kernel) (St.fIP h)
      · rw [if_neg c5] at h
        refine Go.iload_n (k := 3) (i := 3) 0 (by decide +kernel) rfl rfl ?_
        exact Go.iret rfl rfl hE.2 (by decide +kernel) (St.fIP h)
    · rw [if_pos c3] at h
      refine Go.bipush (n := -2) (-2 : Int32) (by decide +kernel) (by decide) ?_
      exact Go.iret rfl rfl hE.2 (by decide +kernel) (St.fIP h)
theorem e_Mo_lists {G : GX} (hG : GOK G) {E : EV} (hE : E0 E) (d : Nat) (hd : 6 ≤ d) (a1 : Int32) (a2 : Int32) (P : PM) {Q : QT} (h : St E rIP (f_Mo_lists a1 a2 P) Q) : Con G y_Mo_lists cw_Mo_lists d nOb nOb [.ref (ad E 109), .int a1, .int a2] P E Q :=
  Con.of hG (by decide +kernel) rfl (fun h => by cases h) hE.2 (Nat.le_of_ble_eq_true rfl) (t_f_Mo_lists hG hE d hd a1 a2 P h)
abbrev c_Mo_image : ByteArray := prog_14_method_125_code
abbrev y_Mo_image : MethodName := ⟨"YawnRouteModel", "image", "(I)I"⟩
abbrev cw_Mo_image : Cond := .code y_Mo_image c_Mo_image 3 (some .int)
theorem w_Mo_image : VW 12 y_Mo_image c_Mo_image 3 (some .int) 1 := ⟨by decide, lk1926, lk1927, lk14, lk1928, ⟨by decide, by decide, by decide +kernel⟩, by decide⟩
noncomputable def l_Mo_image_20 : Nat → Int32 → Int32 → PM → Option (Int32 × PM)
  | 0, _, _, _ => none
  | n + 1, x1, x2, P => if (1136 : Int32) ≤ x2 then (ck (inb x1 2) (some ((0 : Int32), (u1 P 111 x1.toNatClampNeg (vp_nar .boolean (1 : Int32)))))) else (ck (inb x2 3408) (ck (inb (((1136 : Int32) * (x1 + (1 : Int32))) + x2) 3408) (l_Mo_image_20 n x1 (x2 + (1 : Int32)) (u1 P 110 (((1136 : Int32) * (x1 + (1 : Int32))) + x2).toNatClampNeg (P.1 110 x2.toNatClampNeg)))))
noncomputable def f_Mo_image (a1 : Int32) (P : PM) : Option (Int32 × PM) := if (f_Mo_within (a1.toInt64) (0 : Int64) (1 : Int64) (u1 P 109 0 (0 : Int32))) = (0 : Int32) then (some ((-2 : Int32), (u1 P 109 0 (0 : Int32)))) else (l_Mo_image_20 FU a1 (0 : Int32) (u1 P 109 0 (0 : Int32)))
theorem t_l_Mo_image_20 {G : GX} (hG : GOK G) {E : EV} (hE : E0 E) (d : Nat) (hd : 2 ≤ d) {Q : QT} : ∀ (n : Nat) (x1 : Int32) (x2 : Int32) (P : PM), St E rIP (l_Mo_image_20 n x1 x2 P) Q → Go G c_Mo_image "YawnRouteModel" 3 (some .int) false d nOb nOb Q 20 [(0, .ref (ad E 109)), (1, .int x1), (2, .int x2)] [] P E := by
  intro n
  induction n with
  | zero =>
    intro x1 x2 P h
    rw [l_Mo_image_20] at h
    exact St.none_ h
  | succ n ih =>
    intro x1 x2 P h
    rw [l_Mo_image_20] at h
    refine Go.iload_n (k := 2) (i := 2) 2 (by decide +kernel) rfl rfl ?_
    refine Go.sipush (n := 1136) (1136 : Int32) (by decide +kernel) (by decide) ?_
    refine Go.icmp_ge (off := 29) 53 (by decide +kernel) (by decide) (fun c1 => ?_) (fun c1 => ?_)
    · rw [if_pos c1] at h
      refine Go.aload_n (k := 0) (i := 0) 0 (by decide +kernel) rfl rfl ?_
      refine Go.get 109 2 (.ref (ad E 111)) (by decide) (by decide) sh109 (ltO hE sh109) (vlR hE rfl rfl) lk1332 (by decide +kernel) ?_
      refine Go.iload_n (k := 1) (i := 1) 1 (by decide +kernel) rfl rfl ?_
      refine Go.iconst (n := 1) (1 : Int32) (by decide +kernel) rfl ?_
      obtain ⟨b2, h⟩ := St.ck h
      refine Go.zastore 111 2 sh111 (ltA hE sh111 (by decide)) (inb_in b2) (by decide +kernel) ?_
      refine Go.iconst (n := 0) (0 : Int32) (by decide +kernel) rfl ?_
      exact Go.iret rfl rfl hE.2 (by decide +kernel) (St.fIP h)
    · rw [if_neg c1] at h
      refine Go.aload_n (k := 0) (i := 0) 0 (by decide +kernel) rfl rfl ?_
      refine Go.get 109 1 (.ref (ad E 110)) (by decide) (by decide) sh109 (ltO hE sh109) (vlR hE rfl rfl) lk1331 (by decide +kernel) ?_
      refine Go.sipush (n := 1136) (1136 : Int32) (by decide +kernel) (by decide) ?_
      refine Go.iload_n (k := 1) (i := 1) 1 (by decide +kernel) rfl rfl ?_
      refine Go.iconst (n := 1) (1 : Int32) (by decide +kernel) rfl ?_
      refine Go.iadd (by decide +kernel) ?_
      refine Go.imul (by decide +kernel) ?_
      refine Go.iload_n (k := 2) (i := 2) 2 (by decide +kernel) rfl rfl ?_
      refine Go.iadd (by decide +kernel) ?_
      refine Go.aload_n (k := 0) (i := 0) 0 (by decide +kernel) rfl rfl ?_
      refine Go.get 109 1 (.ref (ad E 110)) (by decide) (by decide) sh109 (ltO hE sh109) (vlR hE rfl rfl) lk1331 (by decide +kernel) ?_
      refine Go.iload_n (k := 2) (i := 2) 2 (by decide +kernel) rfl rfl ?_
      obtain ⟨b3, h⟩ := St.ck h
      refine Go.iaload 110 3408 sh110 (ltA hE sh110 (by decide)) (inb_in b3) (by decide +kernel) ?_
      obtain ⟨b4, h⟩ := St.ck h
      refine Go.iastore 110 3408 sh110 (ltA hE sh110 (by decide)) (inb_in b4) (by decide +kernel) ?_
      refine Go.iinc (i := 2) (n := 1) 2 (x2 + (1 : Int32)) [(2, .int (x2 + (1 : Int32))), (0, .ref (ad E 109)), (1, .int x1)] (by decide +kernel) rfl rfl (by decide) rfl ?_
      refine Go.goto (off := -30) 20 (by decide +kernel) (by decide) ?_
      refine Go.sub [1, 2, 0] [(0, .ref (ad E 109)), (1, .int x1), (2, .int (x2 + (1 : Int32)))] rfl ?_
      exact ih x1 (x2 + (1 : Int32)) (u1 P 110 (((1136 : Int32) * (x1 + (1 : Int32))) + x2).toNatClampNeg (P.1 110 x2.toNatClampNeg)) h
theorem t_f_Mo_image {G : GX} (hG : GOK G) {E : EV} (hE : E0 E) (d : Nat) (hd : 2 ≤ d) {Q : QT} (a1 : Int32) (P : PM) (h : St E rIP (f_Mo_image a1 P) Q) : Go G c_Mo_image "YawnRouteModel" 3 (some .int) false d nOb nOb Q 0 [(0, .ref (ad E 109)), (1, .int a1)] [] P E := by
  rw [f_Mo_image] at h
  refine Go.aload_n (k := 0) (i := 0) 0 (by decide +kernel) rfl rfl ?_
  refine Go.iconst (n := 0) (0 : Int32) (by decide +kernel) rfl ?_
  refine Go.put 109 0 (by decide) (by decide) sh109 (ltO hE sh109) (Or.inl rfl) rfl rfl rfl lk1330 (by decide +kernel) ?_
  refine Go.iload_n (k := 1) (i := 1) 1 (by decide +kernel) rfl rfl ?_
  refine Go.i2l (by decide +kernel) ?_
  refine Go.lconst (n := 0) (0 : Int64) (by decide +kernel) rfl ?_
  refine Go.lconst (n := 1) (1 : Int64) (by decide +kernel) rfl ?_
  refine Go.cS_i (P1 := (u1 P 109 0 (0 : Int32))) (v := (f_Mo_within (a1.toInt64) (0 : Int64) (1 : Int64) (u1 P 109 0 (0 : Int32)))) (d - 1) [.long (a1.toInt64), .long (0 : Int64), .long (1 : Int64)] hE w_Mo_within (e_Mo_within hG hE (d - 1) (by omega) (a1.toInt64) (0 : Int64) (1 : Int64) (u1 P 109 0 (0 : Int32)) ⟨rfl, rfl, rfl⟩) lk1438 rfl (by omega) (Nat.le_of_ble_eq_true rfl) (by decide +kernel) _ rfl ?_
  refine Go.if_ne (off := 6) 18 (by decide +kernel) (by decide) (fun c1 => ?_) (fun c1 => ?_)
  · rw [if_neg c1] at h
    refine Go.iconst (n := 0) (0 : Int32) (by decide +kernel) rfl ?_
    refine Go.istore_n (k := 2) (i := 2) [(2, .int (0 : Int32)), (0, .ref (ad E 109)), (1, .int a1)] (by decide +kernel) rfl (by decide) rfl ?_
    refine Go.sub [1, 2, 0] [(0, .ref (ad E 109)), (1, .int a1), (2, .int (0 : Int32))] rfl ?_
    exact t_l_Mo_image_20 hG hE d hd FU a1 (0 : Int32) (u1 P 109 0 (0 : Int32)) h
  · rw [if_pos c1] at h
    refine Go.bipush (n := -2) (-2 : Int32) (by decide +kernel) (by decide) ?_
    exact Go.iret rfl rfl hE.2 (by decide +kernel) (St.fIP h)
theorem e_Mo_image {G : GX} (hG : GOK G) {E : EV} (hE : E0 E) (d : Nat) (hd : 2 ≤ d) (a1 : Int32) (P : PM) {Q : QT} (h : St E rIP (f_Mo_image a1 P) Q) : Con G y_Mo_image cw_Mo_image d nOb nOb [.ref (ad E 109), .int a1] P E Q :=
  Con.of hG (by decide +kernel) rfl (fun h => by cases h) hE.2 (Nat.le_of_ble_eq_true rfl) (t_f_Mo_image hG hE d hd a1 P h)
abbrev c_Mo_restore : ByteArray := prog_14_method_126_code
abbrev y_Mo_restore : MethodName := ⟨"YawnRouteModel", "restore", "(I)I"⟩
abbrev cw_Mo_restore : Cond := .code y_Mo_restore c_Mo_restore 3 (some .int)
theorem w_Mo_restore : VW 12 y_Mo_restore c_Mo_restore 3 (some .int) 1 := ⟨by decide, lk1930, lk1931, lk14, lk1932, ⟨by decide, by decide, by decide +kernel⟩, by decide⟩
noncomputable def l_Mo_restore_32 : Nat → Int32 → Int32 → PM → Option (Int32 × PM)
  | 0, _, _, _ => none
  | n + 1, x1, x2, P => if (1136 : Int32) ≤ x2 then (some ((0 : Int32), (u1 P 110 (124 : Int32).toNatClampNeg (0 : Int32)))) else (ck (inb (((1136 : Int32) * (x1 + (1 : Int32))) + x2) 3408) (ck (inb x2 3408) (l_Mo_restore_32 n x1 (x2 + (1 : Int32)) (u1 P 110 x2.toNatClampNeg (P.1 110 (((1136 : Int32) * (x1 + (1 : Int32))) + x2).toNatClampNeg)))))
noncomputable def f_Mo_restore (a1 : Int32) (P : PM) : Option (Int32 × PM) := if (f_Mo_within (a1.toInt64) (0 : Int64) (1 : Int64) (u1 P 109 0 (0 : Int32))) = (0 : Int32) then (some ((-2 : Int32), (u1 P 109 0 (0 : Int32)))) else (ck (inb a1 2) (if ((u1 P 109 0 (0 : Int32)).1 111 a1.toNatClampNeg) = (0 : Int32) then (some ((-5 : Int32), (u1 P 109 0 (0 : Int32)))) else (l_Mo_restore_32 FU a1 (0 : Int32) (u1 P 109 0 (0 : Int32)))))
theorem t_l_Mo_restore_32 {G : GX} (hG : GOK G) {E : EV} (hE : E0 E) (d : Nat) (hd : 2 ≤ d) {Q : QT} : ∀ (n : Nat) (x1 : Int32) (x2 : Int32) (P : PM), St E rIP (l_Mo_restore_32 n x1 x2 P) Q → Go G c_Mo_restore "YawnRouteModel" 3 (some .int) false d nOb nOb Q 32 [(0, .ref (ad E 109)), (1, .int x1), (2, .int x2)] [] P E := by
  intro n
  induction n with
  | zero =>
    intro x1 x2 P h
    rw [l_Mo_restore_32] at h
    exact St.none_ h
  | succ n ih =>
    intro x1 x2 P h
    rw [l_Mo_restore_32] at h
    refine Go.iload_n (k := 2) (i := 2) 2 (by decide +kernel) rfl rfl ?_
    refine Go.sipush (n := 1136) (1136 : Int32) (by decide +kernel) (by decide) ?_
    refine Go.icmp_ge (off := 29) 65 (by decide +kernel) (by decide) (fun c1 => ?_) (fun c1 => ?_)
    · rw [if_pos c1] at h
      refine Go.aload_n (k := 0) (i := 0) 0 (by decide +kernel) rfl rfl ?_
      refine Go.get 109 1 (.ref (ad E 110)) (by decide) (by decide) sh109 (ltO hE sh109) (vlR hE rfl rfl) lk1331 (by decide +kernel) ?_
      refine Go.bipush (n := 124) (124 : Int32) (by decide +kernel) (by decide) ?_
      refine Go.iconst (n := 0) (0 : Int32) (by decide +kernel) rfl ?_
      refine Go.iastore 110 3408 sh110 (ltA hE sh110 (by decide)) (vp_in_iff.mpr (by decide)) (by decide +kernel) ?_
      refine Go.iconst (n := 0) (0 : Int32) (by decide +kernel) rfl ?_
      exact Go.iret rfl rfl hE.2 (by decide +kernel) (St.fIP h)
    · rw [if_neg c1] at h
      refine Go.aload_n (k := 0) (i := 0) 0 (by decide +kernel) rfl rfl ?_
      refine Go.get 109 1 (.ref (ad E 110)) (by decide) (by decide) sh109 (ltO hE sh109) (vlR hE rfl rfl) lk1331 (by decide +kernel) ?_
      refine Go.iload_n (k := 2) (i := 2) 2 (by decide +kernel) rfl rfl ?_
      refine Go.aload_n (k := 0) (i := 0) 0 (by decide +kernel) rfl rfl ?_
      refine Go.get 109 1 (.ref (ad E 110)) (by decide) (by decide) sh109 (ltO hE sh109) (vlR hE rfl rfl) lk1331 (by decide +kernel) ?_
      refine Go.sipush (n := 1136) (1136 : Int32) (by decide +kernel) (by decide) ?_
      refine Go.iload_n (k := 1) (i := 1) 1 (by decide +kernel) rfl rfl ?_
      refine Go.iconst (n := 1) (1 : Int32) (by decide +kernel) rfl ?_
      refine Go.iadd (by decide +kernel) ?_
      refine Go.imul (by decide +kernel) ?_
      refine Go.iload_n (k := 2) (i := 2) 2 (by decide +kernel) rfl rfl ?_
      refine Go.iadd (by decide +kernel) ?_
      obtain ⟨b2, h⟩ := St.ck h
      refine Go.iaload 110 3408 sh110 (ltA hE sh110 (by decide)) (inb_in b2) (by decide +kernel) ?_
      obtain ⟨b3, h⟩ := St.ck h
      refine Go.iastore 110 3408 sh110 (ltA hE sh110 (by decide)) (inb_in b3) (by decide +kernel) ?_
      refine Go.iinc (i := 2) (n := 1) 2 (x2 + (1 : Int32)) [(2, .int (x2 + (1 : Int32))), (0, .ref (ad E 109)), (1, .int x1)] (by decide +kernel) rfl rfl (by decide) rfl ?_
      refine Go.goto (off := -30) 32 (by decide +kernel) (by decide) ?_
      refine Go.sub [1, 2, 0] [(0, .ref (ad E 109)), (1, .int x1), (2, .int (x2 + (1 : Int32)))] rfl ?_
      exact ih x1 (x2 + (1 : Int32)) (u1 P 110 x2.toNatClampNeg (P.1 110 (((1136 : Int32) * (x1 + (1 : Int32))) + x2).toNatClampNeg)) h
theorem t_f_Mo_restore {G : GX} (hG : GOK G) {E : EV} (hE : E0 E) (d : Nat) (hd : 2 ≤ d) {Q : QT} (a1 : Int32) (P : PM) (h : St E rIP (f_Mo_restore a1 P) Q) : Go G c_Mo_restore "YawnRouteModel" 3 (some .int) false d nOb nOb Q 0 [(0, .ref (ad E 109)), (1, .int a1)] [] P E := by
  rw [f_Mo_restore] at h
  refine Go.aload_n (k := 0) (i := 0) 0 (by decide +kernel) rfl rfl ?_
  refine Go.iconst (n := 0) (0 : Int32) (by decide +kernel) rfl ?_
  refine Go.put 109 0 (by decide) (by decide) sh109 (ltO hE sh109) (Or.inl rfl) rfl rfl rfl lk1330 (by decide +kernel) ?_
  refine Go.iload_n (k := 1) (i := 1) 1 (by decide +kernel) rfl rfl ?_
  refine Go.i2l (by decide +kernel) ?_
  refine Go.lconst (n := 0) (0 : Int64) (by decide +kernel) rfl ?_
  refine Go.lconst (n := 1) (1 : Int64) (by decide +kernel) rfl ?_
  refine Go.cS_i (P1 := (u1 P 109 0 (0 : Int32))) (v := (f_Mo_within (a1.toInt64) (0 : Int64) (1 : Int64) (u1 P 109 0 (0 : Int32)))) (d - 1) [.long (a1.toInt64), .long (0 : Int64), .long (1 : Int64)] hE w_Mo_within (e_Mo_within hG hE (d - 1) (by omega) (a1.toInt64) (0 : Int64) (1 : Int64) (u1 P 109 0 (0 : Int32)) ⟨rfl, rfl, rfl⟩) lk1438 rfl (by omega) (Nat.le_of_ble_eq_true rfl) (by decide +kernel) _ rfl ?_
  refine Go.if_ne (off := 6) 18 (by decide +kernel) (by decide) (fun c1 => ?_) (fun c1 => ?_)
  · rw [if_neg c1] at h
    refine Go.aload_n (k := 0) (i := 0) 0 (by decide +kernel) rfl rfl ?_
    refine Go.get 109 2 (.ref (ad E 111)) (by decide) (by decide) sh109 (ltO hE sh109) (vlR hE rfl rfl) lk1332 (by decide +kernel) ?_
    refine Go.iload_n (k := 1) (i := 1) 1 (by decide +kernel) rfl rfl ?_
    obtain ⟨b2, h⟩ := St.ck h
    refine Go.zaload 111 2 sh111 (ltA hE sh111 (by decide)) (inb_in b2) (by decide +kernel) ?_
    refine Go.if_ne (off := 6) 30 (by decide +kernel) (by decide) (fun c3 => ?_) (fun c3 => ?_)
    · rw [if_neg c3] at h
      refine Go.iconst (n := 0) (0 : Int32) (by decide +kernel) rfl ?_
      refine Go.istore_n (k := 2) (i := 2) [(2, .int (0 : Int32)), (0, .ref (ad E 109)), (1, .int a1)] (by decide +kernel) rfl (by decide) rfl ?_
      refine Go.sub [1, 2, 0] [(0, .ref (ad E 109)), (1, .int a1), (2, .int (0 : Int32))] rfl ?_
      exact t_l_Mo_restore_32 hG hE d hd FU a1 (0 : Int32) (u1 P 109 0 (0 : Int32)) h
    · rw [if_pos c3] at h
      refine Go.bipush (n := -5) (-5 : Int32) (by decide +kernel) (by decide) ?_
      exact Go.iret rfl rfl hE.2 (by decide +kernel) (St.fIP h)
  · rw [if_pos c1] at h
    refine Go.bipush (n := -2) (-2 : Int32) (by decide +kernel) (by decide) ?_
    exact Go.iret rfl rfl hE.2 (by decide +kernel) (St.fIP h)
theorem e_Mo_restore {G : GX} (hG : GOK G) {E : EV} (hE : E0 E) (d : Nat) (hd : 2 ≤ d) (a1 : Int32) (P : PM) {Q : QT} (h : St E rIP (f_Mo_restore a1 P) Q) : Con G y_Mo_restore cw_Mo_restore d nOb nOb [.ref (ad E 109), .int a1] P E Q :=
  Con.of hG (by decide +kernel) rfl (fun h => by cases h) hE.2 (Nat.le_of_ble_eq_true rfl) (t_f_Mo_restore hG hE d hd a1 P h)
