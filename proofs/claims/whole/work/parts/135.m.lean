/-! methods as functions, by program: Mo_dullsOf Mo_dulls Mo_mostOften Mo_attempt -/
abbrev c_Mo_dullsOf : ByteArray := prog_14_method_104_code
abbrev y_Mo_dullsOf : MethodName := ⟨"YawnRouteModel", "dullsOf", "(III)I"⟩
abbrev cw_Mo_dullsOf : Cond := .code y_Mo_dullsOf c_Mo_dullsOf 7 (some .int)
theorem w_Mo_dullsOf : VW 12 y_Mo_dullsOf c_Mo_dullsOf 7 (some .int) 3 := ⟨by decide, lk1841, lp106_, lk14, lk1842, ⟨by decide, by decide, by decide +kernel⟩, by decide⟩
noncomputable def j_Mo_dullsOf_54 (k17 : Int32 → Int32 → Int32 → Int32 → Int32 → Int32 → PM → Option (Int32 × PM)) (x1 : Int32) (x2 : Int32) (x3 : Int32) (x4 : Int32) (x6 : Int32) (s0 : Int32) (s1 : Int32) (P : PM) : Option (Int32 × PM) := lb (s0 ||| s1) (fun y1 => k17 x1 x2 x3 x4 y1 (x6 + (1 : Int32)) P)
noncomputable def l_Mo_dullsOf_17 : Nat → Int32 → Int32 → Int32 → Int32 → Int32 → Int32 → PM → Option (Int32 × PM)
  | 0, _, _, _, _, _, _, _ => none
  | n + 1, x1, x2, x3, x4, x5, x6, P => if (9 : Int32) < x6 then (ck (inb ((117 : Int32) + x2) 3408) (some (x5, (u1 P 110 ((117 : Int32) + x2).toNatClampNeg x4)))) else (ck (inb ((117 : Int32) + x2) 3408) (bd2 (f_Mo_toldSize x1 (u1 P 110 ((117 : Int32) + x2).toNatClampNeg x6)) (fun v4 P5 => if v4 = x3 then (j_Mo_dullsOf_54 (fun z0 z1 z2 z3 z4 z5 Pz => l_Mo_dullsOf_17 n z0 z1 z2 z3 z4 z5 Pz) x1 x2 x3 x4 x6 x5 ((1 : Int32) <<< (x6 &&& 31)) P5) else (j_Mo_dullsOf_54 (fun z0 z1 z2 z3 z4 z5 Pz => l_Mo_dullsOf_17 n z0 z1 z2 z3 z4 z5 Pz) x1 x2 x3 x4 x6 x5 (0 : Int32) P5))))
noncomputable def f_Mo_dullsOf (a1 : Int32) (a2 : Int32) (a3 : Int32) (P : PM) : Option (Int32 × PM) := ck (inb ((117 : Int32) + a2) 3408) (lb (P.1 110 ((117 : Int32) + a2).toNatClampNeg) (fun y2 => l_Mo_dullsOf_17 FU a1 a2 a3 y2 (0 : Int32) (0 : Int32) P))
theorem t_j_Mo_dullsOf_54 {G : GX} (hG : GOK G) {E : EV} (hE : E0 E) (d : Nat) (hd : 5 ≤ d) {Q : QT} (k17 : Int32 → Int32 → Int32 → Int32 → Int32 → Int32 → PM → Option (Int32 × PM)) (hk17 : ∀ (x1 : Int32) (x2 : Int32) (x3 : Int32) (x4 : Int32) (x5 : Int32) (x6 : Int32) (P : PM), St E rIP (k17 x1 x2 x3 x4 x5 x6 P) Q → Go G c_Mo_dullsOf "YawnRouteModel" 7 (some .int) false d nOb nOb Q 17 [(0, .ref (ad E 109)), (1, .int x1), (2, .int x2), (3, .int x3), (4, .int x4), (5, .int x5), (6, .int x6)] [] P E) (x1 : Int32) (x2 : Int32) (x3 : Int32) (x4 : Int32) (x6 : Int32) (s0 : Int32) (s1 : Int32) (P : PM) (h : St E rIP (j_Mo_dullsOf_54 k17 x1 x2 x3 x4 x6 s0 s1 P) Q) : Go G c_Mo_dullsOf "YawnRouteModel" 7 (some .int) false d nOb nOb Q 54 [(0, .ref (ad E 109)), (1, .int x1), (2, .int x2), (3, .int x3), (4, .int x4), (6, .int x6)] [.int s1, .int s0] P E := by
  rw [j_Mo_dullsOf_54] at h
  refine Go.ior (by decide +kernel) ?_
  obtain ⟨y1, hy1, h⟩ := St.lb h
  refine Go.eqi y1 hy1 ?_
  refine Go.istore (i := 5) [(5, .int y1), (0, .ref (ad E 109)), (1, .int x1), (2, .int x2), (3, .int x3), (4, .int x4), (6, .int x6)] (by decide +kernel) (by decide) rfl ?_
  refine Go.iinc (i := 6) (n := 1) 6 (x6 + (1 : Int32)) [(6, .int (x6 + (1 : Int32))), (5, .int y1), (0, .ref (ad E 109)), (1, .int x1), (2, .int x2), (3, .int x3), (4, .int x4)] (by decide +kernel) rfl rfl (by decide) rfl ?_
  refine Go.goto (off := -43) 17 (by decide +kernel) (by decide) ?_
  refine Go.sub [2, 3, 4, 5, 6, 1, 0] [(0, .ref (ad E 109)), (1, .int x1), (2, .int x2), (3, .int x3), (4, .int x4), (5, .int y1), (6, .int (x6 + (1 : Int32)))] rfl ?_
  exact hk17 x1 x2 x3 x4 y1 (x6 + (1 : Int32)) P h
theorem t_l_Mo_dullsOf_17 {G : GX} (hG : GOK G) {E : EV} (hE : E0 E) (d : Nat) (hd : 5 ≤ d) {Q : QT} : ∀ (n : Nat) (x1 : Int32) (x2 : Int32) (x3 : Int32) (x4 : Int32) (x5 : Int32) (x6 : Int32) (P : PM), St E rIP (l_Mo_dullsOf_17 n x1 x2 x3 x4 x5 x6 P) Q → Go G c_Mo_dullsOf "YawnRouteModel" 7 (some .int) false d nOb nOb Q 17 [(0, .ref (ad E 109)), (1, .int x1), (2, .int x2), (3, .int x3), (4, .int x4), (5, .int x5), (6, .int x6)] [] P E := by
  intro n
  induction n with
  | zero =>
    intro x1 x2 x3 x4 x5 x6 P h
    rw [l_Mo_dullsOf_17] at h
    exact St.none_ h
  | succ n ih =>
    intro x1 x2 x3 x4 x5 x6 P h
    rw [l_Mo_dullsOf_17] at h
    refine Go.iload (i := 6) 6 (by decide +kernel) rfl ?_
    refine Go.bipush (n := 9) (9 : Int32) (by decide +kernel) (by decide) ?_
    refine Go.icmp_gt (off := 42) 63 (by decide +kernel) (by decide) (fun c1 => ?_) (fun c1 => ?_)
    · rw [if_pos c1] at h
      refine Go.aload_n (k := 0) (i := 0) 0 (by decide +kernel) rfl rfl ?_
      refine Go.get 109 1 (.ref (ad E 110)) (by decide) (by decide) sh109 (ltO hE sh109) (vlR hE rfl rfl) lk1331 (by decide +kernel) ?_
      refine Go.bipush (n := 117) (117 : Int32) (by decide +kernel) (by decide) ?_
      refine Go.iload_n (k := 2) (i := 2) 2 (by decide +kernel) rfl rfl ?_
      refine Go.iadd (by decide +kernel) ?_
      refine Go.iload (i := 4) 4 (by decide +kernel) rfl ?_
      obtain ⟨b2, h⟩ := St.ck h
      refine Go.iastore 110 3408 sh110 (ltA hE sh110 (by decide)) (inb_in b2) (by decide +kernel) ?_
      refine Go.iload (i := 5) 5 (by decide +kernel) rfl ?_
      exact Go.iret rfl rfl hE.2 (by decide +kernel) (St.fIP h)
    · rw [if_neg c1] at h
      refine Go.aload_n (k := 0) (i := 0) 0 (by decide +kernel) rfl rfl ?_
      refine Go.get 109 1 (.ref (ad E 110)) (by decide) (by decide) sh109 (ltO hE sh109) (vlR hE rfl rfl) lk1331 (by decide +kernel) ?_
      refine Go.bipush (n := 117) (117 : Int32) (by decide +kernel) (by decide) ?_
      refine Go.iload_n (k := 2) (i := 2) 2 (by decide +kernel) rfl rfl ?_
      refine Go.iadd (by decide +kernel) ?_
      refine Go.iload (i := 6) 6 (by decide +kernel) rfl ?_
      obtain ⟨b3, h⟩ := St.ck h
      refine Go.iastore 110 3408 sh110 (ltA hE sh110 (by decide)) (inb_in b3) (by decide +kernel) ?_
      refine Go.iload (i := 5) 5 (by decide +kernel) rfl ?_
      refine Go.aload_n (k := 0) (i := 0) 0 (by decide +kernel) rfl rfl ?_
      refine Go.iload_n (k := 1) (i := 1) 1 (by decide +kernel) rfl rfl ?_
      obtain ⟨v4, P5, hv4, h⟩ := St.bd2 h
      refine Go.cV_i (P1 := P5) (v := v4) (d - 1) 109 [.int x1] sh109 hE w_Mo_toldSize (e_Mo_toldSize hG hE (d - 1) (by omega) x1 (u1 P 110 ((117 : Int32) + x2).toNatClampNeg x6) ⟨_, hv4, rfl, rfl, rfl⟩) lk1843 rfl (by omega) (Nat.le_of_ble_eq_true rfl) (by decide +kernel) _ rfl ?_
      refine Go.iload_n (k := 3) (i := 3) 3 (by decide +kernel) rfl rfl ?_
      refine Go.icmp_ne (off := 10) 53 (by decide +kernel) (by decide) (fun c6 => ?_) (fun c6 => ?_)
      · rw [if_neg c6] at h
        refine Go.iconst (n := 0) (0 : Int32) (by decide +kernel) rfl ?_
        refine Go.sub [0, 1, 2, 3, 4, 6] [(0, .ref (ad E 109)), (1, .int x1), (2, .int x2), (3, .int x3), (4, .int x4), (6, .int x6)] rfl ?_
        exact t_j_Mo_dullsOf_54 hG hE d hd (fun z0 z1 z2 z3 z4 z5 Pz => l_Mo_dullsOf_17 n z0 z1 z2 z3 z4 z5 Pz) (fun z0 z1 z2 z3 z4 z5 Pz q => ih z0 z1 z2 z3 z4 z5 Pz q) x1 x2 x3 x4 x6 x5 (0 : Int32) P5 h
      · rw [if_pos c6] at h
        refine Go.iconst (n := 1) (1 : Int32) (by decide +kernel) rfl ?_
        refine Go.iload (i := 6) 6 (by decide +kernel) rfl ?_
        refine Go.ishl (by decide +kernel) ?_
        refine Go.goto (off := 4) 54 (by decide +kernel) (by decide) ?_
        refine Go.sub [0, 1, 2, 3, 4, 6] [(0, .ref (ad E 109)), (1, .int x1), (2, .int x2), (3, .int x3), (4, .int x4), (6, .int x6)] rfl ?_
        exact t_j_Mo_dullsOf_54 hG hE d hd (fun z0 z1 z2 z3 z4 z5 Pz => l_Mo_dullsOf_17 n z0 z1 z2 z3 z4 z5 Pz) (fun z0 z1 z2 z3 z4 z5 Pz q => ih z0 z1 z2 z3 z4 z5 Pz q) x1 x2 x3 x4 x6 x5 ((1 : Int32) <<< (x6 &&& 31)) P5 h
theorem t_f_Mo_dullsOf {G : GX} (hG : GOK G) {E : EV} (hE : E0 E) (d : Nat) (hd : 5 ≤ d) {Q : QT} (a1 : Int32) (a2 : Int32) (a3 : Int32) (P : PM) (h : St E rIP (f_Mo_dullsOf a1 a2 a3 P) Q) : Go G c_Mo_dullsOf "YawnRouteModel" 7 (some .int) false d nOb nOb Q 0 [(0, .ref (ad E 109)), (1, .int a1), (2, .int a2), (3, .int a3)] [] P E := by
  rw [f_Mo_dullsOf] at h
  refine Go.aload_n (k := 0) (i := 0) 0 (by decide +kernel) rfl rfl ?_
  refine Go.get 109 1 (.ref (ad E 110)) (by decide) (by decide) sh109 (ltO hE sh109) (vlR hE rfl rfl) lk1331 (by decide +kernel) ?_
  refine Go.bipush (n := 117) (117 : Int32) (by decide +kernel) (by decide) ?_
  refine Go.iload_n (k := 2) (i := 2) 2 (by decide +kernel) rfl rfl ?_
  refine Go.iadd (by decide +kernel) ?_
  obtain ⟨b1, h⟩ := St.ck h
  refine Go.iaload 110 3408 sh110 (ltA hE sh110 (by decide)) (inb_in b1) (by decide +kernel) ?_
  obtain ⟨y2, hy2, h⟩ := St.lb h
  refine Go.eqi y2 hy2 ?_
  refine Go.istore (i := 4) [(4, .int y2), (0, .ref (ad E 109)), (1, .int a1), (2, .int a2), (3, .int a3)] (by decide +kernel) (by decide) rfl ?_
  refine Go.iconst (n := 0) (0 : Int32) (by decide +kernel) rfl ?_
  refine Go.istore (i := 5) [(5, .int (0 : Int32)), (4, .int y2), (0, .ref (ad E 109)), (1, .int a1), (2, .int a2), (3, .int a3)] (by decide +kernel) (by decide) rfl ?_
  refine Go.iconst (n := 0) (0 : Int32) (by decide +kernel) rfl ?_
  refine Go.istore (i := 6) [(6, .int (0 : Int32)), (5, .int (0 : Int32)), (4, .int y2), (0, .ref (ad E 109)), (1, .int a1), (2, .int a2), (3, .int a3)] (by decide +kernel) (by decide) rfl ?_
  refine Go.sub [3, 4, 5, 6, 2, 1, 0] [(0, .ref (ad E 109)), (1, .int a1), (2, .int a2), (3, .int a3), (4, .int y2), (5, .int (0 : Int32)), (6, .int (0 : Int32))] rfl ?_
  exact t_l_Mo_dullsOf_17 hG hE d hd FU a1 a2 a3 y2 (0 : Int32) (0 : Int32) P h
theorem e_Mo_dullsOf {G : GX} (hG : GOK G) {E : EV} (hE : E0 E) (d : Nat) (hd : 5 ≤ d) (a1 : Int32) (a2 : Int32) (a3 : Int32) (P : PM) {Q : QT} (h : St E rIP (f_Mo_dullsOf a1 a2 a3 P) Q) : Con G y_Mo_dullsOf cw_Mo_dullsOf d nOb nOb [.ref (ad E 109), .int a1, .int a2, .int a3] P E Q :=
  Con.of hG (by decide +kernel) rfl (fun h => by cases h) hE.2 (Nat.le_of_ble_eq_true rfl) (t_f_Mo_dullsOf hG hE d hd a1 a2 a3 P h)
abbrev c_Mo_dulls : ByteArray := prog_14_method_105_code
abbrev y_Mo_dulls : MethodName := ⟨"YawnRouteModel", "dulls", "(III)I"⟩
abbrev cw_Mo_dulls : Cond := .code y_Mo_dulls c_Mo_dulls 5 (some .int)
theorem w_Mo_dulls : VW 12 y_Mo_dulls c_Mo_dulls 5 (some .int) 3 := ⟨by decide, lk1832, lk1833, lk14, lk1834, ⟨by decide, by decide, by decide +kernel⟩, by decide⟩
noncomputable def f_Mo_dulls (a1 : Int32) (a2 : Int32) (a3 : Int32) (P : PM) : Option (Int32 × PM) := (f_Mo_noDulls a1 a2 a3 (u1 P 109 0 (0 : Int32))).bind (fun v1 => if v1 = (0 : Int32) then (bd2 (f_Mo_dullsOf a1 a2 a3 (u1 P 109 0 (0 : Int32))) (fun v3 P4 => some (v3, P4))) else (some (v1, (u1 P 109 0 (0 : Int32)))))
theorem t_f_Mo_dulls {G : GX} (hG : GOK G) {E : EV} (hE : E0 E) (d : Nat) (hd : 6 ≤ d) {Q : QT} (a1 : Int32) (a2 : Int32) (a3 : Int32) (P : PM) (h : St E rIP (f_Mo_dulls a1 a2 a3 P) Q) : Go G c_Mo_dulls "YawnRouteModel" 5 (some .int) false d nOb nOb Q 0 [(0, .ref (ad E 109)), (1, .int a1), (2, .int a2), (3, .int a3)] [] P E := by
  rw [f_Mo_dulls] at h
  refine Go.aload_n (k := 0) (i := 0) 0 (by decide +kernel) rfl rfl ?_
  refine Go.iconst (n := 0) (0 : Int32) (by decide +kernel) rfl ?_
  refine Go.put 109 0 (by decide) (by decide) sh109 (ltO hE sh109) (Or.inl rfl) rfl rfl rfl lk1330 (by decide +kernel) ?_
  refine Go.aload_n (k := 0) (i := 0) 0 (by decide +kernel) rfl rfl ?_
  refine Go.iload_n (k := 1) (i := 1) 1 (by decide +kernel) rfl rfl ?_
  refine Go.iload_n (k := 2) (i := 2) 2 (by decide +kernel) rfl rfl ?_
  refine Go.iload_n (k := 3) (i := 3) 3 (by decide +kernel) rfl rfl ?_
  obtain ⟨v1, hv1, h⟩ := St.bind h
  refine Go.cV_i (P1 := (u1 P 109 0 (0 : Int32))) (v := v1) (d - 1) 109 [.int a1, .int a2, .int a3] sh109 hE w_Mo_noDulls (e_Mo_noDulls hG hE (d - 1) (by omega) a1 a2 a3 (u1 P 109 0 (0 : Int32)) ⟨_, hv1, rfl, rfl, rfl⟩) lk1835 rfl (by omega) (Nat.le_of_ble_eq_true rfl) (by decide +kernel) _ rfl ?_
  refine Go.istore (i := 4) [(4, .int v1), (0, .ref (ad E 109)), (1, .int a1), (2, .int a2), (3, .int a3)] (by decide +kernel) (by decide) rfl ?_
  refine Go.iload (i := 4) 0 (by decide +kernel) rfl ?_
  refine Go.if_eq (off := 8) 24 (by decide +kernel) (by decide) (fun c2 => ?_) (fun c2 => ?_)
  · rw [if_pos c2] at h
    refine Go.aload_n (k := 0) (i := 0) 1 (by decide +kernel) rfl rfl ?_
    refine Go.iload_n (k := 1) (i := 1) 2 (by decide +kernel) rfl rfl ?_
    refine Go.iload_n (k := 2) (i := 2) 3 (by decide +kernel) rfl rfl ?_
    refine Go.iload_n (k := 3) (i := 3) 4 (by decide +kernel) rfl rfl ?_
    obtain ⟨v3, P4, hv3, h⟩ := St.bd2 h
    refine Go.cV_i (P1 := P4) (v := v3) (d - 1) 109 [.int a1, .int a2, .int a3] sh109 hE w_Mo_dullsOf (e_Mo_dullsOf hG hE (d - 1) (by omega) a1 a2 a3 (u1 P 109 0 (0 : Int32)) ⟨_, hv3, rfl, rfl, rfl⟩) lk1839 rfl (by omega) (Nat.le_of_ble_eq_true rfl) (by decide +kernel) _ rfl ?_
    exact Go.iret rfl rfl hE.2 (by decide +kernel) (St.fIP h)
  · rw [if_neg c2] at h
    refine Go.iload (i := 4) 0 (by decide +kernel) rfl ?_
    refine Go.goto (off := 10) 31 (by decide +kernel) (by decide) ?_
    exact Go.iret rfl rfl hE.2 (by decide +kernel) (St.fIP h)
theorem e_Mo_dulls {G : GX} (hG : GOK G) {E : EV} (hE : E0 E) (d : Nat) (hd : 6 ≤ d) (a1 : Int32) (a2 : Int32) (a3 : Int32) (P : PM) {Q : QT} (h : St E rIP (f_Mo_dulls a1 a2 a3 P) Q) : Con G y_Mo_dulls cw_Mo_dulls d nOb nOb [.ref (ad E 109), .int a1, .int a2, .int a3] P E Q :=
  Con.of hG (by decide +kernel) rfl (fun h => by cases h) hE.2 (Nat.le_of_ble_eq_true rfl) (t_f_Mo_dulls hG hE d hd a1 a2 a3 P h)
abbrev c_Mo_mostOften : ByteArray := prog_14_method_106_code
abbrev y_Mo_mostOften : MethodName := ⟨"YawnRouteModel", "mostOften", "(IIII)I"⟩
abbrev cw_Mo_mostOften : Cond := .code y_Mo_mostOften c_Mo_mostOften 9 (some .int)
theorem w_Mo_mostOften : VW 12 y_Mo_mostOften c_Mo_mostOften 9 (some .int) 4 := ⟨by decide, lk1853, lp108_, lk14, lk1854, ⟨by decide, by decide, by decide +kernel⟩, by decide⟩
noncomputable def j_Mo_mostOften_140 (k41 : Int32 → Int32 → Int32 → Int32 → Int32 → Int32 → Int32 → PM → Option (Int32 × PM)) (x1 : Int32) (x2 : Int32) (x3 : Int32) (x4 : Int32) (x5 : Int32) (x6 : Int32) (x7 : Int32) (P : PM) : Option (Int32 × PM) := k41 x1 x2 x3 x4 x5 x6 (x7 + (1 : Int32)) P
noncomputable def j_Mo_mostOften_138 (k41 : Int32 → Int32 → Int32 → Int32 → Int32 → Int32 → Int32 → PM → Option (Int32 × PM)) (x1 : Int32) (x2 : Int32) (x3 : Int32) (x4 : Int32) (x5 : Int32) (x7 : Int32) (s0 : Int32) (P : PM) : Option (Int32 × PM) := j_Mo_mostOften_140 k41 x1 x2 x3 x4 x5 s0 x7 P
noncomputable def j_Mo_mostOften_101 (k41 : Int32 → Int32 → Int32 → Int32 → Int32 → Int32 → Int32 → PM → Option (Int32 × PM)) (x1 : Int32) (x2 : Int32) (x3 : Int32) (x4 : Int32) (x5 : Int32) (x6 : Int32) (x7 : Int32) (s0 : Int32) (P : PM) : Option (Int32 × PM) := ck (inb s0 41) (ck (inb s0 41) (ck (inb s0 41) (if ((u1 P 124 s0.toNatClampNeg ((P.1 124 s0.toNatClampNeg) + (1 : Int32))).1 124 s0.toNatClampNeg) ≤ x6 then (j_Mo_mostOften_138 k41 x1 x2 x3 x4 x5 x7 x6 (u1 P 124 s0.toNatClampNeg ((P.1 124 s0.toNatClampNeg) + (1 : Int32)))) else (ck (inb s0 41) (j_Mo_mostOften_138 k41 x1 x2 x3 x4 x5 x7 ((u1 P 124 s0.toNatClampNeg ((P.1 124 s0.toNatClampNeg) + (1 : Int32))).1 124 s0.toNatClampNeg) (u1 P 124 s0.toNatClampNeg ((P.1 124 s0.toNatClampNeg) + (1 : Int32))))))))
noncomputable def l_Mo_mostOften_41 : Nat → Int32 → Int32 → Int32 → Int32 → Int32 → Int32 → Int32 → PM → Option (Int32 × PM)
  | 0, _, _, _, _, _, _, _, _ => none
  | n + 1, x1, x2, x3, x4, x5, x6, x7, P => if (9 : Int32) < x7 then (ck (inb ((117 : Int32) + x3) 3408) (some (x6, (u1 P 110 ((117 : Int32) + x3).toNatClampNeg x5)))) else (if (f_Mo_isIn (x4.toInt64) x7 P) = (0 : Int32) then (j_Mo_mostOften_140 (fun z0 z1 z2 z3 z4 z5 z6 Pz => l_Mo_mostOften_41 n z0 z1 z2 z3 z4 z5 z6 Pz) x1 x2 x3 x4 x5 x6 x7 P) else (ck (inb ((117 : Int32) + x3) 3408) (bd2 (f_Mo_whyBy x1 x2 x3 ((u1 P 110 ((117 : Int32) + x3).toNatClampNeg x7).1 110 (116 : Int32).toNatClampNeg) (u1 P 110 ((117 : Int32) + x3).toNatClampNeg x7)) (fun v5 P6 => if v5 = (0 : Int32) then (bd2 (f_Mo_passedTo x1 x2 x3 P6) (fun v8 P9 => j_Mo_mostOften_101 (fun z0 z1 z2 z3 z4 z5 z6 Pz => l_Mo_mostOften_41 n z0 z1 z2 z3 z4 z5 z6 Pz) x1 x2 x3 x4 x5 x6 x7 v8 P9)) else (j_Mo_mostOften_101 (fun z0 z1 z2 z3 z4 z5 z6 Pz => l_Mo_mostOften_41 n z0 z1 z2 z3 z4 z5 z6 Pz) x1 x2 x3 x4 x5 x6 x7 (0 : Int32) P6)))))
noncomputable def l_Mo_mostOften_17 : Nat → Int32 → Int32 → Int32 → Int32 → Int32 → Int32 → Int32 → PM → Option (Int32 × PM)
  | 0, _, _, _, _, _, _, _, _ => none
  | n + 1, x1, x2, x3, x4, x5, x6, x7, P => if (40 : Int32) < x7 then (l_Mo_mostOften_41 FU x1 x2 x3 x4 x5 x6 (0 : Int32) P) else (ck (inb x7 41) (l_Mo_mostOften_17 n x1 x2 x3 x4 x5 x6 (x7 + (1 : Int32)) (u1 P 124 x7.toNatClampNeg (0 : Int32))))
noncomputable def f_Mo_mostOften (a1 : Int32) (a2 : Int32) (a3 : Int32) (a4 : Int32) (P : PM) : Option (Int32 × PM) := ck (inb ((117 : Int32) + a3) 3408) (lb (P.1 110 ((117 : Int32) + a3).toNatClampNeg) (fun y2 => l_Mo_mostOften_17 FU a1 a2 a3 a4 y2 (0 : Int32) (0 : Int32) P))
theorem t_j_Mo_mostOften_140 {G : GX} (hG : GOK G) {E : EV} (hE : E0 E) (d : Nat) (hd : 4 ≤ d) {Q : QT} (k41 : Int32 → Int32 → Int32 → Int32 → Int32 → Int32 → Int32 → PM → Option (Int32 × PM)) (hk41 : ∀ (x1 : Int32) (x2 : Int32) (x3 : Int32) (x4 : Int32) (x5 : Int32) (x6 : Int32) (x7 : Int32) (P : PM), St E rIP (k41 x1 x2 x3 x4 x5 x6 x7 P) Q → Go G c_Mo_mostOften "YawnRouteModel" 9 (some .int) false d nOb nOb Q 41 [(0, .ref (ad E 109)), (1, .int x1), (2, .int x2), (3, .int x3), (4, .int x4), (5, .int x5), (6, .int x6), (7, .int x7)] [] P E) (x1 : Int32) (x2 : Int32) (x3 : Int32) (x4 : Int32) (x5 : Int32) (x6 : Int32) (x7 : Int32) (P : PM) (h : St E rIP (j_Mo_mostOften_140 k41 x1 x2 x3 x4 x5 x6 x7 P) Q) : Go G c_Mo_mostOften "YawnRouteModel" 9 (some .int) false d nOb nOb Q 140 [(0, .ref (ad E 109)), (1, .int x1), (2, .int x2), (3, .int x3), (4, .int x4), (5, .int x5), (6, .int x6), (7, .int x7)] [] P E := by
  rw [j_Mo_mostOften_140] at h
  refine Go.iinc (i := 7) (n := 1) 7 (x7 + (1 : Int32)) [(7, .int (x7 + (1 : Int32))), (0, .ref (ad E 109)), (1, .int x1), (2, .int x2), (3, .int x3), (4, .int x4), (5, .int x5), (6, .int x6)] (by decide +kernel) rfl rfl (by decide) rfl ?_
  refine Go.goto (off := -102) 41 (by decide +kernel) (by decide) ?_
  refine Go.sub [1, 2, 3, 4, 5, 6, 7, 0] [(0, .ref (ad E 109)), (1, .int x1), (2, .int x2), (3, .int x3), (4, .int x4), (5, .int x5), (6, .int x6), (7, .int (x7 + (1 : Int32)))] rfl ?_
  exact hk41 x1 x2 x3 x4 x5 x6 (x7 + (1 : Int32)) P h
theorem t_j_Mo_mostOften_138 {G : GX} (hG : GOK G) {E : EV} (hE : E0 E) (d : Nat) (hd : 4 ≤ d) {Q : QT} (k41 : Int32 → Int32 → Int32 → Int32 → Int32 → Int32 → Int32 → PM → Option (Int32 × PM)) (hk41 : ∀ (x1 : Int32) (x2 : Int32) (x3 : Int32) (x4 : Int32) (x5 : Int32) (x6 : Int32) (x7 : Int32) (P : PM), St E rIP (k41 x1 x2 x3 x4 x5 x6 x7 P) Q → Go G c_Mo_mostOften "YawnRouteModel" 9 (some .int) false d nOb nOb Q 41 [(0, .ref (ad E 109)), (1, .int x1), (2, .int x2), (3, .int x3), (4, .int x4), (5, .int x5), (6, .int x6), (7, .int x7)] [] P E) (x1 : Int32) (x2 : Int32) (x3 : Int32) (x4 : Int32) (x5 : Int32) (x7 : Int32) (s0 : Int32) (P : PM) (h : St E rIP (j_Mo_mostOften_138 k41 x1 x2 x3 x4 x5 x7 s0 P) Q) : Go G c_Mo_mostOften "YawnRouteModel" 9 (some .int) false d nOb nOb Q 138 [(0, .ref (ad E 109)), (1, .int x1), (2, .int x2), (3, .int x3), (4, .int x4), (5, .int x5), (7, .int x7)] [.int s0] P E := by
  rw [j_Mo_mostOften_138] at h
  refine Go.istore (i := 6) [(6, .int s0), (0, .ref (ad E 109)), (1, .int x1), (2, .int x2), (3, .int x3), (4, .int x4), (5, .int x5), (7, .int x7)] (by decide +kernel) (by decide) rfl ?_
  refine Go.sub [1, 2, 3, 4, 5, 6, 0, 7] [(0, .ref (ad E 109)), (1, .int x1), (2, .int x2), (3, .int x3), (4, .int x4), (5, .int x5), (6, .int s0), (7, .int x7)] rfl ?_
  exact t_j_Mo_mostOften_140 hG hE d hd k41 hk41 x1 x2 x3 x4 x5 s0 x7 P h
theorem t_j_Mo_mostOften_101 {G : GX} (hG : GOK G) {E : EV} (hE : E0 E) (d : Nat) (hd : 4 ≤ d) {Q : QT} (k41 : Int32 → Int32 → Int32 → Int32 → Int32 → Int32 → Int32 → PM → Option (Int32 × PM)) (hk41 : ∀ (x1 : Int32) (x2 : Int32) (x3 : Int32) (x4 : Int32) (x5 : Int32) (x6 : Int32) (x7 : Int32) (P : PM), St E rIP (k41 x1 x2 x3 x4 x5 x6 x7 P) Q → Go G c_Mo_mostOften "YawnRouteModel" 9 (some .int) false d nOb nOb Q 41 [(0, .ref (ad E 109)), (1, .int x1), (2, .int x2), (3, .int x3), (4, .int x4), (5, .int x5), (6, .int x6), (7, .int x7)] [] P E) (x1 : Int32) (x2 : Int32) (x3 : Int32) (x4 : Int32) (x5 : Int32) (x6 : Int32) (x7 : Int32) (s0 : Int32) (P : PM) (h : St E rIP (j_Mo_mostOften_101 k41 x1 x2 x3 x4 x5 x6 x7 s0 P) Q) : Go G c_Mo_mostOften "YawnRouteModel" 9 (some .int) false d nOb nOb Q 101 [(0, .ref (ad E 109)), (1, .int x1), (2, .int x2), (3, .int x3), (4, .int x4), (5, .int x5), (6, .int x6), (7, .int x7)] [.int s0] P E := by
  rw [j_Mo_mostOften_101] at h
  refine Go.istore (i := 8) [(8, .int s0), (0, .ref (ad E 109)), (1, .int x1), (2, .int x2), (3, .int x3), (4, .int x4), (5, .int x5), (6, .int x6), (7, .int x7)] (by decide +kernel) (by decide) rfl ?_
  refine Go.aload_n (k := 0) (i := 0) 1 (by decide +kernel) rfl rfl ?_
  refine Go.get 109 27 (.ref (ad E 124)) (by decide) (by decide) sh109 (ltO hE sh109) (vlR hE rfl rfl) lk1357 (by decide +kernel) ?_
  refine Go.iload (i := 8) 0 (by decide +kernel) rfl ?_
  refine Go.dup2 (by decide +kernel) rfl rfl ?_
  obtain ⟨b1, h⟩ := St.ck h
  refine Go.iaload 124 41 sh124 (ltA hE sh124 (by decide)) (inb_in b1) (by decide +kernel) ?_
  refine Go.iconst (n := 1) (1 : Int32) (by decide +kernel) rfl ?_
  refine Go.iadd (by decide +kernel) ?_
  obtain ⟨b2, h⟩ := St.ck h
  refine Go.iastore 124 41 sh124 (ltA hE sh124 (by decide)) (inb_in b2) (by decide +kernel) ?_
  refine Go.aload_n (k := 0) (i := 0) 1 (by decide +kernel) rfl rfl ?_
  refine Go.get 109 27 (.ref (ad E 124)) (by decide) (by decide) sh109 (ltO hE sh109) (vlR hE rfl rfl) lk1357 (by decide +kernel) ?_
  refine Go.iload (i := 8) 0 (by decide +kernel) rfl ?_
  obtain ⟨b3, h⟩ := St.ck h
  refine Go.iaload 124 41 sh124 (ltA hE sh124 (by decide)) (inb_in b3) (by decide +kernel) ?_
  refine Go.iload (i := 6) 7 (by decide +kernel) rfl ?_
  refine Go.icmp_le (off := 13) 136 (by decide +kernel) (by decide) (fun c4 => ?_) (fun c4 => ?_)
  · rw [if_pos c4] at h
    refine Go.iload (i := 6) 7 (by decide +kernel) rfl ?_
    refine Go.sub [1, 2, 3, 4, 5, 6, 8] [(0, .ref (ad E 109)), (1, .int x1), (2, .int x2), (3, .int x3), (4, .int x4), (5, .int x5), (7, .int x7)] rfl ?_
    exact t_j_Mo_mostOften_138 hG hE d hd k41 hk41 x1 x2 x3 x4 x5 x7 x6 (u1 P 124 s0.toNatClampNeg ((P.1 124 s0.toNatClampNeg) + (1 : Int32))) h
  · rw [if_neg c4] at h
    refine Go.aload_n (k := 0) (i := 0) 1 (by decide +kernel) rfl rfl ?_
    refine Go.get 109 27 (.ref (ad E 124)) (by decide) (by decide) sh109 (ltO hE sh109) (vlR hE rfl rfl) lk1357 (by decide +kernel) ?_
    refine Go.iload (i := 8) 0 (by decide +kernel) rfl ?_
    obtain ⟨b5, h⟩ := St.ck h
    refine Go.iaload 124 41 sh124 (ltA hE sh124 (by decide)) (inb_in b5) (by decide +kernel) ?_
    refine Go.goto (off := 5) 138 (by decide +kernel) (by decide) ?_
    refine Go.sub [1, 2, 3, 4, 5, 6, 8] [(0, .ref (ad E 109)), (1, .int x1), (2, .int x2), (3, .int x3), (4, .int x4), (5, .int x5), (7, .int x7)] rfl ?_
    exact t_j_Mo_mostOften_138 hG hE d hd k41 hk41 x1 x2 x3 x4 x5 x7 ((u1 P 124 s0.toNatClampNeg ((P.1 124 s0.toNatClampNeg) + (1 : Int32))).1 124 s0.toNatClampNeg) (u1 P 124 s0.toNatClampNeg ((P.1 124 s0.toNatClampNeg) + (1 : Int32))) h
theorem t_l_Mo_mostOften_41 {G : GX} (hG : GOK G) {E : EV} (hE : E0 E) (d : Nat) (hd : 4 ≤ d) {Q : QT} : ∀ (n : Nat) (x1 : Int32) (x2 : Int32) (x3 : Int32) (x4 : Int32) (x5 : Int32) (x6 : Int32) (x7 : Int32) (P : PM), St E rIP (l_Mo_mostOften_41 n x1 x2 x3 x4 x5 x6 x7 P) Q → Go G c_Mo_mostOften "YawnRouteModel" 9 (some .int) false d nOb nOb Q 41 [(0, .ref (ad E 109)), (1, .int x1), (2, .int x2), (3, .int x3), (4, .int x4), (5, .int x5), (6, .int x6), (7, .int x7)] [] P E := by
  intro n
  induction n with
  | zero =>
    intro x1 x2 x3 x4 x5 x6 x7 P h
    rw [l_Mo_mostOften_41] at h
    exact St.none_ h
  | succ n ih =>
    intro x1 x2 x3 x4 x5 x6 x7 P h
    rw [l_Mo_mostOften_41] at h
    refine Go.iload (i := 7) 7 (by decide +kernel) rfl ?_
    refine Go.bipush (n := 9) (9 : Int32) (by decide +kernel) (by decide) ?_
    refine Go.icmp_gt (off := 101) 146 (by decide +kernel) (by decide) (fun c1 => ?_) (fun c1 => ?_)
    · rw [if_pos c1] at h
      refine Go.aload_n (k := 0) (i := 0) 0 (by decide +kernel) rfl rfl ?_
      refine Go.get 109 1 (.ref (ad E 110)) (by decide) (by decide) sh109 (ltO hE sh109) (vlR hE rfl rfl) lk1331 (by decide +kernel) ?_
      refine Go.bipush (n := 117) (117 : Int32) (by decide +kernel) (by decide) ?_
      refine Go.iload_n (k := 3) (i := 3) 3 (by decide +kernel) rfl rfl ?_
      refine Go.iadd (by decide +kernel) ?_
      refine Go.iload (i := 5) 5 (by decide +kernel) rfl ?_
      obtain ⟨b2, h⟩ := St.ck h
      refine Go.iastore 110 3408 sh110 (ltA hE sh110 (by decide)) (inb_in b2) (by decide +kernel) ?_
      refine Go.iload (i := 6) 6 (by decide +kernel) rfl ?_
      exact Go.iret rfl rfl hE.2 (by decide +kernel) (St.fIP h)
    · rw [if_neg c1] at h
      refine Go.iload (i := 4) 4 (by decide +kernel) rfl ?_
      refine Go.i2l (by decide +kernel) ?_
      refine Go.iload (i := 7) 7 (by decide +kernel) rfl ?_
      refine Go.cS_i (P1 := P) (v := (f_Mo_isIn (x4.toInt64) x7 P)) (d - 1) [.long (x4.toInt64), .int x7] hE w_Mo_isIn (e_Mo_isIn hG hE (d - 1) (by omega) (x4.toInt64) x7 P ⟨rfl, rfl, rfl⟩) lk1579 rfl (by omega) (Nat.le_of_ble_eq_true rfl) (by decide +kernel) _ rfl ?_
      refine Go.if_ne (off := 6) 62 (by decide +kernel) (by decide) (fun c3 => ?_) (fun c3 => ?_)
      · rw [if_neg c3] at h
        refine Go.aload_n (k := 0) (i := 0) 0 (by decide +kernel) rfl rfl ?_
        refine Go.get 109 1 (.ref (ad E 110)) (by decide) (by decide) sh109 (ltO hE sh109) (vlR hE rfl rfl) lk1331 (by decide +kernel) ?_
        refine Go.bipush (n := 117) (117 : Int32) (by decide +kernel) (by decide) ?_
        refine Go.iload_n (k := 3) (i := 3) 3 (by decide +kernel) rfl rfl ?_
        refine Go.iadd (by decide +kernel) ?_
        refine Go.iload (i := 7) 7 (by decide +kernel) rfl ?_
        obtain ⟨b4, h⟩ := St.ck h
        refine Go.iastore 110 3408 sh110 (ltA hE sh110 (by decide)) (inb_in b4) (by decide +kernel) ?_
        refine Go.aload_n (k := 0) (i := 0) 0 (by decide +kernel) rfl rfl ?_
        refine Go.iload_n (k := 1) (i := 1) 1 (by decide +kernel) rfl rfl ?_
        refine Go.iload_n (k := 2) (i := 2) 2 (by decide +kernel) rfl rfl ?_
        refine Go.iload_n (k := 3) (i := 3) 3 (by decide +kernel) rfl rfl ?_
        refine Go.aload_n (k := 0) (i := 0) 0 (by decide +kernel) rfl rfl ?_
        refine Go.get 109 1 (.ref (ad E 110)) (by decide) (by decide) sh109 (ltO hE sh109) (vlR hE rfl rfl) lk1331 (by decide +kernel) ?_
        refine Go.bipush (n := 116) (116 : Int32) (by decide +kernel) (by decide) ?_
        refine Go.iaload 110 3408 sh110 (ltA hE sh110 (by decide)) (vp_in_iff.mpr (by decide)) (by decide +kernel) ?_
        obtain ⟨v5, P6, hv5, h⟩ := St.bd2 h
        refine Go.cV_i (P1 := P6) (v := v5) (d - 1) 109 [.int x1, .int x2, .int x3, .int ((u1 P 110 ((117 : Int32) + x3).toNatClampNeg x7).1 110 (116 : Int32).toNatClampNeg)] sh109 hE w_Mo_whyBy (e_Mo_whyBy hG hE (d - 1) (by omega) x1 x2 x3 ((u1 P 110 ((117 : Int32) + x3).toNatClampNeg x7).1 110 (116 : Int32).toNatClampNeg) (u1 P 110 ((117 : Int32) + x3).toNatClampNeg x7) ⟨_, hv5, rfl, rfl, rfl⟩) lk1575 rfl (by omega) (Nat.le_of_ble_eq_true rfl) (by decide +kernel) _ rfl ?_
        refine Go.if_ne (off := 13) 100 (by decide +kernel) (by decide) (fun c7 => ?_) (fun c7 => ?_)
        · rw [if_neg c7] at h
          refine Go.iconst (n := 0) (0 : Int32) (by decide +kernel) rfl ?_
          exact t_j_Mo_mostOften_101 hG hE d hd (fun z0 z1 z2 z3 z4 z5 z6 Pz => l_Mo_mostOften_41 n z0 z1 z2 z3 z4 z5 z6 Pz) (fun z0 z1 z2 z3 z4 z5 z6 Pz q => ih z0 z1 z2 z3 z4 z5 z6 Pz q) x1 x2 x3 x4 x5 x6 x7 (0 : Int32) P6 h
        · rw [if_pos c7] at h
          refine Go.aload_n (k := 0) (i := 0) 0 (by decide +kernel) rfl rfl ?_
          refine Go.iload_n (k := 1) (i := 1) 1 (by decide +kernel) rfl rfl ?_
          refine Go.iload_n (k := 2) (i := 2) 2 (by decide +kernel) rfl rfl ?_
          refine Go.iload_n (k := 3) (i := 3) 3 (by decide +kernel) rfl rfl ?_
          obtain ⟨v8, P9, hv8, h⟩ := St.bd2 h
          refine Go.cV_i (P1 := P9) (v := v8) (d - 1) 109 [.int x1, .int x2, .int x3] sh109 hE w_Mo_passedTo (e_Mo_passedTo hG hE (d - 1) (by omega) x1 x2 x3 P6 ⟨_, hv8, rfl, rfl, rfl⟩) lk1591 rfl (by omega) (Nat.le_of_ble_eq_true rfl) (by decide +kernel) _ rfl ?_
          refine Go.goto (off := 4) 101 (by decide +kernel) (by decide) ?_
          exact t_j_Mo_mostOften_101 hG hE d hd (fun z0 z1 z2 z3 z4 z5 z6 Pz => l_Mo_mostOften_41 n z0 z1 z2 z3 z4 z5 z6 Pz) (fun z0 z1 z2 z3 z4 z5 z6 Pz q => ih z0 z1 z2 z3 z4 z5 z6 Pz q) x1 x2 x3 x4 x5 x6 x7 v8 P9 h
      · rw [if_pos c3] at h
        refine Go.goto (off := 81) 140 (by decide +kernel) (by decide) ?_
        exact t_j_Mo_mostOften_140 hG hE d hd (fun z0 z1 z2 z3 z4 z5 z6 Pz => l_Mo_mostOften_41 n z0 z1 z2 z3 z4 z5 z6 Pz) (fun z0 z1 z2 z3 z4 z5 z6 Pz q => ih z0 z1 z2 z3 z4 z5 z6 Pz q) x1 x2 x3 x4 x5 x6 x7 P h
theorem t_l_Mo_mostOften_17 {G : GX} (hG : GOK G) {E : EV} (hE : E0 E) (d : Nat) (hd : 4 ≤ d) {Q : QT} : ∀ (n : Nat) (x1 : Int32) (x2 : Int32) (x3 : Int32) (x4 : Int32) (x5 : Int32) (x6 : Int32) (x7 : Int32) (P : PM), St E rIP (l_Mo_mostOften_17 n x1 x2 x3 x4 x5 x6 x7 P) Q → Go G c_Mo_mostOften "YawnRouteModel" 9 (some .int) false d nOb nOb Q 17 [(0, .ref (ad E 109)), (1, .int x1), (2, .int x2), (3, .int x3), (4, .int x4), (5, .int x5), (6, .int x6), (7, .int x7)] [] P E := by
  intro n
  induction n with
  | zero =>
    intro x1 x2 x3 x4 x5 x6 x7 P h
    rw [l_Mo_mostOften_17] at h
    exact St.none_ h
  | succ n ih =>
    intro x1 x2 x3 x4 x5 x6 x7 P h
    rw [l_Mo_mostOften_17] at h
    refine Go.iload (i := 7) 7 (by decide +kernel) rfl ?_
    refine Go.bipush (n := 40) (40 : Int32) (by decide +kernel) (by decide) ?_
    refine Go.icmp_gt (off := 17) 38 (by decide +kernel) (by decide) (fun c1 => ?_) (fun c1 => ?_)
    · rw [if_pos c1] at h
      refine Go.iconst (n := 0) (0 : Int32) (by decide +kernel) rfl ?_
      refine Go.istore (i := 7) [(7, .int (0 : Int32)), (0, .ref (ad E 109)), (1, .int x1), (2, .int x2), (3, .int x3), (4, .int x4), (5, .int x5), (6, .int x6)] (by decide +kernel) (by decide) rfl ?_
      refine Go.sub [1, 2, 3, 4, 5, 6, 7, 0] [(0, .ref (ad E 109)), (1, .int x1), (2, .int x2), (3, .int x3), (4, .int x4), (5, .int x5), (6, .int x6), (7, .int (0 : Int32))] rfl ?_
      exact t_l_Mo_mostOften_41 hG hE d hd FU x1 x2 x3 x4 x5 x6 (0 : Int32) P h
    · rw [if_neg c1] at h
      refine Go.aload_n (k := 0) (i := 0) 0 (by decide +kernel) rfl rfl ?_
      refine Go.get 109 27 (.ref (ad E 124)) (by decide) (by decide) sh109 (ltO hE sh109) (vlR hE rfl rfl) lk1357 (by decide +kernel) ?_
      refine Go.iload (i := 7) 7 (by decide +kernel) rfl ?_
      refine Go.iconst (n := 0) (0 : Int32) (by decide +kernel) rfl ?_
      obtain ⟨b2, h⟩ := St.ck h
      refine Go.iastore 124 41 sh124 (ltA hE sh124 (by decide)) (inb_in b2) (by decide +kernel) ?_
      refine Go.iinc (i := 7) (n := 1) 7 (x7 + (1 : Int32)) [(7, .int (x7 + (1 : Int32))), (0, .ref (ad E 109)), (1, .int x1), (2, .int x2), (3, .int x3), (4, .int x4), (5, .int x5), (6, .int x6)] (by decide +kernel) rfl rfl (by decide) rfl ?_
      refine Go.goto (off := -18) 17 (by decide +kernel) (by decide) ?_
      refine Go.sub [1, 2, 3, 4, 5, 6, 7, 0] [(0, .ref (ad E 109)), (1, .int x1), (2, .int x2), (3, .int x3), (4, .int x4), (5, .int x5), (6, .int x6), (7, .int (x7 + (1 : Int32)))] rfl ?_
      exact ih x1 x2 x3 x4 x5 x6 (x7 + (1 : Int32)) (u1 P 124 x7.toNatClampNeg (0 : Int32)) h
theorem t_f_Mo_mostOften {G : GX} (hG : GOK G) {E : EV} (hE : E0 E) (d : Nat) (hd : 4 ≤ d) {Q : QT} (a1 : Int32) (a2 : Int32) (a3 : Int32) (a4 : Int32) (P : PM) (h : St E rIP (f_Mo_mostOften a1 a2 a3 a4 P) Q) : Go G c_Mo_mostOften "YawnRouteModel" 9 (some .int) false d nOb nOb Q 0 [(0, .ref (ad E 109)), (1, .int a1), (2, .int a2), (3, .int a3), (4, .int a4)] [] P E := by
  rw [f_Mo_mostOften] at h
  refine Go.aload_n (k := 0) (i := 0) 0 (by decide +kernel) rfl rfl ?_
  refine Go.get 109 1 (.ref (ad E 110)) (by decide) (by decide) sh109 (ltO hE sh109) (vlR hE rfl rfl) lk1331 (by decide +kernel) ?_
  refine Go.bipush (n := 117) (117 : Int32) (by decide +kernel) (by decide) ?_
  refine Go.iload_n (k := 3) (i := 3) 3 (by decide +kernel) rfl rfl ?_
  refine Go.iadd (by decide +kernel) ?_
  obtain ⟨b1, h⟩ := St.ck h
  refine Go.iaload 110 3408 sh110 (ltA hE sh110 (by decide)) (inb_in b1) (by decide +kernel) ?_
  obtain ⟨y2, hy2, h⟩ := St.lb h
  refine Go.eqi y2 hy2 ?_
  refine Go.istore (i := 5) [(5, .int y2), (0, .ref (ad E 109)), (1, .int a1), (2, .int a2), (3, .int a3), (4, .int a4)] (by decide +kernel) (by decide) rfl ?_
  refine Go.iconst (n := 0) (0 : Int32) (by decide +kernel) rfl ?_
  refine Go.istore (i := 6) [(6, .int (0 : Int32)), (5, .int y2), (0, .ref (ad E 109)), (1, .int a1), (2, .int a2), (3, .int a3), (4, .int a4)] (by decide +kernel) (by decide) rfl ?_
  refine Go.iconst (n := 0) (0 : Int32) (by decide +kernel) rfl ?_
  refine Go.istore (i := 7) [(7, .int (0 : Int32)), (6, .int (0 : Int32)), (5, .int y2), (0, .ref (ad E 109)), (1, .int a1), (2, .int a2), (3, .int a3), (4, .int a4)] (by decide +kernel) (by decide) rfl ?_
  refine Go.sub [3, 4, 5, 6, 7, 2, 1, 0] [(0, .ref (ad E 109)), (1, .int a1), (2, .int a2), (3, .int a3), (4, .int a4), (5, .int y2), (6, .int (0 : Int32)), (7, .int (0 : Int32))] rfl ?_
  exact t_l_Mo_mostOften_17 hG hE d hd FU a1 a2 a3 a4 y2 (0 : Int32) (0 : Int32) P h
theorem e_Mo_mostOften {G : GX} (hG : GOK G) {E : EV} (hE : E0 E) (d : Nat) (hd : 4 ≤ d) (a1 : Int32) (a2 : Int32) (a3 : Int32) (a4 : Int32) (P : PM) {Q : QT} (h : St E rIP (f_Mo_mostOften a1 a2 a3 a4 P) Q) : Con G y_Mo_mostOften cw_Mo_mostOften d nOb nOb [.ref (ad E 109), .int a1, .int a2, .int a3, .int a4] P E Q :=
  Con.of hG (by decide +kernel) rfl (fun h => by cases h) hE.2 (Nat.le_of_ble_eq_true rfl) (t_f_Mo_mostOften hG hE d hd a1 a2 a3 a4 P h)
abbrev c_Mo_attempt : ByteArray := prog_14_method_107_code
abbrev y_Mo_attempt : MethodName := ⟨"YawnRouteModel", "attempt", "(III)I"⟩
abbrev cw_Mo_attempt : Cond := .code y_Mo_attempt c_Mo_attempt 10 (some .int)
theorem w_Mo_attempt : VW 12 y_Mo_attempt c_Mo_attempt 10 (some .int) 3 := ⟨by decide, lk1848, lk1849, lk14, lk1850, ⟨by decide, by decide, by decide +kernel⟩, by decide⟩
noncomputable def j_Mo_attempt_101 (k42 : Int32 → Int32 → Int32 → Int32 → Int32 → Int32 → PM → Option (Int32 × PM)) (x2 : Int32) (x3 : Int32) (x5 : Int32) (x6 : Int32) (x7 : Int32) (x8 : Int32) (P : PM) : Option (Int32 × PM) := k42 x2 x3 x5 x6 x7 (x8 + (1 : Int32)) P
noncomputable def l_Mo_attempt_42 : Nat → Int32 → Int32 → Int32 → Int32 → Int32 → Int32 → PM → Option (Int32 × PM)
  | 0, _, _, _, _, _, _, _ => none
  | n + 1, x2, x3, x5, x6, x7, x8, P => if (P.1 110 (1 : Int32).toNatClampNeg) ≤ x8 then (some (x6, P)) else (if x5 = (0 : Int32) then (some (x6, P)) else ((f_Mo_hoursOf x8 x2 P).bind (fun v3 => if v3 = (0 : Int32) then (j_Mo_attempt_101 (fun z0 z1 z2 z3 z4 z5 Pz => l_Mo_attempt_42 n z0 z1 z2 z3 z4 z5 Pz) x2 x3 x5 x6 x7 x8 P) else (bd2 (f_Mo_mostOften x8 x3 x2 x5 P) (fun v5 P6 => if v5 < x7 then (j_Mo_attempt_101 (fun z0 z1 z2 z3 z4 z5 Pz => l_Mo_attempt_42 n z0 z1 z2 z3 z4 z5 Pz) x2 x3 x5 x8 v5 x8 P6) else (j_Mo_attempt_101 (fun z0 z1 z2 z3 z4 z5 Pz => l_Mo_attempt_42 n z0 z1 z2 z3 z4 z5 Pz) x2 x3 x5 x6 x7 x8 P6))))))
noncomputable def f_Mo_attempt (a1 : Int32) (a2 : Int32) (a3 : Int32) (P : PM) : Option (Int32 × PM) := (f_Mo_noDulls a1 a2 a3 (u1 P 109 0 (0 : Int32))).bind (fun v1 => if v1 = (0 : Int32) then (bd2 (f_Mo_dullsOf a1 a2 a3 (u1 P 109 0 (0 : Int32))) (fun v3 P4 => l_Mo_attempt_42 FU a2 a3 v3 (-1 : Int32) (268435456 : Int32) (0 : Int32) P4)) else (some (v1, (u1 P 109 0 (0 : Int32)))))
theorem t_j_Mo_attempt_101 {G : GX} (hG : GOK G) {E : EV} (hE : E0 E) (d : Nat) (hd : 6 ≤ d) {Q : QT} (k42 : Int32 → Int32 → Int32 → Int32 → Int32 → Int32 → PM → Option (Int32 × PM)) (hk42 : ∀ (x2 : Int32) (x3 : Int32) (x5 : Int32) (x6 : Int32) (x7 : Int32) (x8 : Int32) (P : PM), St E rIP (k42 x2 x3 x5 x6 x7 x8 P) Q → Go G c_Mo_attempt "YawnRouteModel" 10 (some .int) false d nOb nOb Q 42 [(0, .ref (ad E 109)), (2, .int x2), (3, .int x3), (5, .int x5), (6, .int x6), (7, .int x7), (8, .int x8)] [] P E) (x2 : Int32) (x3 : Int32) (x5 : Int32) (x6 : Int32) (x7 : Int32) (x8 : Int32) (P : PM) (h : St E rIP (j_Mo_attempt_101 k42 x2 x3 x5 x6 x7 x8 P) Q) : Go G c_Mo_attempt "YawnRouteModel" 10 (some .int) false d nOb nOb Q 101 [(0, .ref (ad E 109)), (2, .int x2), (3, .int x3), (5, .int x5), (6, .int x6), (7, .int x7), (8, .int x8)] [] P E := by
  rw [j_Mo_attempt_101] at h
  refine Go.iinc (i := 8) (n := 1) 6 (x8 + (1 : Int32)) [(8, .int (x8 + (1 : Int32))), (0, .ref (ad E 109)), (2, .int x2), (3, .int x3), (5, .int x5), (6, .int x6), (7, .int x7)] (by decide +kernel) rfl rfl (by decide) rfl ?_
  refine Go.goto (off := -62) 42 (by decide +kernel) (by decide) ?_
  refine Go.sub [1, 2, 3, 4, 5, 6, 0] [(0, .ref (ad E 109)), (2, .int x2), (3, .int x3), (5, .int x5), (6, .int x6), (7, .int x7), (8, .int (x8 + (1 : Int32)))] rfl ?_
  exact hk42 x2 x3 x5 x6 x7 (x8 + (1 : Int32)) P h
theorem t_l_Mo_attempt_42 {G : GX} (hG : GOK G) {E : EV} (hE : E0 E) (d : Nat) (hd : 6 ≤ d) {Q : QT} : ∀ (n : Nat) (x2 : Int32) (x3 : Int32) (x5 : Int32) (x6 : Int32) (x7 : Int32) (x8 : Int32) (P : PM), St E rIP (l_Mo_attempt_42 n x2 x3 x5 x6 x7 x8 P) Q → Go G c_Mo_attempt "YawnRouteModel" 10 (some .int) false d nOb nOb Q 42 [(0, .ref (ad E 109)), (2, .int x2), (3, .int x3), (5, .int x5), (6, .int x6), (7, .int x7), (8, .int x8)] [] P E := by
  intro n
  induction n with
  | zero =>
    intro x2 x3 x5 x6 x7 x8 P h
    rw [l_Mo_attempt_42] at h
    exact St.none_ h
  | succ n ih =>
    intro x2 x3 x5 x6 x7 x8 P h
    rw [l_Mo_attempt_42] at h
    refine Go.iload (i := 8) 6 (by decide +kernel) rfl ?_
    refine Go.aload_n (k := 0) (i := 0) 0 (by decide +kernel) rfl rfl ?_
    refine Go.get 109 1 (.ref (ad E 110)) (by decide) (by decide) sh109 (ltO hE sh109) (vlR hE rfl rfl) lk1331 (by decide +kernel) ?_
    refine Go.iconst (n := 1) (1 : Int32) (by decide +kernel) rfl ?_
    refine Go.iaload 110 3408 sh110 (ltA hE sh110 (by decide)) (vp_in_iff.mpr (by decide)) (by decide +kernel) ?_
    refine Go.icmp_ge (off := 57) 107 (by decide +kernel) (by decide) (fun c1 => ?_) (fun c1 => ?_)
    · rw [if_pos c1] at h
      refine Go.iload (i := 6) 4 (by decide +kernel) rfl ?_
      exact Go.iret rfl rfl hE.2 (by decide +kernel) (St.fIP h)
    · rw [if_neg c1] at h
      refine Go.iload (i := 5) 3 (by decide +kernel) rfl ?_
      refine Go.if_eq (off := 52) 107 (by decide +kernel) (by decide) (fun c2 => ?_) (fun c2 => ?_)
      · rw [if_pos c2] at h
        refine Go.iload (i := 6) 4 (by decide +kernel) rfl ?_
        exact Go.iret rfl rfl hE.2 (by decide +kernel) (St.fIP h)
      · rw [if_neg c2] at h
        refine Go.aload_n (k := 0) (i := 0) 0 (by decide +kernel) rfl rfl ?_
        refine Go.iload (i := 8) 6 (by decide +kernel) rfl ?_
        refine Go.iload_n (k := 2) (i := 2) 1 (by decide +kernel) rfl rfl ?_
        obtain ⟨v3, hv3, h⟩ := St.bind h
        refine Go.cV_i (P1 := P) (v := v3) (d - 1) 109 [.int x8, .int x2] sh109 hE w_Mo_hoursOf (e_Mo_hoursOf hG hE (d - 1) (by omega) x8 x2 P ⟨_, hv3, rfl, rfl, rfl⟩) lk1559 rfl (by omega) (Nat.le_of_ble_eq_true rfl) (by decide +kernel) _ rfl ?_
        refine Go.if_ne (off := 6) 71 (by decide +kernel) (by decide) (fun c4 => ?_) (fun c4 => ?_)
        · rw [if_neg c4] at h
          refine Go.aload_n (k := 0) (i := 0) 0 (by decide +kernel) rfl rfl ?_
          refine Go.iload (i := 8) 6 (by decide +kernel) rfl ?_
          refine Go.iload_n (k := 3) (i := 3) 2 (by decide +kernel) rfl rfl ?_
          refine Go.iload_n (k := 2) (i := 2) 1 (by decide +kernel) rfl rfl ?_
          refine Go.iload (i := 5) 3 (by decide +kernel) rfl ?_
          obtain ⟨v5, P6, hv5, h⟩ := St.bd2 h
          refine Go.cV_i (P1 := P6) (v := v5) (d - 1) 109 [.int x8, .int x3, .int x2, .int x5] sh109 hE w_Mo_mostOften (e_Mo_mostOften hG hE (d - 1) (by omega) x8 x3 x2 x5 P ⟨_, hv5, rfl, rfl, rfl⟩) lk1851 rfl (by omega) (Nat.le_of_ble_eq_true rfl) (by decide +kernel) _ rfl ?_
          refine Go.istore (i := 9) [(9, .int v5), (0, .ref (ad E 109)), (2, .int x2), (3, .int x3), (5, .int x5), (6, .int x6), (7, .int x7), (8, .int x8)] (by decide +kernel) (by decide) rfl ?_
          refine Go.iload (i := 9) 0 (by decide +kernel) rfl ?_
          refine Go.iload (i := 7) 6 (by decide +kernel) rfl ?_
          refine Go.icmp_lt (off := 6) 93 (by decide +kernel) (by decide) (fun c7 => ?_) (fun c7 => ?_)
          · rw [if_pos c7] at h
            refine Go.iload (i := 8) 7 (by decide +kernel) rfl ?_
            refine Go.istore (i := 6) [(6, .int x8), (9, .int v5), (0, .ref (ad E 109)), (2, .int x2), (3, .int x3), (5, .int x5), (7, .int x7), (8, .int x8)] (by decide +kernel) (by decide) rfl ?_
            refine Go.iload (i := 9) 1 (by decide +kernel) rfl ?_
            refine Go.istore (i := 7) [(7, .int v5), (6, .int x8), (9, .int v5), (0, .ref (ad E 109)), (2, .int x2), (3, .int x3), (5, .int x5), (8, .int x8)] (by decide +kernel) (by decide) rfl ?_
            refine Go.sub [3, 4, 5, 6, 1, 0, 7] [(0, .ref (ad E 109)), (2, .int x2), (3, .int x3), (5, .int x5), (6, .int x8), (7, .int v5), (8, .int x8)] rfl ?_
            exact t_j_Mo_attempt_101 hG hE d hd (fun z0 z1 z2 z3 z4 z5 Pz => l_Mo_attempt_42 n z0 z1 z2 z3 z4 z5 Pz) (fun z0 z1 z2 z3 z4 z5 Pz q => ih z0 z1 z2 z3 z4 z5 Pz q) x2 x3 x5 x8 v5 x8 P6 h
          · rw [if_neg c7] at h
            refine Go.goto (off := 11) 101 (by decide +kernel) (by decide) ?_
            refine Go.sub [1, 2, 3, 4, 5, 6, 7] [(0, .ref (ad E 109)), (2, .int x2), (3, .int x3), (5, .int x5), (6, .int x6), (7, .int x7), (8, .int x8)] rfl ?_
            exact t_j_Mo_attempt_101 hG hE d hd (fun z0 z1 z2 z3 z4 z5 Pz => l_Mo_attempt_42 n z0 z1 z2 z3 z4 z5 Pz) (fun z0 z1 z2 z3 z4 z5 Pz q => ih z0 z1 z2 z3 z4 z5 Pz q) x2 x3 x5 x6 x7 x8 P6 h
        · rw [if_pos c4] at h
          refine Go.goto (off := 33) 101 (by decide +kernel) (by decide) ?_
          exact t_j_Mo_attempt_101 hG hE d hd (fun z0 z1 z2 z3 z4 z5 Pz => l_Mo_attempt_42 n z0 z1 z2 z3 z4 z5 Pz) (fun z0 z1 z2 z3 z4 z5 Pz q => ih z0 z1 z2 z3 z4 z5 Pz q) x2 x3 x5 x6 x7 x8 P h
theorem t_f_Mo_attempt {G : GX} (hG : GOK G) {E : EV} (hE : E0 E) (d : Nat) (hd : 6 ≤ d) {Q : QT} (a1 : Int32) (a2 : Int32) (a3 : Int32) (P : PM) (h : St E rIP (f_Mo_attempt a1 a2 a3 P) Q) : Go G c_Mo_attempt "YawnRouteModel" 10 (some .int) false d nOb nOb Q 0 [(0, .ref (ad E 109)), (1, .int a1), (2, .int a2), (3, .int a3)] [] P E := by
  rw [f_Mo_attempt] at h
  refine Go.aload_n (k := 0) (i := 0) 0 (by decide +kernel) rfl rfl ?_
  refine Go.iconst (n := 0) (0 : Int32) (by decide +kernel) rfl ?_
  refine Go.put 109 0 (by decide) (by decide) sh109 (ltO hE sh109) (Or.inl rfl) rfl rfl rfl lk1330 (by decide +kernel) ?_
  refine Go.aload_n (k := 0) (i := 0) 0 (by decide +kernel) rfl rfl ?_
  refine Go.iload_n (k := 1) (i := 1) 1 (by decide +kernel) rfl rfl ?_
  refine Go.iload_n (k := 2) (i := 2) 2 (by decide +kernel) rfl rfl ?_
  refine Go.iload_n (k := 3) (i := 3) 3 (by decide +kernel) rfl rfl ?_
  obtain ⟨v1, hv1, h⟩ := St.bind h
  refine Go.cV_i (P1 := (u1 P 109 0 (0 : Int32))) (v := v1) (d - 1) 109 [.int a1, .int a2, .int a3] sh109 hE w_Mo_noDulls (e_Mo_noDulls hG hE (d - 1) (by omega) a1 a2 a3 (u1 P 109 0 (0 : Int32)) ⟨_, hv1, rfl, rfl, rfl⟩) lk1835 rfl (by omega) (Nat.le_of_ble_eq_true rfl) (by decide +kernel) _ rfl ?_
  refine Go.istore (i := 4) [(4, .int v1), (0, .ref (ad E 109)), (1, .int a1), (2, .int a2), (3, .int a3)] (by decide +kernel) (by decide) rfl ?_
  refine Go.iload (i := 4) 0 (by decide +kernel) rfl ?_
  refine Go.if_eq (off := 6) 22 (by decide +kernel) (by decide) (fun c2 => ?_) (fun c2 => ?_)
  · rw [if_pos c2] at h
    refine Go.aload_n (k := 0) (i := 0) 1 (by decide +kernel) rfl rfl ?_
    refine Go.iload_n (k := 1) (i := 1) 2 (by decide +kernel) rfl rfl ?_
    refine Go.iload_n (k := 2) (i := 2) 3 (by decide +kernel) rfl rfl ?_
    refine Go.iload_n (k := 3) (i := 3) 4 (by decide +kernel) rfl rfl ?_
    obtain ⟨v3, P4, hv3, h⟩ := St.bd2 h
    refine Go.cV_i (P1 := P4) (v := v3) (d - 1) 109 [.int a1, .int a2, .int a3] sh109 hE w_Mo_dullsOf (e_Mo_dullsOf hG hE (d - 1) (by omega) a1 a2 a3 (u1 P 109 0 (0 : Int32)) ⟨_, hv3, rfl, rfl, rfl⟩) lk1839 rfl (by omega) (Nat.le_of_ble_eq_true rfl) (by decide +kernel) _ rfl ?_
    refine Go.istore (i := 5) [(5, .int v3), (4, .int v1), (0, .ref (ad E 109)), (1, .int a1), (2, .int a2), (3, .int a3)] (by decide +kernel) (by decide) rfl ?_
    refine Go.iconst (n := -1) (-1 : Int32) (by decide +kernel) rfl ?_
    refine Go.istore (i := 6) [(6, .int (-1 : Int32)), (5, .int v3), (4, .int v1), (0, .ref (ad E 109)), (1, .int a1), (2, .int a2), (3, .int a3)] (by decide +kernel) (by decide) rfl ?_
    refine Go.ldcw (268435456 : Int32) lk1707 (by decide +kernel) ?_
    refine Go.istore (i := 7) [(7, .int (268435456 : Int32)), (6, .int (-1 : Int32)), (5, .int v3), (4, .int v1), (0, .ref (ad E 109)), (1, .int a1), (2, .int a2), (3, .int a3)] (by decide +kernel) (by decide) rfl ?_
    refine Go.iconst (n := 0) (0 : Int32) (by decide +kernel) rfl ?_
    refine Go.istore (i := 8) [(8, .int (0 : Int32)), (7, .int (268435456 : Int32)), (6, .int (-1 : Int32)), (5, .int v3), (4, .int v1), (0, .ref (ad E 109)), (1, .int a1), (2, .int a2), (3, .int a3)] (by decide +kernel) (by decide) rfl ?_
    refine Go.sub [5, 7, 8, 3, 2, 1, 0] [(0, .ref (ad E 109)), (2, .int a2), (3, .int a3), (5, .int v3), (6, .int (-1 : Int32)), (7, .int (268435456 : Int32)), (8, .int (0 : Int32))] rfl ?_
    exact t_l_Mo_attempt_42 hG hE d hd FU a2 a3 v3 (-1 : Int32) (268435456 : Int32) (0 : Int32) P4 h
  · rw [if_neg c2] at h
    refine Go.iload (i := 4) 0 (by decide +kernel) rfl ?_
    exact Go.iret rfl rfl hE.2 (by decide +kernel) (St.fIP h)
theorem e_Mo_attempt {G : GX} (hG : GOK G) {E : EV} (hE : E0 E) (d : Nat) (hd : 6 ≤ d) (a1 : Int32) (a2 : Int32) (a3 : Int32) (P : PM) {Q : QT} (h : St E rIP (f_Mo_attempt a1 a2 a3 P) Q) : Con G y_Mo_attempt cw_Mo_attempt d nOb nOb [.ref (ad E 109), .int a1, .int a2, .int a3] P E Q :=
  Con.of hG (by decide +kernel) rfl (fun h => by cases h) hE.2 (Nat.le_of_ble_eq_true rfl) (t_f_Mo_attempt hG hE d hd a1 a2 a3 P h)
