/-! methods as functions, by program: Mo_countOf Mo_farBy Mo_laysFar Mo_noComing Mo_comes Mo_stationAt Mo_comesBy Mo_soonest Mo_soonBy -/
abbrev c_Mo_countOf : ByteArray := prog_14_method_71_code
abbrev y_Mo_countOf : MethodName := ⟨"YawnRouteModel", "countOf", "(IIZ)I"⟩
abbrev cw_Mo_countOf : Cond := .code y_Mo_countOf c_Mo_countOf 4 (some .int)
theorem w_Mo_countOf : VW 12 y_Mo_countOf c_Mo_countOf 4 (some .int) 3 := ⟨by decide, lk1718, lp93_, lk14, lk1719, ⟨by decide, by decide, by decide +kernel⟩, by decide⟩
noncomputable def f_Mo_countOf (a1 : Int32) (a2 : Int32) (a3 : Int32) (P : PM) : Option Int32 := if a3 = (0 : Int32) then (some (1 : Int32)) else ((f_Mo_hoursOf (a1 / (41 : Int32)) a2 P).bind (fun v2 => some (((1000 : Int32) * v2) + (1 : Int32))))
theorem t_f_Mo_countOf {G : GX} (hG : GOK G) {E : EV} (hE : E0 E) (d : Nat) (hd : 2 ≤ d) {P : PM} {Q : QT} (a1 : Int32) (a2 : Int32) (a3 : Int32) (h : St E (rI P) (f_Mo_countOf a1 a2 a3 P) Q) : Go G c_Mo_countOf "YawnRouteModel" 4 (some .int) false d nOb nOb Q 0 [(0, .ref (ad E 109)), (1, .int a1), (2, .int a2), (3, .int a3)] [] P E := by
  rw [f_Mo_countOf] at h
  refine Go.iload_n (k := 3) (i := 3) 3 (by decide +kernel) rfl rfl ?_
  refine Go.if_eq (off := 21) 22 (by decide +kernel) (by decide) (fun c1 => ?_) (fun c1 => ?_)
  · rw [if_pos c1] at h
    refine Go.iconst (n := 1) (1 : Int32) (by decide +kernel) rfl ?_
    exact Go.iret rfl rfl hE.2 (by decide +kernel) (St.fI h)
  · rw [if_neg c1] at h
    refine Go.sipush (n := 1000) (1000 : Int32) (by decide +kernel) (by decide) ?_
    refine Go.aload_n (k := 0) (i := 0) 0 (by decide +kernel) rfl rfl ?_
    refine Go.iload_n (k := 1) (i := 1) 1 (by decide +kernel) rfl rfl ?_
    refine Go.bipush (n := 41) (41 : Int32) (by decide +kernel) (by decide) ?_
    refine Go.idiv (by decide +kernel) (by decide) ?_
    refine Go.iload_n (k := 2) (i := 2) 2 (by decide +kernel) rfl rfl ?_
    obtain ⟨v2, hv2, h⟩ := St.bind h
    refine Go.cV_i (P1 := P) (v := v2) (d - 1) 109 [.int (a1 / (41 : Int32)), .int a2] sh109 hE w_Mo_hoursOf (e_Mo_hoursOf hG hE (d - 1) (by omega) (a1 / (41 : Int32)) a2 P ⟨_, hv2, rfl, rfl, rfl⟩) lk1559 rfl (by omega) (Nat.le_of_ble_eq_true rfl) (by decide +kernel) _ rfl ?_
    refine Go.imul (by decide +kernel) ?_
    refine Go.iconst (n := 1) (1 : Int32) (by decide +kernel) rfl ?_
    refine Go.iadd (by decide +kernel) ?_
    refine Go.goto (off := 4) 23 (by decide +kernel) (by decide) ?_
    exact Go.iret rfl rfl hE.2 (by decide +kernel) (St.fI h)
theorem e_Mo_countOf {G : GX} (hG : GOK G) {E : EV} (hE : E0 E) (d : Nat) (hd : 2 ≤ d) (a1 : Int32) (a2 : Int32) (a3 : Int32) (P : PM) {Q : QT} (h : St E (rI P) (f_Mo_countOf a1 a2 a3 P) Q) : Con G y_Mo_countOf cw_Mo_countOf d nOb nOb [.ref (ad E 109), .int a1, .int a2, .int a3] P E Q :=
  Con.of hG (by decide +kernel) rfl (fun h => by cases h) hE.2 (Nat.le_of_ble_eq_true rfl) (t_f_Mo_countOf hG hE d hd a1 a2 a3 h)
abbrev c_Mo_farBy : ByteArray := prog_14_method_72_code
abbrev y_Mo_farBy : MethodName := ⟨"YawnRouteModel", "farBy", "(IIZ)I"⟩
abbrev cw_Mo_farBy : Cond := .code y_Mo_farBy c_Mo_farBy 5 (some .int)
theorem w_Mo_farBy : VW 12 y_Mo_farBy c_Mo_farBy 5 (some .int) 3 := ⟨by decide, lk1710, lp91_, lk14, lk1711, ⟨by decide, by decide, by decide +kernel⟩, by decide⟩
noncomputable def j_Mo_farBy_27 (P : PM) : Option Int32 := some (268435456 : Int32)
noncomputable def f_Mo_farBy (a1 : Int32) (a2 : Int32) (a3 : Int32) (P : PM) : Option Int32 := (f_Mo_routed a1 a2 P).bind (fun v1 => if v1 = (-1 : Int32) then (j_Mo_farBy_27 P) else (ck (inb v1 287) (if (P.1 118 v1.toNatClampNeg) = (268435456 : Int32) then (j_Mo_farBy_27 P) else (ck (inb v1 287) ((f_Mo_countOf a1 a2 a3 P).bind (fun v6 => some ((P.1 118 v1.toNatClampNeg) + v6)))))))
theorem t_j_Mo_farBy_27 {G : GX} (hG : GOK G) {E : EV} (hE : E0 E) (d : Nat) (hd : 3 ≤ d) {P : PM} {Q : QT} (h : St E (rI P) (j_Mo_farBy_27 P) Q) : Go G c_Mo_farBy "YawnRouteModel" 5 (some .int) false d nOb nOb Q 27 [] [] P E := by
  rw [j_Mo_farBy_27] at h
  refine Go.ldcw (268435456 : Int32) lk1707 (by decide +kernel) ?_
  refine Go.goto (off := 18) 48 (by decide +kernel) (by decide) ?_
  exact Go.iret rfl rfl hE.2 (by decide +kernel) (St.fI h)
theorem t_f_Mo_farBy {G : GX} (hG : GOK G) {E : EV} (hE : E0 E) (d : Nat) (hd : 3 ≤ d) {P : PM} {Q : QT} (a1 : Int32) (a2 : Int32) (a3 : Int32) (h : St E (rI P) (f_Mo_farBy a1 a2 a3 P) Q) : Go G c_Mo_farBy "YawnRouteModel" 5 (some .int) false d nOb nOb Q 0 [(0, .ref (ad E 109)), (1, .int a1), (2, .int a2), (3, .int a3)] [] P E := by
  rw [f_Mo_farBy] at h
  refine Go.aload_n (k := 0) (i := 0) 0 (by decide +kernel) rfl rfl ?_
  refine Go.iload_n (k := 1) (i := 1) 1 (by decide +kernel) rfl rfl ?_
  refine Go.iload_n (k := 2) (i := 2) 2 (by decide +kernel) rfl rfl ?_
  obtain ⟨v1, hv1, h⟩ := St.bind h
  refine Go.cV_i (P1 := P) (v := v1) (d - 1) 109 [.int a1, .int a2] sh109 hE w_Mo_routed (e_Mo_routed hG hE (d - 1) (by omega) a1 a2 P ⟨_, hv1, rfl, rfl, rfl⟩) lk1712 rfl (by omega) (Nat.le_of_ble_eq_true rfl) (by decide +kernel) _ rfl ?_
  refine Go.istore (i := 4) [(4, .int v1), (0, .ref (ad E 109)), (1, .int a1), (2, .int a2), (3, .int a3)] (by decide +kernel) (by decide) rfl ?_
  refine Go.iload (i := 4) 0 (by decide +kernel) rfl ?_
  refine Go.iconst (n := -1) (-1 : Int32) (by decide +kernel) rfl ?_
  refine Go.icmp_eq (off := 16) 27 (by decide +kernel) (by decide) (fun c2 => ?_) (fun c2 => ?_)
  · rw [if_pos c2] at h
    refine Go.sub [] [] rfl ?_
    exact t_j_Mo_farBy_27 hG hE d hd h
  · rw [if_neg c2] at h
    refine Go.aload_n (k := 0) (i := 0) 1 (by decide +kernel) rfl rfl ?_
    refine Go.get 109 21 (.ref (ad E 118)) (by decide) (by decide) sh109 (ltO hE sh109) (vlR hE rfl rfl) lk1351 (by decide +kernel) ?_
    refine Go.iload (i := 4) 0 (by decide +kernel) rfl ?_
    obtain ⟨b3, h⟩ := St.ck h
    refine Go.iaload 118 287 sh118 (ltA hE sh118 (by decide)) (inb_in b3) (by decide +kernel) ?_
    refine Go.ldcw (268435456 : Int32) lk1707 (by decide +kernel) ?_
    refine Go.icmp_ne (off := 9) 33 (by decide +kernel) (by decide) (fun c4 => ?_) (fun c4 => ?_)
    · rw [if_neg c4] at h
      refine Go.aload_n (k := 0) (i := 0) 1 (by decide +kernel) rfl rfl ?_
      refine Go.get 109 21 (.ref (ad E 118)) (by decide) (by decide) sh109 (ltO hE sh109) (vlR hE rfl rfl) lk1351 (by decide +kernel) ?_
      refine Go.iload (i := 4) 0 (by decide +kernel) rfl ?_
      obtain ⟨b5, h⟩ := St.ck h
      refine Go.iaload 118 287 sh118 (ltA hE sh118 (by decide)) (inb_in b5) (by decide +kernel) ?_
      refine Go.aload_n (k := 0) (i := 0) 1 (by decide +kernel) rfl rfl ?_
      refine Go.iload_n (k := 1) (i := 1) 2 (by decide +kernel) rfl rfl ?_
      refine Go.iload_n (k := 2) (i := 2) 3 (by decide +kernel) rfl rfl ?_
      refine Go.iload_n (k := 3) (i := 3) 4 (by decide +kernel) rfl rfl ?_
      obtain ⟨v6, hv6, h⟩ := St.bind h
      refine Go.cV_i (P1 := P) (v := v6) (d - 1) 109 [.int a1, .int a2, .int a3] sh109 hE w_Mo_countOf (e_Mo_countOf hG hE (d - 1) (by omega) a1 a2 a3 P ⟨_, hv6, rfl, rfl, rfl⟩) lk1716 rfl (by omega) (Nat.le_of_ble_eq_true rfl) (by decide +kernel) _ rfl ?_
      refine Go.iadd (by decide +kernel) ?_
      exact Go.iret rfl rfl hE.2 (by decide +kernel) (St.fI h)
    · rw [if_pos c4] at h
      refine Go.sub [] [] rfl ?_
      exact t_j_Mo_farBy_27 hG hE d hd h
theorem e_Mo_farBy {G : GX} (hG : GOK G) {E : EV} (hE : E0 E) (d : Nat) (hd : 3 ≤ d) (a1 : Int32) (a2 : Int32) (a3 : Int32) (P : PM) {Q : QT} (h : St E (rI P) (f_Mo_farBy a1 a2 a3 P) Q) : Con G y_Mo_farBy cw_Mo_farBy d nOb nOb [.ref (ad E 109), .int a1, .int a2, .int a3] P E Q :=
  Con.of hG (by decide +kernel) rfl (fun h => by cases h) hE.2 (Nat.le_of_ble_eq_true rfl) (t_f_Mo_farBy hG hE d hd a1 a2 a3 h)
abbrev c_Mo_laysFar : ByteArray := prog_14_method_73_code
abbrev y_Mo_laysFar : MethodName := ⟨"YawnRouteModel", "laysFar", "(IIZ)I"⟩
abbrev cw_Mo_laysFar : Cond := .code y_Mo_laysFar c_Mo_laysFar 7 (some .int)
theorem w_Mo_laysFar : VW 12 y_Mo_laysFar c_Mo_laysFar 7 (some .int) 3 := ⟨by decide, lk1698, lp89_, lk14, lk1699, ⟨by decide, by decide, by decide +kernel⟩, by decide⟩
noncomputable def j_Mo_laysFar_53 (k14 : Int32 → Int32 → Int32 → Int32 → PM → Option (Int32 × PM)) (x1 : Int32) (x2 : Int32) (x3 : Int32) (x4 : Int32) (s1 : Int32) (s2 : Int32) (P : PM) : Option (Int32 × PM) := ck (inb s1 287) (k14 x1 x2 x3 (x4 + (1 : Int32)) (u1 P 118 s1.toNatClampNeg s2))
noncomputable def j_Mo_laysFar_50 (k14 : Int32 → Int32 → Int32 → Int32 → PM → Option (Int32 × PM)) (x1 : Int32) (x2 : Int32) (x3 : Int32) (x4 : Int32) (s1 : Int32) (P : PM) : Option (Int32 × PM) := j_Mo_laysFar_53 k14 x1 x2 x3 x4 s1 (268435456 : Int32) P
noncomputable def j_Mo_laysFar_143 (k63 : Int32 → Int32 → PM → Option (Int32 × PM)) (k74 : Int32 → Int32 → Int32 → PM → Option (Int32 × PM)) (k85 : Int32 → Int32 → Int32 → Int32 → PM → Option (Int32 × PM)) (x3 : Int32) (x4 : Int32) (x5 : Int32) (x6 : Int32) (P : PM) : Option (Int32 × PM) := k85 x3 x4 x5 (x6 + (1 : Int32)) P
noncomputable def j_Mo_laysFar_149 (k63 : Int32 → Int32 → PM → Option (Int32 × PM)) (k74 : Int32 → Int32 → Int32 → PM → Option (Int32 × PM)) (x3 : Int32) (x4 : Int32) (x5 : Int32) (P : PM) : Option (Int32 × PM) := k74 x3 x4 (x5 + (1 : Int32)) P
noncomputable def l_Mo_laysFar_85 (k63 : Int32 → Int32 → PM → Option (Int32 × PM)) (k74 : Int32 → Int32 → Int32 → PM → Option (Int32 × PM)) : Nat → Int32 → Int32 → Int32 → Int32 → PM → Option (Int32 × PM)
  | 0, _, _, _, _, _ => none
  | n + 1, x3, x4, x5, x6, P => if (7 : Int32) ≤ x6 then (j_Mo_laysFar_149 k63 k74 x3 x4 x5 P) else (ck (inb x5 287) (if (P.1 118 x5.toNatClampNeg) ≤ (0 : Int32) then (j_Mo_laysFar_149 k63 k74 x3 x4 x5 P) else ((f_Mo_farBy x5 x6 x3 P).bind (fun v4 => ck (inb x5 287) (if v4 < (P.1 118 x5.toNatClampNeg) then ((f_Mo_farBy x5 x6 x3 P).bind (fun v7 => ck (inb x5 287) (j_Mo_laysFar_143 k63 k74 (fun z0 z1 z2 z3 Pz => l_Mo_laysFar_85 k63 k74 n z0 z1 z2 z3 Pz) x3 (1 : Int32) x5 x6 (u1 P 118 x5.toNatClampNeg v7)))) else (j_Mo_laysFar_143 k63 k74 (fun z0 z1 z2 z3 Pz => l_Mo_laysFar_85 k63 k74 n z0 z1 z2 z3 Pz) x3 x4 x5 x6 P))))))
noncomputable def l_Mo_laysFar_74 (k63 : Int32 → Int32 → PM → Option (Int32 × PM)) : Nat → Int32 → Int32 → Int32 → PM → Option (Int32 × PM)
  | 0, _, _, _, _ => none
  | n + 1, x3, x4, x5, P => if (287 : Int32) ≤ x5 then (k63 x3 x4 P) else (l_Mo_laysFar_85 k63 (fun z0 z1 z2 Pz => l_Mo_laysFar_74 k63 n z0 z1 z2 Pz) FU x3 x4 x5 (0 : Int32) P)
noncomputable def l_Mo_laysFar_63 : Nat → Int32 → Int32 → PM → Option (Int32 × PM)
  | 0, _, _, _ => none
  | n + 1, x3, x4, P => if x4 = (0 : Int32) then (ck (inb (f_Mo_standNow P) 287) (some ((P.1 118 (f_Mo_standNow P).toNatClampNeg), P))) else (l_Mo_laysFar_74 (fun z0 z1 Pz => l_Mo_laysFar_63 n z0 z1 Pz) FU x3 (0 : Int32) (0 : Int32) P)
noncomputable def l_Mo_laysFar_14 : Nat → Int32 → Int32 → Int32 → Int32 → PM → Option (Int32 × PM)
  | 0, _, _, _, _, _ => none
  | n + 1, x1, x2, x3, x4, P => if (287 : Int32) ≤ x4 then (l_Mo_laysFar_63 FU x3 (1 : Int32) P) else (if (x4 / (41 : Int32)) = x1 then (if (x4 - x4 / (41 : Int32) * (41 : Int32)) < x2 then (j_Mo_laysFar_50 (fun z0 z1 z2 z3 Pz => l_Mo_laysFar_14 n z0 z1 z2 z3 Pz) x1 x2 x3 x4 x4 P) else (j_Mo_laysFar_53 (fun z0 z1 z2 z3 Pz => l_Mo_laysFar_14 n z0 z1 z2 z3 Pz) x1 x2 x3 x4 x4 (0 : Int32) P)) else (j_Mo_laysFar_50 (fun z0 z1 z2 z3 Pz => l_Mo_laysFar_14 n z0 z1 z2 z3 Pz) x1 x2 x3 x4 x4 P))
noncomputable def f_Mo_laysFar (a1 : Int32) (a2 : Int32) (a3 : Int32) (P : PM) : Option (Int32 × PM) := (f_Mo_laysThen (P.1 110 (116 : Int32).toNatClampNeg) P).bind (fun P1 => l_Mo_laysFar_14 FU a1 a2 a3 (0 : Int32) P1)
theorem t_j_Mo_laysFar_53 {G : GX} (hG : GOK G) {E : EV} (hE : E0 E) (d : Nat) (hd : 5 ≤ d) {Q : QT} (k14 : Int32 → Int32 → Int32 → Int32 → PM → Option (Int32 × PM)) (hk14 : ∀ (x1 : Int32) (x2 : Int32) (x3 : Int32) (x4 : Int32) (P : PM), St E rIP (k14 x1 x2 x3 x4 P) Q → Go G c_Mo_laysFar "YawnRouteModel" 7 (some .int) false d nOb nOb Q 14 [(0, .ref (ad E 109)), (1, .int x1), (2, .int x2), (3, .int x3), (4, .int x4)] [] P E) (x1 : Int32) (x2 : Int32) (x3 : Int32) (x4 : Int32) (s1 : Int32) (s2 : Int32) (P : PM) (h : St E rIP (j_Mo_laysFar_53 k14 x1 x2 x3 x4 s1 s2 P) Q) : Go G c_Mo_laysFar "YawnRouteModel" 7 (some .int) false d nOb nOb Q 53 [(0, .ref (ad E 109)), (1, .int x1), (2, .int x2), (3, .int x3), (4, .int x4)] [.int s2, .int s1, .ref (ad E 118)] P E := by
  rw [j_Mo_laysFar_53] at h
  obtain ⟨b1, h⟩ := St.ck h
  refine Go.iastore 118 287 sh118 (ltA hE sh118 (by decide)) (inb_in b1) (by decide +kernel) ?_
  refine Go.iinc (i := 4) (n := 1) 4 (x4 + (1 : Int32)) [(4, .int (x4 + (1 : Int32))), (0, .ref (ad E 109)), (1, .int x1), (2, .int x2), (3, .int x3)] (by decide +kernel) rfl rfl (by decide) rfl ?_
  refine Go.goto (off := -43) 14 (by decide +kernel) (by decide) ?_
  refine Go.sub [1, 2, 3, 4, 0] [(0, .ref (ad E 109)), (1, .int x1), (2, .int x2), (3, .int x3), (4, .int (x4 + (1 : Int32)))] rfl ?_
  exact hk14 x1 x2 x3 (x4 + (1 : Int32)) (u1 P 118 s1.toNatClampNeg s2) h
theorem t_j_Mo_laysFar_50 {G : GX} (hG : GOK G) {E : EV} (hE : E0 E) (d : Nat) (hd : 5 ≤ d) {Q : QT} (k14 : Int32 → Int32 → Int32 → Int32 → PM → Option (Int32 × PM)) (hk14 : ∀ (x1 : Int32) (x2 : Int32) (x3 : Int32) (x4 : Int32) (P : PM), St E rIP (k14 x1 x2 x3 x4 P) Q → Go G c_Mo_laysFar "YawnRouteModel" 7 (some .int) false d nOb nOb Q 14 [(0, .ref (ad E 109)), (1, .int x1), (2, .int x2), (3, .int x3), (4, .int x4)] [] P E) (x1 : Int32) (x2 : Int32) (x3 : Int32) (x4 : Int32) (s1 : Int32) (P : PM) (h : St E rIP (j_Mo_laysFar_50 k14 x1 x2 x3 x4 s1 P) Q) : Go G c_Mo_laysFar "YawnRouteModel" 7 (some .int) false d nOb nOb Q 50 [(0, .ref (ad E 109)), (1, .int x1), (2, .int x2), (3, .int x3), (4, .int x4)] [.int s1, .ref (ad E 118)] P E := by
  rw [j_Mo_laysFar_50] at h
  refine Go.ldcw (268435456 : Int32) lk1707 (by decide +kernel) ?_
  exact t_j_Mo_laysFar_53 hG hE d hd k14 hk14 x1 x2 x3 x4 s1 (268435456 : Int32) P h
theorem t_j_Mo_laysFar_143 {G : GX} (hG : GOK G) {E : EV} (hE : E0 E) (d : Nat) (hd : 5 ≤ d) {Q : QT} (k63 : Int32 → Int32 → PM → Option (Int32 × PM)) (hk63 : ∀ (x3 : Int32) (x4 : Int32) (P : PM), St E rIP (k63 x3 x4 P) Q → Go G c_Mo_laysFar "YawnRouteModel" 7 (some .int) false d nOb nOb Q 63 [(0, .ref (ad E 109)), (3, .int x3), (4, .int x4)] [] P E) (k74 : Int32 → Int32 → Int32 → PM → Option (Int32 × PM)) (hk74 : ∀ (x3 : Int32) (x4 : Int32) (x5 : Int32) (P : PM), St E rIP (k74 x3 x4 x5 P) Q → Go G c_Mo_laysFar "YawnRouteModel" 7 (some .int) false d nOb nOb Q 74 [(0, .ref (ad E 109)), (3, .int x3), (4, .int x4), (5, .int x5)] [] P E) (k85 : Int32 → Int32 → Int32 → Int32 → PM → Option (Int32 × PM)) (hk85 : ∀ (x3 : Int32) (x4 : Int32) (x5 : Int32) (x6 : Int32) (P : PM), St E rIP (k85 x3 x4 x5 x6 P) Q → Go G c_Mo_laysFar "YawnRouteModel" 7 (some .int) false d nOb nOb Q 85 [(0, .ref (ad E 109)), (3, .int x3), (4, .int x4), (5, .int x5), (6, .int x6)] [] P E) (x3 : Int32) (x4 : Int32) (x5 : Int32) (x6 : Int32) (P : PM) (h : St E rIP (j_Mo_laysFar_143 k63 k74 k85 x3 x4 x5 x6 P) Q) : Go G c_Mo_laysFar "YawnRouteModel" 7 (some .int) false d nOb nOb Q 143 [(0, .ref (ad E 109)), (3, .int x3), (4, .int x4), (5, .int x5), (6, .int x6)] [] P E := by
  rw [j_Mo_laysFar_143] at h
  refine Go.iinc (i := 6) (n := 1) 4 (x6 + (1 : Int32)) [(6, .int (x6 + (1 : Int32))), (0, .ref (ad E 109)), (3, .int x3), (4, .int x4), (5, .int x5)] (by decide +kernel) rfl rfl (by decide) rfl ?_
  refine Go.goto (off := -61) 85 (by decide +kernel) (by decide) ?_
  refine Go.sub [1, 2, 3, 4, 0] [(0, .ref (ad E 109)), (3, .int x3), (4, .int x4), (5, .int x5), (6, .int (x6 + (1 : Int32)))] rfl ?_
  exact hk85 x3 x4 x5 (x6 + (1 : Int32)) P h
theorem t_j_Mo_laysFar_149 {G : GX} (hG : GOK G) {E : EV} (hE : E0 E) (d : Nat) (hd : 5 ≤ d) {Q : QT} (k63 : Int32 → Int32 → PM → Option (Int32 × PM)) (hk63 : ∀ (x3 : Int32) (x4 : Int32) (P : PM), St E rIP (k63 x3 x4 P) Q → Go G c_Mo_laysFar "YawnRouteModel" 7 (some .int) false d nOb nOb Q 63 [(0, .ref (ad E 109)), (3, .int x3), (4, .int x4)] [] P E) (k74 : Int32 → Int32 → Int32 → PM → Option (Int32 × PM)) (hk74 : ∀ (x3 : Int32) (x4 : Int32) (x5 : Int32) (P : PM), St E rIP (k74 x3 x4 x5 P) Q → Go G c_Mo_laysFar "YawnRouteModel" 7 (some .int) false d nOb nOb Q 74 [(0, .ref (ad E 109)), (3, .int x3), (4, .int x4), (5, .int x5)] [] P E) (x3 : Int32) (x4 : Int32) (x5 : Int32) (P : PM) (h : St E rIP (j_Mo_laysFar_149 k63 k74 x3 x4 x5 P) Q) : Go G c_Mo_laysFar "YawnRouteModel" 7 (some .int) false d nOb nOb Q 149 [(0, .ref (ad E 109)), (3, .int x3), (4, .int x4), (5, .int x5)] [] P E := by
  rw [j_Mo_laysFar_149] at h
  refine Go.iinc (i := 5) (n := 1) 3 (x5 + (1 : Int32)) [(5, .int (x5 + (1 : Int32))), (0, .ref (ad E 109)), (3, .int x3), (4, .int x4)] (by decide +kernel) rfl rfl (by decide) rfl ?_
  refine Go.goto (off := -78) 74 (by decide +kernel) (by decide) ?_
  refine Go.sub [1, 2, 3, 0] [(0, .ref (ad E 109)), (3, .int x3), (4, .int x4), (5, .int (x5 + (1 : Int32)))] rfl ?_
  exact hk74 x3 x4 (x5 + (1 : Int32)) P h
theorem t_l_Mo_laysFar_85 {G : GX} (hG : GOK G) {E : EV} (hE : E0 E) (d : Nat) (hd : 5 ≤ d) {Q : QT} (k63 : Int32 → Int32 → PM → Option (Int32 × PM)) (hk63 : ∀ (x3 : Int32) (x4 : Int32) (P : PM), St E rIP (k63 x3 x4 P) Q → Go G c_Mo_laysFar "YawnRouteModel" 7 (some .int) false d nOb nOb Q 63 [(0, .ref (ad E 109)), (3, .int x3), (4, .int x4)] [] P E) (k74 : Int32 → Int32 → Int32 → PM → Option (Int32 × PM)) (hk74 : ∀ (x3 : Int32) (x4 : Int32) (x5 : Int32) (P : PM), St E rIP (k74 x3 x4 x5 P) Q → Go G c_Mo_laysFar "YawnRouteModel" 7 (some .int) false d nOb nOb Q 74 [(0, .ref (ad E 109)), (3, .int x3), (4, .int x4), (5, .int x5)] [] P E) : ∀ (n : Nat) (x3 : Int32) (x4 : Int32) (x5 : Int32) (x6 : Int32) (P : PM), St E rIP (l_Mo_laysFar_85 k63 k74 n x3 x4 x5 x6 P) Q → Go G c_Mo_laysFar "YawnRouteModel" 7 (some .int) false d nOb nOb Q 85 [(0, .ref (ad E 109)), (3, .int x3), (4, .int x4), (5, .int x5), (6, .int x6)] [] P E := by
  intro n
  induction n with
  | zero =>
    intro x3 x4 x5 x6 P h
    rw [l_Mo_laysFar_85] at h
    exact St.none_ h
  | succ n ih =>
    intro x3 x4 x5 x6 P h
    rw [l_Mo_laysFar_85] at h
    refine Go.iload (i := 6) 4 (by decide +kernel) rfl ?_
    refine Go.bipush (n := 7) (7 : Int32) (by decide +kernel) (by decide) ?_
    refine Go.icmp_ge (off := 60) 149 (by decide +kernel) (by decide) (fun c1 => ?_) (fun c1 => ?_)
    · rw [if_pos c1] at h
      refine Go.sub [0, 1, 2, 3] [(0, .ref (ad E 109)), (3, .int x3), (4, .int x4), (5, .int x5)] rfl ?_
      exact t_j_Mo_laysFar_149 hG hE d hd k63 hk63 k74 hk74 x3 x4 x5 P h
    · rw [if_neg c1] at h
      refine Go.aload_n (k := 0) (i := 0) 0 (by decide +kernel) rfl rfl ?_
      refine Go.get 109 21 (.ref (ad E 118)) (by decide) (by decide) sh109 (ltO hE sh109) (vlR hE rfl rfl) lk1351 (by decide +kernel) ?_
      refine Go.iload (i := 5) 3 (by decide +kernel) rfl ?_
      obtain ⟨b2, h⟩ := St.ck h
      refine Go.iaload 118 287 sh118 (ltA hE sh118 (by decide)) (inb_in b2) (by decide +kernel) ?_
      refine Go.if_le (off := 50) 149 (by decide +kernel) (by decide) (fun c3 => ?_) (fun c3 => ?_)
      · rw [if_pos c3] at h
        refine Go.sub [0, 1, 2, 3] [(0, .ref (ad E 109)), (3, .int x3), (4, .int x4), (5, .int x5)] rfl ?_
        exact t_j_Mo_laysFar_149 hG hE d hd k63 hk63 k74 hk74 x3 x4 x5 P h
      · rw [if_neg c3] at h
        refine Go.aload_n (k := 0) (i := 0) 0 (by decide +kernel) rfl rfl ?_
        refine Go.iload (i := 5) 3 (by decide +kernel) rfl ?_
        refine Go.iload (i := 6) 4 (by decide +kernel) rfl ?_
        refine Go.iload_n (k := 3) (i := 3) 1 (by decide +kernel) rfl rfl ?_
        obtain ⟨v4, hv4, h⟩ := St.bind h
        refine Go.cV_i (P1 := P) (v := v4) (d - 1) 109 [.int x5, .int x6, .int x3] sh109 hE w_Mo_farBy (e_Mo_farBy hG hE (d - 1) (by omega) x5 x6 x3 P ⟨_, hv4, rfl, rfl, rfl⟩) lk1708 rfl (by omega) (Nat.le_of_ble_eq_true rfl) (by decide +kernel) _ rfl ?_
        refine Go.aload_n (k := 0) (i := 0) 0 (by decide +kernel) rfl rfl ?_
        refine Go.get 109 21 (.ref (ad E 118)) (by decide) (by decide) sh109 (ltO hE sh109) (vlR hE rfl rfl) lk1351 (by decide +kernel) ?_
        refine Go.iload (i := 5) 3 (by decide +kernel) rfl ?_
        obtain ⟨b5, h⟩ := St.ck h
        refine Go.iaload 118 287 sh118 (ltA hE sh118 (by decide)) (inb_in b5) (by decide +kernel) ?_
        refine Go.icmp_lt (off := 6) 124 (by decide +kernel) (by decide) (fun c6 => ?_) (fun c6 => ?_)
        · rw [if_pos c6] at h
          refine Go.aload_n (k := 0) (i := 0) 0 (by decide +kernel) rfl rfl ?_
          refine Go.get 109 21 (.ref (ad E 118)) (by decide) (by decide) sh109 (ltO hE sh109) (vlR hE rfl rfl) lk1351 (by decide +kernel) ?_
          refine Go.iload (i := 5) 3 (by decide +kernel) rfl ?_
          refine Go.aload_n (k := 0) (i := 0) 0 (by decide +kernel) rfl rfl ?_
          refine Go.iload (i := 5) 3 (by decide +kernel) rfl ?_
          refine Go.iload (i := 6) 4 (by decide +kernel) rfl ?_
          refine Go.iload_n (k := 3) (i := 3) 1 (by decide +kernel) rfl rfl ?_
          obtain ⟨v7, hv7, h⟩ := St.bind h
          refine Go.cV_i (P1 := P) (v := v7) (d - 1) 109 [.int x5, .int x6, .int x3] sh109 hE w_Mo_farBy (e_Mo_farBy hG hE (d - 1) (by omega) x5 x6 x3 P ⟨_, hv7, rfl, rfl, rfl⟩) lk1708 rfl (by omega) (Nat.le_of_ble_eq_true rfl) (by decide +kernel) _ rfl ?_
          obtain ⟨b8, h⟩ := St.ck h
          refine Go.iastore 118 287 sh118 (ltA hE sh118 (by decide)) (inb_in b8) (by decide +kernel) ?_
          refine Go.iconst (n := 1) (1 : Int32) (by decide +kernel) rfl ?_
          refine Go.istore (i := 4) [(4, .int (1 : Int32)), (0, .ref (ad E 109)), (3, .int x3), (5, .int x5), (6, .int x6)] (by decide +kernel) (by decide) rfl ?_
          refine Go.sub [1, 2, 0, 3, 4] [(0, .ref (ad E 109)), (3, .int x3), (4, .int (1 : Int32)), (5, .int x5), (6, .int x6)] rfl ?_
          exact t_j_Mo_laysFar_143 hG hE d hd k63 hk63 k74 hk74 (fun z0 z1 z2 z3 Pz => l_Mo_laysFar_85 k63 k74 n z0 z1 z2 z3 Pz) (fun z0 z1 z2 z3 Pz q => ih z0 z1 z2 z3 Pz q) x3 (1 : Int32) x5 x6 (u1 P 118 x5.toNatClampNeg v7) h
        · rw [if_neg c6] at h
          refine Go.goto (off := 22) 143 (by decide +kernel) (by decide) ?_
          exact t_j_Mo_laysFar_143 hG hE d hd k63 hk63 k74 hk74 (fun z0 z1 z2 z3 Pz => l_Mo_laysFar_85 k63 k74 n z0 z1 z2 z3 Pz) (fun z0 z1 z2 z3 Pz q => ih z0 z1 z2 z3 Pz q) x3 x4 x5 x6 P h
theorem t_l_Mo_laysFar_74 {G : GX} (hG : GOK G) {E : EV} (hE : E0 E) (d : Nat) (hd : 5 ≤ d) {Q : QT} (k63 : Int32 → Int32 → PM → Option (Int32 × PM)) (hk63 : ∀ (x3 : Int32) (x4 : Int32) (P : PM), St E rIP (k63 x3 x4 P) Q → Go G c_Mo_laysFar "YawnRouteModel" 7 (some .int) false d nOb nOb Q 63 [(0, .ref (ad E 109)), (3, .int x3), (4, .int x4)] [] P E) : ∀ (n : Nat) (x3 : Int32) (x4 : Int32) (x5 : Int32) (P : PM), St E rIP (l_Mo_laysFar_74 k63 n x3 x4 x5 P) Q → Go G c_Mo_laysFar "YawnRouteModel" 7 (some .int) false d nOb nOb Q 74 [(0, .ref (ad E 109)), (3, .int x3), (4, .int x4), (5, .int x5)] [] P E := by
  intro n
  induction n with
  | zero =>
    intro x3 x4 x5 P h
    rw [l_Mo_laysFar_74] at h
    exact St.none_ h
  | succ n ih =>
    intro x3 x4 x5 P h
    rw [l_Mo_laysFar_74] at h
    refine Go.iload (i := 5) 3 (by decide +kernel) rfl ?_
    refine Go.sipush (n := 287) (287 : Int32) (by decide +kernel) (by decide) ?_
    refine Go.icmp_ge (off := 76) 155 (by decide +kernel) (by decide) (fun c1 => ?_) (fun c1 => ?_)
    · rw [if_pos c1] at h
      refine Go.goto (off := -92) 63 (by decide +kernel) (by decide) ?_
      refine Go.sub [0, 1, 2] [(0, .ref (ad E 109)), (3, .int x3), (4, .int x4)] rfl ?_
      exact hk63 x3 x4 P h
    · rw [if_neg c1] at h
      refine Go.iconst (n := 0) (0 : Int32) (by decide +kernel) rfl ?_
      refine Go.istore (i := 6) [(6, .int (0 : Int32)), (0, .ref (ad E 109)), (3, .int x3), (4, .int x4), (5, .int x5)] (by decide +kernel) (by decide) rfl ?_
      refine Go.sub [1, 2, 3, 4, 0] [(0, .ref (ad E 109)), (3, .int x3), (4, .int x4), (5, .int x5), (6, .int (0 : Int32))] rfl ?_
      exact t_l_Mo_laysFar_85 hG hE d hd k63 hk63 (fun z0 z1 z2 Pz => l_Mo_laysFar_74 k63 n z0 z1 z2 Pz) (fun z0 z1 z2 Pz q => ih z0 z1 z2 Pz q) FU x3 x4 x5 (0 : Int32) P h
theorem t_l_Mo_laysFar_63 {G : GX} (hG : GOK G) {E : EV} (hE : E0 E) (d : Nat) (hd : 5 ≤ d) {Q : QT} : ∀ (n : Nat) (x3 : Int32) (x4 : Int32) (P : PM), St E rIP (l_Mo_laysFar_63 n x3 x4 P) Q → Go G c_Mo_laysFar "YawnRouteModel" 7 (some .int) false d nOb nOb Q 63 [(0, .ref (ad E 109)), (3, .int x3), (4, .int x4)] [] P E := by
  intro n
  induction n with
  | zero =>
    intro x3 x4 P h
    rw [l_Mo_laysFar_63] at h
    exact St.none_ h
  | succ n ih =>
    intro x3 x4 P h
    rw [l_Mo_laysFar_63] at h
    refine Go.iload (i := 4) 2 (by decide +kernel) rfl ?_
    refine Go.if_eq (off := 93) 158 (by decide +kernel) (by decide) (fun c1 => ?_) (fun c1 => ?_)
    · rw [if_pos c1] at h
      refine Go.aload_n (k := 0) (i := 0) 0 (by decide +kernel) rfl rfl ?_
      refine Go.get 109 21 (.ref (ad E 118)) (by decide) (by decide) sh109 (ltO hE sh109) (vlR hE rfl rfl) lk1351 (by decide +kernel) ?_
      refine Go.aload_n (k := 0) (i := 0) 0 (by decide +kernel) rfl rfl ?_
      refine Go.cV_i (P1 := P) (v := (f_Mo_standNow P)) (d - 1) 109 [] sh109 hE w_Mo_standNow (e_Mo_standNow hG hE (d - 1) (by omega) P ⟨rfl, rfl, rfl⟩) lk1720 rfl (by omega) (Nat.le_of_ble_eq_true rfl) (by decide +kernel) _ rfl ?_
      obtain ⟨b2, h⟩ := St.ck h
      refine Go.iaload 118 287 sh118 (ltA hE sh118 (by decide)) (inb_in b2) (by decide +kernel) ?_
      exact Go.iret rfl rfl hE.2 (by decide +kernel) (St.fIP h)
    · rw [if_neg c1] at h
      refine Go.iconst (n := 0) (0 : Int32) (by decide +kernel) rfl ?_
      refine Go.istore (i := 4) [(4, .int (0 : Int32)), (0, .ref (ad E 109)), (3, .int x3)] (by decide +kernel) (by decide) rfl ?_
      refine Go.iconst (n := 0) (0 : Int32) (by decide +kernel) rfl ?_
      refine Go.istore (i := 5) [(5, .int (0 : Int32)), (4, .int (0 : Int32)), (0, .ref (ad E 109)), (3, .int x3)] (by decide +kernel) (by decide) rfl ?_
      refine Go.sub [2, 3, 1, 0] [(0, .ref (ad E 109)), (3, .int x3), (4, .int (0 : Int32)), (5, .int (0 : Int32))] rfl ?_
      exact t_l_Mo_laysFar_74 hG hE d hd (fun z0 z1 Pz => l_Mo_laysFar_63 n z0 z1 Pz) (fun z0 z1 Pz q => ih z0 z1 Pz q) FU x3 (0 : Int32) (0 : Int32) P h
theorem t_l_Mo_laysFar_14 {G : GX} (hG : GOK G) {E : EV} (hE : E0 E) (d : Nat) (hd : 5 ≤ d) {Q : QT} : ∀ (n : Nat) (x1 : Int32) (x2 : Int32) (x3 : Int32) (x4 : Int32) (P : PM), St E rIP (l_Mo_laysFar_14 n x1 x2 x3 x4 P) Q → Go G c_Mo_laysFar "YawnRouteModel" 7 (some .int) false d nOb nOb Q 14 [(0, .ref (ad E 109)), (1, .int x1), (2, .int x2), (3, .int x3), (4, .int x4)] [] P E := by
  intro n
  induction n with
  | zero =>
    intro x1 x2 x3 x4 P h
    rw [l_Mo_laysFar_14] at h
    exact St.none_ h
  | succ n ih =>
    intro x1 x2 x3 x4 P h
    rw [l_Mo_laysFar_14] at h
    refine Go.iload (i := 4) 4 (by decide +kernel) rfl ?_
    refine Go.sipush (n := 287) (287 : Int32) (by decide +kernel) (by decide) ?_
    refine Go.icmp_ge (off := 41) 60 (by decide +kernel) (by decide) (fun c1 => ?_) (fun c1 => ?_)
    · rw [if_pos c1] at h
      refine Go.iconst (n := 1) (1 : Int32) (by decide +kernel) rfl ?_
      refine Go.istore (i := 4) [(4, .int (1 : Int32)), (0, .ref (ad E 109)), (1, .int x1), (2, .int x2), (3, .int x3)] (by decide +kernel) (by decide) rfl ?_
      refine Go.sub [1, 4, 0] [(0, .ref (ad E 109)), (3, .int x3), (4, .int (1 : Int32))] rfl ?_
      exact t_l_Mo_laysFar_63 hG hE d hd FU x3 (1 : Int32) P h
    · rw [if_neg c1] at h
      refine Go.aload_n (k := 0) (i := 0) 0 (by decide +kernel) rfl rfl ?_
      refine Go.get 109 21 (.ref (ad E 118)) (by decide) (by decide) sh109 (ltO hE sh109) (vlR hE rfl rfl) lk1351 (by decide +kernel) ?_
      refine Go.iload (i := 4) 4 (by decide +kernel) rfl ?_
      refine Go.iload (i := 4) 4 (by decide +kernel) rfl ?_
      refine Go.bipush (n := 41) (41 : Int32) (by decide +kernel) (by decide) ?_
      refine Go.idiv (by decide +kernel) (by decide) ?_
      refine Go.iload_n (k := 1) (i := 1) 1 (by decide +kernel) rfl rfl ?_
      refine Go.icmp_ne (off := 16) 50 (by decide +kernel) (by decide) (fun c2 => ?_) (fun c2 => ?_)
      · rw [if_neg c2] at h
        exact t_j_Mo_laysFar_50 hG hE d hd (fun z0 z1 z2 z3 Pz => l_Mo_laysFar_14 n z0 z1 z2 z3 Pz) (fun z0 z1 z2 z3 Pz q => ih z0 z1 z2 z3 Pz q) x1 x2 x3 x4 x4 P h
      · rw [if_pos c2] at h
        refine Go.iload (i := 4) 4 (by decide +kernel) rfl ?_
        refine Go.bipush (n := 41) (41 : Int32) (by decide +kernel) (by decide) ?_
        refine Go.irem (by decide +kernel) (by decide) ?_
        refine Go.iload_n (k := 2) (i := 2) 2 (by decide +kernel) rfl rfl ?_
        refine Go.icmp_lt (off := 7) 50 (by decide +kernel) (by decide) (fun c3 => ?_) (fun c3 => ?_)
        · rw [if_pos c3] at h
          exact t_j_Mo_laysFar_50 hG hE d hd (fun z0 z1 z2 z3 Pz => l_Mo_laysFar_14 n z0 z1 z2 z3 Pz) (fun z0 z1 z2 z3 Pz q => ih z0 z1 z2 z3 Pz q) x1 x2 x3 x4 x4 P h
        · rw [if_neg c3] at h
          refine Go.iconst (n := 0) (0 : Int32) (by decide +kernel) rfl ?_
          refine Go.goto (off := 6) 53 (by decide +kernel) (by decide) ?_
          exact t_j_Mo_laysFar_53 hG hE d hd (fun z0 z1 z2 z3 Pz => l_Mo_laysFar_14 n z0 z1 z2 z3 Pz) (fun z0 z1 z2 z3 Pz q => ih z0 z1 z2 z3 Pz q) x1 x2 x3 x4 x4 (0 : Int32) P h
theorem t_f_Mo_laysFar {G : GX} (hG : GOK G) {E : EV} (hE : E0 E) (d : Nat) (hd : 5 ≤ d) {Q : QT} (a1 : Int32) (a2 : Int32) (a3 : Int32) (P : PM) (h : St E rIP (f_Mo_laysFar a1 a2 a3 P) Q) : Go G c_Mo_laysFar "YawnRouteModel" 7 (some .int) false d nOb nOb Q 0 [(0, .ref (ad E 109)), (1, .int a1), (2, .int a2), (3, .int a3)] [] P E := by
  rw [f_Mo_laysFar] at h
  refine Go.aload_n (k := 0) (i := 0) 0 (by decide +kernel) rfl rfl ?_
  refine Go.aload_n (k := 0) (i := 0) 0 (by decide +kernel) rfl rfl ?_
  refine Go.get 109 1 (.ref (ad E 110)) (by decide) (by decide) sh109 (ltO hE sh109) (vlR hE rfl rfl) lk1331 (by decide +kernel) ?_
  refine Go.bipush (n := 116) (116 : Int32) (by decide +kernel) (by decide) ?_
  refine Go.iaload 110 3408 sh110 (ltA hE sh110 (by decide)) (vp_in_iff.mpr (by decide)) (by decide +kernel) ?_
  obtain ⟨P1, hP1, h⟩ := St.bind h
  refine Go.cV_v (P1 := P1) (d - 1) 109 [.int (P.1 110 (116 : Int32).toNatClampNeg)] sh109 hE w_Mo_laysThen (e_Mo_laysThen hG hE (d - 1) (by omega) (P.1 110 (116 : Int32).toNatClampNeg) P ⟨_, hP1, rfl, rfl, rfl⟩) lk1700 rfl (by omega) (Nat.le_of_ble_eq_true rfl) (by decide +kernel) _ rfl ?_
  refine Go.iconst (n := 0) (0 : Int32) (by decide +kernel) rfl ?_
  refine Go.istore (i := 4) [(4, .int (0 : Int32)), (0, .ref (ad E 109)), (1, .int a1), (2, .int a2), (3, .int a3)] (by decide +kernel) (by decide) rfl ?_
  refine Go.sub [1, 2, 3, 4, 0] [(0, .ref (ad E 109)), (1, .int a1), (2, .int a2), (3, .int a3), (4, .int (0 : Int32))] rfl ?_
  exact t_l_Mo_laysFar_14 hG hE d hd FU a1 a2 a3 (0 : Int32) P1 h
theorem e_Mo_laysFar {G : GX} (hG : GOK G) {E : EV} (hE : E0 E) (d : Nat) (hd : 5 ≤ d) (a1 : Int32) (a2 : Int32) (a3 : Int32) (P : PM) {Q : QT} (h : St E rIP (f_Mo_laysFar a1 a2 a3 P) Q) : Con G y_Mo_laysFar cw_Mo_laysFar d nOb nOb [.ref (ad E 109), .int a1, .int a2, .int a3] P E Q :=
  Con.of hG (by decide +kernel) rfl (fun h => by cases h) hE.2 (Nat.le_of_ble_eq_true rfl) (t_f_Mo_laysFar hG hE d hd a1 a2 a3 P h)
abbrev c_Mo_noComing : ByteArray := prog_14_method_74_code
abbrev y_Mo_noComing : MethodName := ⟨"YawnRouteModel", "noComing", "(II)I"⟩
abbrev cw_Mo_noComing : Cond := .code y_Mo_noComing c_Mo_noComing 3 (some .int)
theorem w_Mo_noComing : VW 12 y_Mo_noComing c_Mo_noComing 3 (some .int) 2 := ⟨by decide, lk1694, lp88_, lk14, lk1695, ⟨by decide, by decide, by decide +kernel⟩, by decide⟩
noncomputable def f_Mo_noComing (a1 : Int32) (a2 : Int32) (P : PM) : Option Int32 := (f_Mo_isStation (a1.toInt64) P).bind (fun v1 => if v1 = (0 : Int32) then (some (-2 : Int32)) else ((f_Mo_isSize (a2.toInt64) P).bind (fun v3 => if v3 = (0 : Int32) then (some (-3 : Int32)) else (if (P.1 110 (113 : Int32).toNatClampNeg) = (-1 : Int32) then (some (-5 : Int32)) else (some (0 : Int32))))))
theorem t_f_Mo_noComing {G : GX} (hG : GOK G) {E : EV} (hE : E0 E) (d : Nat) (hd : 3 ≤ d) {P : PM} {Q : QT} (a1 : Int32) (a2 : Int32) (h : St E (rI P) (f_Mo_noComing a1 a2 P) Q) : Go G c_Mo_noComing "YawnRouteModel" 3 (some .int) false d nOb nOb Q 0 [(0, .ref (ad E 109)), (1, .int a1), (2, .int a2)] [] P E := by
  rw [f_Mo_noComing] at h
  refine Go.aload_n (k := 0) (i := 0) 0 (by decide +kernel) rfl rfl ?_
  refine Go.iload_n (k := 1) (i := 1) 1 (by decide +kernel) rfl rfl ?_
  refine Go.i2l (by decide +kernel) ?_
  obtain ⟨v1, hv1, h⟩ := St.bind h
  refine Go.cV_i (P1 := P) (v := v1) (d - 1) 109 [.long (a1.toInt64)] sh109 hE w_Mo_isStation (e_Mo_isStation hG hE (d - 1) (by omega) (a1.toInt64) P ⟨_, hv1, rfl, rfl, rfl⟩) lk1555 rfl (by omega) (Nat.le_of_ble_eq_true rfl) (by decide +kernel) _ rfl ?_
  refine Go.if_ne (off := 8) 14 (by decide +kernel) (by decide) (fun c2 => ?_) (fun c2 => ?_)
  · rw [if_neg c2] at h
    refine Go.iload_n (k := 2) (i := 2) 2 (by decide +kernel) rfl rfl ?_
    refine Go.i2l (by decide +kernel) ?_
    obtain ⟨v3, hv3, h⟩ := St.bind h
    refine Go.cS_i (P1 := P) (v := v3) (d - 1) [.long (a2.toInt64)] hE w_Mo_isSize (e_Mo_isSize hG hE (d - 1) (by omega) (a2.toInt64) P ⟨_, hv3, rfl, rfl, rfl⟩) lk1615 rfl (by omega) (Nat.le_of_ble_eq_true rfl) (by decide +kernel) _ rfl ?_
    refine Go.if_ne (off := 8) 27 (by decide +kernel) (by decide) (fun c4 => ?_) (fun c4 => ?_)
    · rw [if_neg c4] at h
      refine Go.aload_n (k := 0) (i := 0) 0 (by decide +kernel) rfl rfl ?_
      refine Go.get 109 1 (.ref (ad E 110)) (by decide) (by decide) sh109 (ltO hE sh109) (vlR hE rfl rfl) lk1331 (by decide +kernel) ?_
      refine Go.bipush (n := 113) (113 : Int32) (by decide +kernel) (by decide) ?_
      refine Go.iaload 110 3408 sh110 (ltA hE sh110 (by decide)) (vp_in_iff.mpr (by decide)) (by decide +kernel) ?_
      refine Go.iconst (n := -1) (-1 : Int32) (by decide +kernel) rfl ?_
      refine Go.icmp_ne (off := 8) 43 (by decide +kernel) (by decide) (fun c5 => ?_) (fun c5 => ?_)
      · rw [if_neg c5] at h
        refine Go.iconst (n := 0) (0 : Int32) (by decide +kernel) rfl ?_
        exact Go.iret rfl rfl hE.2 (by decide +kernel) (St.fI h)
      · rw [if_pos c5] at h
        refine Go.bipush (n := -5) (-5 : Int32) (by decide +kernel) (by decide) ?_
        refine Go.goto (off := 4) 44 (by decide +kernel) (by decide) ?_
        exact Go.iret rfl rfl hE.2 (by decide +kernel) (St.fI h)
    · rw [if_pos c4] at h
      refine Go.bipush (n := -3) (-3 : Int32) (by decide +kernel) (by decide) ?_
      refine Go.goto (off := 20) 44 (by decide +kernel) (by decide) ?_
      exact Go.iret rfl rfl hE.2 (by decide +kernel) (St.fI h)
  · rw [if_pos c2] at h
    refine Go.bipush (n := -2) (-2 : Int32) (by decide +kernel) (by decide) ?_
    refine Go.goto (off := 33) 44 (by decide +kernel) (by decide) ?_
    exact Go.iret rfl rfl hE.2 (by decide +kernel) (St.fI h)
theorem e_Mo_noComing {G : GX} (hG : GOK G) {E : EV} (hE : E0 E) (d : Nat) (hd : 3 ≤ d) (a1 : Int32) (a2 : Int32) (P : PM) {Q : QT} (h : St E (rI P) (f_Mo_noComing a1 a2 P) Q) : Con G y_Mo_noComing cw_Mo_noComing d nOb nOb [.ref (ad E 109), .int a1, .int a2] P E Q :=
  Con.of hG (by decide +kernel) rfl (fun h => by cases h) hE.2 (Nat.le_of_ble_eq_true rfl) (t_f_Mo_noComing hG hE d hd a1 a2 h)
abbrev c_Mo_comes : ByteArray := prog_14_method_75_code
abbrev y_Mo_comes : MethodName := ⟨"YawnRouteModel", "comes", "(IIZ)I"⟩
abbrev cw_Mo_comes : Cond := .code y_Mo_comes c_Mo_comes 6 (some .int)
theorem w_Mo_comes : VW 12 y_Mo_comes c_Mo_comes 6 (some .int) 3 := ⟨by decide, lk1690, lp87_, lk14, lk1691, ⟨by decide, by decide, by decide +kernel⟩, by decide⟩
noncomputable def f_Mo_comes (a1 : Int32) (a2 : Int32) (a3 : Int32) (P : PM) : Option (Int32 × PM) := (f_Mo_noComing a1 a2 P).bind (fun v1 => if v1 = (0 : Int32) then (bd2 (f_Mo_laysFar a1 a2 a3 P) (fun v3 P4 => if v3 = (268435456 : Int32) then (some ((-1 : Int32), P4)) else (if a3 = (0 : Int32) then (some (v3, P4)) else (some ((v3 / (1000 : Int32)), P4))))) else (some (v1, P)))
theorem t_f_Mo_comes {G : GX} (hG : GOK G) {E : EV} (hE : E0 E) (d : Nat) (hd : 6 ≤ d) {Q : QT} (a1 : Int32) (a2 : Int32) (a3 : Int32) (P : PM) (h : St E rIP (f_Mo_comes a1 a2 a3 P) Q) : Go G c_Mo_comes "YawnRouteModel" 6 (some .int) false d nOb nOb Q 0 [(0, .ref (ad E 109)), (1, .int a1), (2, .int a2), (3, .int a3)] [] P E := by
  rw [f_Mo_comes] at h
  refine Go.aload_n (k := 0) (i := 0) 0 (by decide +kernel) rfl rfl ?_
  refine Go.iload_n (k := 1) (i := 1) 1 (by decide +kernel) rfl rfl ?_
  refine Go.iload_n (k := 2) (i := 2) 2 (by decide +kernel) rfl rfl ?_
  obtain ⟨v1, hv1, h⟩ := St.bind h
  refine Go.cV_i (P1 := P) (v := v1) (d - 1) 109 [.int a1, .int a2] sh109 hE w_Mo_noComing (e_Mo_noComing hG hE (d - 1) (by omega) a1 a2 P ⟨_, hv1, rfl, rfl, rfl⟩) lk1692 rfl (by omega) (Nat.le_of_ble_eq_true rfl) (by decide +kernel) _ rfl ?_
  refine Go.istore (i := 4) [(4, .int v1), (0, .ref (ad E 109)), (1, .int a1), (2, .int a2), (3, .int a3)] (by decide +kernel) (by decide) rfl ?_
  refine Go.iload (i := 4) 0 (by decide +kernel) rfl ?_
  refine Go.if_eq (off := 6) 16 (by decide +kernel) (by decide) (fun c2 => ?_) (fun c2 => ?_)
  · rw [if_pos c2] at h
    refine Go.aload_n (k := 0) (i := 0) 1 (by decide +kernel) rfl rfl ?_
    refine Go.iload_n (k := 1) (i := 1) 2 (by decide +kernel) rfl rfl ?_
    refine Go.iload_n (k := 2) (i := 2) 3 (by decide +kernel) rfl rfl ?_
    refine Go.iload_n (k := 3) (i := 3) 4 (by decide +kernel) rfl rfl ?_
    obtain ⟨v3, P4, hv3, h⟩ := St.bd2 h
    refine Go.cV_i (P1 := P4) (v := v3) (d - 1) 109 [.int a1, .int a2, .int a3] sh109 hE w_Mo_laysFar (e_Mo_laysFar hG hE (d - 1) (by omega) a1 a2 a3 P ⟨_, hv3, rfl, rfl, rfl⟩) lk1696 rfl (by omega) (Nat.le_of_ble_eq_true rfl) (by decide +kernel) _ rfl ?_
    refine Go.istore (i := 5) [(5, .int v3), (4, .int v1), (0, .ref (ad E 109)), (1, .int a1), (2, .int a2), (3, .int a3)] (by decide +kernel) (by decide) rfl ?_
    refine Go.iload (i := 5) 0 (by decide +kernel) rfl ?_
    refine Go.ldcw (268435456 : Int32) lk1707 (by decide +kernel) ?_
    refine Go.icmp_ne (off := 7) 37 (by decide +kernel) (by decide) (fun c5 => ?_) (fun c5 => ?_)
    · rw [if_neg c5] at h
      refine Go.iload_n (k := 3) (i := 3) 5 (by decide +kernel) rfl rfl ?_
      refine Go.if_eq (off := 12) 50 (by decide +kernel) (by decide) (fun c6 => ?_) (fun c6 => ?_)
      · rw [if_pos c6] at h
        refine Go.iload (i := 5) 0 (by decide +kernel) rfl ?_
        exact Go.iret rfl rfl hE.2 (by decide +kernel) (St.fIP h)
      · rw [if_neg c6] at h
        refine Go.iload (i := 5) 0 (by decide +kernel) rfl ?_
        refine Go.sipush (n := 1000) (1000 : Int32) (by decide +kernel) (by decide) ?_
        refine Go.idiv (by decide +kernel) (by decide) ?_
        refine Go.goto (off := 5) 52 (by decide +kernel) (by decide) ?_
        exact Go.iret rfl rfl hE.2 (by decide +kernel) (St.fIP h)
    · rw [if_pos c5] at h
      refine Go.iconst (n := -1) (-1 : Int32) (by decide +kernel) rfl ?_
      refine Go.goto (off := 18) 52 (by decide +kernel) (by decide) ?_
      exact Go.iret rfl rfl hE.2 (by decide +kernel) (St.fIP h)
  · rw [if_neg c2] at h
    refine Go.iload (i := 4) 0 (by decide +kernel) rfl ?_
    exact Go.iret rfl rfl hE.2 (by decide +kernel) (St.fIP h)
theorem e_Mo_comes {G : GX} (hG : GOK G) {E : EV} (hE : E0 E) (d : Nat) (hd : 6 ≤ d) (a1 : Int32) (a2 : Int32) (a3 : Int32) (P : PM) {Q : QT} (h : St E rIP (f_Mo_comes a1 a2 a3 P) Q) : Con G y_Mo_comes cw_Mo_comes d nOb nOb [.ref (ad E 109), .int a1, .int a2, .int a3] P E Q :=
  Con.of hG (by decide +kernel) rfl (fun h => by cases h) hE.2 (Nat.le_of_ble_eq_true rfl) (t_f_Mo_comes hG hE d hd a1 a2 a3 P h)
abbrev c_Mo_stationAt : ByteArray := prog_14_method_76_code
abbrev y_Mo_stationAt : MethodName := ⟨"YawnRouteModel", "stationAt", "(IZ)I"⟩
abbrev cw_Mo_stationAt : Cond := .code y_Mo_stationAt c_Mo_stationAt 6 (some .int)
theorem w_Mo_stationAt : VW 12 y_Mo_stationAt c_Mo_stationAt 6 (some .int) 2 := ⟨by decide, lk1734, lp96_, lk14, lk1735, ⟨by decide, by decide, by decide +kernel⟩, by decide⟩
noncomputable def l_Mo_stationAt_34 (k22 : Int32 → Int32 → Int32 → Int32 → Option Int32) : Nat → Int32 → Int32 → Int32 → Int32 → Int32 → PM → Option Int32
  | 0, _, _, _, _, _, _ => none
  | n + 1, x1, x2, x3, x4, x5, P => (f_Mo_farBy x3 x5 x2 P).bind (fun v1 => ck (inb x3 287) (if v1 = (P.1 118 x3.toNatClampNeg) then (if x4 = x1 then (some x5) else ((f_Mo_routed x3 x5 P).bind (fun v5 => k22 x1 x2 v5 (x4 + (1 : Int32))))) else (l_Mo_stationAt_34 k22 n x1 x2 x3 x4 (x5 + (1 : Int32)) P)))
noncomputable def l_Mo_stationAt_22 : Nat → Int32 → Int32 → Int32 → Int32 → PM → Option Int32
  | 0, _, _, _, _, _ => none
  | n + 1, x1, x2, x3, x4, P => ck (inb x3 287) (if (P.1 118 x3.toNatClampNeg) ≤ (0 : Int32) then (some (-1 : Int32)) else (l_Mo_stationAt_34 (fun z0 z1 z2 z3 => l_Mo_stationAt_22 n z0 z1 z2 z3 P) FU x1 x2 x3 x4 (0 : Int32) P))
noncomputable def f_Mo_stationAt (a1 : Int32) (a2 : Int32) (P : PM) : Option Int32 := lb (f_Mo_standNow P) (fun y1 => ck (inb y1 287) (if (P.1 118 y1.toNatClampNeg) = (268435456 : Int32) then (some (-1 : Int32)) else (l_Mo_stationAt_22 FU a1 a2 y1 (0 : Int32) P)))
theorem t_l_Mo_stationAt_34 {G : GX} (hG : GOK G) {E : EV} (hE : E0 E) (d : Nat) (hd : 4 ≤ d) {P : PM} {Q : QT} (k22 : Int32 → Int32 → Int32 → Int32 → Option Int32) (hk22 : ∀ (x1 : Int32) (x2 : Int32) (x3 : Int32) (x4 : Int32), St E (rI P) (k22 x1 x2 x3 x4) Q → Go G c_Mo_stationAt "YawnRouteModel" 6 (some .int) false d nOb nOb Q 22 [(0, .ref (ad E 109)), (1, .int x1), (2, .int x2), (3, .int x3), (4, .int x4)] [] P E) : ∀ (n : Nat) (x1 : Int32) (x2 : Int32) (x3 : Int32) (x4 : Int32) (x5 : Int32), St E (rI P) (l_Mo_stationAt_34 k22 n x1 x2 x3 x4 x5 P) Q → Go G c_Mo_stationAt "YawnRouteModel" 6 (some .int) false d nOb nOb Q 34 [(0, .ref (ad E 109)), (1, .int x1), (2, .int x2), (3, .int x3), (4, .int x4), (5, .int x5)] [] P E := by
  intro n
  induction n with
  | zero =>
    intro x1 x2 x3 x4 x5 h
    rw [l_Mo_stationAt_34] at h
    exact St.none_ h
  | succ n ih =>
    intro x1 x2 x3 x4 x5 h
    rw [l_Mo_stationAt_34] at h
    refine Go.aload_n (k := 0) (i := 0) 0 (by decide +kernel) rfl rfl ?_
    refine Go.iload_n (k := 3) (i := 3) 3 (by decide +kernel) rfl rfl ?_
    refine Go.iload (i := 5) 5 (by decide +kernel) rfl ?_
    refine Go.iload_n (k := 2) (i := 2) 2 (by decide +kernel) rfl rfl ?_
    obtain ⟨v1, hv1, h⟩ := St.bind h
    refine Go.cV_i (P1 := P) (v := v1) (d - 1) 109 [.int x3, .int x5, .int x2] sh109 hE w_Mo_farBy (e_Mo_farBy hG hE (d - 1) (by omega) x3 x5 x2 P ⟨_, hv1, rfl, rfl, rfl⟩) lk1708 rfl (by omega) (Nat.le_of_ble_eq_true rfl) (by decide +kernel) _ rfl ?_
    refine Go.aload_n (k := 0) (i := 0) 0 (by decide +kernel) rfl rfl ?_
    refine Go.get 109 21 (.ref (ad E 118)) (by decide) (by decide) sh109 (ltO hE sh109) (vlR hE rfl rfl) lk1351 (by decide +kernel) ?_
    refine Go.iload_n (k := 3) (i := 3) 3 (by decide +kernel) rfl rfl ?_
    obtain ⟨b2, h⟩ := St.ck h
    refine Go.iaload 118 287 sh118 (ltA hE sh118 (by decide)) (inb_in b2) (by decide +kernel) ?_
    refine Go.icmp_eq (off := 9) 57 (by decide +kernel) (by decide) (fun c3 => ?_) (fun c3 => ?_)
    · rw [if_pos c3] at h
      refine Go.iload (i := 4) 4 (by decide +kernel) rfl ?_
      refine Go.iload_n (k := 1) (i := 1) 1 (by decide +kernel) rfl rfl ?_
      refine Go.icmp_ne (off := 6) 66 (by decide +kernel) (by decide) (fun c4 => ?_) (fun c4 => ?_)
      · rw [if_neg c4] at h
        refine Go.aload_n (k := 0) (i := 0) 0 (by decide +kernel) rfl rfl ?_
        refine Go.iload_n (k := 3) (i := 3) 3 (by decide +kernel) rfl rfl ?_
        refine Go.iload (i := 5) 5 (by decide +kernel) rfl ?_
        obtain ⟨v5, hv5, h⟩ := St.bind h
        refine Go.cV_i (P1 := P) (v := v5) (d - 1) 109 [.int x3, .int x5] sh109 hE w_Mo_routed (e_Mo_routed hG hE (d - 1) (by omega) x3 x5 P ⟨_, hv5, rfl, rfl, rfl⟩) lk1712 rfl (by omega) (Nat.le_of_ble_eq_true rfl) (by decide +kernel) _ rfl ?_
        refine Go.istore_n (k := 3) (i := 3) [(3, .int v5), (0, .ref (ad E 109)), (1, .int x1), (2, .int x2), (4, .int x4), (5, .int x5)] (by decide +kernel) rfl (by decide) rfl ?_
        refine Go.iinc (i := 4) (n := 1) 4 (x4 + (1 : Int32)) [(4, .int (x4 + (1 : Int32))), (3, .int v5), (0, .ref (ad E 109)), (1, .int x1), (2, .int x2), (5, .int x5)] (by decide +kernel) rfl rfl (by decide) rfl ?_
        refine Go.goto (off := -55) 22 (by decide +kernel) (by decide) ?_
        refine Go.sub [2, 3, 4, 1, 0] [(0, .ref (ad E 109)), (1, .int x1), (2, .int x2), (3, .int v5), (4, .int (x4 + (1 : Int32)))] rfl ?_
        exact hk22 x1 x2 v5 (x4 + (1 : Int32)) h
      · rw [if_pos c4] at h
        refine Go.iload (i := 5) 5 (by decide +kernel) rfl ?_
        exact Go.iret rfl rfl hE.2 (by decide +kernel) (St.fI h)
    · rw [if_neg c3] at h
      refine Go.iinc (i := 5) (n := 1) 5 (x5 + (1 : Int32)) [(5, .int (x5 + (1 : Int32))), (0, .ref (ad E 109)), (1, .int x1), (2, .int x2), (3, .int x3), (4, .int x4)] (by decide +kernel) rfl rfl (by decide) rfl ?_
      refine Go.goto (off := -20) 34 (by decide +kernel) (by decide) ?_
      refine Go.sub [1, 2, 3, 4, 5, 0] [(0, .ref (ad E 109)), (1, .int x1), (2, .int x2), (3, .int x3), (4, .int x4), (5, .int (x5 + (1 : Int32)))] rfl ?_
      exact ih x1 x2 x3 x4 (x5 + (1 : Int32)) h
theorem t_l_Mo_stationAt_22 {G : GX} (hG : GOK G) {E : EV} (hE : E0 E) (d : Nat) (hd : 4 ≤ d) {P : PM} {Q : QT} : ∀ (n : Nat) (x1 : Int32) (x2 : Int32) (x3 : Int32) (x4 : Int32), St E (rI P) (l_Mo_stationAt_22 n x1 x2 x3 x4 P) Q → Go G c_Mo_stationAt "YawnRouteModel" 6 (some .int) false d nOb nOb Q 22 [(0, .ref (ad E 109)), (1, .int x1), (2, .int x2), (3, .int x3), (4, .int x4)] [] P E := by
  intro n
  induction n with
  | zero =>
    intro x1 x2 x3 x4 h
    rw [l_Mo_stationAt_22] at h
    exact St.none_ h
  | succ n ih =>
    intro x1 x2 x3 x4 h
    rw [l_Mo_stationAt_22] at h
    refine Go.aload_n (k := 0) (i := 0) 0 (by decide +kernel) rfl rfl ?_
    refine Go.get 109 21 (.ref (ad E 118)) (by decide) (by decide) sh109 (ltO hE sh109) (vlR hE rfl rfl) lk1351 (by decide +kernel) ?_
    refine Go.iload_n (k := 3) (i := 3) 3 (by decide +kernel) rfl rfl ?_
    obtain ⟨b1, h⟩ := St.ck h
    refine Go.iaload 118 287 sh118 (ltA hE sh118 (by decide)) (inb_in b1) (by decide +kernel) ?_
    refine Go.if_le (off := 52) 80 (by decide +kernel) (by decide) (fun c2 => ?_) (fun c2 => ?_)
    · rw [if_pos c2] at h
      refine Go.iconst (n := -1) (-1 : Int32) (by decide +kernel) rfl ?_
      exact Go.iret rfl rfl hE.2 (by decide +kernel) (St.fI h)
    · rw [if_neg c2] at h
      refine Go.iconst (n := 0) (0 : Int32) (by decide +kernel) rfl ?_
      refine Go.istore (i := 5) [(5, .int (0 : Int32)), (0, .ref (ad E 109)), (1, .int x1), (2, .int x2), (3, .int x3), (4, .int x4)] (by decide +kernel) (by decide) rfl ?_
      refine Go.sub [1, 2, 3, 4, 5, 0] [(0, .ref (ad E 109)), (1, .int x1), (2, .int x2), (3, .int x3), (4, .int x4), (5, .int (0 : Int32))] rfl ?_
      exact t_l_Mo_stationAt_34 hG hE d hd (fun z0 z1 z2 z3 => l_Mo_stationAt_22 n z0 z1 z2 z3 P) (fun z0 z1 z2 z3 q => ih z0 z1 z2 z3 q) FU x1 x2 x3 x4 (0 : Int32) h
theorem t_f_Mo_stationAt {G : GX} (hG : GOK G) {E : EV} (hE : E0 E) (d : Nat) (hd : 4 ≤ d) {P : PM} {Q : QT} (a1 : Int32) (a2 : Int32) (h : St E (rI P) (f_Mo_stationAt a1 a2 P) Q) : Go G c_Mo_stationAt "YawnRouteModel" 6 (some .int) false d nOb nOb Q 0 [(0, .ref (ad E 109)), (1, .int a1), (2, .int a2)] [] P E := by
  rw [f_Mo_stationAt] at h
  refine Go.aload_n (k := 0) (i := 0) 0 (by decide +kernel) rfl rfl ?_
  refine Go.cV_i (P1 := P) (v := (f_Mo_standNow P)) (d - 1) 109 [] sh109 hE w_Mo_standNow (e_Mo_standNow hG hE (d - 1) (by omega) P ⟨rfl, rfl, rfl⟩) lk1720 rfl (by omega) (Nat.le_of_ble_eq_true rfl) (by decide +kernel) _ rfl ?_
  obtain ⟨y1, hy1, h⟩ := St.lb h
  refine Go.eqi y1 hy1 ?_
  refine Go.istore_n (k := 3) (i := 3) [(3, .int y1), (0, .ref (ad E 109)), (1, .int a1), (2, .int a2)] (by decide +kernel) rfl (by decide) rfl ?_
  refine Go.aload_n (k := 0) (i := 0) 1 (by decide +kernel) rfl rfl ?_
  refine Go.get 109 21 (.ref (ad E 118)) (by decide) (by decide) sh109 (ltO hE sh109) (vlR hE rfl rfl) lk1351 (by decide +kernel) ?_
  refine Go.iload_n (k := 3) (i := 3) 0 (by decide +kernel) rfl rfl ?_
  obtain ⟨b2, h⟩ := St.ck h
  refine Go.iaload 118 287 sh118 (ltA hE sh118 (by decide)) (inb_in b2) (by decide +kernel) ?_
  refine Go.ldcw (268435456 : Int32) lk1707 (by decide +kernel) ?_
  refine Go.icmp_ne (off := 5) 19 (by decide +kernel) (by decide) (fun c3 => ?_) (fun c3 => ?_)
  · rw [if_neg c3] at h
    refine Go.iconst (n := 0) (0 : Int32) (by decide +kernel) rfl ?_
    refine Go.istore (i := 4) [(4, .int (0 : Int32)), (3, .int y1), (0, .ref (ad E 109)), (1, .int a1), (2, .int a2)] (by decide +kernel) (by decide) rfl ?_
    refine Go.sub [2, 3, 4, 1, 0] [(0, .ref (ad E 109)), (1, .int a1), (2, .int a2), (3, .int y1), (4, .int (0 : Int32))] rfl ?_
    exact t_l_Mo_stationAt_22 hG hE d hd FU a1 a2 y1 (0 : Int32) h
  · rw [if_pos c3] at h
    refine Go.iconst (n := -1) (-1 : Int32) (by decide +kernel) rfl ?_
    exact Go.iret rfl rfl hE.2 (by decide +kernel) (St.fI h)
theorem e_Mo_stationAt {G : GX} (hG : GOK G) {E : EV} (hE : E0 E) (d : Nat) (hd : 4 ≤ d) (a1 : Int32) (a2 : Int32) (P : PM) {Q : QT} (h : St E (rI P) (f_Mo_stationAt a1 a2 P) Q) : Con G y_Mo_stationAt cw_Mo_stationAt d nOb nOb [.ref (ad E 109), .int a1, .int a2] P E Q :=
  Con.of hG (by decide +kernel) rfl (fun h => by cases h) hE.2 (Nat.le_of_ble_eq_true rfl) (t_f_Mo_stationAt hG hE d hd a1 a2 h)
abbrev c_Mo_comesBy : ByteArray := prog_14_method_77_code
abbrev y_Mo_comesBy : MethodName := ⟨"YawnRouteModel", "comesBy", "(IIIZ)I"⟩
abbrev cw_Mo_comesBy : Cond := .code y_Mo_comesBy c_Mo_comesBy 5 (some .int)
theorem w_Mo_comesBy : VW 12 y_Mo_comesBy c_Mo_comesBy 5 (some .int) 4 := ⟨by decide, lk1730, lp95_, lk14, lk1731, ⟨by decide, by decide, by decide +kernel⟩, by decide⟩
noncomputable def f_Mo_comesBy (a1 : Int32) (a2 : Int32) (a3 : Int32) (a4 : Int32) (P : PM) : Option (Int32 × PM) := (f_Mo_isStation (a1.toInt64) P).bind (fun v1 => if v1 = (0 : Int32) then (some ((-2 : Int32), P)) else ((f_Mo_isSize (a2.toInt64) P).bind (fun v3 => if v3 = (0 : Int32) then (some ((-3 : Int32), P)) else (if (0 : Int32) ≤ a3 then (if (P.1 110 (113 : Int32).toNatClampNeg) = (-1 : Int32) then (some ((-5 : Int32), P)) else (bd2 (f_Mo_laysFar a1 a2 a4 P) (fun v7 P8 => (f_Mo_stationAt a3 a4 P8).bind (fun v9 => some (v9, P8))))) else (some ((-3 : Int32), P))))))
theorem t_f_Mo_comesBy {G : GX} (hG : GOK G) {E : EV} (hE : E0 E) (d : Nat) (hd : 6 ≤ d) {Q : QT} (a1 : Int32) (a2 : Int32) (a3 : Int32) (a4 : Int32) (P : PM) (h : St E rIP (f_Mo_comesBy a1 a2 a3 a4 P) Q) : Go G c_Mo_comesBy "YawnRouteModel" 5 (some .int) false d nOb nOb Q 0 [(0, .ref (ad E 109)), (1, .int a1), (2, .int a2), (3, .int a3), (4, .int a4)] [] P E := by
  rw [f_Mo_comesBy] at h
  refine Go.aload_n (k := 0) (i := 0) 0 (by decide +kernel) rfl rfl ?_
  refine Go.iload_n (k := 1) (i := 1) 1 (by decide +kernel) rfl rfl ?_
  refine Go.i2l (by decide +kernel) ?_
  obtain ⟨v1, hv1, h⟩ := St.bind h
  refine Go.cV_i (P1 := P) (v := v1) (d - 1) 109 [.long (a1.toInt64)] sh109 hE w_Mo_isStation (e_Mo_isStation hG hE (d - 1) (by omega) (a1.toInt64) P ⟨_, hv1, rfl, rfl, rfl⟩) lk1555 rfl (by omega) (Nat.le_of_ble_eq_true rfl) (by decide +kernel) _ rfl ?_
  refine Go.if_ne (off := 6) 12 (by decide +kernel) (by decide) (fun c2 => ?_) (fun c2 => ?_)
  · rw [if_neg c2] at h
    refine Go.iload_n (k := 2) (i := 2) 2 (by decide +kernel) rfl rfl ?_
    refine Go.i2l (by decide +kernel) ?_
    obtain ⟨v3, hv3, h⟩ := St.bind h
    refine Go.cS_i (P1 := P) (v := v3) (d - 1) [.long (a2.toInt64)] hE w_Mo_isSize (e_Mo_isSize hG hE (d - 1) (by omega) (a2.toInt64) P ⟨_, hv3, rfl, rfl, rfl⟩) lk1615 rfl (by omega) (Nat.le_of_ble_eq_true rfl) (by decide +kernel) _ rfl ?_
    refine Go.if_eq (off := 7) 24 (by decide +kernel) (by decide) (fun c4 => ?_) (fun c4 => ?_)
    · rw [if_pos c4] at h
      refine Go.bipush (n := -3) (-3 : Int32) (by decide +kernel) (by decide) ?_
      exact Go.iret rfl rfl hE.2 (by decide +kernel) (St.fIP h)
    · rw [if_neg c4] at h
      refine Go.iload_n (k := 3) (i := 3) 3 (by decide +kernel) rfl rfl ?_
      refine Go.if_ge (off := 6) 27 (by decide +kernel) (by decide) (fun c5 => ?_) (fun c5 => ?_)
      · rw [if_pos c5] at h
        refine Go.aload_n (k := 0) (i := 0) 0 (by decide +kernel) rfl rfl ?_
        refine Go.get 109 1 (.ref (ad E 110)) (by decide) (by decide) sh109 (ltO hE sh109) (vlR hE rfl rfl) lk1331 (by decide +kernel) ?_
        refine Go.bipush (n := 113) (113 : Int32) (by decide +kernel) (by decide) ?_
        refine Go.iaload 110 3408 sh110 (ltA hE sh110 (by decide)) (vp_in_iff.mpr (by decide)) (by decide +kernel) ?_
        refine Go.iconst (n := -1) (-1 : Int32) (by decide +kernel) rfl ?_
        refine Go.icmp_ne (off := 6) 41 (by decide +kernel) (by decide) (fun c6 => ?_) (fun c6 => ?_)
        · rw [if_neg c6] at h
          refine Go.aload_n (k := 0) (i := 0) 0 (by decide +kernel) rfl rfl ?_
          refine Go.iload_n (k := 1) (i := 1) 1 (by decide +kernel) rfl rfl ?_
          refine Go.iload_n (k := 2) (i := 2) 2 (by decide +kernel) rfl rfl ?_
          refine Go.iload (i := 4) 4 (by decide +kernel) rfl ?_
          obtain ⟨v7, P8, hv7, h⟩ := St.bd2 h
          refine Go.cV_i (P1 := P8) (v := v7) (d - 1) 109 [.int a1, .int a2, .int a4] sh109 hE w_Mo_laysFar (e_Mo_laysFar hG hE (d - 1) (by omega) a1 a2 a4 P ⟨_, hv7, rfl, rfl, rfl⟩) lk1696 rfl (by omega) (Nat.le_of_ble_eq_true rfl) (by decide +kernel) _ rfl ?_
          refine Go.pop (by decide +kernel) rfl ?_
          refine Go.aload_n (k := 0) (i := 0) 0 (by decide +kernel) rfl rfl ?_
          refine Go.iload_n (k := 3) (i := 3) 3 (by decide +kernel) rfl rfl ?_
          refine Go.iload (i := 4) 4 (by decide +kernel) rfl ?_
          obtain ⟨v9, hv9, h⟩ := St.bind h
          refine Go.cV_i (P1 := P8) (v := v9) (d - 1) 109 [.int a3, .int a4] sh109 hE w_Mo_stationAt (e_Mo_stationAt hG hE (d - 1) (by omega) a3 a4 P8 ⟨_, hv9, rfl, rfl, rfl⟩) lk1732 rfl (by omega) (Nat.le_of_ble_eq_true rfl) (by decide +kernel) _ rfl ?_
          exact Go.iret rfl rfl hE.2 (by decide +kernel) (St.fIP h)
        · rw [if_pos c6] at h
          refine Go.bipush (n := -5) (-5 : Int32) (by decide +kernel) (by decide) ?_
          exact Go.iret rfl rfl hE.2 (by decide +kernel) (St.fIP h)
      · rw [if_neg c5] at h
        refine Go.bipush (n := -3) (-3 : Int32) (by decide +kernel) (by decide) ?_
        exact Go.iret rfl rfl hE.2 (by decide +kernel) (St.fIP h)
  · rw [if_pos c2] at h
    refine Go.bipush (n := -2) (-2 : Int32) (by decide +kernel) (by decide) ?_
    exact Go.iret rfl rfl hE.2 (by decide +kernel) (St.fIP h)
theorem e_Mo_comesBy {G : GX} (hG : GOK G) {E : EV} (hE : E0 E) (d : Nat) (hd : 6 ≤ d) (a1 : Int32) (a2 : Int32) (a3 : Int32) (a4 : Int32) (P : PM) {Q : QT} (h : St E rIP (f_Mo_comesBy a1 a2 a3 a4 P) Q) : Con G y_Mo_comesBy cw_Mo_comesBy d nOb nOb [.ref (ad E 109), .int a1, .int a2, .int a3, .int a4] P E Q :=
  Con.of hG (by decide +kernel) rfl (fun h => by cases h) hE.2 (Nat.le_of_ble_eq_true rfl) (t_f_Mo_comesBy hG hE d hd a1 a2 a3 a4 P h)
abbrev c_Mo_soonest : ByteArray := prog_14_method_78_code
abbrev y_Mo_soonest : MethodName := ⟨"YawnRouteModel", "soonest", "(II)I"⟩
abbrev cw_Mo_soonest : Cond := .code y_Mo_soonest c_Mo_soonest 3 (some .int)
theorem w_Mo_soonest : VW 12 y_Mo_soonest c_Mo_soonest 3 (some .int) 2 := ⟨by decide, lk1685, lk1686, lk14, lk1687, ⟨by decide, by decide, by decide +kernel⟩, by decide⟩
noncomputable def f_Mo_soonest (a1 : Int32) (a2 : Int32) (P : PM) : Option (Int32 × PM) := bd2 (f_Mo_comes a1 a2 (1 : Int32) (u1 P 109 0 (0 : Int32))) (fun v1 P2 => some (v1, P2))
theorem t_f_Mo_soonest {G : GX} (hG : GOK G) {E : EV} (hE : E0 E) (d : Nat) (hd : 7 ≤ d) {Q : QT} (a1 : Int32) (a2 : Int32) (P : PM) (h : St E rIP (f_Mo_soonest a1 a2 P) Q) : Go G c_Mo_soonest "YawnRouteModel" 3 (some .int) false d nOb nOb Q 0 [(0, .ref (ad E 109)), (1, .int a1), (2, .int a2)] [] P E := by
  rw [f_Mo_soonest] at h
  refine Go.aload_n (k := 0) (i := 0) 0 (by decide +kernel) rfl rfl ?_
  refine Go.iconst (n := 0) (0 : Int32) (by decide +kernel) rfl ?_
  refine Go.put 109 0 (by decide) (by decide) sh109 (ltO hE sh109) (Or.inl rfl) rfl rfl rfl lk1330 (by decide +kernel) ?_
  refine Go.aload_n (k := 0) (i := 0) 0 (by decide +kernel) rfl rfl ?_
  refine Go.iload_n (k := 1) (i := 1) 1 (by decide +kernel) rfl rfl ?_
  refine Go.iload_n (k := 2) (i := 2) 2 (by decide +kernel) rfl rfl ?_
  refine Go.iconst (n := 1) (1 : Int32) (by decide +kernel) rfl ?_
  obtain ⟨v1, P2, hv1, h⟩ := St.bd2 h
  refine Go.cV_i (P1 := P2) (v := v1) (d - 1) 109 [.int a1, .int a2, .int (1 : Int32)] sh109 hE w_Mo_comes (e_Mo_comes hG hE (d - 1) (by omega) a1 a2 (1 : Int32) (u1 P 109 0 (0 : Int32)) ⟨_, hv1, rfl, rfl, rfl⟩) lk1688 rfl (by omega) (Nat.le_of_ble_eq_true rfl) (by decide +kernel) _ rfl ?_
  exact Go.iret rfl rfl hE.2 (by decide +kernel) (St.fIP h)
theorem e_Mo_soonest {G : GX} (hG : GOK G) {E : EV} (hE : E0 E) (d : Nat) (hd : 7 ≤ d) (a1 : Int32) (a2 : Int32) (P : PM) {Q : QT} (h : St E rIP (f_Mo_soonest a1 a2 P) Q) : Con G y_Mo_soonest cw_Mo_soonest d nOb nOb [.ref (ad E 109), .int a1, .int a2] P E Q :=
  Con.of hG (by decide +kernel) rfl (fun h => by cases h) hE.2 (Nat.le_of_ble_eq_true rfl) (t_f_Mo_soonest hG hE d hd a1 a2 P h)
abbrev c_Mo_soonBy : ByteArray := prog_14_method_79_code
abbrev y_Mo_soonBy : MethodName := ⟨"YawnRouteModel", "soonBy", "(III)I"⟩
abbrev cw_Mo_soonBy : Cond := .code y_Mo_soonBy c_Mo_soonBy 4 (some .int)
theorem w_Mo_soonBy : VW 12 y_Mo_soonBy c_Mo_soonBy 4 (some .int) 3 := ⟨by decide, lk1725, lk1726, lk14, lk1727, ⟨by decide, by decide, by decide +kernel⟩, by decide⟩
noncomputable def f_Mo_soonBy (a1 : Int32) (a2 : Int32) (a3 : Int32) (P : PM) : Option (Int32 × PM) := bd2 (f_Mo_comesBy a1 a2 a3 (1 : Int32) (u1 P 109 0 (0 : Int32))) (fun v1 P2 => some (v1, P2))
theorem t_f_Mo_soonBy {G : GX} (hG : GOK G) {E : EV} (hE : E0 E) (d : Nat) (hd : 7 ≤ d) {Q : QT} (a1 : Int32) (a2 : Int32) (a3 : Int32) (P : PM) (h : St E rIP (f_Mo_soonBy a1 a2 a3 P) Q) : Go G c_Mo_soonBy "YawnRouteModel" 4 (some .int) false d nOb nOb Q 0 [(0, .ref (ad E 109)), (1, .int a1), (2, .int a2), (3, .int a3)] [] P E := by
  rw [f_Mo_soonBy] at h
  refine Go.aload_n (k := 0) (i := 0) 0 (by decide +kernel) rfl rfl ?_
  refine Go.iconst (n := 0) (0 : Int32) (by decide +kernel) rfl ?_
  refine Go.put 109 0 (by decide) (by decide) sh109 (ltO hE sh109) (Or.inl rfl) rfl rfl rfl lk1330 (by decide +kernel) ?_
  refine Go.aload_n (k := 0) (i := 0) 0 (by decide +kernel) rfl rfl ?_
  refine Go.iload_n (k := 1) (i := 1) 1 (by decide +kernel) rfl rfl ?_
  refine Go.iload_n (k := 2) (i := 2) 2 (by decide +kernel) rfl rfl ?_
  refine Go.iload_n (k := 3) (i := 3) 3 (by decide +kernel) rfl rfl ?_
  refine Go.iconst (n := 1) (1 : Int32) (by decide +kernel) rfl ?_
  obtain ⟨v1, P2, hv1, h⟩ := St.bd2 h
  refine Go.cV_i (P1 := P2) (v := v1) (d - 1) 109 [.int a1, .int a2, .int a3, .int (1 : Int32)] sh109 hE w_Mo_comesBy (e_Mo_comesBy hG hE (d - 1) (by omega) a1 a2 a3 (1 : Int32) (u1 P 109 0 (0 : Int32)) ⟨_, hv1, rfl, rfl, rfl⟩) lk1728 rfl (by omega) (Nat.le_of_ble_eq_true rfl) (by decide +kernel) _ rfl ?_
  exact Go.iret rfl rfl hE.2 (by decide +kernel) (St.fIP h)
theorem e_Mo_soonBy {G : GX} (hG : GOK G) {E : EV} (hE : E0 E) (d : Nat) (hd : 7 ≤ d) (a1 : Int32) (a2 : Int32) (a3 : Int32) (P : PM) {Q : QT} (h : St E rIP (f_Mo_soonBy a1 a2 a3 P) Q) : Con G y_Mo_soonBy cw_Mo_soonBy d nOb nOb [.ref (ad E 109), .int a1, .int a2, .int a3] P E Q :=
  Con.of hG (by decide +kernel) rfl (fun h => by cases h) hE.2 (Nat.le_of_ble_eq_true rfl) (t_f_Mo_soonBy hG hE d hd a1 a2 a3 P h)
