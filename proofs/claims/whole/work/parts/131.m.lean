/-! methods as functions, by program: Mo_fewest Mo_fewBy Mo_biggest Mo_reachBy Mo_reach Mo_needed Mo_sleepers -/
abbrev c_Mo_fewest : ByteArray := prog_14_method_80_code
abbrev y_Mo_fewest : MethodName := ⟨"YawnRouteModel", "fewest", "(II)I"⟩
abbrev cw_Mo_fewest : Cond := .code y_Mo_fewest c_Mo_fewest 3 (some .int)
theorem w_Mo_fewest : VW 12 y_Mo_fewest c_Mo_fewest 3 (some .int) 2 := ⟨by decide, lk1737, lk1738, lk14, lk1739, ⟨by decide, by decide, by decide +kernel⟩, by decide⟩
noncomputable def f_Mo_fewest (a1 : Int32) (a2 : Int32) (P : PM) : Option (Int32 × PM) := bd2 (f_Mo_comes a1 a2 (0 : Int32) (u1 P 109 0 (0 : Int32))) (fun v1 P2 => some (v1, P2))
theorem t_f_Mo_fewest {G : GX} (hG : GOK G) {E : EV} (hE : E0 E) (d : Nat) (hd : 7 ≤ d) {Q : QT} (a1 : Int32) (a2 : Int32) (P : PM) (h : St E rIP (f_Mo_fewest a1 a2 P) Q) : Go G c_Mo_fewest "YawnRouteModel" 3 (some .int) false d nOb nOb Q 0 [(0, .ref (ad E 109)), (1, .int a1), (2, .int a2)] [] P E := by
  rw [f_Mo_fewest] at h
  refine Go.aload_n (k := 0) (i := 0) 0 (by decide +kernel) rfl rfl ?_
  refine Go.iconst (n := 0) (0 : Int32) (by decide +kernel) rfl ?_
  refine Go.put 109 0 (by decide) (by decide) sh109 (ltO hE sh109) (Or.inl rfl) rfl rfl rfl lk1330 (by decide +kernel) ?_
  refine Go.aload_n (k := 0) (i := 0) 0 (by decide +kernel) rfl rfl ?_
  refine Go.iload_n (k := 1) (i := 1) 1 (by decide +kernel) rfl rfl ?_
  refine Go.iload_n (k := 2) (i := 2) 2 (by decide +kernel) rfl rfl ?_
  refine Go.iconst (n := 0) (0 : Int32) (by decide +kernel) rfl ?_
  obtain ⟨v1, P2, hv1, h⟩ := St.bd2 h
  refine Go.cV_i (P1 := P2) (v := v1) (d - 1) 109 [.int a1, .int a2, .int (0 : Int32)] sh109 hE w_Mo_comes (e_Mo_comes hG hE (d - 1) (by omega) a1 a2 (0 : Int32) (u1 P 109 0 (0 : Int32)) ⟨_, hv1, rfl, rfl, rfl⟩) lk1688 rfl (by omega) (Nat.le_of_ble_eq_true rfl) (by decide +kernel) _ rfl ?_
  exact Go.iret rfl rfl hE.2 (by decide +kernel) (St.fIP h)
theorem e_Mo_fewest {G : GX} (hG : GOK G) {E : EV} (hE : E0 E) (d : Nat) (hd : 7 ≤ d) (a1 : Int32) (a2 : Int32) (P : PM) {Q : QT} (h : St E rIP (f_Mo_fewest a1 a2 P) Q) : Con G y_Mo_fewest cw_Mo_fewest d nOb nOb [.ref (ad E 109), .int a1, .int a2] P E Q :=
  Con.of hG (by decide +kernel) rfl (fun h => by cases h) hE.2 (Nat.le_of_ble_eq_true rfl) (t_f_Mo_fewest hG hE d hd a1 a2 P h)
abbrev c_Mo_fewBy : ByteArray := prog_14_method_81_code
abbrev y_Mo_fewBy : MethodName := ⟨"YawnRouteModel", "fewBy", "(III)I"⟩
abbrev cw_Mo_fewBy : Cond := .code y_Mo_fewBy c_Mo_fewBy 4 (some .int)
theorem w_Mo_fewBy : VW 12 y_Mo_fewBy c_Mo_fewBy 4 (some .int) 3 := ⟨by decide, lk1741, lk1742, lk14, lk1743, ⟨by decide, by decide, by decide +kernel⟩, by decide⟩
noncomputable def f_Mo_fewBy (a1 : Int32) (a2 : Int32) (a3 : Int32) (P : PM) : Option (Int32 × PM) := bd2 (f_Mo_comesBy a1 a2 a3 (0 : Int32) (u1 P 109 0 (0 : Int32))) (fun v1 P2 => some (v1, P2))
theorem t_f_Mo_fewBy {G : GX} (hG : GOK G) {E : EV} (hE : E0 E) (d : Nat) (hd : 7 ≤ d) {Q : QT} (a1 : Int32) (a2 : Int32) (a3 : Int32) (P : PM) (h : St E rIP (f_Mo_fewBy a1 a2 a3 P) Q) : Go G c_Mo_fewBy "YawnRouteModel" 4 (some .int) false d nOb nOb Q 0 [(0, .ref (ad E 109)), (1, .int a1), (2, .int a2), (3, .int a3)] [] P E := by
  rw [f_Mo_fewBy] at h
  refine Go.aload_n (k := 0) (i := 0) 0 (by decide +kernel) rfl rfl ?_
  refine Go.iconst (n := 0) (0 : Int32) (by decide +kernel) rfl ?_
  refine Go.put 109 0 (by decide) (by decide) sh109 (ltO hE sh109) (Or.inl rfl) rfl rfl rfl lk1330 (by decide +kernel) ?_
  refine Go.aload_n (k := 0) (i := 0) 0 (by decide +kernel) rfl rfl ?_
  refine Go.iload_n (k := 1) (i := 1) 1 (by decide +kernel) rfl rfl ?_
  refine Go.iload_n (k := 2) (i := 2) 2 (by decide +kernel) rfl rfl ?_
  refine Go.iload_n (k := 3) (i := 3) 3 (by decide +kernel) rfl rfl ?_
  refine Go.iconst (n := 0) (0 : Int32) (by decide +kernel) rfl ?_
  obtain ⟨v1, P2, hv1, h⟩ := St.bd2 h
  refine Go.cV_i (P1 := P2) (v := v1) (d - 1) 109 [.int a1, .int a2, .int a3, .int (0 : Int32)] sh109 hE w_Mo_comesBy (e_Mo_comesBy hG hE (d - 1) (by omega) a1 a2 a3 (0 : Int32) (u1 P 109 0 (0 : Int32)) ⟨_, hv1, rfl, rfl, rfl⟩) lk1728 rfl (by omega) (Nat.le_of_ble_eq_true rfl) (by decide +kernel) _ rfl ?_
  exact Go.iret rfl rfl hE.2 (by decide +kernel) (St.fIP h)
theorem e_Mo_fewBy {G : GX} (hG : GOK G) {E : EV} (hE : E0 E) (d : Nat) (hd : 7 ≤ d) (a1 : Int32) (a2 : Int32) (a3 : Int32) (P : PM) {Q : QT} (h : St E rIP (f_Mo_fewBy a1 a2 a3 P) Q) : Con G y_Mo_fewBy cw_Mo_fewBy d nOb nOb [.ref (ad E 109), .int a1, .int a2, .int a3] P E Q :=
  Con.of hG (by decide +kernel) rfl (fun h => by cases h) hE.2 (Nat.le_of_ble_eq_true rfl) (t_f_Mo_fewBy hG hE d hd a1 a2 a3 P h)
abbrev c_Mo_biggest : ByteArray := prog_14_method_82_code
abbrev y_Mo_biggest : MethodName := ⟨"YawnRouteModel", "biggest", "(I)I"⟩
abbrev cw_Mo_biggest : Cond := .code y_Mo_biggest c_Mo_biggest 4 (some .int)
theorem w_Mo_biggest : VW 12 y_Mo_biggest c_Mo_biggest 4 (some .int) 1 := ⟨by decide, lk1745, lk1746, lk14, lk1747, ⟨by decide, by decide, by decide +kernel⟩, by decide⟩
noncomputable def j_Mo_biggest_74 (k50 : Int32 → Int32 → Int32 → PM → Option (Int32 × PM)) (x1 : Int32) (x3 : Int32) (s0 : Int32) (P : PM) : Option (Int32 × PM) := k50 x1 s0 (x3 + (1 : Int32)) P
noncomputable def l_Mo_biggest_50 : Nat → Int32 → Int32 → Int32 → PM → Option (Int32 × PM)
  | 0, _, _, _, _ => none
  | n + 1, x1, x2, x3, P => if (40 : Int32) < x3 then (some (x2, P)) else (ck (inb (f_Mo_standOf x1 x3 P) 287) (if (P.1 119 (f_Mo_standOf x1 x3 P).toNatClampNeg) = (0 : Int32) then (j_Mo_biggest_74 (fun z0 z1 z2 Pz => l_Mo_biggest_50 n z0 z1 z2 Pz) x1 x3 x2 P) else (j_Mo_biggest_74 (fun z0 z1 z2 Pz => l_Mo_biggest_50 n z0 z1 z2 Pz) x1 x3 x3 P)))
noncomputable def f_Mo_biggest (a1 : Int32) (P : PM) : Option (Int32 × PM) := (f_Mo_isStation (a1.toInt64) (u1 P 109 0 (0 : Int32))).bind (fun v1 => if v1 = (0 : Int32) then (some ((-2 : Int32), (u1 P 109 0 (0 : Int32)))) else (if ((u1 P 109 0 (0 : Int32)).1 110 (113 : Int32).toNatClampNeg) = (-1 : Int32) then (some ((-5 : Int32), (u1 P 109 0 (0 : Int32)))) else ((f_Mo_laysThen ((u1 P 109 0 (0 : Int32)).1 110 (116 : Int32).toNatClampNeg) (u1 P 109 0 (0 : Int32))).bind (fun P4 => (f_Mo_laysReached P4).bind (fun P5 => l_Mo_biggest_50 FU a1 (-1 : Int32) (1 : Int32) P5)))))
theorem t_j_Mo_biggest_74 {G : GX} (hG : GOK G) {E : EV} (hE : E0 E) (d : Nat) (hd : 5 ≤ d) {Q : QT} (k50 : Int32 → Int32 → Int32 → PM → Option (Int32 × PM)) (hk50 : ∀ (x1 : Int32) (x2 : Int32) (x3 : Int32) (P : PM), St E rIP (k50 x1 x2 x3 P) Q → Go G c_Mo_biggest "YawnRouteModel" 4 (some .int) false d nOb nOb Q 50 [(0, .ref (ad E 109)), (1, .int x1), (2, .int x2), (3, .int x3)] [] P E) (x1 : Int32) (x3 : Int32) (s0 : Int32) (P : PM) (h : St E rIP (j_Mo_biggest_74 k50 x1 x3 s0 P) Q) : Go G c_Mo_biggest "YawnRouteModel" 4 (some .int) false d nOb nOb Q 74 [(0, .ref (ad E 109)), (1, .int x1), (3, .int x3)] [.int s0] P E := by
  rw [j_Mo_biggest_74] at h
  refine Go.istore_n (k := 2) (i := 2) [(2, .int s0), (0, .ref (ad E 109)), (1, .int x1), (3, .int x3)] (by decide +kernel) rfl (by decide) rfl ?_
  refine Go.iinc (i := 3) (n := 1) 3 (x3 + (1 : Int32)) [(3, .int (x3 + (1 : Int32))), (2, .int s0), (0, .ref (ad E 109)), (1, .int x1)] (by decide +kernel) rfl rfl (by decide) rfl ?_
  refine Go.goto (off := -28) 50 (by decide +kernel) (by decide) ?_
  refine Go.sub [2, 3, 1, 0] [(0, .ref (ad E 109)), (1, .int x1), (2, .int s0), (3, .int (x3 + (1 : Int32)))] rfl ?_
  exact hk50 x1 s0 (x3 + (1 : Int32)) P h
theorem t_l_Mo_biggest_50 {G : GX} (hG : GOK G) {E : EV} (hE : E0 E) (d : Nat) (hd : 5 ≤ d) {Q : QT} : ∀ (n : Nat) (x1 : Int32) (x2 : Int32) (x3 : Int32) (P : PM), St E rIP (l_Mo_biggest_50 n x1 x2 x3 P) Q → Go G c_Mo_biggest "YawnRouteModel" 4 (some .int) false d nOb nOb Q 50 [(0, .ref (ad E 109)), (1, .int x1), (2, .int x2), (3, .int x3)] [] P E := by
  intro n
  induction n with
  | zero =>
    intro x1 x2 x3 P h
    rw [l_Mo_biggest_50] at h
    exact St.none_ h
  | succ n ih =>
    intro x1 x2 x3 P h
    rw [l_Mo_biggest_50] at h
    refine Go.iload_n (k := 3) (i := 3) 3 (by decide +kernel) rfl rfl ?_
    refine Go.bipush (n := 40) (40 : Int32) (by decide +kernel) (by decide) ?_
    refine Go.icmp_gt (off := 28) 81 (by decide +kernel) (by decide) (fun c1 => ?_) (fun c1 => ?_)
    · rw [if_pos c1] at h
      refine Go.iload_n (k := 2) (i := 2) 2 (by decide +kernel) rfl rfl ?_
      exact Go.iret rfl rfl hE.2 (by decide +kernel) (St.fIP h)
    · rw [if_neg c1] at h
      refine Go.aload_n (k := 0) (i := 0) 0 (by decide +kernel) rfl rfl ?_
      refine Go.get 109 22 (.ref (ad E 119)) (by decide) (by decide) sh109 (ltO hE sh109) (vlR hE rfl rfl) lk1352 (by decide +kernel) ?_
      refine Go.iload_n (k := 1) (i := 1) 1 (by decide +kernel) rfl rfl ?_
      refine Go.iload_n (k := 3) (i := 3) 3 (by decide +kernel) rfl rfl ?_
      refine Go.cS_i (P1 := P) (v := (f_Mo_standOf x1 x3 P)) (d - 1) [.int x1, .int x3] hE w_Mo_standOf (e_Mo_standOf hG hE (d - 1) (by omega) x1 x3 P ⟨rfl, rfl, rfl⟩) lk1704 rfl (by omega) (Nat.le_of_ble_eq_true rfl) (by decide +kernel) _ rfl ?_
      obtain ⟨b2, h⟩ := St.ck h
      refine Go.zaload 119 287 sh119 (ltA hE sh119 (by decide)) (inb_in b2) (by decide +kernel) ?_
      refine Go.if_eq (off := 7) 73 (by decide +kernel) (by decide) (fun c3 => ?_) (fun c3 => ?_)
      · rw [if_pos c3] at h
        refine Go.iload_n (k := 2) (i := 2) 2 (by decide +kernel) rfl rfl ?_
        refine Go.sub [0, 1, 3] [(0, .ref (ad E 109)), (1, .int x1), (3, .int x3)] rfl ?_
        exact t_j_Mo_biggest_74 hG hE d hd (fun z0 z1 z2 Pz => l_Mo_biggest_50 n z0 z1 z2 Pz) (fun z0 z1 z2 Pz q => ih z0 z1 z2 Pz q) x1 x3 x2 P h
      · rw [if_neg c3] at h
        refine Go.iload_n (k := 3) (i := 3) 3 (by decide +kernel) rfl rfl ?_
        refine Go.goto (off := 4) 74 (by decide +kernel) (by decide) ?_
        refine Go.sub [0, 1, 3] [(0, .ref (ad E 109)), (1, .int x1), (3, .int x3)] rfl ?_
        exact t_j_Mo_biggest_74 hG hE d hd (fun z0 z1 z2 Pz => l_Mo_biggest_50 n z0 z1 z2 Pz) (fun z0 z1 z2 Pz q => ih z0 z1 z2 Pz q) x1 x3 x3 P h
theorem t_f_Mo_biggest {G : GX} (hG : GOK G) {E : EV} (hE : E0 E) (d : Nat) (hd : 5 ≤ d) {Q : QT} (a1 : Int32) (P : PM) (h : St E rIP (f_Mo_biggest a1 P) Q) : Go G c_Mo_biggest "YawnRouteModel" 4 (some .int) false d nOb nOb Q 0 [(0, .ref (ad E 109)), (1, .int a1)] [] P E := by
  rw [f_Mo_biggest] at h
  refine Go.aload_n (k := 0) (i := 0) 0 (by decide +kernel) rfl rfl ?_
  refine Go.iconst (n := 0) (0 : Int32) (by decide +kernel) rfl ?_
  refine Go.put 109 0 (by decide) (by decide) sh109 (ltO hE sh109) (Or.inl rfl) rfl rfl rfl lk1330 (by decide +kernel) ?_
  refine Go.aload_n (k := 0) (i := 0) 0 (by decide +kernel) rfl rfl ?_
  refine Go.iload_n (k := 1) (i := 1) 1 (by decide +kernel) rfl rfl ?_
  refine Go.i2l (by decide +kernel) ?_
  obtain ⟨v1, hv1, h⟩ := St.bind h
  refine Go.cV_i (P1 := (u1 P 109 0 (0 : Int32))) (v := v1) (d - 1) 109 [.long (a1.toInt64)] sh109 hE w_Mo_isStation (e_Mo_isStation hG hE (d - 1) (by omega) (a1.toInt64) (u1 P 109 0 (0 : Int32)) ⟨_, hv1, rfl, rfl, rfl⟩) lk1555 rfl (by omega) (Nat.le_of_ble_eq_true rfl) (by decide +kernel) _ rfl ?_
  refine Go.if_ne (off := 6) 17 (by decide +kernel) (by decide) (fun c2 => ?_) (fun c2 => ?_)
  · rw [if_neg c2] at h
    refine Go.aload_n (k := 0) (i := 0) 0 (by decide +kernel) rfl rfl ?_
    refine Go.get 109 1 (.ref (ad E 110)) (by decide) (by decide) sh109 (ltO hE sh109) (vlR hE rfl rfl) lk1331 (by decide +kernel) ?_
    refine Go.bipush (n := 113) (113 : Int32) (by decide +kernel) (by decide) ?_
    refine Go.iaload 110 3408 sh110 (ltA hE sh110 (by decide)) (vp_in_iff.mpr (by decide)) (by decide +kernel) ?_
    refine Go.iconst (n := -1) (-1 : Int32) (by decide +kernel) rfl ?_
    refine Go.icmp_ne (off := 6) 31 (by decide +kernel) (by decide) (fun c3 => ?_) (fun c3 => ?_)
    · rw [if_neg c3] at h
      refine Go.aload_n (k := 0) (i := 0) 0 (by decide +kernel) rfl rfl ?_
      refine Go.aload_n (k := 0) (i := 0) 0 (by decide +kernel) rfl rfl ?_
      refine Go.get 109 1 (.ref (ad E 110)) (by decide) (by decide) sh109 (ltO hE sh109) (vlR hE rfl rfl) lk1331 (by decide +kernel) ?_
      refine Go.bipush (n := 116) (116 : Int32) (by decide +kernel) (by decide) ?_
      refine Go.iaload 110 3408 sh110 (ltA hE sh110 (by decide)) (vp_in_iff.mpr (by decide)) (by decide +kernel) ?_
      obtain ⟨P4, hP4, h⟩ := St.bind h
      refine Go.cV_v (P1 := P4) (d - 1) 109 [.int ((u1 P 109 0 (0 : Int32)).1 110 (116 : Int32).toNatClampNeg)] sh109 hE w_Mo_laysThen (e_Mo_laysThen hG hE (d - 1) (by omega) ((u1 P 109 0 (0 : Int32)).1 110 (116 : Int32).toNatClampNeg) (u1 P 109 0 (0 : Int32)) ⟨_, hP4, rfl, rfl, rfl⟩) lk1700 rfl (by omega) (Nat.le_of_ble_eq_true rfl) (by decide +kernel) _ rfl ?_
      refine Go.aload_n (k := 0) (i := 0) 0 (by decide +kernel) rfl rfl ?_
      obtain ⟨P5, hP5, h⟩ := St.bind h
      refine Go.cV_v (P1 := P5) (d - 1) 109 [] sh109 hE w_Mo_laysReached (e_Mo_laysReached hG hE (d - 1) (by omega) P4 ⟨_, hP5, rfl, rfl, rfl⟩) lk1748 rfl (by omega) (Nat.le_of_ble_eq_true rfl) (by decide +kernel) _ rfl ?_
      refine Go.iconst (n := -1) (-1 : Int32) (by decide +kernel) rfl ?_
      refine Go.istore_n (k := 2) (i := 2) [(2, .int (-1 : Int32)), (0, .ref (ad E 109)), (1, .int a1)] (by decide +kernel) rfl (by decide) rfl ?_
      refine Go.iconst (n := 1) (1 : Int32) (by decide +kernel) rfl ?_
      refine Go.istore_n (k := 3) (i := 3) [(3, .int (1 : Int32)), (2, .int (-1 : Int32)), (0, .ref (ad E 109)), (1, .int a1)] (by decide +kernel) rfl (by decide) rfl ?_
      refine Go.sub [2, 3, 1, 0] [(0, .ref (ad E 109)), (1, .int a1), (2, .int (-1 : Int32)), (3, .int (1 : Int32))] rfl ?_
      exact t_l_Mo_biggest_50 hG hE d hd FU a1 (-1 : Int32) (1 : Int32) P5 h
    · rw [if_pos c3] at h
      refine Go.bipush (n := -5) (-5 : Int32) (by decide +kernel) (by decide) ?_
      exact Go.iret rfl rfl hE.2 (by decide +kernel) (St.fIP h)
  · rw [if_pos c2] at h
    refine Go.bipush (n := -2) (-2 : Int32) (by decide +kernel) (by decide) ?_
    exact Go.iret rfl rfl hE.2 (by decide +kernel) (St.fIP h)
theorem e_Mo_biggest {G : GX} (hG : GOK G) {E : EV} (hE : E0 E) (d : Nat) (hd : 5 ≤ d) (a1 : Int32) (P : PM) {Q : QT} (h : St E rIP (f_Mo_biggest a1 P) Q) : Con G y_Mo_biggest cw_Mo_biggest d nOb nOb [.ref (ad E 109), .int a1] P E Q :=
  Con.of hG (by decide +kernel) rfl (fun h => by cases h) hE.2 (Nat.le_of_ble_eq_true rfl) (t_f_Mo_biggest hG hE d hd a1 P h)
abbrev c_Mo_reachBy : ByteArray := prog_14_method_83_code
abbrev y_Mo_reachBy : MethodName := ⟨"YawnRouteModel", "reachBy", "(I)I"⟩
abbrev cw_Mo_reachBy : Cond := .code y_Mo_reachBy c_Mo_reachBy 4 (some .int)
theorem w_Mo_reachBy : VW 12 y_Mo_reachBy c_Mo_reachBy 4 (some .int) 1 := ⟨by decide, lk1758, lp98_, lk14, lk1759, ⟨by decide, by decide, by decide +kernel⟩, by decide⟩
noncomputable def j_Mo_reachBy_40 (k13 : Int32 → Int32 → PM → Option (Int32 × PM)) (x3 : Int32) (s0 : Int32) (s1 : Int32) (P : PM) : Option (Int32 × PM) := lb (s0 ||| s1) (fun y1 => k13 y1 (x3 + (1 : Int32)) P)
noncomputable def l_Mo_reachBy_13 : Nat → Int32 → Int32 → PM → Option (Int32 × PM)
  | 0, _, _, _ => none
  | n + 1, x2, x3, P => if (287 : Int32) ≤ x3 then (some (x2, P)) else (ck (inb x3 287) (if (P.1 119 x3.toNatClampNeg) = (0 : Int32) then (j_Mo_reachBy_40 (fun z0 z1 Pz => l_Mo_reachBy_13 n z0 z1 Pz) x3 x2 (0 : Int32) P) else (j_Mo_reachBy_40 (fun z0 z1 Pz => l_Mo_reachBy_13 n z0 z1 Pz) x3 x2 ((1 : Int32) <<< ((x3 / (41 : Int32)) &&& 31)) P)))
noncomputable def f_Mo_reachBy (a1 : Int32) (P : PM) : Option (Int32 × PM) := (f_Mo_laysThen a1 P).bind (fun P1 => (f_Mo_laysReached P1).bind (fun P2 => l_Mo_reachBy_13 FU (0 : Int32) (0 : Int32) P2))
theorem t_j_Mo_reachBy_40 {G : GX} (hG : GOK G) {E : EV} (hE : E0 E) (d : Nat) (hd : 5 ≤ d) {Q : QT} (k13 : Int32 → Int32 → PM → Option (Int32 × PM)) (hk13 : ∀ (x2 : Int32) (x3 : Int32) (P : PM), St E rIP (k13 x2 x3 P) Q → Go G c_Mo_reachBy "YawnRouteModel" 4 (some .int) false d nOb nOb Q 13 [(0, .ref (ad E 109)), (2, .int x2), (3, .int x3)] [] P E) (x3 : Int32) (s0 : Int32) (s1 : Int32) (P : PM) (h : St E rIP (j_Mo_reachBy_40 k13 x3 s0 s1 P) Q) : Go G c_Mo_reachBy "YawnRouteModel" 4 (some .int) false d nOb nOb Q 40 [(0, .ref (ad E 109)), (3, .int x3)] [.int s1, .int s0] P E := by
  rw [j_Mo_reachBy_40] at h
  refine Go.ior (by decide +kernel) ?_
  obtain ⟨y1, hy1, h⟩ := St.lb h
  refine Go.eqi y1 hy1 ?_
  refine Go.istore_n (k := 2) (i := 2) [(2, .int y1), (0, .ref (ad E 109)), (3, .int x3)] (by decide +kernel) rfl (by decide) rfl ?_
  refine Go.iinc (i := 3) (n := 1) 2 (x3 + (1 : Int32)) [(3, .int (x3 + (1 : Int32))), (2, .int y1), (0, .ref (ad E 109))] (by decide +kernel) rfl rfl (by decide) rfl ?_
  refine Go.goto (off := -32) 13 (by decide +kernel) (by decide) ?_
  refine Go.sub [2, 1, 0] [(0, .ref (ad E 109)), (2, .int y1), (3, .int (x3 + (1 : Int32)))] rfl ?_
  exact hk13 y1 (x3 + (1 : Int32)) P h
theorem t_l_Mo_reachBy_13 {G : GX} (hG : GOK G) {E : EV} (hE : E0 E) (d : Nat) (hd : 5 ≤ d) {Q : QT} : ∀ (n : Nat) (x2 : Int32) (x3 : Int32) (P : PM), St E rIP (l_Mo_reachBy_13 n x2 x3 P) Q → Go G c_Mo_reachBy "YawnRouteModel" 4 (some .int) false d nOb nOb Q 13 [(0, .ref (ad E 109)), (2, .int x2), (3, .int x3)] [] P E := by
  intro n
  induction n with
  | zero =>
    intro x2 x3 P h
    rw [l_Mo_reachBy_13] at h
    exact St.none_ h
  | succ n ih =>
    intro x2 x3 P h
    rw [l_Mo_reachBy_13] at h
    refine Go.iload_n (k := 3) (i := 3) 2 (by decide +kernel) rfl rfl ?_
    refine Go.sipush (n := 287) (287 : Int32) (by decide +kernel) (by decide) ?_
    refine Go.icmp_ge (off := 31) 48 (by decide +kernel) (by decide) (fun c1 => ?_) (fun c1 => ?_)
    · rw [if_pos c1] at h
      refine Go.iload_n (k := 2) (i := 2) 1 (by decide +kernel) rfl rfl ?_
      exact Go.iret rfl rfl hE.2 (by decide +kernel) (St.fIP h)
    · rw [if_neg c1] at h
      refine Go.iload_n (k := 2) (i := 2) 1 (by decide +kernel) rfl rfl ?_
      refine Go.aload_n (k := 0) (i := 0) 0 (by decide +kernel) rfl rfl ?_
      refine Go.get 109 22 (.ref (ad E 119)) (by decide) (by decide) sh109 (ltO hE sh109) (vlR hE rfl rfl) lk1352 (by decide +kernel) ?_
      refine Go.iload_n (k := 3) (i := 3) 2 (by decide +kernel) rfl rfl ?_
      obtain ⟨b2, h⟩ := St.ck h
      refine Go.zaload 119 287 sh119 (ltA hE sh119 (by decide)) (inb_in b2) (by decide +kernel) ?_
      refine Go.if_eq (off := 12) 39 (by decide +kernel) (by decide) (fun c3 => ?_) (fun c3 => ?_)
      · rw [if_pos c3] at h
        refine Go.iconst (n := 0) (0 : Int32) (by decide +kernel) rfl ?_
        refine Go.sub [0, 2] [(0, .ref (ad E 109)), (3, .int x3)] rfl ?_
        exact t_j_Mo_reachBy_40 hG hE d hd (fun z0 z1 Pz => l_Mo_reachBy_13 n z0 z1 Pz) (fun z0 z1 Pz q => ih z0 z1 Pz q) x3 x2 (0 : Int32) P h
      · rw [if_neg c3] at h
        refine Go.iconst (n := 1) (1 : Int32) (by decide +kernel) rfl ?_
        refine Go.iload_n (k := 3) (i := 3) 2 (by decide +kernel) rfl rfl ?_
        refine Go.bipush (n := 41) (41 : Int32) (by decide +kernel) (by decide) ?_
        refine Go.idiv (by decide +kernel) (by decide) ?_
        refine Go.ishl (by decide +kernel) ?_
        refine Go.goto (off := 4) 40 (by decide +kernel) (by decide) ?_
        refine Go.sub [0, 2] [(0, .ref (ad E 109)), (3, .int x3)] rfl ?_
        exact t_j_Mo_reachBy_40 hG hE d hd (fun z0 z1 Pz => l_Mo_reachBy_13 n z0 z1 Pz) (fun z0 z1 Pz q => ih z0 z1 Pz q) x3 x2 ((1 : Int32) <<< ((x3 / (41 : Int32)) &&& 31)) P h
theorem t_f_Mo_reachBy {G : GX} (hG : GOK G) {E : EV} (hE : E0 E) (d : Nat) (hd : 5 ≤ d) {Q : QT} (a1 : Int32) (P : PM) (h : St E rIP (f_Mo_reachBy a1 P) Q) : Go G c_Mo_reachBy "YawnRouteModel" 4 (some .int) false d nOb nOb Q 0 [(0, .ref (ad E 109)), (1, .int a1)] [] P E := by
  rw [f_Mo_reachBy] at h
  refine Go.aload_n (k := 0) (i := 0) 0 (by decide +kernel) rfl rfl ?_
  refine Go.iload_n (k := 1) (i := 1) 1 (by decide +kernel) rfl rfl ?_
  obtain ⟨P1, hP1, h⟩ := St.bind h
  refine Go.cV_v (P1 := P1) (d - 1) 109 [.int a1] sh109 hE w_Mo_laysThen (e_Mo_laysThen hG hE (d - 1) (by omega) a1 P ⟨_, hP1, rfl, rfl, rfl⟩) lk1700 rfl (by omega) (Nat.le_of_ble_eq_true rfl) (by decide +kernel) _ rfl ?_
  refine Go.aload_n (k := 0) (i := 0) 0 (by decide +kernel) rfl rfl ?_
  obtain ⟨P2, hP2, h⟩ := St.bind h
  refine Go.cV_v (P1 := P2) (d - 1) 109 [] sh109 hE w_Mo_laysReached (e_Mo_laysReached hG hE (d - 1) (by omega) P1 ⟨_, hP2, rfl, rfl, rfl⟩) lk1748 rfl (by omega) (Nat.le_of_ble_eq_true rfl) (by decide +kernel) _ rfl ?_
  refine Go.iconst (n := 0) (0 : Int32) (by decide +kernel) rfl ?_
  refine Go.istore_n (k := 2) (i := 2) [(2, .int (0 : Int32)), (0, .ref (ad E 109)), (1, .int a1)] (by decide +kernel) rfl (by decide) rfl ?_
  refine Go.iconst (n := 0) (0 : Int32) (by decide +kernel) rfl ?_
  refine Go.istore_n (k := 3) (i := 3) [(3, .int (0 : Int32)), (2, .int (0 : Int32)), (0, .ref (ad E 109)), (1, .int a1)] (by decide +kernel) rfl (by decide) rfl ?_
  refine Go.sub [2, 1, 0] [(0, .ref (ad E 109)), (2, .int (0 : Int32)), (3, .int (0 : Int32))] rfl ?_
  exact t_l_Mo_reachBy_13 hG hE d hd FU (0 : Int32) (0 : Int32) P2 h
theorem e_Mo_reachBy {G : GX} (hG : GOK G) {E : EV} (hE : E0 E) (d : Nat) (hd : 5 ≤ d) (a1 : Int32) (P : PM) {Q : QT} (h : St E rIP (f_Mo_reachBy a1 P) Q) : Con G y_Mo_reachBy cw_Mo_reachBy d nOb nOb [.ref (ad E 109), .int a1] P E Q :=
  Con.of hG (by decide +kernel) rfl (fun h => by cases h) hE.2 (Nat.le_of_ble_eq_true rfl) (t_f_Mo_reachBy hG hE d hd a1 P h)
abbrev c_Mo_reach : ByteArray := prog_14_method_84_code
abbrev y_Mo_reach : MethodName := ⟨"YawnRouteModel", "reach", "()I"⟩
abbrev cw_Mo_reach : Cond := .code y_Mo_reach c_Mo_reach 1 (some .int)
theorem w_Mo_reach : VW 12 y_Mo_reach c_Mo_reach 1 (some .int) 0 := ⟨by decide, lk1753, lk1754, lk14, lk1755, ⟨by decide, by decide, by decide +kernel⟩, by decide⟩
noncomputable def f_Mo_reach (P : PM) : Option (Int32 × PM) := if ((u1 P 109 0 (0 : Int32)).1 110 (113 : Int32).toNatClampNeg) = (-1 : Int32) then (some ((-5 : Int32), (u1 P 109 0 (0 : Int32)))) else (bd2 (f_Mo_reachBy ((u1 P 109 0 (0 : Int32)).1 110 (116 : Int32).toNatClampNeg) (u1 P 109 0 (0 : Int32))) (fun v2 P3 => some (v2, P3)))
theorem t_f_Mo_reach {G : GX} (hG : GOK G) {E : EV} (hE : E0 E) (d : Nat) (hd : 6 ≤ d) {Q : QT} (P : PM) (h : St E rIP (f_Mo_reach P) Q) : Go G c_Mo_reach "YawnRouteModel" 1 (some .int) false d nOb nOb Q 0 [(0, .ref (ad E 109))] [] P E := by
  rw [f_Mo_reach] at h
  refine Go.aload_n (k := 0) (i := 0) 0 (by decide +kernel) rfl rfl ?_
  refine Go.iconst (n := 0) (0 : Int32) (by decide +kernel) rfl ?_
  refine Go.put 109 0 (by decide) (by decide) sh109 (ltO hE sh109) (Or.inl rfl) rfl rfl rfl lk1330 (by decide +kernel) ?_
  refine Go.aload_n (k := 0) (i := 0) 0 (by decide +kernel) rfl rfl ?_
  refine Go.get 109 1 (.ref (ad E 110)) (by decide) (by decide) sh109 (ltO hE sh109) (vlR hE rfl rfl) lk1331 (by decide +kernel) ?_
  refine Go.bipush (n := 113) (113 : Int32) (by decide +kernel) (by decide) ?_
  refine Go.iaload 110 3408 sh110 (ltA hE sh110 (by decide)) (vp_in_iff.mpr (by decide)) (by decide +kernel) ?_
  refine Go.iconst (n := -1) (-1 : Int32) (by decide +kernel) rfl ?_
  refine Go.icmp_ne (off := 8) 21 (by decide +kernel) (by decide) (fun c1 => ?_) (fun c1 => ?_)
  · rw [if_neg c1] at h
    refine Go.aload_n (k := 0) (i := 0) 0 (by decide +kernel) rfl rfl ?_
    refine Go.aload_n (k := 0) (i := 0) 0 (by decide +kernel) rfl rfl ?_
    refine Go.get 109 1 (.ref (ad E 110)) (by decide) (by decide) sh109 (ltO hE sh109) (vlR hE rfl rfl) lk1331 (by decide +kernel) ?_
    refine Go.bipush (n := 116) (116 : Int32) (by decide +kernel) (by decide) ?_
    refine Go.iaload 110 3408 sh110 (ltA hE sh110 (by decide)) (vp_in_iff.mpr (by decide)) (by decide +kernel) ?_
    obtain ⟨v2, P3, hv2, h⟩ := St.bd2 h
    refine Go.cV_i (P1 := P3) (v := v2) (d - 1) 109 [.int ((u1 P 109 0 (0 : Int32)).1 110 (116 : Int32).toNatClampNeg)] sh109 hE w_Mo_reachBy (e_Mo_reachBy hG hE (d - 1) (by omega) ((u1 P 109 0 (0 : Int32)).1 110 (116 : Int32).toNatClampNeg) (u1 P 109 0 (0 : Int32)) ⟨_, hv2, rfl, rfl, rfl⟩) lk1756 rfl (by omega) (Nat.le_of_ble_eq_true rfl) (by decide +kernel) _ rfl ?_
    exact Go.iret rfl rfl hE.2 (by decide +kernel) (St.fIP h)
  · rw [if_pos c1] at h
    refine Go.bipush (n := -5) (-5 : Int32) (by decide +kernel) (by decide) ?_
    refine Go.goto (off := 14) 32 (by decide +kernel) (by decide) ?_
    exact Go.iret rfl rfl hE.2 (by decide +kernel) (St.fIP h)
theorem e_Mo_reach {G : GX} (hG : GOK G) {E : EV} (hE : E0 E) (d : Nat) (hd : 6 ≤ d) (P : PM) {Q : QT} (h : St E rIP (f_Mo_reach P) Q) : Con G y_Mo_reach cw_Mo_reach d nOb nOb [.ref (ad E 109)] P E Q :=
  Con.of hG (by decide +kernel) rfl (fun h => by cases h) hE.2 (Nat.le_of_ble_eq_true rfl) (t_f_Mo_reach hG hE d hd P h)
abbrev c_Mo_needed : ByteArray := prog_14_method_85_code
abbrev y_Mo_needed : MethodName := ⟨"YawnRouteModel", "needed", "(I)I"⟩
abbrev cw_Mo_needed : Cond := .code y_Mo_needed c_Mo_needed 4 (some .int)
theorem w_Mo_needed : VW 12 y_Mo_needed c_Mo_needed 4 (some .int) 1 := ⟨by decide, lk1761, lk1762, lk14, lk1763, ⟨by decide, by decide, by decide +kernel⟩, by decide⟩
noncomputable def j_Mo_needed_111 (k56 : Int32 → Int32 → Int32 → PM → Option (Int32 × PM)) (x1 : Int32) (x2 : Int32) (x3 : Int32) (P : PM) : Option (Int32 × PM) := k56 x1 x2 (x3 + (1 : Int32)) P
noncomputable def l_Mo_needed_56 : Nat → Int32 → Int32 → Int32 → PM → Option (Int32 × PM)
  | 0, _, _, _, _ => none
  | n + 1, x1, x2, x3, P => if (P.1 110 (1 : Int32).toNatClampNeg) ≤ x3 then (some (x2, P)) else (if x3 = x1 then (j_Mo_needed_111 (fun z0 z1 z2 Pz => l_Mo_needed_56 n z0 z1 z2 Pz) x1 x2 x3 P) else (if x3 = (P.1 110 (113 : Int32).toNatClampNeg) then (j_Mo_needed_111 (fun z0 z1 z2 Pz => l_Mo_needed_56 n z0 z1 z2 Pz) x1 x2 x3 P) else (bd2 (f_Mo_reachBy ((P.1 110 (116 : Int32).toNatClampNeg) ||| ((1 : Int32) <<< (x3 &&& 31))) P) (fun v4 P5 => if (f_Mo_isIn (v4.toInt64) x1 P5) = (0 : Int32) then (lb (x2 ||| ((1 : Int32) <<< (x3 &&& 31))) (fun y7 => j_Mo_needed_111 (fun z0 z1 z2 Pz => l_Mo_needed_56 n z0 z1 z2 Pz) x1 y7 x3 P5)) else (j_Mo_needed_111 (fun z0 z1 z2 Pz => l_Mo_needed_56 n z0 z1 z2 Pz) x1 x2 x3 P5)))))
noncomputable def f_Mo_needed (a1 : Int32) (P : PM) : Option (Int32 × PM) := (f_Mo_isStation (a1.toInt64) (u1 P 109 0 (0 : Int32))).bind (fun v1 => if v1 = (0 : Int32) then (some ((-2 : Int32), (u1 P 109 0 (0 : Int32)))) else (if ((u1 P 109 0 (0 : Int32)).1 110 (113 : Int32).toNatClampNeg) = (-1 : Int32) then (some ((-5 : Int32), (u1 P 109 0 (0 : Int32)))) else (bd2 (f_Mo_reachBy ((u1 P 109 0 (0 : Int32)).1 110 (116 : Int32).toNatClampNeg) (u1 P 109 0 (0 : Int32))) (fun v4 P5 => if (f_Mo_isIn (v4.toInt64) a1 P5) = (0 : Int32) then (some ((0 : Int32), P5)) else (l_Mo_needed_56 FU a1 (0 : Int32) (0 : Int32) P5)))))
theorem t_j_Mo_needed_111 {G : GX} (hG : GOK G) {E : EV} (hE : E0 E) (d : Nat) (hd : 6 ≤ d) {Q : QT} (k56 : Int32 → Int32 → Int32 → PM → Option (Int32 × PM)) (hk56 : ∀ (x1 : Int32) (x2 : Int32) (x3 : Int32) (P : PM), St E rIP (k56 x1 x2 x3 P) Q → Go G c_Mo_needed "YawnRouteModel" 4 (some .int) false d nOb nOb Q 56 [(0, .ref (ad E 109)), (1, .int x1), (2, .int x2), (3, .int x3)] [] P E) (x1 : Int32) (x2 : Int32) (x3 : Int32) (P : PM) (h : St E rIP (j_Mo_needed_111 k56 x1 x2 x3 P) Q) : Go G c_Mo_needed "YawnRouteModel" 4 (some .int) false d nOb nOb Q 111 [(0, .ref (ad E 109)), (1, .int x1), (2, .int x2), (3, .int x3)] [] P E := by
  rw [j_Mo_needed_111] at h
  refine Go.iinc (i := 3) (n := 1) 3 (x3 + (1 : Int32)) [(3, .int (x3 + (1 : Int32))), (0, .ref (ad E 109)), (1, .int x1), (2, .int x2)] (by decide +kernel) rfl rfl (by decide) rfl ?_
  refine Go.goto (off := -58) 56 (by decide +kernel) (by decide) ?_
  refine Go.sub [1, 2, 3, 0] [(0, .ref (ad E 109)), (1, .int x1), (2, .int x2), (3, .int (x3 + (1 : Int32)))] rfl ?_
  exact hk56 x1 x2 (x3 + (1 : Int32)) P h
theorem t_l_Mo_needed_56 {G : GX} (hG : GOK G) {E : EV} (hE : E0 E) (d : Nat) (hd : 6 ≤ d) {Q : QT} : ∀ (n : Nat) (x1 : Int32) (x2 : Int32) (x3 : Int32) (P : PM), St E rIP (l_Mo_needed_56 n x1 x2 x3 P) Q → Go G c_Mo_needed "YawnRouteModel" 4 (some .int) false d nOb nOb Q 56 [(0, .ref (ad E 109)), (1, .int x1), (2, .int x2), (3, .int x3)] [] P E := by
  intro n
  induction n with
  | zero =>
    intro x1 x2 x3 P h
    rw [l_Mo_needed_56] at h
    exact St.none_ h
  | succ n ih =>
    intro x1 x2 x3 P h
    rw [l_Mo_needed_56] at h
    refine Go.iload_n (k := 3) (i := 3) 3 (by decide +kernel) rfl rfl ?_
    refine Go.aload_n (k := 0) (i := 0) 0 (by decide +kernel) rfl rfl ?_
    refine Go.get 109 1 (.ref (ad E 110)) (by decide) (by decide) sh109 (ltO hE sh109) (vlR hE rfl rfl) lk1331 (by decide +kernel) ?_
    refine Go.iconst (n := 1) (1 : Int32) (by decide +kernel) rfl ?_
    refine Go.iaload 110 3408 sh110 (ltA hE sh110 (by decide)) (vp_in_iff.mpr (by decide)) (by decide +kernel) ?_
    refine Go.icmp_ge (off := 54) 117 (by decide +kernel) (by decide) (fun c1 => ?_) (fun c1 => ?_)
    · rw [if_pos c1] at h
      refine Go.iload_n (k := 2) (i := 2) 2 (by decide +kernel) rfl rfl ?_
      exact Go.iret rfl rfl hE.2 (by decide +kernel) (St.fIP h)
    · rw [if_neg c1] at h
      refine Go.iload_n (k := 3) (i := 3) 3 (by decide +kernel) rfl rfl ?_
      refine Go.iload_n (k := 1) (i := 1) 1 (by decide +kernel) rfl rfl ?_
      refine Go.icmp_eq (off := 43) 111 (by decide +kernel) (by decide) (fun c2 => ?_) (fun c2 => ?_)
      · rw [if_pos c2] at h
        exact t_j_Mo_needed_111 hG hE d hd (fun z0 z1 z2 Pz => l_Mo_needed_56 n z0 z1 z2 Pz) (fun z0 z1 z2 Pz q => ih z0 z1 z2 Pz q) x1 x2 x3 P h
      · rw [if_neg c2] at h
        refine Go.iload_n (k := 3) (i := 3) 3 (by decide +kernel) rfl rfl ?_
        refine Go.aload_n (k := 0) (i := 0) 0 (by decide +kernel) rfl rfl ?_
        refine Go.get 109 1 (.ref (ad E 110)) (by decide) (by decide) sh109 (ltO hE sh109) (vlR hE rfl rfl) lk1331 (by decide +kernel) ?_
        refine Go.bipush (n := 113) (113 : Int32) (by decide +kernel) (by decide) ?_
        refine Go.iaload 110 3408 sh110 (ltA hE sh110 (by decide)) (vp_in_iff.mpr (by decide)) (by decide +kernel) ?_
        refine Go.icmp_eq (off := 32) 111 (by decide +kernel) (by decide) (fun c3 => ?_) (fun c3 => ?_)
        · rw [if_pos c3] at h
          exact t_j_Mo_needed_111 hG hE d hd (fun z0 z1 z2 Pz => l_Mo_needed_56 n z0 z1 z2 Pz) (fun z0 z1 z2 Pz q => ih z0 z1 z2 Pz q) x1 x2 x3 P h
        · rw [if_neg c3] at h
          refine Go.aload_n (k := 0) (i := 0) 0 (by decide +kernel) rfl rfl ?_
          refine Go.aload_n (k := 0) (i := 0) 0 (by decide +kernel) rfl rfl ?_
          refine Go.get 109 1 (.ref (ad E 110)) (by decide) (by decide) sh109 (ltO hE sh109) (vlR hE rfl rfl) lk1331 (by decide +kernel) ?_
          refine Go.bipush (n := 116) (116 : Int32) (by decide +kernel) (by decide) ?_
          refine Go.iaload 110 3408 sh110 (ltA hE sh110 (by decide)) (vp_in_iff.mpr (by decide)) (by decide +kernel) ?_
          refine Go.iconst (n := 1) (1 : Int32) (by decide +kernel) rfl ?_
          refine Go.iload_n (k := 3) (i := 3) 3 (by decide +kernel) rfl rfl ?_
          refine Go.ishl (by decide +kernel) ?_
          refine Go.ior (by decide +kernel) ?_
          obtain ⟨v4, P5, hv4, h⟩ := St.bd2 h
          refine Go.cV_i (P1 := P5) (v := v4) (d - 1) 109 [.int ((P.1 110 (116 : Int32).toNatClampNeg) ||| ((1 : Int32) <<< (x3 &&& 31)))] sh109 hE w_Mo_reachBy (e_Mo_reachBy hG hE (d - 1) (by omega) ((P.1 110 (116 : Int32).toNatClampNeg) ||| ((1 : Int32) <<< (x3 &&& 31))) P ⟨_, hv4, rfl, rfl, rfl⟩) lk1756 rfl (by omega) (Nat.le_of_ble_eq_true rfl) (by decide +kernel) _ rfl ?_
          refine Go.i2l (by decide +kernel) ?_
          refine Go.iload_n (k := 1) (i := 1) 1 (by decide +kernel) rfl rfl ?_
          refine Go.cS_i (P1 := P5) (v := (f_Mo_isIn (v4.toInt64) x1 P5)) (d - 1) [.long (v4.toInt64), .int x1] hE w_Mo_isIn (e_Mo_isIn hG hE (d - 1) (by omega) (v4.toInt64) x1 P5 ⟨rfl, rfl, rfl⟩) lk1579 rfl (by omega) (Nat.le_of_ble_eq_true rfl) (by decide +kernel) _ rfl ?_
          refine Go.if_ne (off := 9) 111 (by decide +kernel) (by decide) (fun c6 => ?_) (fun c6 => ?_)
          · rw [if_neg c6] at h
            exact t_j_Mo_needed_111 hG hE d hd (fun z0 z1 z2 Pz => l_Mo_needed_56 n z0 z1 z2 Pz) (fun z0 z1 z2 Pz q => ih z0 z1 z2 Pz q) x1 x2 x3 P5 h
          · rw [if_pos c6] at h
            refine Go.iload_n (k := 2) (i := 2) 2 (by decide +kernel) rfl rfl ?_
            refine Go.iconst (n := 1) (1 : Int32) (by decide +kernel) rfl ?_
            refine Go.iload_n (k := 3) (i := 3) 3 (by decide +kernel) rfl rfl ?_
            refine Go.ishl (by decide +kernel) ?_
            refine Go.ior (by decide +kernel) ?_
            obtain ⟨y7, hy7, h⟩ := St.lb h
            refine Go.eqi y7 hy7 ?_
            refine Go.istore_n (k := 2) (i := 2) [(2, .int y7), (0, .ref (ad E 109)), (1, .int x1), (3, .int x3)] (by decide +kernel) rfl (by decide) rfl ?_
            refine Go.sub [1, 2, 0, 3] [(0, .ref (ad E 109)), (1, .int x1), (2, .int y7), (3, .int x3)] rfl ?_
            exact t_j_Mo_needed_111 hG hE d hd (fun z0 z1 z2 Pz => l_Mo_needed_56 n z0 z1 z2 Pz) (fun z0 z1 z2 Pz q => ih z0 z1 z2 Pz q) x1 y7 x3 P5 h
theorem t_f_Mo_needed {G : GX} (hG : GOK G) {E : EV} (hE : E0 E) (d : Nat) (hd : 6 ≤ d) {Q : QT} (a1 : Int32) (P : PM) (h : St E rIP (f_Mo_needed a1 P) Q) : Go G c_Mo_needed "YawnRouteModel" 4 (some .int) false d nOb nOb Q 0 [(0, .ref (ad E 109)), (1, .int a1)] [] P E := by
  rw [f_Mo_needed] at h
  refine Go.aload_n (k := 0) (i := 0) 0 (by decide +kernel) rfl rfl ?_
  refine Go.iconst (n := 0) (0 : Int32) (by decide +kernel) rfl ?_
  refine Go.put 109 0 (by decide) (by decide) sh109 (ltO hE sh109) (Or.inl rfl) rfl rfl rfl lk1330 (by decide +kernel) ?_
  refine Go.aload_n (k := 0) (i := 0) 0 (by decide +kernel) rfl rfl ?_
  refine Go.iload_n (k := 1) (i := 1) 1 (by decide +kernel) rfl rfl ?_
  refine Go.i2l (by decide +kernel) ?_
  obtain ⟨v1, hv1, h⟩ := St.bind h
  refine Go.cV_i (P1 := (u1 P 109 0 (0 : Int32))) (v := v1) (d - 1) 109 [.long (a1.toInt64)] sh109 hE w_Mo_isStation (e_Mo_isStation hG hE (d - 1) (by omega) (a1.toInt64) (u1 P 109 0 (0 : Int32)) ⟨_, hv1, rfl, rfl, rfl⟩) lk1555 rfl (by omega) (Nat.le_of_ble_eq_true rfl) (by decide +kernel) _ rfl ?_
  refine Go.if_ne (off := 6) 17 (by decide +kernel) (by decide) (fun c2 => ?_) (fun c2 => ?_)
  · rw [if_neg c2] at h
    refine Go.aload_n (k := 0) (i := 0) 0 (by decide +kernel) rfl rfl ?_
    refine Go.get 109 1 (.ref (ad E 110)) (by decide) (by decide) sh109 (ltO hE sh109) (vlR hE rfl rfl) lk1331 (by decide +kernel) ?_
    refine Go.bipush (n := 113) (113 : Int32) (by decide +kernel) (by decide) ?_
    refine Go.iaload 110 3408 sh110 (ltA hE sh110 (by decide)) (vp_in_iff.mpr (by decide)) (by decide +kernel) ?_
    refine Go.iconst (n := -1) (-1 : Int32) (by decide +kernel) rfl ?_
    refine Go.icmp_ne (off := 6) 31 (by decide +kernel) (by decide) (fun c3 => ?_) (fun c3 => ?_)
    · rw [if_neg c3] at h
      refine Go.iconst (n := 0) (0 : Int32) (by decide +kernel) rfl ?_
      refine Go.istore_n (k := 2) (i := 2) [(2, .int (0 : Int32)), (0, .ref (ad E 109)), (1, .int a1)] (by decide +kernel) rfl (by decide) rfl ?_
      refine Go.aload_n (k := 0) (i := 0) 1 (by decide +kernel) rfl rfl ?_
      refine Go.aload_n (k := 0) (i := 0) 1 (by decide +kernel) rfl rfl ?_
      refine Go.get 109 1 (.ref (ad E 110)) (by decide) (by decide) sh109 (ltO hE sh109) (vlR hE rfl rfl) lk1331 (by decide +kernel) ?_
      refine Go.bipush (n := 116) (116 : Int32) (by decide +kernel) (by decide) ?_
      refine Go.iaload 110 3408 sh110 (ltA hE sh110 (by decide)) (vp_in_iff.mpr (by decide)) (by decide +kernel) ?_
      obtain ⟨v4, P5, hv4, h⟩ := St.bd2 h
      refine Go.cV_i (P1 := P5) (v := v4) (d - 1) 109 [.int ((u1 P 109 0 (0 : Int32)).1 110 (116 : Int32).toNatClampNeg)] sh109 hE w_Mo_reachBy (e_Mo_reachBy hG hE (d - 1) (by omega) ((u1 P 109 0 (0 : Int32)).1 110 (116 : Int32).toNatClampNeg) (u1 P 109 0 (0 : Int32)) ⟨_, hv4, rfl, rfl, rfl⟩) lk1756 rfl (by omega) (Nat.le_of_ble_eq_true rfl) (by decide +kernel) _ rfl ?_
      refine Go.i2l (by decide +kernel) ?_
      refine Go.iload_n (k := 1) (i := 1) 2 (by decide +kernel) rfl rfl ?_
      refine Go.cS_i (P1 := P5) (v := (f_Mo_isIn (v4.toInt64) a1 P5)) (d - 1) [.long (v4.toInt64), .int a1] hE w_Mo_isIn (e_Mo_isIn hG hE (d - 1) (by omega) (v4.toInt64) a1 P5 ⟨rfl, rfl, rfl⟩) lk1579 rfl (by omega) (Nat.le_of_ble_eq_true rfl) (by decide +kernel) _ rfl ?_
      refine Go.if_ne (off := 5) 54 (by decide +kernel) (by decide) (fun c6 => ?_) (fun c6 => ?_)
      · rw [if_neg c6] at h
        refine Go.iconst (n := 0) (0 : Int32) (by decide +kernel) rfl ?_
        refine Go.istore_n (k := 3) (i := 3) [(3, .int (0 : Int32)), (2, .int (0 : Int32)), (0, .ref (ad E 109)), (1, .int a1)] (by decide +kernel) rfl (by decide) rfl ?_
        refine Go.sub [2, 3, 1, 0] [(0, .ref (ad E 109)), (1, .int a1), (2, .int (0 : Int32)), (3, .int (0 : Int32))] rfl ?_
        exact t_l_Mo_needed_56 hG hE d hd FU a1 (0 : Int32) (0 : Int32) P5 h
      · rw [if_pos c6] at h
        refine Go.iload_n (k := 2) (i := 2) 0 (by decide +kernel) rfl rfl ?_
        exact Go.iret rfl rfl hE.2 (by decide +kernel) (St.fIP h)
    · rw [if_pos c3] at h
      refine Go.bipush (n := -5) (-5 : Int32) (by decide +kernel) (by decide) ?_
      exact Go.iret rfl rfl hE.2 (by decide +kernel) (St.fIP h)
  · rw [if_pos c2] at h
    refine Go.bipush (n := -2) (-2 : Int32) (by decide +kernel) (by decide) ?_
    exact Go.iret rfl rfl hE.2 (by decide +kernel) (St.fIP h)
theorem e_Mo_needed {G : GX} (hG : GOK G) {E : EV} (hE : E0 E) (d : Nat) (hd : 6 ≤ d) (a1 : Int32) (P : PM) {Q : QT} (h : St E rIP (f_Mo_needed a1 P) Q) : Con G y_Mo_needed cw_Mo_needed d nOb nOb [.ref (ad E 109), .int a1] P E Q :=
  Con.of hG (by decide +kernel) rfl (fun h => by cases h) hE.2 (Nat.le_of_ble_eq_true rfl) (t_f_Mo_needed hG hE d hd a1 P h)
abbrev c_Mo_sleepers : ByteArray := prog_14_method_86_code
abbrev y_Mo_sleepers : MethodName := ⟨"YawnRouteModel", "sleepers", "(II)I"⟩
abbrev cw_Mo_sleepers : Cond := .code y_Mo_sleepers c_Mo_sleepers 5 (some .int)
theorem w_Mo_sleepers : VW 12 y_Mo_sleepers c_Mo_sleepers 5 (some .int) 2 := ⟨by decide, lk1765, lk1766, lk14, lk1767, ⟨by decide, by decide, by decide +kernel⟩, by decide⟩
noncomputable def j_Mo_sleepers_143 (k46 : Int32 → Int32 → Int32 → Int32 → PM → Option (Int32 × PM)) (x1 : Int32) (x2 : Int32) (x3 : Int32) (x4 : Int32) (P : PM) : Option (Int32 × PM) := k46 x1 x2 x3 (x4 + (1 : Int32)) P
noncomputable def j_Mo_sleepers_118 (k46 : Int32 → Int32 → Int32 → Int32 → PM → Option (Int32 × PM)) (x1 : Int32) (x2 : Int32) (x3 : Int32) (x4 : Int32) (P : PM) : Option (Int32 × PM) := bd2 (f_Mo_reachBy ((P.1 110 (116 : Int32).toNatClampNeg) ||| x4) P) (fun v1 P2 => if (f_Mo_isIn (v1.toInt64) x1 P2) = (0 : Int32) then (j_Mo_sleepers_143 k46 x1 x2 x4 x4 P2) else (j_Mo_sleepers_143 k46 x1 x2 x3 x4 P2))
noncomputable def j_Mo_sleepers_159 (x3 : Int32) (P : PM) : Option (Int32 × PM) := some (x3, P)
noncomputable def l_Mo_sleepers_46 : Nat → Int32 → Int32 → Int32 → Int32 → PM → Option (Int32 × PM)
  | 0, _, _, _, _, _ => none
  | n + 1, x1, x2, x3, x4, P => if ((1 : Int32) <<< ((P.1 110 (1 : Int32).toNatClampNeg) &&& 31)) ≤ x4 then (if x3 = (-1 : Int32) then (j_Mo_sleepers_159 x3 P) else (if x2 = (1 : Int32) then (j_Mo_sleepers_159 x3 P) else ((f_Mo_bitsOf x3 P).bind (fun v4 => some (v4, P))))) else (if (f_Mo_isIn (x4.toInt64) x1 P) = (0 : Int32) then (if (f_Mo_isIn (x4.toInt64) (P.1 110 (113 : Int32).toNatClampNeg) P) = (0 : Int32) then (if (x4 &&& (P.1 110 (116 : Int32).toNatClampNeg)) = (0 : Int32) then (if x3 = (-1 : Int32) then (j_Mo_sleepers_118 (fun z0 z1 z2 z3 Pz => l_Mo_sleepers_46 n z0 z1 z2 z3 Pz) x1 x2 x3 x4 P) else ((f_Mo_bitsOf x4 P).bind (fun v9 => (f_Mo_bitsOf x3 P).bind (fun v10 => if v9 < v10 then (j_Mo_sleepers_118 (fun z0 z1 z2 z3 Pz => l_Mo_sleepers_46 n z0 z1 z2 z3 Pz) x1 x2 x3 x4 P) else (j_Mo_sleepers_143 (fun z0 z1 z2 z3 Pz => l_Mo_sleepers_46 n z0 z1 z2 z3 Pz) x1 x2 x3 x4 P))))) else (j_Mo_sleepers_143 (fun z0 z1 z2 z3 Pz => l_Mo_sleepers_46 n z0 z1 z2 z3 Pz) x1 x2 x3 x4 P)) else (j_Mo_sleepers_143 (fun z0 z1 z2 z3 Pz => l_Mo_sleepers_46 n z0 z1 z2 z3 Pz) x1 x2 x3 x4 P)) else (j_Mo_sleepers_143 (fun z0 z1 z2 z3 Pz => l_Mo_sleepers_46 n z0 z1 z2 z3 Pz) x1 x2 x3 x4 P))
noncomputable def f_Mo_sleepers (a1 : Int32) (a2 : Int32) (P : PM) : Option (Int32 × PM) := (f_Mo_isStation (a1.toInt64) (u1 P 109 0 (0 : Int32))).bind (fun v1 => if v1 = (0 : Int32) then (some ((-2 : Int32), (u1 P 109 0 (0 : Int32)))) else (if (f_Mo_within (a2.toInt64) (0 : Int64) (1 : Int64) (u1 P 109 0 (0 : Int32))) = (0 : Int32) then (some ((-2 : Int32), (u1 P 109 0 (0 : Int32)))) else (if ((u1 P 109 0 (0 : Int32)).1 110 (113 : Int32).toNatClampNeg) = (-1 : Int32) then (some ((-5 : Int32), (u1 P 109 0 (0 : Int32)))) else (l_Mo_sleepers_46 FU a1 a2 (-1 : Int32) (0 : Int32) (u1 P 109 0 (0 : Int32))))))
theorem t_j_Mo_sleepers_143 {G : GX} (hG : GOK G) {E : EV} (hE : E0 E) (d : Nat) (hd : 6 ≤ d) {Q : QT} (k46 : Int32 → Int32 → Int32 → Int32 → PM → Option (Int32 × PM)) (hk46 : ∀ (x1 : Int32) (x2 : Int32) (x3 : Int32) (x4 : Int32) (P : PM), St E rIP (k46 x1 x2 x3 x4 P) Q → Go G c_Mo_sleepers "YawnRouteModel" 5 (some .int) false d nOb nOb Q 46 [(0, .ref (ad E 109)), (1, .int x1), (2, .int x2), (3, .int x3), (4, .int x4)] [] P E) (x1 : Int32) (x2 : Int32) (x3 : Int32) (x4 : Int32) (P : PM) (h : St E rIP (j_Mo_sleepers_143 k46 x1 x2 x3 x4 P) Q) : Go G c_Mo_sleepers "YawnRouteModel" 5 (some .int) false d nOb nOb Q 143 [(0, .ref (ad E 109)), (1, .int x1), (2, .int x2), (3, .int x3), (4, .int x4)] [] P E := by
  rw [j_Mo_sleepers_143] at h
  refine Go.iinc (i := 4) (n := 1) 4 (x4 + (1 : Int32)) [(4, .int (x4 + (1 : Int32))), (0, .ref (ad E 109)), (1, .int x1), (2, .int x2), (3, .int x3)] (by decide +kernel) rfl rfl (by decide) rfl ?_
  refine Go.goto (off := -100) 46 (by decide +kernel) (by decide) ?_
  refine Go.sub [1, 2, 3, 4, 0] [(0, .ref (ad E 109)), (1, .int x1), (2, .int x2), (3, .int x3), (4, .int (x4 + (1 : Int32)))] rfl ?_
  exact hk46 x1 x2 x3 (x4 + (1 : Int32)) P h
theorem t_j_Mo_sleepers_118 {G : GX} (hG : GOK G) {E : EV} (hE : E0 E) (d : Nat) (hd : 6 ≤ d) {Q : QT} (k46 : Int32 → Int32 → Int32 → Int32 → PM → Option (Int32 × PM)) (hk46 : ∀ (x1 : Int32) (x2 : Int32) (x3 : Int32) (x4 : Int32) (P : PM), St E rIP (k46 x1 x2 x3 x4 P) Q → Go G c_Mo_sleepers "YawnRouteModel" 5 (some .int) false d nOb nOb Q 46 [(0, .ref (ad E 109)), (1, .int x1), (2, .int x2), (3, .int x3), (4, .int x4)] [] P E) (x1 : Int32) (x2 : Int32) (x3 : Int32) (x4 : Int32) (P : PM) (h : St E rIP (j_Mo_sleepers_118 k46 x1 x2 x3 x4 P) Q) : Go G c_Mo_sleepers "YawnRouteModel" 5 (some .int) false d nOb nOb Q 118 [(0, .ref (ad E 109)), (1, .int x1), (2, .int x2), (3, .int x3), (4, .int x4)] [] P E := by
  rw [j_Mo_sleepers_118] at h
  refine Go.aload_n (k := 0) (i := 0) 0 (by decide +kernel) rfl rfl ?_
  refine Go.aload_n (k := 0) (i := 0) 0 (by decide +kernel) rfl rfl ?_
  refine Go.get 109 1 (.ref (ad E 110)) (by decide) (by decide) sh109 (ltO hE sh109) (vlR hE rfl rfl) lk1331 (by decide +kernel) ?_
  refine Go.bipush (n := 116) (116 : Int32) (by decide +kernel) (by decide) ?_
  refine Go.iaload 110 3408 sh110 (ltA hE sh110 (by decide)) (vp_in_iff.mpr (by decide)) (by decide +kernel) ?_
  refine Go.iload (i := 4) 4 (by decide +kernel) rfl ?_
  refine Go.ior (by decide +kernel) ?_
  obtain ⟨v1, P2, hv1, h⟩ := St.bd2 h
  refine Go.cV_i (P1 := P2) (v := v1) (d - 1) 109 [.int ((P.1 110 (116 : Int32).toNatClampNeg) ||| x4)] sh109 hE w_Mo_reachBy (e_Mo_reachBy hG hE (d - 1) (by omega) ((P.1 110 (116 : Int32).toNatClampNeg) ||| x4) P ⟨_, hv1, rfl, rfl, rfl⟩) lk1756 rfl (by omega) (Nat.le_of_ble_eq_true rfl) (by decide +kernel) _ rfl ?_
  refine Go.i2l (by decide +kernel) ?_
  refine Go.iload_n (k := 1) (i := 1) 1 (by decide +kernel) rfl rfl ?_
  refine Go.cS_i (P1 := P2) (v := (f_Mo_isIn (v1.toInt64) x1 P2)) (d - 1) [.long (v1.toInt64), .int x1] hE w_Mo_isIn (e_Mo_isIn hG hE (d - 1) (by omega) (v1.toInt64) x1 P2 ⟨rfl, rfl, rfl⟩) lk1579 rfl (by omega) (Nat.le_of_ble_eq_true rfl) (by decide +kernel) _ rfl ?_
  refine Go.if_ne (off := 6) 143 (by decide +kernel) (by decide) (fun c3 => ?_) (fun c3 => ?_)
  · rw [if_neg c3] at h
    exact t_j_Mo_sleepers_143 hG hE d hd k46 hk46 x1 x2 x3 x4 P2 h
  · rw [if_pos c3] at h
    refine Go.iload (i := 4) 4 (by decide +kernel) rfl ?_
    refine Go.istore_n (k := 3) (i := 3) [(3, .int x4), (0, .ref (ad E 109)), (1, .int x1), (2, .int x2), (4, .int x4)] (by decide +kernel) rfl (by decide) rfl ?_
    refine Go.sub [1, 2, 3, 0, 4] [(0, .ref (ad E 109)), (1, .int x1), (2, .int x2), (3, .int x4), (4, .int x4)] rfl ?_
    exact t_j_Mo_sleepers_143 hG hE d hd k46 hk46 x1 x2 x4 x4 P2 h
theorem t_j_Mo_sleepers_159 {G : GX} (hG : GOK G) {E : EV} (hE : E0 E) (d : Nat) (hd : 6 ≤ d) {Q : QT} (x3 : Int32) (P : PM) (h : St E rIP (j_Mo_sleepers_159 x3 P) Q) : Go G c_Mo_sleepers "YawnRouteModel" 5 (some .int) false d nOb nOb Q 159 [(3, .int x3)] [] P E := by
  rw [j_Mo_sleepers_159] at h
  refine Go.iload_n (k := 3) (i := 3) 0 (by decide +kernel) rfl rfl ?_
  refine Go.goto (off := 7) 167 (by decide +kernel) (by decide) ?_
  exact Go.iret rfl rfl hE.2 (by decide +kernel) (St.fIP h)
theorem t_l_Mo_sleepers_46 {G : GX} (hG : GOK G) {E : EV} (hE : E0 E) (d : Nat) (hd : 6 ≤ d) {Q : QT} : ∀ (n : Nat) (x1 : Int32) (x2 : Int32) (x3 : Int32) (x4 : Int32) (P : PM), St E rIP (l_Mo_sleepers_46 n x1 x2 x3 x4 P) Q → Go G c_Mo_sleepers "YawnRouteModel" 5 (some .int) false d nOb nOb Q 46 [(0, .ref (ad E 109)), (1, .int x1), (2, .int x2), (3, .int x3), (4, .int x4)] [] P E := by
  intro n
  induction n with
  | zero =>
    intro x1 x2 x3 x4 P h
    rw [l_Mo_sleepers_46] at h
    exact St.none_ h
  | succ n ih =>
    intro x1 x2 x3 x4 P h
    rw [l_Mo_sleepers_46] at h
    refine Go.iload (i := 4) 4 (by decide +kernel) rfl ?_
    refine Go.iconst (n := 1) (1 : Int32) (by decide +kernel) rfl ?_
    refine Go.aload_n (k := 0) (i := 0) 0 (by decide +kernel) rfl rfl ?_
    refine Go.get 109 1 (.ref (ad E 110)) (by decide) (by decide) sh109 (ltO hE sh109) (vlR hE rfl rfl) lk1331 (by decide +kernel) ?_
    refine Go.iconst (n := 1) (1 : Int32) (by decide +kernel) rfl ?_
    refine Go.iaload 110 3408 sh110 (ltA hE sh110 (by decide)) (vp_in_iff.mpr (by decide)) (by decide +kernel) ?_
    refine Go.ishl (by decide +kernel) ?_
    refine Go.icmp_ge (off := 93) 149 (by decide +kernel) (by decide) (fun c1 => ?_) (fun c1 => ?_)
    · rw [if_pos c1] at h
      refine Go.iload_n (k := 3) (i := 3) 3 (by decide +kernel) rfl rfl ?_
      refine Go.iconst (n := -1) (-1 : Int32) (by decide +kernel) rfl ?_
      refine Go.icmp_eq (off := 8) 159 (by decide +kernel) (by decide) (fun c2 => ?_) (fun c2 => ?_)
      · rw [if_pos c2] at h
        refine Go.sub [3] [(3, .int x3)] rfl ?_
        exact t_j_Mo_sleepers_159 hG hE d hd x3 P h
      · rw [if_neg c2] at h
        refine Go.iload_n (k := 2) (i := 2) 2 (by decide +kernel) rfl rfl ?_
        refine Go.iconst (n := 1) (1 : Int32) (by decide +kernel) rfl ?_
        refine Go.icmp_ne (off := 7) 163 (by decide +kernel) (by decide) (fun c3 => ?_) (fun c3 => ?_)
        · rw [if_neg c3] at h
          refine Go.iload_n (k := 3) (i := 3) 3 (by decide +kernel) rfl rfl ?_
          obtain ⟨v4, hv4, h⟩ := St.bind h
          refine Go.cS_i (P1 := P) (v := v4) (d - 1) [.int x3] hE w_Mo_bitsOf (e_Mo_bitsOf hG hE (d - 1) (by omega) x3 P ⟨_, hv4, rfl, rfl, rfl⟩) lk1768 rfl (by omega) (Nat.le_of_ble_eq_true rfl) (by decide +kernel) _ rfl ?_
          exact Go.iret rfl rfl hE.2 (by decide +kernel) (St.fIP h)
        · rw [if_pos c3] at h
          refine Go.sub [3] [(3, .int x3)] rfl ?_
          exact t_j_Mo_sleepers_159 hG hE d hd x3 P h
    · rw [if_neg c1] at h
      refine Go.iload (i := 4) 4 (by decide +kernel) rfl ?_
      refine Go.i2l (by decide +kernel) ?_
      refine Go.iload_n (k := 1) (i := 1) 1 (by decide +kernel) rfl rfl ?_
      refine Go.cS_i (P1 := P) (v := (f_Mo_isIn (x4.toInt64) x1 P)) (d - 1) [.long (x4.toInt64), .int x1] hE w_Mo_isIn (e_Mo_isIn hG hE (d - 1) (by omega) (x4.toInt64) x1 P ⟨rfl, rfl, rfl⟩) lk1579 rfl (by omega) (Nat.le_of_ble_eq_true rfl) (by decide +kernel) _ rfl ?_
      refine Go.if_ne (off := 77) 143 (by decide +kernel) (by decide) (fun c5 => ?_) (fun c5 => ?_)
      · rw [if_neg c5] at h
        exact t_j_Mo_sleepers_143 hG hE d hd (fun z0 z1 z2 z3 Pz => l_Mo_sleepers_46 n z0 z1 z2 z3 Pz) (fun z0 z1 z2 z3 Pz q => ih z0 z1 z2 z3 Pz q) x1 x2 x3 x4 P h
      · rw [if_pos c5] at h
        refine Go.iload (i := 4) 4 (by decide +kernel) rfl ?_
        refine Go.i2l (by decide +kernel) ?_
        refine Go.aload_n (k := 0) (i := 0) 0 (by decide +kernel) rfl rfl ?_
        refine Go.get 109 1 (.ref (ad E 110)) (by decide) (by decide) sh109 (ltO hE sh109) (vlR hE rfl rfl) lk1331 (by decide +kernel) ?_
        refine Go.bipush (n := 113) (113 : Int32) (by decide +kernel) (by decide) ?_
        refine Go.iaload 110 3408 sh110 (ltA hE sh110 (by decide)) (vp_in_iff.mpr (by decide)) (by decide +kernel) ?_
        refine Go.cS_i (P1 := P) (v := (f_Mo_isIn (x4.toInt64) (P.1 110 (113 : Int32).toNatClampNeg) P)) (d - 1) [.long (x4.toInt64), .int (P.1 110 (113 : Int32).toNatClampNeg)] hE w_Mo_isIn (e_Mo_isIn hG hE (d - 1) (by omega) (x4.toInt64) (P.1 110 (113 : Int32).toNatClampNeg) P ⟨rfl, rfl, rfl⟩) lk1579 rfl (by omega) (Nat.le_of_ble_eq_true rfl) (by decide +kernel) _ rfl ?_
        refine Go.if_ne (off := 61) 143 (by decide +kernel) (by decide) (fun c6 => ?_) (fun c6 => ?_)
        · rw [if_neg c6] at h
          exact t_j_Mo_sleepers_143 hG hE d hd (fun z0 z1 z2 z3 Pz => l_Mo_sleepers_46 n z0 z1 z2 z3 Pz) (fun z0 z1 z2 z3 Pz q => ih z0 z1 z2 z3 Pz q) x1 x2 x3 x4 P h
        · rw [if_pos c6] at h
          refine Go.iload (i := 4) 4 (by decide +kernel) rfl ?_
          refine Go.aload_n (k := 0) (i := 0) 0 (by decide +kernel) rfl rfl ?_
          refine Go.get 109 1 (.ref (ad E 110)) (by decide) (by decide) sh109 (ltO hE sh109) (vlR hE rfl rfl) lk1331 (by decide +kernel) ?_
          refine Go.bipush (n := 116) (116 : Int32) (by decide +kernel) (by decide) ?_
          refine Go.iaload 110 3408 sh110 (ltA hE sh110 (by decide)) (vp_in_iff.mpr (by decide)) (by decide +kernel) ?_
          refine Go.iand (by decide +kernel) ?_
          refine Go.if_ne (off := 48) 143 (by decide +kernel) (by decide) (fun c7 => ?_) (fun c7 => ?_)
          · rw [if_neg c7] at h
            exact t_j_Mo_sleepers_143 hG hE d hd (fun z0 z1 z2 z3 Pz => l_Mo_sleepers_46 n z0 z1 z2 z3 Pz) (fun z0 z1 z2 z3 Pz q => ih z0 z1 z2 z3 Pz q) x1 x2 x3 x4 P h
          · rw [if_pos c7] at h
            refine Go.iload_n (k := 3) (i := 3) 3 (by decide +kernel) rfl rfl ?_
            refine Go.iconst (n := -1) (-1 : Int32) (by decide +kernel) rfl ?_
            refine Go.icmp_eq (off := 18) 118 (by decide +kernel) (by decide) (fun c8 => ?_) (fun c8 => ?_)
            · rw [if_pos c8] at h
              exact t_j_Mo_sleepers_118 hG hE d hd (fun z0 z1 z2 z3 Pz => l_Mo_sleepers_46 n z0 z1 z2 z3 Pz) (fun z0 z1 z2 z3 Pz q => ih z0 z1 z2 z3 Pz q) x1 x2 x3 x4 P h
            · rw [if_neg c8] at h
              refine Go.iload (i := 4) 4 (by decide +kernel) rfl ?_
              obtain ⟨v9, hv9, h⟩ := St.bind h
              refine Go.cS_i (P1 := P) (v := v9) (d - 1) [.int x4] hE w_Mo_bitsOf (e_Mo_bitsOf hG hE (d - 1) (by omega) x4 P ⟨_, hv9, rfl, rfl, rfl⟩) lk1768 rfl (by omega) (Nat.le_of_ble_eq_true rfl) (by decide +kernel) _ rfl ?_
              refine Go.iload_n (k := 3) (i := 3) 3 (by decide +kernel) rfl rfl ?_
              obtain ⟨v10, hv10, h⟩ := St.bind h
              refine Go.cS_i (P1 := P) (v := v10) (d - 1) [.int x3] hE w_Mo_bitsOf (e_Mo_bitsOf hG hE (d - 1) (by omega) x3 P ⟨_, hv10, rfl, rfl, rfl⟩) lk1768 rfl (by omega) (Nat.le_of_ble_eq_true rfl) (by decide +kernel) _ rfl ?_
              refine Go.icmp_lt (off := 6) 118 (by decide +kernel) (by decide) (fun c11 => ?_) (fun c11 => ?_)
              · rw [if_pos c11] at h
                exact t_j_Mo_sleepers_118 hG hE d hd (fun z0 z1 z2 z3 Pz => l_Mo_sleepers_46 n z0 z1 z2 z3 Pz) (fun z0 z1 z2 z3 Pz q => ih z0 z1 z2 z3 Pz q) x1 x2 x3 x4 P h
              · rw [if_neg c11] at h
                refine Go.goto (off := 28) 143 (by decide +kernel) (by decide) ?_
                exact t_j_Mo_sleepers_143 hG hE d hd (fun z0 z1 z2 z3 Pz => l_Mo_sleepers_46 n z0 z1 z2 z3 Pz) (fun z0 z1 z2 z3 Pz q => ih z0 z1 z2 z3 Pz q) x1 x2 x3 x4 P h
theorem t_f_Mo_sleepers {G : GX} (hG : GOK G) {E : EV} (hE : E0 E) (d : Nat) (hd : 6 ≤ d) {Q : QT} (a1 : Int32) (a2 : Int32) (P : PM) (h : St E rIP (f_Mo_sleepers a1 a2 P) Q) : Go G c_Mo_sleepers "YawnRouteModel" 5 (some .int) false d nOb nOb Q 0 [(0, .ref (ad E 109)), (1, .int a1), (2, .int a2)] [] P E := by
  rw [f_Mo_sleepers] at h
  refine Go.aload_n (k := 0) (i := 0) 0 (by decide +kernel) rfl rfl ?_
  refine Go.iconst (n := 0) (0 : Int32) (by decide +kernel) rfl ?_
  refine Go.put 109 0 (by decide) (by decide) sh109 (ltO hE sh109) (Or.inl rfl) rfl rfl rfl lk1330 (by decide +kernel) ?_
  refine Go.aload_n (k := 0) (i := 0) 0 (by decide +kernel) rfl rfl ?_
  refine Go.iload_n (k := 1) (i := 1) 1 (by decide +kernel) rfl rfl ?_
  refine Go.i2l (by decide +kernel) ?_
  obtain ⟨v1, hv1, h⟩ := St.bind h
  refine Go.cV_i (P1 := (u1 P 109 0 (0 : Int32))) (v := v1) (d - 1) 109 [.long (a1.toInt64)] sh109 hE w_Mo_isStation (e_Mo_isStation hG hE (d - 1) (by omega) (a1.toInt64) (u1 P 109 0 (0 : Int32)) ⟨_, hv1, rfl, rfl, rfl⟩) lk1555 rfl (by omega) (Nat.le_of_ble_eq_true rfl) (by decide +kernel) _ rfl ?_
  refine Go.if_eq (off := 13) 24 (by decide +kernel) (by decide) (fun c2 => ?_) (fun c2 => ?_)
  · rw [if_pos c2] at h
    refine Go.bipush (n := -2) (-2 : Int32) (by decide +kernel) (by decide) ?_
    exact Go.iret rfl rfl hE.2 (by decide +kernel) (St.fIP h)
  · rw [if_neg c2] at h
    refine Go.iload_n (k := 2) (i := 2) 2 (by decide +kernel) rfl rfl ?_
    refine Go.i2l (by decide +kernel) ?_
    refine Go.lconst (n := 0) (0 : Int64) (by decide +kernel) rfl ?_
    refine Go.lconst (n := 1) (1 : Int64) (by decide +kernel) rfl ?_
    refine Go.cS_i (P1 := (u1 P 109 0 (0 : Int32))) (v := (f_Mo_within (a2.toInt64) (0 : Int64) (1 : Int64) (u1 P 109 0 (0 : Int32)))) (d - 1) [.long (a2.toInt64), .long (0 : Int64), .long (1 : Int64)] hE w_Mo_within (e_Mo_within hG hE (d - 1) (by omega) (a2.toInt64) (0 : Int64) (1 : Int64) (u1 P 109 0 (0 : Int32)) ⟨rfl, rfl, rfl⟩) lk1438 rfl (by omega) (Nat.le_of_ble_eq_true rfl) (by decide +kernel) _ rfl ?_
    refine Go.if_ne (off := 6) 27 (by decide +kernel) (by decide) (fun c3 => ?_) (fun c3 => ?_)
    · rw [if_neg c3] at h
      refine Go.aload_n (k := 0) (i := 0) 0 (by decide +kernel) rfl rfl ?_
      refine Go.get 109 1 (.ref (ad E 110)) (by decide) (by decide) sh109 (ltO hE sh109) (vlR hE rfl rfl) lk1331 (by decide +kernel) ?_
      refine Go.bipush (n := 113) (113 : Int32) (by decide +kernel) (by decide) ?_
      refine Go.iaload 110 3408 sh110 (ltA hE sh110 (by decide)) (vp_in_iff.mpr (by decide)) (by decide +kernel) ?_
      refine Go.iconst (n := -1) (-1 : Int32) (by decide +kernel) rfl ?_
      refine Go.icmp_ne (off := 6) 41 (by decide +kernel) (by decide) (fun c4 => ?_) (fun c4 => ?_)
      · rw [if_neg c4] at h
        refine Go.iconst (n := -1) (-1 : Int32) (by decide +kernel) rfl ?_
        refine Go.istore_n (k := 3) (i := 3) [(3, .int (-1 : Int32)), (0, .ref (ad E 109)), (1, .int a1), (2, .int a2)] (by decide +kernel) rfl (by decide) rfl ?_
        refine Go.iconst (n := 0) (0 : Int32) (by decide +kernel) rfl ?_
        refine Go.istore (i := 4) [(4, .int (0 : Int32)), (3, .int (-1 : Int32)), (0, .ref (ad E 109)), (1, .int a1), (2, .int a2)] (by decide +kernel) (by decide) rfl ?_
        refine Go.sub [2, 3, 4, 1, 0] [(0, .ref (ad E 109)), (1, .int a1), (2, .int a2), (3, .int (-1 : Int32)), (4, .int (0 : Int32))] rfl ?_
        exact t_l_Mo_sleepers_46 hG hE d hd FU a1 a2 (-1 : Int32) (0 : Int32) (u1 P 109 0 (0 : Int32)) h
      · rw [if_pos c4] at h
        refine Go.bipush (n := -5) (-5 : Int32) (by decide +kernel) (by decide) ?_
        exact Go.iret rfl rfl hE.2 (by decide +kernel) (St.fIP h)
    · rw [if_pos c3] at h
      refine Go.bipush (n := -2) (-2 : Int32) (by decide +kernel) (by decide) ?_
      exact Go.iret rfl rfl hE.2 (by decide +kernel) (St.fIP h)
theorem e_Mo_sleepers {G : GX} (hG : GOK G) {E : EV} (hE : E0 E) (d : Nat) (hd : 6 ≤ d) (a1 : Int32) (a2 : Int32) (P : PM) {Q : QT} (h : St E rIP (f_Mo_sleepers a1 a2 P) Q) : Con G y_Mo_sleepers cw_Mo_sleepers d nOb nOb [.ref (ad E 109), .int a1, .int a2] P E Q :=
  Con.of hG (by decide +kernel) rfl (fun h => by cases h) hE.2 (Nat.le_of_ble_eq_true rfl) (t_f_Mo_sleepers hG hE d hd a1 a2 P h)
