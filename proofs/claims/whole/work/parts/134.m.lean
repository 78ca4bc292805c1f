/-! methods as functions, by program: Mo_back Mo_backBy Mo_surely Mo_noDulls Mo_toldSize -/
abbrev c_Mo_back : ByteArray := prog_14_method_99_code
abbrev y_Mo_back : MethodName := ⟨"YawnRouteModel", "back", "(III)J"⟩
abbrev cw_Mo_back : Cond := .code y_Mo_back c_Mo_back 5 (some .long)
theorem w_Mo_back : VW 12 y_Mo_back c_Mo_back 5 (some .long) 3 := ⟨by decide, lk1812, lk1813, lk14, lk1814, ⟨by decide, by decide, by decide +kernel⟩, by decide⟩
noncomputable def f_Mo_back (a1 : Int32) (a2 : Int32) (a3 : Int32) (P : PM) : Option (Int64 × PM) := (f_Mo_noBack a1 a2 a3 (u1 P 109 0 (0 : Int32))).bind (fun v1 => if v1 = (0 : Int32) then (bd2 (f_Mo_laysBack a1 a2 a3 (-1 : Int32) (u1 P 109 0 (0 : Int32))) (fun v3 P4 => some (v3, P4))) else (some ((v1.toInt64), (u1 P 109 0 (0 : Int32)))))
theorem t_f_Mo_back {G : GX} (hG : GOK G) {E : EV} (hE : E0 E) (d : Nat) (hd : 6 ≤ d) {Q : QT} (a1 : Int32) (a2 : Int32) (a3 : Int32) (P : PM) (h : St E rLP (f_Mo_back a1 a2 a3 P) Q) : Go G c_Mo_back "YawnRouteModel" 5 (some .long) false d nOb nOb Q 0 [(0, .ref (ad E 109)), (1, .int a1), (2, .int a2), (3, .int a3)] [] P E := by
  rw [f_Mo_back] at h
  refine Go.aload_n (k := 0) (i := 0) 0 (by decide +kernel) rfl rfl ?_
  refine Go.iconst (n := 0) (0 : Int32) (by decide +kernel) rfl ?_
  refine Go.put 109 0 (by decide) (by decide) sh109 (ltO hE sh109) (Or.inl rfl) rfl rfl rfl lk1330 (by decide +kernel) ?_
  refine Go.aload_n (k := 0) (i := 0) 0 (by decide +kernel) rfl rfl ?_
  refine Go.iload_n (k := 1) (i := 1) 1 (by decide +kernel) rfl rfl ?_
  refine Go.iload_n (k := 2) (i := 2) 2 (by decide +kernel) rfl rfl ?_
  refine Go.iload_n (k := 3) (i := 3) 3 (by decide +kernel) rfl rfl ?_
  obtain ⟨v1, hv1, h⟩ := St.bind h
  refine Go.cV_i (P1 := (u1 P 109 0 (0 : Int32))) (v := v1) (d - 1) 109 [.int a1, .int a2, .int a3] sh109 hE w_Mo_noBack (e_Mo_noBack hG hE (d - 1) (by omega) a1 a2 a3 (u1 P 109 0 (0 : Int32)) ⟨_, hv1, rfl, rfl, rfl⟩) lk1815 rfl (by omega) (Nat.le_of_ble_eq_true rfl) (by decide +kernel) _ rfl ?_
  refine Go.istore (i := 4) [(4, .int v1), (0, .ref (ad E 109)), (1, .int a1), (2, .int a2), (3, .int a3)] (by decide +kernel) (by decide) rfl ?_
  refine Go.iload (i := 4) 0 (by decide +kernel) rfl ?_
  refine Go.if_eq (off := 9) 25 (by decide +kernel) (by decide) (fun c2 => ?_) (fun c2 => ?_)
  · rw [if_pos c2] at h
    refine Go.aload_n (k := 0) (i := 0) 1 (by decide +kernel) rfl rfl ?_
    refine Go.iload_n (k := 1) (i := 1) 2 (by decide +kernel) rfl rfl ?_
    refine Go.iload_n (k := 2) (i := 2) 3 (by decide +kernel) rfl rfl ?_
    refine Go.iload_n (k := 3) (i := 3) 4 (by decide +kernel) rfl rfl ?_
    refine Go.iconst (n := -1) (-1 : Int32) (by decide +kernel) rfl ?_
    obtain ⟨v3, P4, hv3, h⟩ := St.bd2 h
    refine Go.cV_l (P1 := P4) (v := v3) (d - 1) 109 [.int a1, .int a2, .int a3, .int (-1 : Int32)] sh109 hE w_Mo_laysBack (e_Mo_laysBack hG hE (d - 1) (by omega) a1 a2 a3 (-1 : Int32) (u1 P 109 0 (0 : Int32)) ⟨_, hv3, rfl, rfl, rfl⟩) lk1819 rfl (by omega) (Nat.le_of_ble_eq_true rfl) (by decide +kernel) _ rfl ?_
    exact Go.lret rfl hE.2 (by decide +kernel) (St.fLP h)
  · rw [if_neg c2] at h
    refine Go.iload (i := 4) 0 (by decide +kernel) rfl ?_
    refine Go.i2l (by decide +kernel) ?_
    refine Go.goto (off := 11) 33 (by decide +kernel) (by decide) ?_
    exact Go.lret rfl hE.2 (by decide +kernel) (St.fLP h)
theorem e_Mo_back {G : GX} (hG : GOK G) {E : EV} (hE : E0 E) (d : Nat) (hd : 6 ≤ d) (a1 : Int32) (a2 : Int32) (a3 : Int32) (P : PM) {Q : QT} (h : St E rLP (f_Mo_back a1 a2 a3 P) Q) : Con G y_Mo_back cw_Mo_back d nOb nOb [.ref (ad E 109), .int a1, .int a2, .int a3] P E Q :=
  Con.of hG (by decide +kernel) rfl (fun h => by cases h) hE.2 (Nat.le_of_ble_eq_true rfl) (t_f_Mo_back hG hE d hd a1 a2 a3 P h)
abbrev c_Mo_backBy : ByteArray := prog_14_method_100_code
abbrev y_Mo_backBy : MethodName := ⟨"YawnRouteModel", "backBy", "(IIII)I"⟩
abbrev cw_Mo_backBy : Cond := .code y_Mo_backBy c_Mo_backBy 9 (some .int)
theorem w_Mo_backBy : VW 12 y_Mo_backBy c_Mo_backBy 9 (some .int) 4 := ⟨by decide, lk1824, lk1825, lk14, lk1826, ⟨by decide, by decide, by decide +kernel⟩, by decide⟩
noncomputable def j_Mo_backBy_104 (k60 : Int32 → Int32 → Int32 → Int32 → PM → Option (Int32 × PM)) (k63 : Int32 → Int32 → Int32 → Int32 → Int32 → PM → Option (Int32 × PM)) (x1 : Int32) (x4 : Int32) (x6 : Int32) (x7 : Int32) (x8 : Int32) (P : PM) : Option (Int32 × PM) := k63 x1 x4 x6 x7 (x8 + (1 : Int32)) P
noncomputable def l_Mo_backBy_63 (k60 : Int32 → Int32 → Int32 → Int32 → PM → Option (Int32 × PM)) : Nat → Int32 → Int32 → Int32 → Int32 → Int32 → PM → Option (Int32 × PM)
  | 0, _, _, _, _, _, _ => none
  | n + 1, x1, x4, x6, x7, x8, P => (f_Mo_routed x6 x8 P).bind (fun v1 => if v1 = (-1 : Int32) then (j_Mo_backBy_104 k60 (fun z0 z1 z2 z3 z4 Pz => l_Mo_backBy_63 k60 n z0 z1 z2 z3 z4 Pz) x1 x4 x6 x7 x8 P) else ((f_Mo_routed x6 x8 P).bind (fun v3 => ck (inb (((287 : Int32) * ((x1 - x7) - (1 : Int32))) + v3) 3157) (if (lg_cmp (P.2 123 (((287 : Int32) * ((x1 - x7) - (1 : Int32))) + v3).toNatClampNeg) (0 : Int64)) = (0 : Int32) then (j_Mo_backBy_104 k60 (fun z0 z1 z2 z3 z4 Pz => l_Mo_backBy_63 k60 n z0 z1 z2 z3 z4 Pz) x1 x4 x6 x7 x8 P) else (if x7 = x4 then (some (x8, P)) else ((f_Mo_routed x6 x8 P).bind (fun v7 => k60 x1 x4 v7 (x7 + (1 : Int32)) P)))))))
noncomputable def l_Mo_backBy_60 : Nat → Int32 → Int32 → Int32 → Int32 → PM → Option (Int32 × PM)
  | 0, _, _, _, _, _ => none
  | n + 1, x1, x4, x6, x7, P => l_Mo_backBy_63 (fun z0 z1 z2 z3 Pz => l_Mo_backBy_60 n z0 z1 z2 z3 Pz) FU x1 x4 x6 x7 (0 : Int32) P
noncomputable def f_Mo_backBy (a1 : Int32) (a2 : Int32) (a3 : Int32) (a4 : Int32) (P : PM) : Option (Int32 × PM) := (f_Mo_noBack a1 a2 a3 (u1 P 109 0 (0 : Int32))).bind (fun v1 => if v1 = (0 : Int32) then (if (0 : Int32) ≤ a4 then (bd2 (f_Mo_laysBack a1 a2 a3 (-1 : Int32) (u1 P 109 0 (0 : Int32))) (fun v4 P5 => if (lg_cmp v4 (0 : Int64)) = (0 : Int32) then (some ((-1 : Int32), P5)) else (if a4 < a1 then (lb (f_Mo_standNow P5) (fun y8 => l_Mo_backBy_60 FU a1 a4 y8 (0 : Int32) P5)) else (some ((-1 : Int32), P5))))) else (some ((-3 : Int32), (u1 P 109 0 (0 : Int32))))) else (some (v1, (u1 P 109 0 (0 : Int32)))))
theorem t_j_Mo_backBy_104 {G : GX} (hG : GOK G) {E : EV} (hE : E0 E) (d : Nat) (hd : 6 ≤ d) {Q : QT} (k60 : Int32 → Int32 → Int32 → Int32 → PM → Option (Int32 × PM)) (hk60 : ∀ (x1 : Int32) (x4 : Int32) (x6 : Int32) (x7 : Int32) (P : PM), St E rIP (k60 x1 x4 x6 x7 P) Q → Go G c_Mo_backBy "YawnRouteModel" 9 (some .int) false d nOb nOb Q 60 [(0, .ref (ad E 109)), (1, .int x1), (4, .int x4), (6, .int x6), (7, .int x7)] [] P E) (k63 : Int32 → Int32 → Int32 → Int32 → Int32 → PM → Option (Int32 × PM)) (hk63 : ∀ (x1 : Int32) (x4 : Int32) (x6 : Int32) (x7 : Int32) (x8 : Int32) (P : PM), St E rIP (k63 x1 x4 x6 x7 x8 P) Q → Go G c_Mo_backBy "YawnRouteModel" 9 (some .int) false d nOb nOb Q 63 [(0, .ref (ad E 109)), (1, .int x1), (4, .int x4), (6, .int x6), (7, .int x7), (8, .int x8)] [] P E) (x1 : Int32) (x4 : Int32) (x6 : Int32) (x7 : Int32) (x8 : Int32) (P : PM) (h : St E rIP (j_Mo_backBy_104 k60 k63 x1 x4 x6 x7 x8 P) Q) : Go G c_Mo_backBy "YawnRouteModel" 9 (some .int) false d nOb nOb Q 104 [(0, .ref (ad E 109)), (1, .int x1), (4, .int x4), (6, .int x6), (7, .int x7), (8, .int x8)] [] P E := by
  rw [j_Mo_backBy_104] at h
  refine Go.iinc (i := 8) (n := 1) 5 (x8 + (1 : Int32)) [(8, .int (x8 + (1 : Int32))), (0, .ref (ad E 109)), (1, .int x1), (4, .int x4), (6, .int x6), (7, .int x7)] (by decide +kernel) rfl rfl (by decide) rfl ?_
  refine Go.goto (off := -44) 63 (by decide +kernel) (by decide) ?_
  refine Go.sub [1, 2, 3, 4, 5, 0] [(0, .ref (ad E 109)), (1, .int x1), (4, .int x4), (6, .int x6), (7, .int x7), (8, .int (x8 + (1 : Int32)))] rfl ?_
  exact hk63 x1 x4 x6 x7 (x8 + (1 : Int32)) P h
theorem t_l_Mo_backBy_63 {G : GX} (hG : GOK G) {E : EV} (hE : E0 E) (d : Nat) (hd : 6 ≤ d) {Q : QT} (k60 : Int32 → Int32 → Int32 → Int32 → PM → Option (Int32 × PM)) (hk60 : ∀ (x1 : Int32) (x4 : Int32) (x6 : Int32) (x7 : Int32) (P : PM), St E rIP (k60 x1 x4 x6 x7 P) Q → Go G c_Mo_backBy "YawnRouteModel" 9 (some .int) false d nOb nOb Q 60 [(0, .ref (ad E 109)), (1, .int x1), (4, .int x4), (6, .int x6), (7, .int x7)] [] P E) : ∀ (n : Nat) (x1 : Int32) (x4 : Int32) (x6 : Int32) (x7 : Int32) (x8 : Int32) (P : PM), St E rIP (l_Mo_backBy_63 k60 n x1 x4 x6 x7 x8 P) Q → Go G c_Mo_backBy "YawnRouteModel" 9 (some .int) false d nOb nOb Q 63 [(0, .ref (ad E 109)), (1, .int x1), (4, .int x4), (6, .int x6), (7, .int x7), (8, .int x8)] [] P E := by
  intro n
  induction n with
  | zero =>
    intro x1 x4 x6 x7 x8 P h
    rw [l_Mo_backBy_63] at h
    exact St.none_ h
  | succ n ih =>
    intro x1 x4 x6 x7 x8 P h
    rw [l_Mo_backBy_63] at h
    refine Go.aload_n (k := 0) (i := 0) 0 (by decide +kernel) rfl rfl ?_
    refine Go.iload (i := 6) 3 (by decide +kernel) rfl ?_
    refine Go.iload (i := 8) 5 (by decide +kernel) rfl ?_
    obtain ⟨v1, hv1, h⟩ := St.bind h
    refine Go.cV_i (P1 := P) (v := v1) (d - 1) 109 [.int x6, .int x8] sh109 hE w_Mo_routed (e_Mo_routed hG hE (d - 1) (by omega) x6 x8 P ⟨_, hv1, rfl, rfl, rfl⟩) lk1712 rfl (by omega) (Nat.le_of_ble_eq_true rfl) (by decide +kernel) _ rfl ?_
    refine Go.iconst (n := -1) (-1 : Int32) (by decide +kernel) rfl ?_
    refine Go.icmp_eq (off := 32) 104 (by decide +kernel) (by decide) (fun c2 => ?_) (fun c2 => ?_)
    · rw [if_pos c2] at h
      exact t_j_Mo_backBy_104 hG hE d hd k60 hk60 (fun z0 z1 z2 z3 z4 Pz => l_Mo_backBy_63 k60 n z0 z1 z2 z3 z4 Pz) (fun z0 z1 z2 z3 z4 Pz q => ih z0 z1 z2 z3 z4 Pz q) x1 x4 x6 x7 x8 P h
    · rw [if_neg c2] at h
      refine Go.aload_n (k := 0) (i := 0) 0 (by decide +kernel) rfl rfl ?_
      refine Go.get 109 26 (.ref (ad E 123)) (by decide) (by decide) sh109 (ltO hE sh109) (vlR hE rfl rfl) lk1356 (by decide +kernel) ?_
      refine Go.sipush (n := 287) (287 : Int32) (by decide +kernel) (by decide) ?_
      refine Go.iload_n (k := 1) (i := 1) 1 (by decide +kernel) rfl rfl ?_
      refine Go.iload (i := 7) 4 (by decide +kernel) rfl ?_
      refine Go.isub (by decide +kernel) ?_
      refine Go.iconst (n := 1) (1 : Int32) (by decide +kernel) rfl ?_
      refine Go.isub (by decide +kernel) ?_
      refine Go.imul (by decide +kernel) ?_
      refine Go.aload_n (k := 0) (i := 0) 0 (by decide +kernel) rfl rfl ?_
      refine Go.iload (i := 6) 3 (by decide +kernel) rfl ?_
      refine Go.iload (i := 8) 5 (by decide +kernel) rfl ?_
      obtain ⟨v3, hv3, h⟩ := St.bind h
      refine Go.cV_i (P1 := P) (v := v3) (d - 1) 109 [.int x6, .int x8] sh109 hE w_Mo_routed (e_Mo_routed hG hE (d - 1) (by omega) x6 x8 P ⟨_, hv3, rfl, rfl, rfl⟩) lk1712 rfl (by omega) (Nat.le_of_ble_eq_true rfl) (by decide +kernel) _ rfl ?_
      refine Go.iadd (by decide +kernel) ?_
      obtain ⟨b4, h⟩ := St.ck h
      refine Go.laload 123 3157 sh123 (ltA hE sh123 (by decide)) (inb_in b4) (by decide +kernel) ?_
      refine Go.lconst (n := 0) (0 : Int64) (by decide +kernel) rfl ?_
      refine Go.lcmp (by decide +kernel) ?_
      refine Go.if_ne (off := 9) 110 (by decide +kernel) (by decide) (fun c5 => ?_) (fun c5 => ?_)
      · rw [if_neg c5] at h
        refine Go.iload (i := 7) 4 (by decide +kernel) rfl ?_
        refine Go.iload (i := 4) 2 (by decide +kernel) rfl ?_
        refine Go.icmp_ne (off := 6) 120 (by decide +kernel) (by decide) (fun c6 => ?_) (fun c6 => ?_)
        · rw [if_neg c6] at h
          refine Go.aload_n (k := 0) (i := 0) 0 (by decide +kernel) rfl rfl ?_
          refine Go.iload (i := 6) 3 (by decide +kernel) rfl ?_
          refine Go.iload (i := 8) 5 (by decide +kernel) rfl ?_
          obtain ⟨v7, hv7, h⟩ := St.bind h
          refine Go.cV_i (P1 := P) (v := v7) (d - 1) 109 [.int x6, .int x8] sh109 hE w_Mo_routed (e_Mo_routed hG hE (d - 1) (by omega) x6 x8 P ⟨_, hv7, rfl, rfl, rfl⟩) lk1712 rfl (by omega) (Nat.le_of_ble_eq_true rfl) (by decide +kernel) _ rfl ?_
          refine Go.istore (i := 6) [(6, .int v7), (0, .ref (ad E 109)), (1, .int x1), (4, .int x4), (7, .int x7), (8, .int x8)] (by decide +kernel) (by decide) rfl ?_
          refine Go.iinc (i := 7) (n := 1) 4 (x7 + (1 : Int32)) [(7, .int (x7 + (1 : Int32))), (6, .int v7), (0, .ref (ad E 109)), (1, .int x1), (4, .int x4), (8, .int x8)] (by decide +kernel) rfl rfl (by decide) rfl ?_
          refine Go.goto (off := -73) 60 (by decide +kernel) (by decide) ?_
          refine Go.sub [2, 3, 4, 1, 0] [(0, .ref (ad E 109)), (1, .int x1), (4, .int x4), (6, .int v7), (7, .int (x7 + (1 : Int32)))] rfl ?_
          exact hk60 x1 x4 v7 (x7 + (1 : Int32)) P h
        · rw [if_pos c6] at h
          refine Go.iload (i := 8) 5 (by decide +kernel) rfl ?_
          exact Go.iret rfl rfl hE.2 (by decide +kernel) (St.fIP h)
      · rw [if_pos c5] at h
        exact t_j_Mo_backBy_104 hG hE d hd k60 hk60 (fun z0 z1 z2 z3 z4 Pz => l_Mo_backBy_63 k60 n z0 z1 z2 z3 z4 Pz) (fun z0 z1 z2 z3 z4 Pz q => ih z0 z1 z2 z3 z4 Pz q) x1 x4 x6 x7 x8 P h
theorem t_l_Mo_backBy_60 {G : GX} (hG : GOK G) {E : EV} (hE : E0 E) (d : Nat) (hd : 6 ≤ d) {Q : QT} : ∀ (n : Nat) (x1 : Int32) (x4 : Int32) (x6 : Int32) (x7 : Int32) (P : PM), St E rIP (l_Mo_backBy_60 n x1 x4 x6 x7 P) Q → Go G c_Mo_backBy "YawnRouteModel" 9 (some .int) false d nOb nOb Q 60 [(0, .ref (ad E 109)), (1, .int x1), (4, .int x4), (6, .int x6), (7, .int x7)] [] P E := by
  intro n
  induction n with
  | zero =>
    intro x1 x4 x6 x7 P h
    rw [l_Mo_backBy_60] at h
    exact St.none_ h
  | succ n ih =>
    intro x1 x4 x6 x7 P h
    rw [l_Mo_backBy_60] at h
    refine Go.iconst (n := 0) (0 : Int32) (by decide +kernel) rfl ?_
    refine Go.istore (i := 8) [(8, .int (0 : Int32)), (0, .ref (ad E 109)), (1, .int x1), (4, .int x4), (6, .int x6), (7, .int x7)] (by decide +kernel) (by decide) rfl ?_
    refine Go.sub [1, 2, 3, 4, 5, 0] [(0, .ref (ad E 109)), (1, .int x1), (4, .int x4), (6, .int x6), (7, .int x7), (8, .int (0 : Int32))] rfl ?_
    exact t_l_Mo_backBy_63 hG hE d hd (fun z0 z1 z2 z3 Pz => l_Mo_backBy_60 n z0 z1 z2 z3 Pz) (fun z0 z1 z2 z3 Pz q => ih z0 z1 z2 z3 Pz q) FU x1 x4 x6 x7 (0 : Int32) P h
theorem t_f_Mo_backBy {G : GX} (hG : GOK G) {E : EV} (hE : E0 E) (d : Nat) (hd : 6 ≤ d) {Q : QT} (a1 : Int32) (a2 : Int32) (a3 : Int32) (a4 : Int32) (P : PM) (h : St E rIP (f_Mo_backBy a1 a2 a3 a4 P) Q) : Go G c_Mo_backBy "YawnRouteModel" 9 (some .int) false d nOb nOb Q 0 [(0, .ref (ad E 109)), (1, .int a1), (2, .int a2), (3, .int a3), (4, .int a4)] [] P E := by
  rw [f_Mo_backBy] at h
  refine Go.aload_n (k := 0) (i := 0) 0 (by decide +kernel) rfl rfl ?_
  refine Go.iconst (n := 0) (0 : Int32) (by decide +kernel) rfl ?_
  refine Go.put 109 0 (by decide) (by decide) sh109 (ltO hE sh109) (Or.inl rfl) rfl rfl rfl lk1330 (by decide +kernel) ?_
  refine Go.aload_n (k := 0) (i := 0) 0 (by decide +kernel) rfl rfl ?_
  refine Go.iload_n (k := 1) (i := 1) 1 (by decide +kernel) rfl rfl ?_
  refine Go.iload_n (k := 2) (i := 2) 2 (by decide +kernel) rfl rfl ?_
  refine Go.iload_n (k := 3) (i := 3) 3 (by decide +kernel) rfl rfl ?_
  obtain ⟨v1, hv1, h⟩ := St.bind h
  refine Go.cV_i (P1 := (u1 P 109 0 (0 : Int32))) (v := v1) (d - 1) 109 [.int a1, .int a2, .int a3] sh109 hE w_Mo_noBack (e_Mo_noBack hG hE (d - 1) (by omega) a1 a2 a3 (u1 P 109 0 (0 : Int32)) ⟨_, hv1, rfl, rfl, rfl⟩) lk1815 rfl (by omega) (Nat.le_of_ble_eq_true rfl) (by decide +kernel) _ rfl ?_
  refine Go.istore (i := 5) [(5, .int v1), (0, .ref (ad E 109)), (1, .int a1), (2, .int a2), (3, .int a3), (4, .int a4)] (by decide +kernel) (by decide) rfl ?_
  refine Go.iload (i := 5) 0 (by decide +kernel) rfl ?_
  refine Go.if_eq (off := 6) 22 (by decide +kernel) (by decide) (fun c2 => ?_) (fun c2 => ?_)
  · rw [if_pos c2] at h
    refine Go.iload (i := 4) 5 (by decide +kernel) rfl ?_
    refine Go.if_ge (off := 6) 30 (by decide +kernel) (by decide) (fun c3 => ?_) (fun c3 => ?_)
    · rw [if_pos c3] at h
      refine Go.aload_n (k := 0) (i := 0) 1 (by decide +kernel) rfl rfl ?_
      refine Go.iload_n (k := 1) (i := 1) 2 (by decide +kernel) rfl rfl ?_
      refine Go.iload_n (k := 2) (i := 2) 3 (by decide +kernel) rfl rfl ?_
      refine Go.iload_n (k := 3) (i := 3) 4 (by decide +kernel) rfl rfl ?_
      refine Go.iconst (n := -1) (-1 : Int32) (by decide +kernel) rfl ?_
      obtain ⟨v4, P5, hv4, h⟩ := St.bd2 h
      refine Go.cV_l (P1 := P5) (v := v4) (d - 1) 109 [.int a1, .int a2, .int a3, .int (-1 : Int32)] sh109 hE w_Mo_laysBack (e_Mo_laysBack hG hE (d - 1) (by omega) a1 a2 a3 (-1 : Int32) (u1 P 109 0 (0 : Int32)) ⟨_, hv4, rfl, rfl, rfl⟩) lk1819 rfl (by omega) (Nat.le_of_ble_eq_true rfl) (by decide +kernel) _ rfl ?_
      refine Go.lconst (n := 0) (0 : Int64) (by decide +kernel) rfl ?_
      refine Go.lcmp (by decide +kernel) ?_
      refine Go.if_eq (off := 9) 49 (by decide +kernel) (by decide) (fun c6 => ?_) (fun c6 => ?_)
      · rw [if_pos c6] at h
        refine Go.iconst (n := -1) (-1 : Int32) (by decide +kernel) rfl ?_
        exact Go.iret rfl rfl hE.2 (by decide +kernel) (St.fIP h)
      · rw [if_neg c6] at h
        refine Go.iload (i := 4) 5 (by decide +kernel) rfl ?_
        refine Go.iload_n (k := 1) (i := 1) 2 (by decide +kernel) rfl rfl ?_
        refine Go.icmp_lt (off := 5) 51 (by decide +kernel) (by decide) (fun c7 => ?_) (fun c7 => ?_)
        · rw [if_pos c7] at h
          refine Go.aload_n (k := 0) (i := 0) 1 (by decide +kernel) rfl rfl ?_
          refine Go.cV_i (P1 := P5) (v := (f_Mo_standNow P5)) (d - 1) 109 [] sh109 hE w_Mo_standNow (e_Mo_standNow hG hE (d - 1) (by omega) P5 ⟨rfl, rfl, rfl⟩) lk1720 rfl (by omega) (Nat.le_of_ble_eq_true rfl) (by decide +kernel) _ rfl ?_
          obtain ⟨y8, hy8, h⟩ := St.lb h
          refine Go.eqi y8 hy8 ?_
          refine Go.istore (i := 6) [(6, .int y8), (5, .int v1), (0, .ref (ad E 109)), (1, .int a1), (2, .int a2), (3, .int a3), (4, .int a4)] (by decide +kernel) (by decide) rfl ?_
          refine Go.iconst (n := 0) (0 : Int32) (by decide +kernel) rfl ?_
          refine Go.istore (i := 7) [(7, .int (0 : Int32)), (6, .int y8), (5, .int v1), (0, .ref (ad E 109)), (1, .int a1), (2, .int a2), (3, .int a3), (4, .int a4)] (by decide +kernel) (by decide) rfl ?_
          refine Go.sub [3, 4, 7, 1, 0] [(0, .ref (ad E 109)), (1, .int a1), (4, .int a4), (6, .int y8), (7, .int (0 : Int32))] rfl ?_
          exact t_l_Mo_backBy_60 hG hE d hd FU a1 a4 y8 (0 : Int32) P5 h
        · rw [if_neg c7] at h
          refine Go.iconst (n := -1) (-1 : Int32) (by decide +kernel) rfl ?_
          exact Go.iret rfl rfl hE.2 (by decide +kernel) (St.fIP h)
    · rw [if_neg c3] at h
      refine Go.bipush (n := -3) (-3 : Int32) (by decide +kernel) (by decide) ?_
      exact Go.iret rfl rfl hE.2 (by decide +kernel) (St.fIP h)
  · rw [if_neg c2] at h
    refine Go.iload (i := 5) 0 (by decide +kernel) rfl ?_
    exact Go.iret rfl rfl hE.2 (by decide +kernel) (St.fIP h)
theorem e_Mo_backBy {G : GX} (hG : GOK G) {E : EV} (hE : E0 E) (d : Nat) (hd : 6 ≤ d) (a1 : Int32) (a2 : Int32) (a3 : Int32) (a4 : Int32) (P : PM) {Q : QT} (h : St E rIP (f_Mo_backBy a1 a2 a3 a4 P) Q) : Con G y_Mo_backBy cw_Mo_backBy d nOb nOb [.ref (ad E 109), .int a1, .int a2, .int a3, .int a4] P E Q :=
  Con.of hG (by decide +kernel) rfl (fun h => by cases h) hE.2 (Nat.le_of_ble_eq_true rfl) (t_f_Mo_backBy hG hE d hd a1 a2 a3 a4 P h)
abbrev c_Mo_surely : ByteArray := prog_14_method_101_code
abbrev y_Mo_surely : MethodName := ⟨"YawnRouteModel", "surely", "(III)I"⟩
abbrev cw_Mo_surely : Cond := .code y_Mo_surely c_Mo_surely 7 (some .int)
theorem w_Mo_surely : VW 12 y_Mo_surely c_Mo_surely 7 (some .int) 3 := ⟨by decide, lk1828, lk1829, lk14, lk1830, ⟨by decide, by decide, by decide +kernel⟩, by decide⟩
noncomputable def j_Mo_surely_79 (k44 : Int32 → Int32 → Int32 → Int32 → Int32 → PM → Option (Int32 × PM)) (x1 : Int32) (x2 : Int32) (x3 : Int32) (x6 : Int32) (s0 : Int32) (s1 : Int32) (P : PM) : Option (Int32 × PM) := lb (s0 ||| s1) (fun y1 => k44 x1 x2 x3 y1 (x6 + (1 : Int32)) P)
noncomputable def l_Mo_surely_44 : Nat → Int32 → Int32 → Int32 → Int32 → Int32 → PM → Option (Int32 × PM)
  | 0, _, _, _, _, _, _ => none
  | n + 1, x1, x2, x3, x5, x6, P => if (P.1 110 (1 : Int32).toNatClampNeg) ≤ x6 then (some (x5, P)) else (bd2 (f_Mo_laysBack x1 x2 x3 x6 P) (fun v2 P3 => if (lg_cmp v2 (0 : Int64)) = (0 : Int32) then (j_Mo_surely_79 (fun z0 z1 z2 z3 z4 Pz => l_Mo_surely_44 n z0 z1 z2 z3 z4 Pz) x1 x2 x3 x6 x5 ((1 : Int32) <<< (x6 &&& 31)) P3) else (j_Mo_surely_79 (fun z0 z1 z2 z3 z4 Pz => l_Mo_surely_44 n z0 z1 z2 z3 z4 Pz) x1 x2 x3 x6 x5 (0 : Int32) P3)))
noncomputable def f_Mo_surely (a1 : Int32) (a2 : Int32) (a3 : Int32) (P : PM) : Option (Int32 × PM) := (f_Mo_noBack a1 a2 a3 (u1 P 109 0 (0 : Int32))).bind (fun v1 => if v1 = (0 : Int32) then (bd2 (f_Mo_laysBack a1 a2 a3 (-1 : Int32) (u1 P 109 0 (0 : Int32))) (fun v3 P4 => if (lg_cmp v3 (0 : Int64)) = (0 : Int32) then (some ((0 : Int32), P4)) else (l_Mo_surely_44 FU a1 a2 a3 (0 : Int32) (0 : Int32) P4))) else (some (v1, (u1 P 109 0 (0 : Int32)))))
theorem t_j_Mo_surely_79 {G : GX} (hG : GOK G) {E : EV} (hE : E0 E) (d : Nat) (hd : 6 ≤ d) {Q : QT} (k44 : Int32 → Int32 → Int32 → Int32 → Int32 → PM → Option (Int32 × PM)) (hk44 : ∀ (x1 : Int32) (x2 : Int32) (x3 : Int32) (x5 : Int32) (x6 : Int32) (P : PM), St E rIP (k44 x1 x2 x3 x5 x6 P) Q → Go G c_Mo_surely "YawnRouteModel" 7 (some .int) false d nOb nOb Q 44 [(0, .ref (ad E 109)), (1, .int x1), (2, .int x2), (3, .int x3), (5, .int x5), (6, .int x6)] [] P E) (x1 : Int32) (x2 : Int32) (x3 : Int32) (x6 : Int32) (s0 : Int32) (s1 : Int32) (P : PM) (h : St E rIP (j_Mo_surely_79 k44 x1 x2 x3 x6 s0 s1 P) Q) : Go G c_Mo_surely "YawnRouteModel" 7 (some .int) false d nOb nOb Q 79 [(0, .ref (ad E 109)), (1, .int x1), (2, .int x2), (3, .int x3), (6, .int x6)] [.int s1, .int s0] P E := by
  rw [j_Mo_surely_79] at h
  refine Go.ior (by decide +kernel) ?_
  obtain ⟨y1, hy1, h⟩ := St.lb h
  refine Go.eqi y1 hy1 ?_
  refine Go.istore (i := 5) [(5, .int y1), (0, .ref (ad E 109)), (1, .int x1), (2, .int x2), (3, .int x3), (6, .int x6)] (by decide +kernel) (by decide) rfl ?_
  refine Go.iinc (i := 6) (n := 1) 5 (x6 + (1 : Int32)) [(6, .int (x6 + (1 : Int32))), (5, .int y1), (0, .ref (ad E 109)), (1, .int x1), (2, .int x2), (3, .int x3)] (by decide +kernel) rfl rfl (by decide) rfl ?_
  refine Go.goto (off := -41) 44 (by decide +kernel) (by decide) ?_
  refine Go.sub [2, 3, 4, 5, 1, 0] [(0, .ref (ad E 109)), (1, .int x1), (2, .int x2), (3, .int x3), (5, .int y1), (6, .int (x6 + (1 : Int32)))] rfl ?_
  exact hk44 x1 x2 x3 y1 (x6 + (1 : Int32)) P h
theorem t_l_Mo_surely_44 {G : GX} (hG : GOK G) {E : EV} (hE : E0 E) (d : Nat) (hd : 6 ≤ d) {Q : QT} : ∀ (n : Nat) (x1 : Int32) (x2 : Int32) (x3 : Int32) (x5 : Int32) (x6 : Int32) (P : PM), St E rIP (l_Mo_surely_44 n x1 x2 x3 x5 x6 P) Q → Go G c_Mo_surely "YawnRouteModel" 7 (some .int) false d nOb nOb Q 44 [(0, .ref (ad E 109)), (1, .int x1), (2, .int x2), (3, .int x3), (5, .int x5), (6, .int x6)] [] P E := by
  intro n
  induction n with
  | zero =>
    intro x1 x2 x3 x5 x6 P h
    rw [l_Mo_surely_44] at h
    exact St.none_ h
  | succ n ih =>
    intro x1 x2 x3 x5 x6 P h
    rw [l_Mo_surely_44] at h
    refine Go.iload (i := 6) 5 (by decide +kernel) rfl ?_
    refine Go.aload_n (k := 0) (i := 0) 0 (by decide +kernel) rfl rfl ?_
    refine Go.get 109 1 (.ref (ad E 110)) (by decide) (by decide) sh109 (ltO hE sh109) (vlR hE rfl rfl) lk1331 (by decide +kernel) ?_
    refine Go.iconst (n := 1) (1 : Int32) (by decide +kernel) rfl ?_
    refine Go.iaload 110 3408 sh110 (ltA hE sh110 (by decide)) (vp_in_iff.mpr (by decide)) (by decide +kernel) ?_
    refine Go.icmp_ge (off := 36) 88 (by decide +kernel) (by decide) (fun c1 => ?_) (fun c1 => ?_)
    · rw [if_pos c1] at h
      refine Go.iload (i := 5) 4 (by decide +kernel) rfl ?_
      exact Go.iret rfl rfl hE.2 (by decide +kernel) (St.fIP h)
    · rw [if_neg c1] at h
      refine Go.iload (i := 5) 4 (by decide +kernel) rfl ?_
      refine Go.aload_n (k := 0) (i := 0) 0 (by decide +kernel) rfl rfl ?_
      refine Go.iload_n (k := 1) (i := 1) 1 (by decide +kernel) rfl rfl ?_
      refine Go.iload_n (k := 2) (i := 2) 2 (by decide +kernel) rfl rfl ?_
      refine Go.iload_n (k := 3) (i := 3) 3 (by decide +kernel) rfl rfl ?_
      refine Go.iload (i := 6) 5 (by decide +kernel) rfl ?_
      obtain ⟨v2, P3, hv2, h⟩ := St.bd2 h
      refine Go.cV_l (P1 := P3) (v := v2) (d - 1) 109 [.int x1, .int x2, .int x3, .int x6] sh109 hE w_Mo_laysBack (e_Mo_laysBack hG hE (d - 1) (by omega) x1 x2 x3 x6 P ⟨_, hv2, rfl, rfl, rfl⟩) lk1819 rfl (by omega) (Nat.le_of_ble_eq_true rfl) (by decide +kernel) _ rfl ?_
      refine Go.lconst (n := 0) (0 : Int64) (by decide +kernel) rfl ?_
      refine Go.lcmp (by decide +kernel) ?_
      refine Go.if_ne (off := 10) 78 (by decide +kernel) (by decide) (fun c4 => ?_) (fun c4 => ?_)
      · rw [if_neg c4] at h
        refine Go.iconst (n := 0) (0 : Int32) (by decide +kernel) rfl ?_
        refine Go.sub [0, 1, 2, 3, 5] [(0, .ref (ad E 109)), (1, .int x1), (2, .int x2), (3, .int x3), (6, .int x6)] rfl ?_
        exact t_j_Mo_surely_79 hG hE d hd (fun z0 z1 z2 z3 z4 Pz => l_Mo_surely_44 n z0 z1 z2 z3 z4 Pz) (fun z0 z1 z2 z3 z4 Pz q => ih z0 z1 z2 z3 z4 Pz q) x1 x2 x3 x6 x5 (0 : Int32) P3 h
      · rw [if_pos c4] at h
        refine Go.iconst (n := 1) (1 : Int32) (by decide +kernel) rfl ?_
        refine Go.iload (i := 6) 5 (by decide +kernel) rfl ?_
        refine Go.ishl (by decide +kernel) ?_
        refine Go.goto (off := 4) 79 (by decide +kernel) (by decide) ?_
        refine Go.sub [0, 1, 2, 3, 5] [(0, .ref (ad E 109)), (1, .int x1), (2, .int x2), (3, .int x3), (6, .int x6)] rfl ?_
        exact t_j_Mo_surely_79 hG hE d hd (fun z0 z1 z2 z3 z4 Pz => l_Mo_surely_44 n z0 z1 z2 z3 z4 Pz) (fun z0 z1 z2 z3 z4 Pz q => ih z0 z1 z2 z3 z4 Pz q) x1 x2 x3 x6 x5 ((1 : Int32) <<< (x6 &&& 31)) P3 h
theorem t_f_Mo_surely {G : GX} (hG : GOK G) {E : EV} (hE : E0 E) (d : Nat) (hd : 6 ≤ d) {Q : QT} (a1 : Int32) (a2 : Int32) (a3 : Int32) (P : PM) (h : St E rIP (f_Mo_surely a1 a2 a3 P) Q) : Go G c_Mo_surely "YawnRouteModel" 7 (some .int) false d nOb nOb Q 0 [(0, .ref (ad E 109)), (1, .int a1), (2, .int a2), (3, .int a3)] [] P E := by
  rw [f_Mo_surely] at h
  refine Go.aload_n (k := 0) (i := 0) 0 (by decide +kernel) rfl rfl ?_
  refine Go.iconst (n := 0) (0 : Int32) (by decide +kernel) rfl ?_
  refine Go.put 109 0 (by decide) (by decide) sh109 (ltO hE sh109) (Or.inl rfl) rfl rfl rfl lk1330 (by decide +kernel) ?_
  refine Go.aload_n (k := 0) (i := 0) 0 (by decide +kernel) rfl rfl ?_
  refine Go.iload_n (k := 1) (i := 1) 1 (by decide +kernel) rfl rfl ?_
  refine Go.iload_n (k := 2) (i := 2) 2 (by decide +kernel) rfl rfl ?_
  refine Go.iload_n (k := 3) (i := 3) 3 (by decide +kernel) rfl rfl ?_
  obtain ⟨v1, hv1, h⟩ := St.bind h
  refine Go.cV_i (P1 := (u1 P 109 0 (0 : Int32))) (v := v1) (d - 1) 109 [.int a1, .int a2, .int a3] sh109 hE w_Mo_noBack (e_Mo_noBack hG hE (d - 1) (by omega) a1 a2 a3 (u1 P 109 0 (0 : Int32)) ⟨_, hv1, rfl, rfl, rfl⟩) lk1815 rfl (by omega) (Nat.le_of_ble_eq_true rfl) (by decide +kernel) _ rfl ?_
  refine Go.istore (i := 4) [(4, .int v1), (0, .ref (ad E 109)), (1, .int a1), (2, .int a2), (3, .int a3)] (by decide +kernel) (by decide) rfl ?_
  refine Go.iload (i := 4) 0 (by decide +kernel) rfl ?_
  refine Go.if_eq (off := 6) 22 (by decide +kernel) (by decide) (fun c2 => ?_) (fun c2 => ?_)
  · rw [if_pos c2] at h
    refine Go.iconst (n := 0) (0 : Int32) (by decide +kernel) rfl ?_
    refine Go.istore (i := 5) [(5, .int (0 : Int32)), (4, .int v1), (0, .ref (ad E 109)), (1, .int a1), (2, .int a2), (3, .int a3)] (by decide +kernel) (by decide) rfl ?_
    refine Go.aload_n (k := 0) (i := 0) 2 (by decide +kernel) rfl rfl ?_
    refine Go.iload_n (k := 1) (i := 1) 3 (by decide +kernel) rfl rfl ?_
    refine Go.iload_n (k := 2) (i := 2) 4 (by decide +kernel) rfl rfl ?_
    refine Go.iload_n (k := 3) (i := 3) 5 (by decide +kernel) rfl rfl ?_
    refine Go.iconst (n := -1) (-1 : Int32) (by decide +kernel) rfl ?_
    obtain ⟨v3, P4, hv3, h⟩ := St.bd2 h
    refine Go.cV_l (P1 := P4) (v := v3) (d - 1) 109 [.int a1, .int a2, .int a3, .int (-1 : Int32)] sh109 hE w_Mo_laysBack (e_Mo_laysBack hG hE (d - 1) (by omega) a1 a2 a3 (-1 : Int32) (u1 P 109 0 (0 : Int32)) ⟨_, hv3, rfl, rfl, rfl⟩) lk1819 rfl (by omega) (Nat.le_of_ble_eq_true rfl) (by decide +kernel) _ rfl ?_
    refine Go.lconst (n := 0) (0 : Int64) (by decide +kernel) rfl ?_
    refine Go.lcmp (by decide +kernel) ?_
    refine Go.if_ne (off := 6) 41 (by decide +kernel) (by decide) (fun c5 => ?_) (fun c5 => ?_)
    · rw [if_neg c5] at h
      refine Go.iconst (n := 0) (0 : Int32) (by decide +kernel) rfl ?_
      refine Go.istore (i := 6) [(6, .int (0 : Int32)), (5, .int (0 : Int32)), (4, .int v1), (0, .ref (ad E 109)), (1, .int a1), (2, .int a2), (3, .int a3)] (by decide +kernel) (by decide) rfl ?_
      refine Go.sub [3, 4, 5, 6, 1, 0] [(0, .ref (ad E 109)), (1, .int a1), (2, .int a2), (3, .int a3), (5, .int (0 : Int32)), (6, .int (0 : Int32))] rfl ?_
      exact t_l_Mo_surely_44 hG hE d hd FU a1 a2 a3 (0 : Int32) (0 : Int32) P4 h
    · rw [if_pos c5] at h
      refine Go.iload (i := 5) 0 (by decide +kernel) rfl ?_
      exact Go.iret rfl rfl hE.2 (by decide +kernel) (St.fIP h)
  · rw [if_neg c2] at h
    refine Go.iload (i := 4) 0 (by decide +kernel) rfl ?_
    exact Go.iret rfl rfl hE.2 (by decide +kernel) (St.fIP h)
theorem e_Mo_surely {G : GX} (hG : GOK G) {E : EV} (hE : E0 E) (d : Nat) (hd : 6 ≤ d) (a1 : Int32) (a2 : Int32) (a3 : Int32) (P : PM) {Q : QT} (h : St E rIP (f_Mo_surely a1 a2 a3 P) Q) : Con G y_Mo_surely cw_Mo_surely d nOb nOb [.ref (ad E 109), .int a1, .int a2, .int a3] P E Q :=
  Con.of hG (by decide +kernel) rfl (fun h => by cases h) hE.2 (Nat.le_of_ble_eq_true rfl) (t_f_Mo_surely hG hE d hd a1 a2 a3 P h)
abbrev c_Mo_noDulls : ByteArray := prog_14_method_102_code
abbrev y_Mo_noDulls : MethodName := ⟨"YawnRouteModel", "noDulls", "(III)I"⟩
abbrev cw_Mo_noDulls : Cond := .code y_Mo_noDulls c_Mo_noDulls 6 (some .int)
theorem w_Mo_noDulls : VW 12 y_Mo_noDulls c_Mo_noDulls 6 (some .int) 3 := ⟨by decide, lk1837, lp105_, lk14, lk1838, ⟨by decide, by decide, by decide +kernel⟩, by decide⟩
noncomputable def l_Mo_noDulls_62 : Nat → Int32 → Int32 → Int32 → PM → Option Int32
  | 0, _, _, _, _ => none
  | n + 1, x1, x3, x5, P => ck (inb x1 4) (if (P.1 128 x1.toNatClampNeg) ≤ x5 then ((f_Mo_isSize (x3.toInt64) P).bind (fun v3 => if v3 = (0 : Int32) then (some (-3 : Int32)) else (if (P.1 110 (113 : Int32).toNatClampNeg) = (-1 : Int32) then (some (-5 : Int32)) else (some (0 : Int32))))) else (ck (inb (((40 : Int32) * x1) + x5) 160) ((f_Mo_isStation (P.2 129 (((40 : Int32) * x1) + x5).toNatClampNeg) P).bind (fun v7 => if v7 = (0 : Int32) then (some (-3 : Int32)) else (l_Mo_noDulls_62 n x1 x3 (x5 + (1 : Int32)) P)))))
noncomputable def f_Mo_noDulls (a1 : Int32) (a2 : Int32) (a3 : Int32) (P : PM) : Option Int32 := if (f_Mo_within (a1.toInt64) (0 : Int64) (3 : Int64) P) = (0 : Int32) then (some (-2 : Int32)) else ((f_Mo_isStation (a2.toInt64) P).bind (fun v2 => if v2 = (0 : Int32) then (some (-2 : Int32)) else ((f_Mo_noTray a1 P).bind (fun v4 => if v4 = (0 : Int32) then (ck (inb a1 4) (if (f_Mo_within ((P.1 128 a1.toNatClampNeg).toInt64) (1 : Int64) (10 : Int64) P) = (0 : Int32) then (some (-4 : Int32)) else (l_Mo_noDulls_62 FU a1 a3 (0 : Int32) P))) else (some v4)))))
theorem t_l_Mo_noDulls_62 {G : GX} (hG : GOK G) {E : EV} (hE : E0 E) (d : Nat) (hd : 3 ≤ d) {P : PM} {Q : QT} : ∀ (n : Nat) (x1 : Int32) (x3 : Int32) (x5 : Int32), St E (rI P) (l_Mo_noDulls_62 n x1 x3 x5 P) Q → Go G c_Mo_noDulls "YawnRouteModel" 6 (some .int) false d nOb nOb Q 62 [(0, .ref (ad E 109)), (1, .int x1), (3, .int x3), (5, .int x5)] [] P E := by
  intro n
  induction n with
  | zero =>
    intro x1 x3 x5 h
    rw [l_Mo_noDulls_62] at h
    exact St.none_ h
  | succ n ih =>
    intro x1 x3 x5 h
    rw [l_Mo_noDulls_62] at h
    refine Go.iload (i := 5) 3 (by decide +kernel) rfl ?_
    refine Go.aload_n (k := 0) (i := 0) 0 (by decide +kernel) rfl rfl ?_
    refine Go.get 109 31 (.ref (ad E 128)) (by decide) (by decide) sh109 (ltO hE sh109) (vlR hE rfl rfl) lk1361 (by decide +kernel) ?_
    refine Go.iload_n (k := 1) (i := 1) 1 (by decide +kernel) rfl rfl ?_
    obtain ⟨b1, h⟩ := St.ck h
    refine Go.iaload 128 4 sh128 (ltA hE sh128 (by decide)) (inb_in b1) (by decide +kernel) ?_
    refine Go.icmp_ge (off := 31) 101 (by decide +kernel) (by decide) (fun c2 => ?_) (fun c2 => ?_)
    · rw [if_pos c2] at h
      refine Go.iload_n (k := 3) (i := 3) 2 (by decide +kernel) rfl rfl ?_
      refine Go.i2l (by decide +kernel) ?_
      obtain ⟨v3, hv3, h⟩ := St.bind h
      refine Go.cS_i (P1 := P) (v := v3) (d - 1) [.long (x3.toInt64)] hE w_Mo_isSize (e_Mo_isSize hG hE (d - 1) (by omega) (x3.toInt64) P ⟨_, hv3, rfl, rfl, rfl⟩) lk1615 rfl (by omega) (Nat.le_of_ble_eq_true rfl) (by decide +kernel) _ rfl ?_
      refine Go.if_ne (off := 8) 114 (by decide +kernel) (by decide) (fun c4 => ?_) (fun c4 => ?_)
      · rw [if_neg c4] at h
        refine Go.aload_n (k := 0) (i := 0) 0 (by decide +kernel) rfl rfl ?_
        refine Go.get 109 1 (.ref (ad E 110)) (by decide) (by decide) sh109 (ltO hE sh109) (vlR hE rfl rfl) lk1331 (by decide +kernel) ?_
        refine Go.bipush (n := 113) (113 : Int32) (by decide +kernel) (by decide) ?_
        refine Go.iaload 110 3408 sh110 (ltA hE sh110 (by decide)) (vp_in_iff.mpr (by decide)) (by decide +kernel) ?_
        refine Go.iconst (n := -1) (-1 : Int32) (by decide +kernel) rfl ?_
        refine Go.icmp_ne (off := 8) 130 (by decide +kernel) (by decide) (fun c5 => ?_) (fun c5 => ?_)
        · rw [if_neg c5] at h
          refine Go.iconst (n := 0) (0 : Int32) (by decide +kernel) rfl ?_
          exact Go.iret rfl rfl hE.2 (by decide +kernel) (St.fI h)
        · rw [if_pos c5] at h
          refine Go.bipush (n := -5) (-5 : Int32) (by decide +kernel) (by decide) ?_
          refine Go.goto (off := 4) 131 (by decide +kernel) (by decide) ?_
          exact Go.iret rfl rfl hE.2 (by decide +kernel) (St.fI h)
      · rw [if_pos c4] at h
        refine Go.bipush (n := -3) (-3 : Int32) (by decide +kernel) (by decide) ?_
        refine Go.goto (off := 20) 131 (by decide +kernel) (by decide) ?_
        exact Go.iret rfl rfl hE.2 (by decide +kernel) (St.fI h)
    · rw [if_neg c2] at h
      refine Go.aload_n (k := 0) (i := 0) 0 (by decide +kernel) rfl rfl ?_
      refine Go.aload_n (k := 0) (i := 0) 0 (by decide +kernel) rfl rfl ?_
      refine Go.get 109 32 (.ref (ad E 129)) (by decide) (by decide) sh109 (ltO hE sh109) (vlR hE rfl rfl) lk1362 (by decide +kernel) ?_
      refine Go.bipush (n := 40) (40 : Int32) (by decide +kernel) (by decide) ?_
      refine Go.iload_n (k := 1) (i := 1) 1 (by decide +kernel) rfl rfl ?_
      refine Go.imul (by decide +kernel) ?_
      refine Go.iload (i := 5) 3 (by decide +kernel) rfl ?_
      refine Go.iadd (by decide +kernel) ?_
      obtain ⟨b6, h⟩ := St.ck h
      refine Go.laload 129 160 sh129 (ltA hE sh129 (by decide)) (inb_in b6) (by decide +kernel) ?_
      obtain ⟨v7, hv7, h⟩ := St.bind h
      refine Go.cV_i (P1 := P) (v := v7) (d - 1) 109 [.long (P.2 129 (((40 : Int32) * x1) + x5).toNatClampNeg)] sh109 hE w_Mo_isStation (e_Mo_isStation hG hE (d - 1) (by omega) (P.2 129 (((40 : Int32) * x1) + x5).toNatClampNeg) P ⟨_, hv7, rfl, rfl, rfl⟩) lk1555 rfl (by omega) (Nat.le_of_ble_eq_true rfl) (by decide +kernel) _ rfl ?_
      refine Go.if_ne (off := 6) 95 (by decide +kernel) (by decide) (fun c8 => ?_) (fun c8 => ?_)
      · rw [if_neg c8] at h
        refine Go.iinc (i := 5) (n := 1) 3 (x5 + (1 : Int32)) [(5, .int (x5 + (1 : Int32))), (0, .ref (ad E 109)), (1, .int x1), (3, .int x3)] (by decide +kernel) rfl rfl (by decide) rfl ?_
        refine Go.goto (off := -36) 62 (by decide +kernel) (by decide) ?_
        refine Go.sub [1, 2, 3, 0] [(0, .ref (ad E 109)), (1, .int x1), (3, .int x3), (5, .int (x5 + (1 : Int32)))] rfl ?_
        exact ih x1 x3 (x5 + (1 : Int32)) h
      · rw [if_pos c8] at h
        refine Go.bipush (n := -3) (-3 : Int32) (by decide +kernel) (by decide) ?_
        exact Go.iret rfl rfl hE.2 (by decide +kernel) (St.fI h)
theorem t_f_Mo_noDulls {G : GX} (hG : GOK G) {E : EV} (hE : E0 E) (d : Nat) (hd : 3 ≤ d) {P : PM} {Q : QT} (a1 : Int32) (a2 : Int32) (a3 : Int32) (h : St E (rI P) (f_Mo_noDulls a1 a2 a3 P) Q) : Go G c_Mo_noDulls "YawnRouteModel" 6 (some .int) false d nOb nOb Q 0 [(0, .ref (ad E 109)), (1, .int a1), (2, .int a2), (3, .int a3)] [] P E := by
  rw [f_Mo_noDulls] at h
  refine Go.iload_n (k := 1) (i := 1) 1 (by decide +kernel) rfl rfl ?_
  refine Go.i2l (by decide +kernel) ?_
  refine Go.lconst (n := 0) (0 : Int64) (by decide +kernel) rfl ?_
  refine Go.ldc2 (3 : Int64) lk1641 (by decide +kernel) ?_
  refine Go.cS_i (P1 := P) (v := (f_Mo_within (a1.toInt64) (0 : Int64) (3 : Int64) P)) (d - 1) [.long (a1.toInt64), .long (0 : Int64), .long (3 : Int64)] hE w_Mo_within (e_Mo_within hG hE (d - 1) (by omega) (a1.toInt64) (0 : Int64) (3 : Int64) P ⟨rfl, rfl, rfl⟩) lk1438 rfl (by omega) (Nat.le_of_ble_eq_true rfl) (by decide +kernel) _ rfl ?_
  refine Go.if_eq (off := 12) 21 (by decide +kernel) (by decide) (fun c1 => ?_) (fun c1 => ?_)
  · rw [if_pos c1] at h
    refine Go.bipush (n := -2) (-2 : Int32) (by decide +kernel) (by decide) ?_
    exact Go.iret rfl rfl hE.2 (by decide +kernel) (St.fI h)
  · rw [if_neg c1] at h
    refine Go.aload_n (k := 0) (i := 0) 0 (by decide +kernel) rfl rfl ?_
    refine Go.iload_n (k := 2) (i := 2) 2 (by decide +kernel) rfl rfl ?_
    refine Go.i2l (by decide +kernel) ?_
    obtain ⟨v2, hv2, h⟩ := St.bind h
    refine Go.cV_i (P1 := P) (v := v2) (d - 1) 109 [.long (a2.toInt64)] sh109 hE w_Mo_isStation (e_Mo_isStation hG hE (d - 1) (by omega) (a2.toInt64) P ⟨_, hv2, rfl, rfl, rfl⟩) lk1555 rfl (by omega) (Nat.le_of_ble_eq_true rfl) (by decide +kernel) _ rfl ?_
    refine Go.if_ne (off := 6) 24 (by decide +kernel) (by decide) (fun c3 => ?_) (fun c3 => ?_)
    · rw [if_neg c3] at h
      refine Go.aload_n (k := 0) (i := 0) 0 (by decide +kernel) rfl rfl ?_
      refine Go.iload_n (k := 1) (i := 1) 1 (by decide +kernel) rfl rfl ?_
      obtain ⟨v4, hv4, h⟩ := St.bind h
      refine Go.cV_i (P1 := P) (v := v4) (d - 1) 109 [.int a1] sh109 hE w_Mo_noTray (e_Mo_noTray hG hE (d - 1) (by omega) a1 P ⟨_, hv4, rfl, rfl, rfl⟩) lk1642 rfl (by omega) (Nat.le_of_ble_eq_true rfl) (by decide +kernel) _ rfl ?_
      refine Go.istore (i := 4) [(4, .int v4), (0, .ref (ad E 109)), (1, .int a1), (2, .int a2), (3, .int a3)] (by decide +kernel) (by decide) rfl ?_
      refine Go.iload (i := 4) 0 (by decide +kernel) rfl ?_
      refine Go.if_eq (off := 6) 39 (by decide +kernel) (by decide) (fun c5 => ?_) (fun c5 => ?_)
      · rw [if_pos c5] at h
        refine Go.aload_n (k := 0) (i := 0) 1 (by decide +kernel) rfl rfl ?_
        refine Go.get 109 31 (.ref (ad E 128)) (by decide) (by decide) sh109 (ltO hE sh109) (vlR hE rfl rfl) lk1361 (by decide +kernel) ?_
        refine Go.iload_n (k := 1) (i := 1) 2 (by decide +kernel) rfl rfl ?_
        obtain ⟨b6, h⟩ := St.ck h
        refine Go.iaload 128 4 sh128 (ltA hE sh128 (by decide)) (inb_in b6) (by decide +kernel) ?_
        refine Go.i2l (by decide +kernel) ?_
        refine Go.lconst (n := 1) (1 : Int64) (by decide +kernel) rfl ?_
        refine Go.ldc2 (10 : Int64) lk1636 (by decide +kernel) ?_
        refine Go.cS_i (P1 := P) (v := (f_Mo_within ((P.1 128 a1.toNatClampNeg).toInt64) (1 : Int64) (10 : Int64) P)) (d - 1) [.long ((P.1 128 a1.toNatClampNeg).toInt64), .long (1 : Int64), .long (10 : Int64)] hE w_Mo_within (e_Mo_within hG hE (d - 1) (by omega) ((P.1 128 a1.toNatClampNeg).toInt64) (1 : Int64) (10 : Int64) P ⟨rfl, rfl, rfl⟩) lk1438 rfl (by omega) (Nat.le_of_ble_eq_true rfl) (by decide +kernel) _ rfl ?_
        refine Go.if_ne (off := 6) 59 (by decide +kernel) (by decide) (fun c7 => ?_) (fun c7 => ?_)
        · rw [if_neg c7] at h
          refine Go.iconst (n := 0) (0 : Int32) (by decide +kernel) rfl ?_
          refine Go.istore (i := 5) [(5, .int (0 : Int32)), (4, .int v4), (0, .ref (ad E 109)), (1, .int a1), (2, .int a2), (3, .int a3)] (by decide +kernel) (by decide) rfl ?_
          refine Go.sub [2, 3, 5, 0] [(0, .ref (ad E 109)), (1, .int a1), (3, .int a3), (5, .int (0 : Int32))] rfl ?_
          exact t_l_Mo_noDulls_62 hG hE d hd FU a1 a3 (0 : Int32) h
        · rw [if_pos c7] at h
          refine Go.bipush (n := -4) (-4 : Int32) (by decide +kernel) (by decide) ?_
          exact Go.iret rfl rfl hE.2 (by decide +kernel) (St.fI h)
      · rw [if_neg c5] at h
        refine Go.iload (i := 4) 0 (by decide +kernel) rfl ?_
        exact Go.iret rfl rfl hE.2 (by decide +kernel) (St.fI h)
    · rw [if_pos c3] at h
      refine Go.bipush (n := -2) (-2 : Int32) (by decide +kernel) (by decide) ?_
      exact Go.iret rfl rfl hE.2 (by decide +kernel) (St.fI h)
theorem e_Mo_noDulls {G : GX} (hG : GOK G) {E : EV} (hE : E0 E) (d : Nat) (hd : 3 ≤ d) (a1 : Int32) (a2 : Int32) (a3 : Int32) (P : PM) {Q : QT} (h : St E (rI P) (f_Mo_noDulls a1 a2 a3 P) Q) : Con G y_Mo_noDulls cw_Mo_noDulls d nOb nOb [.ref (ad E 109), .int a1, .int a2, .int a3] P E Q :=
  Con.of hG (by decide +kernel) rfl (fun h => by cases h) hE.2 (Nat.le_of_ble_eq_true rfl) (t_f_Mo_noDulls hG hE d hd a1 a2 a3 h)
abbrev c_Mo_toldSize : ByteArray := prog_14_method_103_code
abbrev y_Mo_toldSize : MethodName := ⟨"YawnRouteModel", "toldSize", "(I)I"⟩
abbrev cw_Mo_toldSize : Cond := .code y_Mo_toldSize c_Mo_toldSize 6 (some .int)
theorem w_Mo_toldSize : VW 12 y_Mo_toldSize c_Mo_toldSize 6 (some .int) 1 := ⟨by decide, lk1845, lp107_, lk14, lk1846, ⟨by decide, by decide, by decide +kernel⟩, by decide⟩
noncomputable def j_Mo_toldSize_79 (k19 : Int32 → Int32 → Int32 → Int32 → PM → Option (Int32 × PM)) (x1 : Int32) (x4 : Int32) (x5 : Int32) (s0 : Int32) (P : PM) : Option (Int32 × PM) := k19 x1 x5 s0 (x4 + (1 : Int32)) P
noncomputable def l_Mo_toldSize_19 : Nat → Int32 → Int32 → Int32 → Int32 → PM → Option (Int32 × PM)
  | 0, _, _, _, _, _ => none
  | n + 1, x1, x2, x3, x4, P => ck (inb x1 4) (if (P.1 128 x1.toNatClampNeg) ≤ x4 then (some (x3, P)) else (if x3 ≤ (0 : Int32) then (some (x3, P)) else (ck (inb (((40 : Int32) * x1) + x4) 160) (lb ((P.2 129 (((40 : Int32) * x1) + x4).toNatClampNeg).toInt32) (fun y5 => bd2 (f_Mo_whyBy x2 x3 y5 (P.1 110 (116 : Int32).toNatClampNeg) P) (fun v6 P7 => if v6 = (0 : Int32) then (bd2 (f_Mo_passedTo x2 x3 y5 P7) (fun v9 P10 => j_Mo_toldSize_79 (fun z0 z1 z2 z3 Pz => l_Mo_toldSize_19 n z0 z1 z2 z3 Pz) x1 x4 y5 v9 P10)) else (j_Mo_toldSize_79 (fun z0 z1 z2 z3 Pz => l_Mo_toldSize_19 n z0 z1 z2 z3 Pz) x1 x4 y5 (0 : Int32) P7)))))))
noncomputable def f_Mo_toldSize (a1 : Int32) (P : PM) : Option (Int32 × PM) := lb (P.1 110 (113 : Int32).toNatClampNeg) (fun y1 => lb (P.1 110 (114 : Int32).toNatClampNeg) (fun y2 => l_Mo_toldSize_19 FU a1 y1 y2 (0 : Int32) P))
theorem t_j_Mo_toldSize_79 {G : GX} (hG : GOK G) {E : EV} (hE : E0 E) (d : Nat) (hd : 4 ≤ d) {Q : QT} (k19 : Int32 → Int32 → Int32 → Int32 → PM → Option (Int32 × PM)) (hk19 : ∀ (x1 : Int32) (x2 : Int32) (x3 : Int32) (x4 : Int32) (P : PM), St E rIP (k19 x1 x2 x3 x4 P) Q → Go G c_Mo_toldSize "YawnRouteModel" 6 (some .int) false d nOb nOb Q 19 [(0, .ref (ad E 109)), (1, .int x1), (2, .int x2), (3, .int x3), (4, .int x4)] [] P E) (x1 : Int32) (x4 : Int32) (x5 : Int32) (s0 : Int32) (P : PM) (h : St E rIP (j_Mo_toldSize_79 k19 x1 x4 x5 s0 P) Q) : Go G c_Mo_toldSize "YawnRouteModel" 6 (some .int) false d nOb nOb Q 79 [(0, .ref (ad E 109)), (1, .int x1), (4, .int x4), (5, .int x5)] [.int s0] P E := by
  rw [j_Mo_toldSize_79] at h
  refine Go.istore_n (k := 3) (i := 3) [(3, .int s0), (0, .ref (ad E 109)), (1, .int x1), (4, .int x4), (5, .int x5)] (by decide +kernel) rfl (by decide) rfl ?_
  refine Go.iload (i := 5) 4 (by decide +kernel) rfl ?_
  refine Go.istore_n (k := 2) (i := 2) [(2, .int x5), (3, .int s0), (0, .ref (ad E 109)), (1, .int x1), (4, .int x4), (5, .int x5)] (by decide +kernel) rfl (by decide) rfl ?_
  refine Go.iinc (i := 4) (n := 1) 4 (x4 + (1 : Int32)) [(4, .int (x4 + (1 : Int32))), (2, .int x5), (3, .int s0), (0, .ref (ad E 109)), (1, .int x1), (5, .int x5)] (by decide +kernel) rfl rfl (by decide) rfl ?_
  refine Go.goto (off := -67) 19 (by decide +kernel) (by decide) ?_
  refine Go.sub [3, 4, 1, 2, 0] [(0, .ref (ad E 109)), (1, .int x1), (2, .int x5), (3, .int s0), (4, .int (x4 + (1 : Int32)))] rfl ?_
  exact hk19 x1 x5 s0 (x4 + (1 : Int32)) P h
theorem t_l_Mo_toldSize_19 {G : GX} (hG : GOK G) {E : EV} (hE : E0 E) (d : Nat) (hd : 4 ≤ d) {Q : QT} : ∀ (n : Nat) (x1 : Int32) (x2 : Int32) (x3 : Int32) (x4 : Int32) (P : PM), St E rIP (l_Mo_toldSize_19 n x1 x2 x3 x4 P) Q → Go G c_Mo_toldSize "YawnRouteModel" 6 (some .int) false d nOb nOb Q 19 [(0, .ref (ad E 109)), (1, .int x1), (2, .int x2), (3, .int x3), (4, .int x4)] [] P E := by
  intro n
  induction n with
  | zero =>
    intro x1 x2 x3 x4 P h
    rw [l_Mo_toldSize_19] at h
    exact St.none_ h
  | succ n ih =>
    intro x1 x2 x3 x4 P h
    rw [l_Mo_toldSize_19] at h
    refine Go.iload (i := 4) 4 (by decide +kernel) rfl ?_
    refine Go.aload_n (k := 0) (i := 0) 0 (by decide +kernel) rfl rfl ?_
    refine Go.get 109 31 (.ref (ad E 128)) (by decide) (by decide) sh109 (ltO hE sh109) (vlR hE rfl rfl) lk1361 (by decide +kernel) ?_
    refine Go.iload_n (k := 1) (i := 1) 1 (by decide +kernel) rfl rfl ?_
    obtain ⟨b1, h⟩ := St.ck h
    refine Go.iaload 128 4 sh128 (ltA hE sh128 (by decide)) (inb_in b1) (by decide +kernel) ?_
    refine Go.icmp_ge (off := 62) 89 (by decide +kernel) (by decide) (fun c2 => ?_) (fun c2 => ?_)
    · rw [if_pos c2] at h
      refine Go.iload_n (k := 3) (i := 3) 3 (by decide +kernel) rfl rfl ?_
      exact Go.iret rfl rfl hE.2 (by decide +kernel) (St.fIP h)
    · rw [if_neg c2] at h
      refine Go.iload_n (k := 3) (i := 3) 3 (by decide +kernel) rfl rfl ?_
      refine Go.if_le (off := 58) 89 (by decide +kernel) (by decide) (fun c3 => ?_) (fun c3 => ?_)
      · rw [if_pos c3] at h
        refine Go.iload_n (k := 3) (i := 3) 3 (by decide +kernel) rfl rfl ?_
        exact Go.iret rfl rfl hE.2 (by decide +kernel) (St.fIP h)
      · rw [if_neg c3] at h
        refine Go.aload_n (k := 0) (i := 0) 0 (by decide +kernel) rfl rfl ?_
        refine Go.get 109 32 (.ref (ad E 129)) (by decide) (by decide) sh109 (ltO hE sh109) (vlR hE rfl rfl) lk1362 (by decide +kernel) ?_
        refine Go.bipush (n := 40) (40 : Int32) (by decide +kernel) (by decide) ?_
        refine Go.iload_n (k := 1) (i := 1) 1 (by decide +kernel) rfl rfl ?_
        refine Go.imul (by decide +kernel) ?_
        refine Go.iload (i := 4) 4 (by decide +kernel) rfl ?_
        refine Go.iadd (by decide +kernel) ?_
        obtain ⟨b4, h⟩ := St.ck h
        refine Go.laload 129 160 sh129 (ltA hE sh129 (by decide)) (inb_in b4) (by decide +kernel) ?_
        refine Go.l2i (by decide +kernel) ?_
        obtain ⟨y5, hy5, h⟩ := St.lb h
        refine Go.eqi y5 hy5 ?_
        refine Go.istore (i := 5) [(5, .int y5), (0, .ref (ad E 109)), (1, .int x1), (2, .int x2), (3, .int x3), (4, .int x4)] (by decide +kernel) (by decide) rfl ?_
        refine Go.aload_n (k := 0) (i := 0) 1 (by decide +kernel) rfl rfl ?_
        refine Go.iload_n (k := 2) (i := 2) 3 (by decide +kernel) rfl rfl ?_
        refine Go.iload_n (k := 3) (i := 3) 4 (by decide +kernel) rfl rfl ?_
        refine Go.iload (i := 5) 0 (by decide +kernel) rfl ?_
        refine Go.aload_n (k := 0) (i := 0) 1 (by decide +kernel) rfl rfl ?_
        refine Go.get 109 1 (.ref (ad E 110)) (by decide) (by decide) sh109 (ltO hE sh109) (vlR hE rfl rfl) lk1331 (by decide +kernel) ?_
        refine Go.bipush (n := 116) (116 : Int32) (by decide +kernel) (by decide) ?_
        refine Go.iaload 110 3408 sh110 (ltA hE sh110 (by decide)) (vp_in_iff.mpr (by decide)) (by decide +kernel) ?_
        obtain ⟨v6, P7, hv6, h⟩ := St.bd2 h
        refine Go.cV_i (P1 := P7) (v := v6) (d - 1) 109 [.int x2, .int x3, .int y5, .int (P.1 110 (116 : Int32).toNatClampNeg)] sh109 hE w_Mo_whyBy (e_Mo_whyBy hG hE (d - 1) (by omega) x2 x3 y5 (P.1 110 (116 : Int32).toNatClampNeg) P ⟨_, hv6, rfl, rfl, rfl⟩) lk1575 rfl (by omega) (Nat.le_of_ble_eq_true rfl) (by decide +kernel) _ rfl ?_
        refine Go.if_ne (off := 14) 78 (by decide +kernel) (by decide) (fun c8 => ?_) (fun c8 => ?_)
        · rw [if_neg c8] at h
          refine Go.iconst (n := 0) (0 : Int32) (by decide +kernel) rfl ?_
          refine Go.sub [1, 2, 5, 0] [(0, .ref (ad E 109)), (1, .int x1), (4, .int x4), (5, .int y5)] rfl ?_
          exact t_j_Mo_toldSize_79 hG hE d hd (fun z0 z1 z2 z3 Pz => l_Mo_toldSize_19 n z0 z1 z2 z3 Pz) (fun z0 z1 z2 z3 Pz q => ih z0 z1 z2 z3 Pz q) x1 x4 y5 (0 : Int32) P7 h
        · rw [if_pos c8] at h
          refine Go.aload_n (k := 0) (i := 0) 1 (by decide +kernel) rfl rfl ?_
          refine Go.iload_n (k := 2) (i := 2) 3 (by decide +kernel) rfl rfl ?_
          refine Go.iload_n (k := 3) (i := 3) 4 (by decide +kernel) rfl rfl ?_
          refine Go.iload (i := 5) 0 (by decide +kernel) rfl ?_
          obtain ⟨v9, P10, hv9, h⟩ := St.bd2 h
          refine Go.cV_i (P1 := P10) (v := v9) (d - 1) 109 [.int x2, .int x3, .int y5] sh109 hE w_Mo_passedTo (e_Mo_passedTo hG hE (d - 1) (by omega) x2 x3 y5 P7 ⟨_, hv9, rfl, rfl, rfl⟩) lk1591 rfl (by omega) (Nat.le_of_ble_eq_true rfl) (by decide +kernel) _ rfl ?_
          refine Go.goto (off := 4) 79 (by decide +kernel) (by decide) ?_
          refine Go.sub [1, 2, 5, 0] [(0, .ref (ad E 109)), (1, .int x1), (4, .int x4), (5, .int y5)] rfl ?_
          exact t_j_Mo_toldSize_79 hG hE d hd (fun z0 z1 z2 z3 Pz => l_Mo_toldSize_19 n z0 z1 z2 z3 Pz) (fun z0 z1 z2 z3 Pz q => ih z0 z1 z2 z3 Pz q) x1 x4 y5 v9 P10 h
theorem t_f_Mo_toldSize {G : GX} (hG : GOK G) {E : EV} (hE : E0 E) (d : Nat) (hd : 4 ≤ d) {Q : QT} (a1 : Int32) (P : PM) (h : St E rIP (f_Mo_toldSize a1 P) Q) : Go G c_Mo_toldSize "YawnRouteModel" 6 (some .int) false d nOb nOb Q 0 [(0, .ref (ad E 109)), (1, .int a1)] [] P E := by
  rw [f_Mo_toldSize] at h
  refine Go.aload_n (k := 0) (i := 0) 0 (by decide +kernel) rfl rfl ?_
  refine Go.get 109 1 (.ref (ad E 110)) (by decide) (by decide) sh109 (ltO hE sh109) (vlR hE rfl rfl) lk1331 (by decide +kernel) ?_
  refine Go.bipush (n := 113) (113 : Int32) (by decide +kernel) (by decide) ?_
  refine Go.iaload 110 3408 sh110 (ltA hE sh110 (by decide)) (vp_in_iff.mpr (by decide)) (by decide +kernel) ?_
  obtain ⟨y1, hy1, h⟩ := St.lb h
  refine Go.eqi y1 hy1 ?_
  refine Go.istore_n (k := 2) (i := 2) [(2, .int y1), (0, .ref (ad E 109)), (1, .int a1)] (by decide +kernel) rfl (by decide) rfl ?_
  refine Go.aload_n (k := 0) (i := 0) 1 (by decide +kernel) rfl rfl ?_
  refine Go.get 109 1 (.ref (ad E 110)) (by decide) (by decide) sh109 (ltO hE sh109) (vlR hE rfl rfl) lk1331 (by decide +kernel) ?_
  refine Go.bipush (n := 114) (114 : Int32) (by decide +kernel) (by decide) ?_
  refine Go.iaload 110 3408 sh110 (ltA hE sh110 (by decide)) (vp_in_iff.mpr (by decide)) (by decide +kernel) ?_
  obtain ⟨y2, hy2, h⟩ := St.lb h
  refine Go.eqi y2 hy2 ?_
  refine Go.istore_n (k := 3) (i := 3) [(3, .int y2), (2, .int y1), (0, .ref (ad E 109)), (1, .int a1)] (by decide +kernel) rfl (by decide) rfl ?_
  refine Go.iconst (n := 0) (0 : Int32) (by decide +kernel) rfl ?_
  refine Go.istore (i := 4) [(4, .int (0 : Int32)), (3, .int y2), (2, .int y1), (0, .ref (ad E 109)), (1, .int a1)] (by decide +kernel) (by decide) rfl ?_
  refine Go.sub [3, 4, 2, 1, 0] [(0, .ref (ad E 109)), (1, .int a1), (2, .int y1), (3, .int y2), (4, .int (0 : Int32))] rfl ?_
  exact t_l_Mo_toldSize_19 hG hE d hd FU a1 y1 y2 (0 : Int32) P h
theorem e_Mo_toldSize {G : GX} (hG : GOK G) {E : EV} (hE : E0 E) (d : Nat) (hd : 4 ≤ d) (a1 : Int32) (P : PM) {Q : QT} (h : St E rIP (f_Mo_toldSize a1 P) Q) : Con G y_Mo_toldSize cw_Mo_toldSize d nOb nOb [.ref (ad E 109), .int a1] P E Q :=
  Con.of hG (by decide +kernel) rfl (fun h => by cases h) hE.2 (Nat.le_of_ble_eq_true rfl) (t_f_Mo_toldSize hG hE d hd a1 P h)
