/-! methods as functions, by program: Mo_stopper Mo_haveBoth Mo_meets Mo_noBack Mo_laysBack -/
abbrev c_Mo_stopper : ByteArray := prog_14_method_94_code
abbrev y_Mo_stopper : MethodName := ⟨"YawnRouteModel", "stopper", "()I"⟩
abbrev cw_Mo_stopper : Cond := .code y_Mo_stopper c_Mo_stopper 5 (some .int)
theorem w_Mo_stopper : VW 12 y_Mo_stopper c_Mo_stopper 5 (some .int) 0 := ⟨by decide, lk1800, lk1801, lk14, lk1802, ⟨by decide, by decide, by decide +kernel⟩, by decide⟩
noncomputable def j_Mo_stopper_100 (k27 : Int32 → Int32 → Int32 → PM → Option (Int32 × PM)) (x1 : Int32) (x2 : Int32) (x3 : Int32) (P : PM) : Option (Int32 × PM) := k27 x1 x2 (x3 + (1 : Int32)) P
noncomputable def l_Mo_stopper_27 : Nat → Int32 → Int32 → Int32 → PM → Option (Int32 × PM)
  | 0, _, _, _, _ => none
  | n + 1, x1, x2, x3, P => if (P.1 110 (1 : Int32).toNatClampNeg) ≤ x3 then (some (x1, P)) else (if x3 = (P.1 110 (113 : Int32).toNatClampNeg) then (j_Mo_stopper_100 (fun z0 z1 z2 Pz => l_Mo_stopper_27 n z0 z1 z2 Pz) x1 x2 x3 P) else (if (f_Mo_isIn ((P.1 110 (116 : Int32).toNatClampNeg).toInt64) x3 P) = (0 : Int32) then (bd2 (f_Mo_crowdBy ((P.1 110 (116 : Int32).toNatClampNeg) ||| ((1 : Int32) <<< (x3 &&& 31))) P) (fun v4 P5 => (f_Mo_bitsOf v4 P5).bind (fun v6 => if v6 < x2 then (j_Mo_stopper_100 (fun z0 z1 z2 Pz => l_Mo_stopper_27 n z0 z1 z2 Pz) x3 v6 x3 P5) else (j_Mo_stopper_100 (fun z0 z1 z2 Pz => l_Mo_stopper_27 n z0 z1 z2 Pz) x1 x2 x3 P5)))) else (j_Mo_stopper_100 (fun z0 z1 z2 Pz => l_Mo_stopper_27 n z0 z1 z2 Pz) x1 x2 x3 P)))
noncomputable def f_Mo_stopper (P : PM) : Option (Int32 × PM) := if ((u1 P 109 0 (0 : Int32)).1 110 (113 : Int32).toNatClampNeg) = (-1 : Int32) then (some ((-5 : Int32), (u1 P 109 0 (0 : Int32)))) else (l_Mo_stopper_27 FU (-1 : Int32) (268435456 : Int32) (0 : Int32) (u1 P 109 0 (0 : Int32)))
theorem t_j_Mo_stopper_100 {G : GX} (hG : GOK G) {E : EV} (hE : E0 E) (d : Nat) (hd : 6 ≤ d) {Q : QT} (k27 : Int32 → Int32 → Int32 → PM → Option (Int32 × PM)) (hk27 : ∀ (x1 : Int32) (x2 : Int32) (x3 : Int32) (P : PM), St E rIP (k27 x1 x2 x3 P) Q → Go G c_Mo_stopper "YawnRouteModel" 5 (some .int) false d nOb nOb Q 27 [(0, .ref (ad E 109)), (1, .int x1), (2, .int x2), (3, .int x3)] [] P E) (x1 : Int32) (x2 : Int32) (x3 : Int32) (P : PM) (h : St E rIP (j_Mo_stopper_100 k27 x1 x2 x3 P) Q) : Go G c_Mo_stopper "YawnRouteModel" 5 (some .int) false d nOb nOb Q 100 [(0, .ref (ad E 109)), (1, .int x1), (2, .int x2), (3, .int x3)] [] P E := by
  rw [j_Mo_stopper_100] at h
  refine Go.iinc (i := 3) (n := 1) 3 (x3 + (1 : Int32)) [(3, .int (x3 + (1 : Int32))), (0, .ref (ad E 109)), (1, .int x1), (2, .int x2)] (by decide +kernel) rfl rfl (by decide) rfl ?_
  refine Go.goto (off := -76) 27 (by decide +kernel) (by decide) ?_
  refine Go.sub [1, 2, 3, 0] [(0, .ref (ad E 109)), (1, .int x1), (2, .int x2), (3, .int (x3 + (1 : Int32)))] rfl ?_
  exact hk27 x1 x2 (x3 + (1 : Int32)) P h
theorem t_l_Mo_stopper_27 {G : GX} (hG : GOK G) {E : EV} (hE : E0 E) (d : Nat) (hd : 6 ≤ d) {Q : QT} : ∀ (n : Nat) (x1 : Int32) (x2 : Int32) (x3 : Int32) (P : PM), St E rIP (l_Mo_stopper_27 n x1 x2 x3 P) Q → Go G c_Mo_stopper "YawnRouteModel" 5 (some .int) false d nOb nOb Q 27 [(0, .ref (ad E 109)), (1, .int x1), (2, .int x2), (3, .int x3)] [] P E := by
  intro n
  induction n with
  | zero =>
    intro x1 x2 x3 P h
    rw [l_Mo_stopper_27] at h
    exact St.none_ h
  | succ n ih =>
    intro x1 x2 x3 P h
    rw [l_Mo_stopper_27] at h
    refine Go.iload_n (k := 3) (i := 3) 3 (by decide +kernel) rfl rfl ?_
    refine Go.aload_n (k := 0) (i := 0) 0 (by decide +kernel) rfl rfl ?_
    refine Go.get 109 1 (.ref (ad E 110)) (by decide) (by decide) sh109 (ltO hE sh109) (vlR hE rfl rfl) lk1331 (by decide +kernel) ?_
    refine Go.iconst (n := 1) (1 : Int32) (by decide +kernel) rfl ?_
    refine Go.iaload 110 3408 sh110 (ltA hE sh110 (by decide)) (vp_in_iff.mpr (by decide)) (by decide +kernel) ?_
    refine Go.icmp_ge (off := 72) 106 (by decide +kernel) (by decide) (fun c1 => ?_) (fun c1 => ?_)
    · rw [if_pos c1] at h
      refine Go.iload_n (k := 1) (i := 1) 1 (by decide +kernel) rfl rfl ?_
      exact Go.iret rfl rfl hE.2 (by decide +kernel) (St.fIP h)
    · rw [if_neg c1] at h
      refine Go.iload_n (k := 3) (i := 3) 3 (by decide +kernel) rfl rfl ?_
      refine Go.aload_n (k := 0) (i := 0) 0 (by decide +kernel) rfl rfl ?_
      refine Go.get 109 1 (.ref (ad E 110)) (by decide) (by decide) sh109 (ltO hE sh109) (vlR hE rfl rfl) lk1331 (by decide +kernel) ?_
      refine Go.bipush (n := 113) (113 : Int32) (by decide +kernel) (by decide) ?_
      refine Go.iaload 110 3408 sh110 (ltA hE sh110 (by decide)) (vp_in_iff.mpr (by decide)) (by decide +kernel) ?_
      refine Go.icmp_eq (off := 55) 100 (by decide +kernel) (by decide) (fun c2 => ?_) (fun c2 => ?_)
      · rw [if_pos c2] at h
        exact t_j_Mo_stopper_100 hG hE d hd (fun z0 z1 z2 Pz => l_Mo_stopper_27 n z0 z1 z2 Pz) (fun z0 z1 z2 Pz q => ih z0 z1 z2 Pz q) x1 x2 x3 P h
      · rw [if_neg c2] at h
        refine Go.aload_n (k := 0) (i := 0) 0 (by decide +kernel) rfl rfl ?_
        refine Go.get 109 1 (.ref (ad E 110)) (by decide) (by decide) sh109 (ltO hE sh109) (vlR hE rfl rfl) lk1331 (by decide +kernel) ?_
        refine Go.bipush (n := 116) (116 : Int32) (by decide +kernel) (by decide) ?_
        refine Go.iaload 110 3408 sh110 (ltA hE sh110 (by decide)) (vp_in_iff.mpr (by decide)) (by decide +kernel) ?_
        refine Go.i2l (by decide +kernel) ?_
        refine Go.iload_n (k := 3) (i := 3) 3 (by decide +kernel) rfl rfl ?_
        refine Go.cS_i (P1 := P) (v := (f_Mo_isIn ((P.1 110 (116 : Int32).toNatClampNeg).toInt64) x3 P)) (d - 1) [.long ((P.1 110 (116 : Int32).toNatClampNeg).toInt64), .int x3] hE w_Mo_isIn (e_Mo_isIn hG hE (d - 1) (by omega) ((P.1 110 (116 : Int32).toNatClampNeg).toInt64) x3 P ⟨rfl, rfl, rfl⟩) lk1579 rfl (by omega) (Nat.le_of_ble_eq_true rfl) (by decide +kernel) _ rfl ?_
        refine Go.if_eq (off := 6) 66 (by decide +kernel) (by decide) (fun c3 => ?_) (fun c3 => ?_)
        · rw [if_pos c3] at h
          refine Go.aload_n (k := 0) (i := 0) 0 (by decide +kernel) rfl rfl ?_
          refine Go.aload_n (k := 0) (i := 0) 0 (by decide +kernel) rfl rfl ?_
          refine Go.get 109 1 (.ref (ad E 110)) (by decide) (by decide) sh109 (ltO hE sh109) (vlR hE rfl rfl) lk1331 (by decide +kernel) ?_
          refine Go.bipush (n := 116) (116 : Int32) (by decide +kernel) (by decide) ?_
          refine Go.iaload 110 3408 sh110 (ltA hE sh110 (by decide)) (vp_in_iff.mpr (by decide)) (by decide +kernel) ?_
          refine Go.iconst (n := 1) (1 : Int32) (by decide +kernel) rfl ?_
          refine Go.iload_n (k := 3) (i := 3) 3 (by decide +kernel) rfl rfl ?_
          refine Go.ishl (by decide +kernel) ?_
          refine Go.ior (by decide +kernel) ?_
          obtain ⟨v4, P5, hv4, h⟩ := St.bd2 h
          refine Go.cV_i (P1 := P5) (v := v4) (d - 1) 109 [.int ((P.1 110 (116 : Int32).toNatClampNeg) ||| ((1 : Int32) <<< (x3 &&& 31)))] sh109 hE w_Mo_crowdBy (e_Mo_crowdBy hG hE (d - 1) (by omega) ((P.1 110 (116 : Int32).toNatClampNeg) ||| ((1 : Int32) <<< (x3 &&& 31))) P ⟨_, hv4, rfl, rfl, rfl⟩) lk1795 rfl (by omega) (Nat.le_of_ble_eq_true rfl) (by decide +kernel) _ rfl ?_
          obtain ⟨v6, hv6, h⟩ := St.bind h
          refine Go.cS_i (P1 := P5) (v := v6) (d - 1) [.int v4] hE w_Mo_bitsOf (e_Mo_bitsOf hG hE (d - 1) (by omega) v4 P5 ⟨_, hv6, rfl, rfl, rfl⟩) lk1768 rfl (by omega) (Nat.le_of_ble_eq_true rfl) (by decide +kernel) _ rfl ?_
          refine Go.istore (i := 4) [(4, .int v6), (0, .ref (ad E 109)), (1, .int x1), (2, .int x2), (3, .int x3)] (by decide +kernel) (by decide) rfl ?_
          refine Go.iload (i := 4) 0 (by decide +kernel) rfl ?_
          refine Go.iload_n (k := 2) (i := 2) 3 (by decide +kernel) rfl rfl ?_
          refine Go.icmp_lt (off := 6) 95 (by decide +kernel) (by decide) (fun c7 => ?_) (fun c7 => ?_)
          · rw [if_pos c7] at h
            refine Go.iload_n (k := 3) (i := 3) 4 (by decide +kernel) rfl rfl ?_
            refine Go.istore_n (k := 1) (i := 1) [(1, .int x3), (4, .int v6), (0, .ref (ad E 109)), (2, .int x2), (3, .int x3)] (by decide +kernel) rfl (by decide) rfl ?_
            refine Go.iload (i := 4) 1 (by decide +kernel) rfl ?_
            refine Go.istore_n (k := 2) (i := 2) [(2, .int v6), (1, .int x3), (4, .int v6), (0, .ref (ad E 109)), (3, .int x3)] (by decide +kernel) rfl (by decide) rfl ?_
            refine Go.sub [3, 1, 0, 4] [(0, .ref (ad E 109)), (1, .int x3), (2, .int v6), (3, .int x3)] rfl ?_
            exact t_j_Mo_stopper_100 hG hE d hd (fun z0 z1 z2 Pz => l_Mo_stopper_27 n z0 z1 z2 Pz) (fun z0 z1 z2 Pz q => ih z0 z1 z2 Pz q) x3 v6 x3 P5 h
          · rw [if_neg c7] at h
            refine Go.goto (off := 8) 100 (by decide +kernel) (by decide) ?_
            refine Go.sub [1, 2, 3, 4] [(0, .ref (ad E 109)), (1, .int x1), (2, .int x2), (3, .int x3)] rfl ?_
            exact t_j_Mo_stopper_100 hG hE d hd (fun z0 z1 z2 Pz => l_Mo_stopper_27 n z0 z1 z2 Pz) (fun z0 z1 z2 Pz q => ih z0 z1 z2 Pz q) x1 x2 x3 P5 h
        · rw [if_neg c3] at h
          refine Go.goto (off := 37) 100 (by decide +kernel) (by decide) ?_
          exact t_j_Mo_stopper_100 hG hE d hd (fun z0 z1 z2 Pz => l_Mo_stopper_27 n z0 z1 z2 Pz) (fun z0 z1 z2 Pz q => ih z0 z1 z2 Pz q) x1 x2 x3 P h
theorem t_f_Mo_stopper {G : GX} (hG : GOK G) {E : EV} (hE : E0 E) (d : Nat) (hd : 6 ≤ d) {Q : QT} (P : PM) (h : St E rIP (f_Mo_stopper P) Q) : Go G c_Mo_stopper "YawnRouteModel" 5 (some .int) false d nOb nOb Q 0 [(0, .ref (ad E 109))] [] P E := by
  rw [f_Mo_stopper] at h
  refine Go.aload_n (k := 0) (i := 0) 0 (by decide +kernel) rfl rfl ?_
  refine Go.iconst (n := 0) (0 : Int32) (by decide +kernel) rfl ?_
  refine Go.put 109 0 (by decide) (by decide) sh109 (ltO hE sh109) (Or.inl rfl) rfl rfl rfl lk1330 (by decide +kernel) ?_
  refine Go.aload_n (k := 0) (i := 0) 0 (by decide +kernel) rfl rfl ?_
  refine Go.get 109 1 (.ref (ad E 110)) (by decide) (by decide) sh109 (ltO hE sh109) (vlR hE rfl rfl) lk1331 (by decide +kernel) ?_
  refine Go.bipush (n := 113) (113 : Int32) (by decide +kernel) (by decide) ?_
  refine Go.iaload 110 3408 sh110 (ltA hE sh110 (by decide)) (vp_in_iff.mpr (by decide)) (by decide +kernel) ?_
  refine Go.iconst (n := -1) (-1 : Int32) (by decide +kernel) rfl ?_
  refine Go.icmp_ne (off := 6) 19 (by decide +kernel) (by decide) (fun c1 => ?_) (fun c1 => ?_)
  · rw [if_neg c1] at h
    refine Go.iconst (n := -1) (-1 : Int32) (by decide +kernel) rfl ?_
    refine Go.istore_n (k := 1) (i := 1) [(1, .int (-1 : Int32)), (0, .ref (ad E 109))] (by decide +kernel) rfl (by decide) rfl ?_
    refine Go.ldcw (268435456 : Int32) lk1707 (by decide +kernel) ?_
    refine Go.istore_n (k := 2) (i := 2) [(2, .int (268435456 : Int32)), (1, .int (-1 : Int32)), (0, .ref (ad E 109))] (by decide +kernel) rfl (by decide) rfl ?_
    refine Go.iconst (n := 0) (0 : Int32) (by decide +kernel) rfl ?_
    refine Go.istore_n (k := 3) (i := 3) [(3, .int (0 : Int32)), (2, .int (268435456 : Int32)), (1, .int (-1 : Int32)), (0, .ref (ad E 109))] (by decide +kernel) rfl (by decide) rfl ?_
    refine Go.sub [3, 2, 1, 0] [(0, .ref (ad E 109)), (1, .int (-1 : Int32)), (2, .int (268435456 : Int32)), (3, .int (0 : Int32))] rfl ?_
    exact t_l_Mo_stopper_27 hG hE d hd FU (-1 : Int32) (268435456 : Int32) (0 : Int32) (u1 P 109 0 (0 : Int32)) h
  · rw [if_pos c1] at h
    refine Go.bipush (n := -5) (-5 : Int32) (by decide +kernel) (by decide) ?_
    exact Go.iret rfl rfl hE.2 (by decide +kernel) (St.fIP h)
theorem e_Mo_stopper {G : GX} (hG : GOK G) {E : EV} (hE : E0 E) (d : Nat) (hd : 6 ≤ d) (P : PM) {Q : QT} (h : St E rIP (f_Mo_stopper P) Q) : Con G y_Mo_stopper cw_Mo_stopper d nOb nOb [.ref (ad E 109)] P E Q :=
  Con.of hG (by decide +kernel) rfl (fun h => by cases h) hE.2 (Nat.le_of_ble_eq_true rfl) (t_f_Mo_stopper hG hE d hd P h)
abbrev c_Mo_haveBoth : ByteArray := prog_14_method_95_code
abbrev y_Mo_haveBoth : MethodName := ⟨"YawnRouteModel", "haveBoth", "()Z"⟩
abbrev cw_Mo_haveBoth : Cond := .code y_Mo_haveBoth c_Mo_haveBoth 2 (some .boolean)
theorem w_Mo_haveBoth : VW 12 y_Mo_haveBoth c_Mo_haveBoth 2 (some .boolean) 0 := ⟨by decide, lk1809, lp102_, lk14, lk1810, ⟨by decide, by decide, by decide +kernel⟩, by decide⟩
noncomputable def j_Mo_haveBoth_32 (k2 : Int32 → Option Int32) (x1 : Int32) (P : PM) : Option Int32 := k2 (x1 + (1 : Int32))
noncomputable def l_Mo_haveBoth_2 : Nat → Int32 → PM → Option Int32
  | 0, _, _ => none
  | n + 1, x1, P => if (P.1 110 (1 : Int32).toNatClampNeg) ≤ x1 then (some (0 : Int32)) else (ck (inb x1 7) (if (P.1 120 x1.toNatClampNeg) ≤ (0 : Int32) then (j_Mo_haveBoth_32 (fun z0 => l_Mo_haveBoth_2 n z0 P) x1 P) else (ck (inb x1 7) (if (P.1 122 x1.toNatClampNeg) ≤ (0 : Int32) then (j_Mo_haveBoth_32 (fun z0 => l_Mo_haveBoth_2 n z0 P) x1 P) else (some (1 : Int32))))))
noncomputable def f_Mo_haveBoth (P : PM) : Option Int32 := l_Mo_haveBoth_2 FU (0 : Int32) P
theorem t_j_Mo_haveBoth_32 {G : GX} (hG : GOK G) {E : EV} (hE : E0 E) (d : Nat) (hd : 1 ≤ d) {P : PM} {Q : QT} (k2 : Int32 → Option Int32) (hk2 : ∀ (x1 : Int32), St E (rI P) (k2 x1) Q → Go G c_Mo_haveBoth "YawnRouteModel" 2 (some .boolean) false d nOb nOb Q 2 [(0, .ref (ad E 109)), (1, .int x1)] [] P E) (x1 : Int32) (h : St E (rI P) (j_Mo_haveBoth_32 k2 x1 P) Q) : Go G c_Mo_haveBoth "YawnRouteModel" 2 (some .boolean) false d nOb nOb Q 32 [(0, .ref (ad E 109)), (1, .int x1)] [] P E := by
  rw [j_Mo_haveBoth_32] at h
  refine Go.iinc (i := 1) (n := 1) 1 (x1 + (1 : Int32)) [(1, .int (x1 + (1 : Int32))), (0, .ref (ad E 109))] (by decide +kernel) rfl rfl (by decide) rfl ?_
  refine Go.goto (off := -33) 2 (by decide +kernel) (by decide) ?_
  refine Go.sub [1, 0] [(0, .ref (ad E 109)), (1, .int (x1 + (1 : Int32)))] rfl ?_
  exact hk2 (x1 + (1 : Int32)) h
theorem t_l_Mo_haveBoth_2 {G : GX} (hG : GOK G) {E : EV} (hE : E0 E) (d : Nat) (hd : 1 ≤ d) {P : PM} {Q : QT} : ∀ (n : Nat) (x1 : Int32), St E (rI P) (l_Mo_haveBoth_2 n x1 P) Q → Go G c_Mo_haveBoth "YawnRouteModel" 2 (some .boolean) false d nOb nOb Q 2 [(0, .ref (ad E 109)), (1, .int x1)] [] P E := by
  intro n
  induction n with
  | zero =>
    intro x1 h
    rw [l_Mo_haveBoth_2] at h
    exact St.none_ h
  | succ n ih =>
    intro x1 h
    rw [l_Mo_haveBoth_2] at h
    refine Go.iload_n (k := 1) (i := 1) 1 (by decide +kernel) rfl rfl ?_
    refine Go.aload_n (k := 0) (i := 0) 0 (by decide +kernel) rfl rfl ?_
    refine Go.get 109 1 (.ref (ad E 110)) (by decide) (by decide) sh109 (ltO hE sh109) (vlR hE rfl rfl) lk1331 (by decide +kernel) ?_
    refine Go.iconst (n := 1) (1 : Int32) (by decide +kernel) rfl ?_
    refine Go.iaload 110 3408 sh110 (ltA hE sh110 (by decide)) (vp_in_iff.mpr (by decide)) (by decide +kernel) ?_
    refine Go.icmp_ge (off := 29) 38 (by decide +kernel) (by decide) (fun c1 => ?_) (fun c1 => ?_)
    · rw [if_pos c1] at h
      refine Go.iconst (n := 0) (0 : Int32) (by decide +kernel) rfl ?_
      exact Go.iret rfl rfl hE.2 (by decide +kernel) (St.fI h)
    · rw [if_neg c1] at h
      refine Go.aload_n (k := 0) (i := 0) 0 (by decide +kernel) rfl rfl ?_
      refine Go.get 109 23 (.ref (ad E 120)) (by decide) (by decide) sh109 (ltO hE sh109) (vlR hE rfl rfl) lk1353 (by decide +kernel) ?_
      refine Go.iload_n (k := 1) (i := 1) 1 (by decide +kernel) rfl rfl ?_
      obtain ⟨b2, h⟩ := St.ck h
      refine Go.iaload 120 7 sh120 (ltA hE sh120 (by decide)) (inb_in b2) (by decide +kernel) ?_
      refine Go.if_le (off := 14) 32 (by decide +kernel) (by decide) (fun c3 => ?_) (fun c3 => ?_)
      · rw [if_pos c3] at h
        exact t_j_Mo_haveBoth_32 hG hE d hd (fun z0 => l_Mo_haveBoth_2 n z0 P) (fun z0 q => ih z0 q) x1 h
      · rw [if_neg c3] at h
        refine Go.aload_n (k := 0) (i := 0) 0 (by decide +kernel) rfl rfl ?_
        refine Go.get 109 25 (.ref (ad E 122)) (by decide) (by decide) sh109 (ltO hE sh109) (vlR hE rfl rfl) lk1355 (by decide +kernel) ?_
        refine Go.iload_n (k := 1) (i := 1) 1 (by decide +kernel) rfl rfl ?_
        obtain ⟨b4, h⟩ := St.ck h
        refine Go.iaload 122 7 sh122 (ltA hE sh122 (by decide)) (inb_in b4) (by decide +kernel) ?_
        refine Go.if_le (off := 5) 32 (by decide +kernel) (by decide) (fun c5 => ?_) (fun c5 => ?_)
        · rw [if_pos c5] at h
          exact t_j_Mo_haveBoth_32 hG hE d hd (fun z0 => l_Mo_haveBoth_2 n z0 P) (fun z0 q => ih z0 q) x1 h
        · rw [if_neg c5] at h
          refine Go.iconst (n := 1) (1 : Int32) (by decide +kernel) rfl ?_
          exact Go.iret rfl rfl hE.2 (by decide +kernel) (St.fI h)
theorem t_f_Mo_haveBoth {G : GX} (hG : GOK G) {E : EV} (hE : E0 E) (d : Nat) (hd : 1 ≤ d) {P : PM} {Q : QT} (h : St E (rI P) (f_Mo_haveBoth P) Q) : Go G c_Mo_haveBoth "YawnRouteModel" 2 (some .boolean) false d nOb nOb Q 0 [(0, .ref (ad E 109))] [] P E := by
  rw [f_Mo_haveBoth] at h
  refine Go.iconst (n := 0) (0 : Int32) (by decide +kernel) rfl ?_
  refine Go.istore_n (k := 1) (i := 1) [(1, .int (0 : Int32)), (0, .ref (ad E 109))] (by decide +kernel) rfl (by decide) rfl ?_
  refine Go.sub [1, 0] [(0, .ref (ad E 109)), (1, .int (0 : Int32))] rfl ?_
  exact t_l_Mo_haveBoth_2 hG hE d hd FU (0 : Int32) h
theorem e_Mo_haveBoth {G : GX} (hG : GOK G) {E : EV} (hE : E0 E) (d : Nat) (hd : 1 ≤ d) (P : PM) {Q : QT} (h : St E (rI P) (f_Mo_haveBoth P) Q) : Con G y_Mo_haveBoth cw_Mo_haveBoth d nOb nOb [.ref (ad E 109)] P E Q :=
  Con.of hG (by decide +kernel) rfl (fun h => by cases h) hE.2 (Nat.le_of_ble_eq_true rfl) (t_f_Mo_haveBoth hG hE d hd h)
abbrev c_Mo_meets : ByteArray := prog_14_method_96_code
abbrev y_Mo_meets : MethodName := ⟨"YawnRouteModel", "meets", "(III)I"⟩
abbrev cw_Mo_meets : Cond := .code y_Mo_meets c_Mo_meets 7 (some .int)
theorem w_Mo_meets : VW 12 y_Mo_meets c_Mo_meets 7 (some .int) 3 := ⟨by decide, lk1804, lk1805, lk14, lk1806, ⟨by decide, by decide, by decide +kernel⟩, by decide⟩
noncomputable def j_Mo_meets_114 (k58 : Int32 → PM → Option (Int32 × PM)) (x4 : Int32) (P : PM) : Option (Int32 × PM) := k58 (x4 + (1 : Int32)) P
noncomputable def l_Mo_meets_58 : Nat → Int32 → PM → Option (Int32 × PM)
  | 0, _, _ => none
  | n + 1, x4, P => (f_Mo_haveBoth P).bind (fun v1 => if v1 = (0 : Int32) then (bd2 (f_Mo_spreads 120 7 (P.1 110 (116 : Int32).toNatClampNeg) P) (fun v3 P4 => bd2 (f_Mo_spreads 122 7 (P4.1 110 (116 : Int32).toNatClampNeg) P4) (fun v5 P6 => if v3 = (0 : Int32) then (if v5 = (0 : Int32) then (some ((-1 : Int32), P6)) else (j_Mo_meets_114 (fun z0 Pz => l_Mo_meets_58 n z0 Pz) x4 P6)) else (j_Mo_meets_114 (fun z0 Pz => l_Mo_meets_58 n z0 Pz) x4 P6)))) else (some (x4, P)))
noncomputable def f_Mo_meets (a1 : Int32) (a2 : Int32) (a3 : Int32) (P : PM) : Option (Int32 × PM) := (f_Mo_isStation (a1.toInt64) (u1 P 109 0 (0 : Int32))).bind (fun v1 => if v1 = (0 : Int32) then (some ((-2 : Int32), (u1 P 109 0 (0 : Int32)))) else ((f_Mo_isStation (a2.toInt64) (u1 P 109 0 (0 : Int32))).bind (fun v3 => if v3 = (0 : Int32) then (some ((-2 : Int32), (u1 P 109 0 (0 : Int32)))) else ((f_Mo_isSize (a3.toInt64) (u1 P 109 0 (0 : Int32))).bind (fun v5 => if v5 = (0 : Int32) then (some ((-3 : Int32), (u1 P 109 0 (0 : Int32)))) else ((f_Mo_isAt 120 7 a1 a3 (u1 P 109 0 (0 : Int32))).bind (fun P7 => (f_Mo_isAt 122 7 a2 a3 P7).bind (fun P8 => l_Mo_meets_58 FU (0 : Int32) P8))))))))
theorem t_j_Mo_meets_114 {G : GX} (hG : GOK G) {E : EV} (hE : E0 E) (d : Nat) (hd : 5 ≤ d) {Q : QT} (k58 : Int32 → PM → Option (Int32 × PM)) (hk58 : ∀ (x4 : Int32) (P : PM), St E rIP (k58 x4 P) Q → Go G c_Mo_meets "YawnRouteModel" 7 (some .int) false d nOb nOb Q 58 [(0, .ref (ad E 109)), (4, .int x4)] [] P E) (x4 : Int32) (P : PM) (h : St E rIP (j_Mo_meets_114 k58 x4 P) Q) : Go G c_Mo_meets "YawnRouteModel" 7 (some .int) false d nOb nOb Q 114 [(0, .ref (ad E 109)), (4, .int x4)] [] P E := by
  rw [j_Mo_meets_114] at h
  refine Go.iinc (i := 4) (n := 1) 1 (x4 + (1 : Int32)) [(4, .int (x4 + (1 : Int32))), (0, .ref (ad E 109))] (by decide +kernel) rfl rfl (by decide) rfl ?_
  refine Go.goto (off := -59) 58 (by decide +kernel) (by decide) ?_
  refine Go.sub [1, 0] [(0, .ref (ad E 109)), (4, .int (x4 + (1 : Int32)))] rfl ?_
  exact hk58 (x4 + (1 : Int32)) P h
theorem t_l_Mo_meets_58 {G : GX} (hG : GOK G) {E : EV} (hE : E0 E) (d : Nat) (hd : 5 ≤ d) {Q : QT} : ∀ (n : Nat) (x4 : Int32) (P : PM), St E rIP (l_Mo_meets_58 n x4 P) Q → Go G c_Mo_meets "YawnRouteModel" 7 (some .int) false d nOb nOb Q 58 [(0, .ref (ad E 109)), (4, .int x4)] [] P E := by
  intro n
  induction n with
  | zero =>
    intro x4 P h
    rw [l_Mo_meets_58] at h
    exact St.none_ h
  | succ n ih =>
    intro x4 P h
    rw [l_Mo_meets_58] at h
    refine Go.aload_n (k := 0) (i := 0) 0 (by decide +kernel) rfl rfl ?_
    obtain ⟨v1, hv1, h⟩ := St.bind h
    refine Go.cV_i (P1 := P) (v := v1) (d - 1) 109 [] sh109 hE w_Mo_haveBoth (e_Mo_haveBoth hG hE (d - 1) (by omega) P ⟨_, hv1, rfl, rfl, rfl⟩) lk1807 rfl (by omega) (Nat.le_of_ble_eq_true rfl) (by decide +kernel) _ rfl ?_
    refine Go.if_eq (off := 6) 68 (by decide +kernel) (by decide) (fun c2 => ?_) (fun c2 => ?_)
    · rw [if_pos c2] at h
      refine Go.aload_n (k := 0) (i := 0) 0 (by decide +kernel) rfl rfl ?_
      refine Go.aload_n (k := 0) (i := 0) 0 (by decide +kernel) rfl rfl ?_
      refine Go.get 109 23 (.ref (ad E 120)) (by decide) (by decide) sh109 (ltO hE sh109) (vlR hE rfl rfl) lk1353 (by decide +kernel) ?_
      refine Go.aload_n (k := 0) (i := 0) 0 (by decide +kernel) rfl rfl ?_
      refine Go.get 109 1 (.ref (ad E 110)) (by decide) (by decide) sh109 (ltO hE sh109) (vlR hE rfl rfl) lk1331 (by decide +kernel) ?_
      refine Go.bipush (n := 116) (116 : Int32) (by decide +kernel) (by decide) ?_
      refine Go.iaload 110 3408 sh110 (ltA hE sh110 (by decide)) (vp_in_iff.mpr (by decide)) (by decide +kernel) ?_
      obtain ⟨v3, P4, hv3, h⟩ := St.bd2 h
      refine Go.cV_i (P1 := P4) (v := v3) (d - 1) 109 [.ref (ad E 120), .int (P.1 110 (116 : Int32).toNatClampNeg)] sh109 hE w_Mo_spreads (e_Mo_spreads hG hE (d - 1) (by omega) 120 7 sh120 (P.1 110 (116 : Int32).toNatClampNeg) P ⟨_, hv3, rfl, rfl, rfl⟩) lk1783 rfl (by omega) (Nat.le_of_ble_eq_true rfl) (by decide +kernel) _ rfl ?_
      refine Go.istore (i := 5) [(5, .int v3), (0, .ref (ad E 109)), (4, .int x4)] (by decide +kernel) (by decide) rfl ?_
      refine Go.aload_n (k := 0) (i := 0) 1 (by decide +kernel) rfl rfl ?_
      refine Go.aload_n (k := 0) (i := 0) 1 (by decide +kernel) rfl rfl ?_
      refine Go.get 109 25 (.ref (ad E 122)) (by decide) (by decide) sh109 (ltO hE sh109) (vlR hE rfl rfl) lk1355 (by decide +kernel) ?_
      refine Go.aload_n (k := 0) (i := 0) 1 (by decide +kernel) rfl rfl ?_
      refine Go.get 109 1 (.ref (ad E 110)) (by decide) (by decide) sh109 (ltO hE sh109) (vlR hE rfl rfl) lk1331 (by decide +kernel) ?_
      refine Go.bipush (n := 116) (116 : Int32) (by decide +kernel) (by decide) ?_
      refine Go.iaload 110 3408 sh110 (ltA hE sh110 (by decide)) (vp_in_iff.mpr (by decide)) (by decide +kernel) ?_
      obtain ⟨v5, P6, hv5, h⟩ := St.bd2 h
      refine Go.cV_i (P1 := P6) (v := v5) (d - 1) 109 [.ref (ad E 122), .int (P4.1 110 (116 : Int32).toNatClampNeg)] sh109 hE w_Mo_spreads (e_Mo_spreads hG hE (d - 1) (by omega) 122 7 sh122 (P4.1 110 (116 : Int32).toNatClampNeg) P4 ⟨_, hv5, rfl, rfl, rfl⟩) lk1783 rfl (by omega) (Nat.le_of_ble_eq_true rfl) (by decide +kernel) _ rfl ?_
      refine Go.istore (i := 6) [(6, .int v5), (5, .int v3), (0, .ref (ad E 109)), (4, .int x4)] (by decide +kernel) (by decide) rfl ?_
      refine Go.iload (i := 5) 1 (by decide +kernel) rfl ?_
      refine Go.if_ne (off := 10) 114 (by decide +kernel) (by decide) (fun c7 => ?_) (fun c7 => ?_)
      · rw [if_neg c7] at h
        refine Go.sub [2, 3] [(0, .ref (ad E 109)), (4, .int x4)] rfl ?_
        exact t_j_Mo_meets_114 hG hE d hd (fun z0 Pz => l_Mo_meets_58 n z0 Pz) (fun z0 Pz q => ih z0 Pz q) x4 P6 h
      · rw [if_pos c7] at h
        refine Go.iload (i := 6) 0 (by decide +kernel) rfl ?_
        refine Go.if_ne (off := 5) 114 (by decide +kernel) (by decide) (fun c8 => ?_) (fun c8 => ?_)
        · rw [if_neg c8] at h
          refine Go.sub [2, 3] [(0, .ref (ad E 109)), (4, .int x4)] rfl ?_
          exact t_j_Mo_meets_114 hG hE d hd (fun z0 Pz => l_Mo_meets_58 n z0 Pz) (fun z0 Pz q => ih z0 Pz q) x4 P6 h
        · rw [if_pos c8] at h
          refine Go.iconst (n := -1) (-1 : Int32) (by decide +kernel) rfl ?_
          exact Go.iret rfl rfl hE.2 (by decide +kernel) (St.fIP h)
    · rw [if_neg c2] at h
      refine Go.iload (i := 4) 1 (by decide +kernel) rfl ?_
      exact Go.iret rfl rfl hE.2 (by decide +kernel) (St.fIP h)
theorem t_f_Mo_meets {G : GX} (hG : GOK G) {E : EV} (hE : E0 E) (d : Nat) (hd : 5 ≤ d) {Q : QT} (a1 : Int32) (a2 : Int32) (a3 : Int32) (P : PM) (h : St E rIP (f_Mo_meets a1 a2 a3 P) Q) : Go G c_Mo_meets "YawnRouteModel" 7 (some .int) false d nOb nOb Q 0 [(0, .ref (ad E 109)), (1, .int a1), (2, .int a2), (3, .int a3)] [] P E := by
  rw [f_Mo_meets] at h
  refine Go.aload_n (k := 0) (i := 0) 0 (by decide +kernel) rfl rfl ?_
  refine Go.iconst (n := 0) (0 : Int32) (by decide +kernel) rfl ?_
  refine Go.put 109 0 (by decide) (by decide) sh109 (ltO hE sh109) (Or.inl rfl) rfl rfl rfl lk1330 (by decide +kernel) ?_
  refine Go.aload_n (k := 0) (i := 0) 0 (by decide +kernel) rfl rfl ?_
  refine Go.iload_n (k := 1) (i := 1) 1 (by decide +kernel) rfl rfl ?_
  refine Go.i2l (by decide +kernel) ?_
  obtain ⟨v1, hv1, h⟩ := St.bind h
  refine Go.cV_i (P1 := (u1 P 109 0 (0 : Int32))) (v := v1) (d - 1) 109 [.long (a1.toInt64)] sh109 hE w_Mo_isStation (e_Mo_isStation hG hE (d - 1) (by omega) (a1.toInt64) (u1 P 109 0 (0 : Int32)) ⟨_, hv1, rfl, rfl, rfl⟩) lk1555 rfl (by omega) (Nat.le_of_ble_eq_true rfl) (by decide +kernel) _ rfl ?_
  refine Go.if_eq (off := 12) 23 (by decide +kernel) (by decide) (fun c2 => ?_) (fun c2 => ?_)
  · rw [if_pos c2] at h
    refine Go.bipush (n := -2) (-2 : Int32) (by decide +kernel) (by decide) ?_
    exact Go.iret rfl rfl hE.2 (by decide +kernel) (St.fIP h)
  · rw [if_neg c2] at h
    refine Go.aload_n (k := 0) (i := 0) 0 (by decide +kernel) rfl rfl ?_
    refine Go.iload_n (k := 2) (i := 2) 2 (by decide +kernel) rfl rfl ?_
    refine Go.i2l (by decide +kernel) ?_
    obtain ⟨v3, hv3, h⟩ := St.bind h
    refine Go.cV_i (P1 := (u1 P 109 0 (0 : Int32))) (v := v3) (d - 1) 109 [.long (a2.toInt64)] sh109 hE w_Mo_isStation (e_Mo_isStation hG hE (d - 1) (by omega) (a2.toInt64) (u1 P 109 0 (0 : Int32)) ⟨_, hv3, rfl, rfl, rfl⟩) lk1555 rfl (by omega) (Nat.le_of_ble_eq_true rfl) (by decide +kernel) _ rfl ?_
    refine Go.if_ne (off := 6) 26 (by decide +kernel) (by decide) (fun c4 => ?_) (fun c4 => ?_)
    · rw [if_neg c4] at h
      refine Go.iload_n (k := 3) (i := 3) 3 (by decide +kernel) rfl rfl ?_
      refine Go.i2l (by decide +kernel) ?_
      obtain ⟨v5, hv5, h⟩ := St.bind h
      refine Go.cS_i (P1 := (u1 P 109 0 (0 : Int32))) (v := v5) (d - 1) [.long (a3.toInt64)] hE w_Mo_isSize (e_Mo_isSize hG hE (d - 1) (by omega) (a3.toInt64) (u1 P 109 0 (0 : Int32)) ⟨_, hv5, rfl, rfl, rfl⟩) lk1615 rfl (by omega) (Nat.le_of_ble_eq_true rfl) (by decide +kernel) _ rfl ?_
      refine Go.if_ne (off := 6) 37 (by decide +kernel) (by decide) (fun c6 => ?_) (fun c6 => ?_)
      · rw [if_neg c6] at h
        refine Go.aload_n (k := 0) (i := 0) 0 (by decide +kernel) rfl rfl ?_
        refine Go.get 109 23 (.ref (ad E 120)) (by decide) (by decide) sh109 (ltO hE sh109) (vlR hE rfl rfl) lk1353 (by decide +kernel) ?_
        refine Go.iload_n (k := 1) (i := 1) 1 (by decide +kernel) rfl rfl ?_
        refine Go.iload_n (k := 3) (i := 3) 3 (by decide +kernel) rfl rfl ?_
        obtain ⟨P7, hP7, h⟩ := St.bind h
        refine Go.cS_v (P1 := P7) (d - 1) [.ref (ad E 120), .int a1, .int a3] hE w_Mo_isAt (e_Mo_isAt hG hE (d - 1) (by omega) 120 7 sh120 a1 a3 (u1 P 109 0 (0 : Int32)) ⟨_, hP7, rfl, rfl, rfl⟩) lk1780 rfl (by omega) (Nat.le_of_ble_eq_true rfl) (by decide +kernel) _ rfl ?_
        refine Go.aload_n (k := 0) (i := 0) 0 (by decide +kernel) rfl rfl ?_
        refine Go.get 109 25 (.ref (ad E 122)) (by decide) (by decide) sh109 (ltO hE sh109) (vlR hE rfl rfl) lk1355 (by decide +kernel) ?_
        refine Go.iload_n (k := 2) (i := 2) 2 (by decide +kernel) rfl rfl ?_
        refine Go.iload_n (k := 3) (i := 3) 3 (by decide +kernel) rfl rfl ?_
        obtain ⟨P8, hP8, h⟩ := St.bind h
        refine Go.cS_v (P1 := P8) (d - 1) [.ref (ad E 122), .int a2, .int a3] hE w_Mo_isAt (e_Mo_isAt hG hE (d - 1) (by omega) 122 7 sh122 a2 a3 P7 ⟨_, hP8, rfl, rfl, rfl⟩) lk1780 rfl (by omega) (Nat.le_of_ble_eq_true rfl) (by decide +kernel) _ rfl ?_
        refine Go.iconst (n := 0) (0 : Int32) (by decide +kernel) rfl ?_
        refine Go.istore (i := 4) [(4, .int (0 : Int32)), (0, .ref (ad E 109)), (1, .int a1), (2, .int a2), (3, .int a3)] (by decide +kernel) (by decide) rfl ?_
        refine Go.sub [1, 0] [(0, .ref (ad E 109)), (4, .int (0 : Int32))] rfl ?_
        exact t_l_Mo_meets_58 hG hE d hd FU (0 : Int32) P8 h
      · rw [if_pos c6] at h
        refine Go.bipush (n := -3) (-3 : Int32) (by decide +kernel) (by decide) ?_
        exact Go.iret rfl rfl hE.2 (by decide +kernel) (St.fIP h)
    · rw [if_pos c4] at h
      refine Go.bipush (n := -2) (-2 : Int32) (by decide +kernel) (by decide) ?_
      exact Go.iret rfl rfl hE.2 (by decide +kernel) (St.fIP h)
theorem e_Mo_meets {G : GX} (hG : GOK G) {E : EV} (hE : E0 E) (d : Nat) (hd : 5 ≤ d) (a1 : Int32) (a2 : Int32) (a3 : Int32) (P : PM) {Q : QT} (h : St E rIP (f_Mo_meets a1 a2 a3 P) Q) : Con G y_Mo_meets cw_Mo_meets d nOb nOb [.ref (ad E 109), .int a1, .int a2, .int a3] P E Q :=
  Con.of hG (by decide +kernel) rfl (fun h => by cases h) hE.2 (Nat.le_of_ble_eq_true rfl) (t_f_Mo_meets hG hE d hd a1 a2 a3 P h)
abbrev c_Mo_noBack : ByteArray := prog_14_method_97_code
abbrev y_Mo_noBack : MethodName := ⟨"YawnRouteModel", "noBack", "(III)I"⟩
abbrev cw_Mo_noBack : Cond := .code y_Mo_noBack c_Mo_noBack 4 (some .int)
theorem w_Mo_noBack : VW 12 y_Mo_noBack c_Mo_noBack 4 (some .int) 3 := ⟨by decide, lk1817, lp103_, lk14, lk1818, ⟨by decide, by decide, by decide +kernel⟩, by decide⟩
noncomputable def j_Mo_noBack_34 (P : PM) : Option Int32 := some (-3 : Int32)
noncomputable def f_Mo_noBack (a1 : Int32) (a2 : Int32) (a3 : Int32) (P : PM) : Option Int32 := (f_Mo_isStation (a2.toInt64) P).bind (fun v1 => if v1 = (0 : Int32) then (some (-2 : Int32)) else (if (f_Mo_within (a1.toInt64) (1 : Int64) (10 : Int64) P) = (0 : Int32) then (j_Mo_noBack_34 P) else ((f_Mo_isSize (a3.toInt64) P).bind (fun v4 => if v4 = (0 : Int32) then (j_Mo_noBack_34 P) else (if (P.1 110 (113 : Int32).toNatClampNeg) = (-1 : Int32) then (some (-5 : Int32)) else (some (0 : Int32)))))))
theorem t_j_Mo_noBack_34 {G : GX} (hG : GOK G) {E : EV} (hE : E0 E) (d : Nat) (hd : 3 ≤ d) {P : PM} {Q : QT} (h : St E (rI P) (j_Mo_noBack_34 P) Q) : Go G c_Mo_noBack "YawnRouteModel" 4 (some .int) false d nOb nOb Q 34 [] [] P E := by
  rw [j_Mo_noBack_34] at h
  refine Go.bipush (n := -3) (-3 : Int32) (by decide +kernel) (by decide) ?_
  refine Go.goto (off := 20) 56 (by decide +kernel) (by decide) ?_
  exact Go.iret rfl rfl hE.2 (by decide +kernel) (St.fI h)
theorem t_f_Mo_noBack {G : GX} (hG : GOK G) {E : EV} (hE : E0 E) (d : Nat) (hd : 3 ≤ d) {P : PM} {Q : QT} (a1 : Int32) (a2 : Int32) (a3 : Int32) (h : St E (rI P) (f_Mo_noBack a1 a2 a3 P) Q) : Go G c_Mo_noBack "YawnRouteModel" 4 (some .int) false d nOb nOb Q 0 [(0, .ref (ad E 109)), (1, .int a1), (2, .int a2), (3, .int a3)] [] P E := by
  rw [f_Mo_noBack] at h
  refine Go.aload_n (k := 0) (i := 0) 0 (by decide +kernel) rfl rfl ?_
  refine Go.iload_n (k := 2) (i := 2) 2 (by decide +kernel) rfl rfl ?_
  refine Go.i2l (by decide +kernel) ?_
  obtain ⟨v1, hv1, h⟩ := St.bind h
  refine Go.cV_i (P1 := P) (v := v1) (d - 1) 109 [.long (a2.toInt64)] sh109 hE w_Mo_isStation (e_Mo_isStation hG hE (d - 1) (by omega) (a2.toInt64) P ⟨_, hv1, rfl, rfl, rfl⟩) lk1555 rfl (by omega) (Nat.le_of_ble_eq_true rfl) (by decide +kernel) _ rfl ?_
  refine Go.if_ne (off := 8) 14 (by decide +kernel) (by decide) (fun c2 => ?_) (fun c2 => ?_)
  · rw [if_neg c2] at h
    refine Go.iload_n (k := 1) (i := 1) 1 (by decide +kernel) rfl rfl ?_
    refine Go.i2l (by decide +kernel) ?_
    refine Go.lconst (n := 1) (1 : Int64) (by decide +kernel) rfl ?_
    refine Go.ldc2 (10 : Int64) lk1636 (by decide +kernel) ?_
    refine Go.cS_i (P1 := P) (v := (f_Mo_within (a1.toInt64) (1 : Int64) (10 : Int64) P)) (d - 1) [.long (a1.toInt64), .long (1 : Int64), .long (10 : Int64)] hE w_Mo_within (e_Mo_within hG hE (d - 1) (by omega) (a1.toInt64) (1 : Int64) (10 : Int64) P ⟨rfl, rfl, rfl⟩) lk1438 rfl (by omega) (Nat.le_of_ble_eq_true rfl) (by decide +kernel) _ rfl ?_
    refine Go.if_eq (off := 11) 34 (by decide +kernel) (by decide) (fun c3 => ?_) (fun c3 => ?_)
    · rw [if_pos c3] at h
      refine Go.sub [] [] rfl ?_
      exact t_j_Mo_noBack_34 hG hE d hd h
    · rw [if_neg c3] at h
      refine Go.iload_n (k := 3) (i := 3) 3 (by decide +kernel) rfl rfl ?_
      refine Go.i2l (by decide +kernel) ?_
      obtain ⟨v4, hv4, h⟩ := St.bind h
      refine Go.cS_i (P1 := P) (v := v4) (d - 1) [.long (a3.toInt64)] hE w_Mo_isSize (e_Mo_isSize hG hE (d - 1) (by omega) (a3.toInt64) P ⟨_, hv4, rfl, rfl, rfl⟩) lk1615 rfl (by omega) (Nat.le_of_ble_eq_true rfl) (by decide +kernel) _ rfl ?_
      refine Go.if_ne (off := 8) 39 (by decide +kernel) (by decide) (fun c5 => ?_) (fun c5 => ?_)
      · rw [if_neg c5] at h
        refine Go.aload_n (k := 0) (i := 0) 0 (by decide +kernel) rfl rfl ?_
        refine Go.get 109 1 (.ref (ad E 110)) (by decide) (by decide) sh109 (ltO hE sh109) (vlR hE rfl rfl) lk1331 (by decide +kernel) ?_
        refine Go.bipush (n := 113) (113 : Int32) (by decide +kernel) (by decide) ?_
        refine Go.iaload 110 3408 sh110 (ltA hE sh110 (by decide)) (vp_in_iff.mpr (by decide)) (by decide +kernel) ?_
        refine Go.iconst (n := -1) (-1 : Int32) (by decide +kernel) rfl ?_
        refine Go.icmp_ne (off := 8) 55 (by decide +kernel) (by decide) (fun c6 => ?_) (fun c6 => ?_)
        · rw [if_neg c6] at h
          refine Go.iconst (n := 0) (0 : Int32) (by decide +kernel) rfl ?_
          exact Go.iret rfl rfl hE.2 (by decide +kernel) (St.fI h)
        · rw [if_pos c6] at h
          refine Go.bipush (n := -5) (-5 : Int32) (by decide +kernel) (by decide) ?_
          refine Go.goto (off := 4) 56 (by decide +kernel) (by decide) ?_
          exact Go.iret rfl rfl hE.2 (by decide +kernel) (St.fI h)
      · rw [if_pos c5] at h
        refine Go.sub [] [] rfl ?_
        exact t_j_Mo_noBack_34 hG hE d hd h
  · rw [if_pos c2] at h
    refine Go.bipush (n := -2) (-2 : Int32) (by decide +kernel) (by decide) ?_
    refine Go.goto (off := 45) 56 (by decide +kernel) (by decide) ?_
    exact Go.iret rfl rfl hE.2 (by decide +kernel) (St.fI h)
theorem e_Mo_noBack {G : GX} (hG : GOK G) {E : EV} (hE : E0 E) (d : Nat) (hd : 3 ≤ d) (a1 : Int32) (a2 : Int32) (a3 : Int32) (P : PM) {Q : QT} (h : St E (rI P) (f_Mo_noBack a1 a2 a3 P) Q) : Con G y_Mo_noBack cw_Mo_noBack d nOb nOb [.ref (ad E 109), .int a1, .int a2, .int a3] P E Q :=
  Con.of hG (by decide +kernel) rfl (fun h => by cases h) hE.2 (Nat.le_of_ble_eq_true rfl) (t_f_Mo_noBack hG hE d hd a1 a2 a3 h)
abbrev c_Mo_laysBack : ByteArray := prog_14_method_98_code
abbrev y_Mo_laysBack : MethodName := ⟨"YawnRouteModel", "laysBack", "(IIII)J"⟩
abbrev cw_Mo_laysBack : Cond := .code y_Mo_laysBack c_Mo_laysBack 10 (some .long)
theorem w_Mo_laysBack : VW 12 y_Mo_laysBack c_Mo_laysBack 10 (some .long) 4 := ⟨by decide, lk1821, lp104_, lk14, lk1822, ⟨by decide, by decide, by decide +kernel⟩, by decide⟩
noncomputable def j_Mo_laysBack_43 (k14 : Int32 → Int32 → Int32 → Int32 → Int32 → PM → Option (Int64 × PM)) (x1 : Int32) (x2 : Int32) (x3 : Int32) (x4 : Int32) (x5 : Int32) (s1 : Int32) (s2 : Int64) (P : PM) : Option (Int64 × PM) := ck (inb s1 3157) (k14 x1 x2 x3 x4 (x5 + (1 : Int32)) (u2 P 123 s1.toNatClampNeg s2))
noncomputable def j_Mo_laysBack_129 (k53 : Int32 → Int32 → Int32 → PM → Option (Int64 × PM)) (k62 : Int32 → Int32 → Int32 → Int32 → PM → Option (Int64 × PM)) (k76 : Int32 → Int32 → Int32 → Int32 → Int64 → Int32 → PM → Option (Int64 × PM)) (x1 : Int32) (x4 : Int32) (x5 : Int32) (x6 : Int32) (x7 : Int64) (x9 : Int32) (P : PM) : Option (Int64 × PM) := k76 x1 x4 x5 x6 x7 (x9 + (1 : Int32)) P
noncomputable def l_Mo_laysBack_76 (k53 : Int32 → Int32 → Int32 → PM → Option (Int64 × PM)) (k62 : Int32 → Int32 → Int32 → Int32 → PM → Option (Int64 × PM)) : Nat → Int32 → Int32 → Int32 → Int32 → Int64 → Int32 → PM → Option (Int64 × PM)
  | 0, _, _, _, _, _, _, _ => none
  | n + 1, x1, x4, x5, x6, x7, x9, P => if (7 : Int32) ≤ x9 then (ck (inb (((287 : Int32) * x5) + x6) 3157) (k62 x1 x4 x5 (x6 + (1 : Int32)) (u2 P 123 (((287 : Int32) * x5) + x6).toNatClampNeg x7))) else (if x9 = x4 then (j_Mo_laysBack_129 k53 k62 (fun z0 z1 z2 z3 z4 z5 Pz => l_Mo_laysBack_76 k53 k62 n z0 z1 z2 z3 z4 z5 Pz) x1 x4 x5 x6 x7 x9 P) else ((f_Mo_routed x6 x9 P).bind (fun v4 => if v4 = (-1 : Int32) then (j_Mo_laysBack_129 k53 k62 (fun z0 z1 z2 z3 z4 z5 Pz => l_Mo_laysBack_76 k53 k62 n z0 z1 z2 z3 z4 z5 Pz) x1 x4 x5 x6 x7 x9 P) else ((f_Mo_routed x6 x9 P).bind (fun v6 => ck (inb (((287 : Int32) * (x5 - (1 : Int32))) + v6) 3157) (lb (x7 + (P.2 123 (((287 : Int32) * (x5 - (1 : Int32))) + v6).toNatClampNeg)) (fun y8 => j_Mo_laysBack_129 k53 k62 (fun z0 z1 z2 z3 z4 z5 Pz => l_Mo_laysBack_76 k53 k62 n z0 z1 z2 z3 z4 z5 Pz) x1 x4 x5 x6 y8 x9 P)))))))
noncomputable def l_Mo_laysBack_62 (k53 : Int32 → Int32 → Int32 → PM → Option (Int64 × PM)) : Nat → Int32 → Int32 → Int32 → Int32 → PM → Option (Int64 × PM)
  | 0, _, _, _, _, _ => none
  | n + 1, x1, x4, x5, x6, P => if (287 : Int32) ≤ x6 then (k53 x1 x4 (x5 + (1 : Int32)) P) else (l_Mo_laysBack_76 k53 (fun z0 z1 z2 z3 Pz => l_Mo_laysBack_62 k53 n z0 z1 z2 z3 Pz) FU x1 x4 x5 x6 (0 : Int64) (0 : Int32) P)
noncomputable def l_Mo_laysBack_53 : Nat → Int32 → Int32 → Int32 → PM → Option (Int64 × PM)
  | 0, _, _, _, _ => none
  | n + 1, x1, x4, x5, P => if x1 < x5 then (ck (inb (((287 : Int32) * x1) + (f_Mo_standNow P)) 3157) (some ((P.2 123 (((287 : Int32) * x1) + (f_Mo_standNow P)).toNatClampNeg), P))) else (l_Mo_laysBack_62 (fun z0 z1 z2 Pz => l_Mo_laysBack_53 n z0 z1 z2 Pz) FU x1 x4 x5 (0 : Int32) P)
noncomputable def l_Mo_laysBack_14 : Nat → Int32 → Int32 → Int32 → Int32 → Int32 → PM → Option (Int64 × PM)
  | 0, _, _, _, _, _, _ => none
  | n + 1, x1, x2, x3, x4, x5, P => if (287 : Int32) ≤ x5 then (l_Mo_laysBack_53 FU x1 x4 (1 : Int32) P) else (if x5 = (f_Mo_standOf x2 x3 P) then (j_Mo_laysBack_43 (fun z0 z1 z2 z3 z4 Pz => l_Mo_laysBack_14 n z0 z1 z2 z3 z4 Pz) x1 x2 x3 x4 x5 x5 (1 : Int64) P) else (j_Mo_laysBack_43 (fun z0 z1 z2 z3 z4 Pz => l_Mo_laysBack_14 n z0 z1 z2 z3 z4 Pz) x1 x2 x3 x4 x5 x5 (0 : Int64) P))
noncomputable def f_Mo_laysBack (a1 : Int32) (a2 : Int32) (a3 : Int32) (a4 : Int32) (P : PM) : Option (Int64 × PM) := (f_Mo_laysThen (P.1 110 (116 : Int32).toNatClampNeg) P).bind (fun P1 => l_Mo_laysBack_14 FU a1 a2 a3 a4 (0 : Int32) P1)
theorem t_j_Mo_laysBack_43 {G : GX} (hG : GOK G) {E : EV} (hE : E0 E) (d : Nat) (hd : 5 ≤ d) {Q : QT} (k14 : Int32 → Int32 → Int32 → Int32 → Int32 → PM → Option (Int64 × PM)) (hk14 : ∀ (x1 : Int32) (x2 : Int32) (x3 : Int32) (x4 : Int32) (x5 : Int32) (P : PM), St E rLP (k14 x1 x2 x3 x4 x5 P) Q → Go G c_Mo_laysBack "YawnRouteModel" 10 (some .long) false d nOb nOb Q 14 [(0, .ref (ad E 109)), (1, .int x1), (2, .int x2), (3, .int x3), (4, .int x4), (5, .int x5)] [] P E) (x1 : Int32) (x2 : Int32) (x3 : Int32) (x4 : Int32) (x5 : Int32) (s1 : Int32) (s2 : Int64) (P : PM) (h : St E rLP (j_Mo_laysBack_43 k14 x1 x2 x3 x4 x5 s1 s2 P) Q) : Go G c_Mo_laysBack "YawnRouteModel" 10 (some .long) false d nOb nOb Q 43 [(0, .ref (ad E 109)), (1, .int x1), (2, .int x2), (3, .int x3), (4, .int x4), (5, .int x5)] [.long s2, .int s1, .ref (ad E 123)] P E := by
  rw [j_Mo_laysBack_43] at h
  obtain ⟨b1, h⟩ := St.ck h
  refine Go.lastore 123 3157 sh123 (ltA hE sh123 (by decide)) (inb_in b1) (by decide +kernel) ?_
  refine Go.iinc (i := 5) (n := 1) 5 (x5 + (1 : Int32)) [(5, .int (x5 + (1 : Int32))), (0, .ref (ad E 109)), (1, .int x1), (2, .int x2), (3, .int x3), (4, .int x4)] (by decide +kernel) rfl rfl (by decide) rfl ?_
  refine Go.goto (off := -33) 14 (by decide +kernel) (by decide) ?_
  refine Go.sub [1, 2, 3, 4, 5, 0] [(0, .ref (ad E 109)), (1, .int x1), (2, .int x2), (3, .int x3), (4, .int x4), (5, .int (x5 + (1 : Int32)))] rfl ?_
  exact hk14 x1 x2 x3 x4 (x5 + (1 : Int32)) (u2 P 123 s1.toNatClampNeg s2) h
theorem t_j_Mo_laysBack_129 {G : GX} (hG : GOK G) {E : EV} (hE : E0 E) (d : Nat) (hd : 5 ≤ d) {Q : QT} (k53 : Int32 → Int32 → Int32 → PM → Option (Int64 × PM)) (hk53 : ∀ (x1 : Int32) (x4 : Int32) (x5 : Int32) (P : PM), St E rLP (k53 x1 x4 x5 P) Q → Go G c_Mo_laysBack "YawnRouteModel" 10 (some .long) false d nOb nOb Q 53 [(0, .ref (ad E 109)), (1, .int x1), (4, .int x4), (5, .int x5)] [] P E) (k62 : Int32 → Int32 → Int32 → Int32 → PM → Option (Int64 × PM)) (hk62 : ∀ (x1 : Int32) (x4 : Int32) (x5 : Int32) (x6 : Int32) (P : PM), St E rLP (k62 x1 x4 x5 x6 P) Q → Go G c_Mo_laysBack "YawnRouteModel" 10 (some .long) false d nOb nOb Q 62 [(0, .ref (ad E 109)), (1, .int x1), (4, .int x4), (5, .int x5), (6, .int x6)] [] P E) (k76 : Int32 → Int32 → Int32 → Int32 → Int64 → Int32 → PM → Option (Int64 × PM)) (hk76 : ∀ (x1 : Int32) (x4 : Int32) (x5 : Int32) (x6 : Int32) (x7 : Int64) (x9 : Int32) (P : PM), St E rLP (k76 x1 x4 x5 x6 x7 x9 P) Q → Go G c_Mo_laysBack "YawnRouteModel" 10 (some .long) false d nOb nOb Q 76 [(0, .ref (ad E 109)), (1, .int x1), (4, .int x4), (5, .int x5), (6, .int x6), (7, .long x7), (9, .int x9)] [] P E) (x1 : Int32) (x4 : Int32) (x5 : Int32) (x6 : Int32) (x7 : Int64) (x9 : Int32) (P : PM) (h : St E rLP (j_Mo_laysBack_129 k53 k62 k76 x1 x4 x5 x6 x7 x9 P) Q) : Go G c_Mo_laysBack "YawnRouteModel" 10 (some .long) false d nOb nOb Q 129 [(0, .ref (ad E 109)), (1, .int x1), (4, .int x4), (5, .int x5), (6, .int x6), (7, .long x7), (9, .int x9)] [] P E := by
  rw [j_Mo_laysBack_129] at h
  refine Go.iinc (i := 9) (n := 1) 6 (x9 + (1 : Int32)) [(9, .int (x9 + (1 : Int32))), (0, .ref (ad E 109)), (1, .int x1), (4, .int x4), (5, .int x5), (6, .int x6), (7, .long x7)] (by decide +kernel) rfl rfl (by decide) rfl ?_
  refine Go.goto (off := -56) 76 (by decide +kernel) (by decide) ?_
  refine Go.sub [1, 2, 3, 4, 5, 6, 0] [(0, .ref (ad E 109)), (1, .int x1), (4, .int x4), (5, .int x5), (6, .int x6), (7, .long x7), (9, .int (x9 + (1 : Int32)))] rfl ?_
  exact hk76 x1 x4 x5 x6 x7 (x9 + (1 : Int32)) P h
theorem t_l_Mo_laysBack_76 {G : GX} (hG : GOK G) {E : EV} (hE : E0 E) (d : Nat) (hd : 5 ≤ d) {Q : QT} (k53 : Int32 → Int32 → Int32 → PM → Option (Int64 × PM)) (hk53 : ∀ (x1 : Int32) (x4 : Int32) (x5 : Int32) (P : PM), St E rLP (k53 x1 x4 x5 P) Q → Go G c_Mo_laysBack "YawnRouteModel" 10 (some .long) false d nOb nOb Q 53 [(0, .ref (ad E 109)), (1, .int x1), (4, .int x4), (5, .int x5)] [] P E) (k62 : Int32 → Int32 → Int32 → Int32 → PM → Option (Int64 × PM)) (hk62 : ∀ (x1 : Int32) (x4 : Int32) (x5 : Int32) (x6 : Int32) (P : PM), St E rLP (k62 x1 x4 x5 x6 P) Q → Go G c_Mo_laysBack "YawnRouteModel" 10 (some .long) false d nOb nOb Q 62 [(0, .ref (ad E 109)), (1, .int x1), (4, .int x4), (5, .int x5), (6, .int x6)] [] P E) : ∀ (n : Nat) (x1 : Int32) (x4 : Int32) (x5 : Int32) (x6 : Int32) (x7 : Int64) (x9 : Int32) (P : PM), St E rLP (l_Mo_laysBack_76 k53 k62 n x1 x4 x5 x6 x7 x9 P) Q → Go G c_Mo_laysBack "YawnRouteModel" 10 (some .long) false d nOb nOb Q 76 [(0, .ref (ad E 109)), (1, .int x1), (4, .int x4), (5, .int x5), (6, .int x6), (7, .long x7), (9, .int x9)] [] P E := by
  intro n
  induction n with
  | zero =>
    intro x1 x4 x5 x6 x7 x9 P h
    rw [l_Mo_laysBack_76] at h
    exact St.none_ h
  | succ n ih =>
    intro x1 x4 x5 x6 x7 x9 P h
    rw [l_Mo_laysBack_76] at h
    refine Go.iload (i := 9) 6 (by decide +kernel) rfl ?_
    refine Go.bipush (n := 7) (7 : Int32) (by decide +kernel) (by decide) ?_
    refine Go.icmp_ge (off := 55) 135 (by decide +kernel) (by decide) (fun c1 => ?_) (fun c1 => ?_)
    · rw [if_pos c1] at h
      refine Go.aload_n (k := 0) (i := 0) 0 (by decide +kernel) rfl rfl ?_
      refine Go.get 109 26 (.ref (ad E 123)) (by decide) (by decide) sh109 (ltO hE sh109) (vlR hE rfl rfl) lk1356 (by decide +kernel) ?_
      refine Go.sipush (n := 287) (287 : Int32) (by decide +kernel) (by decide) ?_
      refine Go.iload (i := 5) 3 (by decide +kernel) rfl ?_
      refine Go.imul (by decide +kernel) ?_
      refine Go.iload (i := 6) 4 (by decide +kernel) rfl ?_
      refine Go.iadd (by decide +kernel) ?_
      refine Go.lload (i := 7) 5 (by decide +kernel) rfl ?_
      obtain ⟨b2, h⟩ := St.ck h
      refine Go.lastore 123 3157 sh123 (ltA hE sh123 (by decide)) (inb_in b2) (by decide +kernel) ?_
      refine Go.iinc (i := 6) (n := 1) 4 (x6 + (1 : Int32)) [(6, .int (x6 + (1 : Int32))), (0, .ref (ad E 109)), (1, .int x1), (4, .int x4), (5, .int x5), (7, .long x7), (9, .int x9)] (by decide +kernel) rfl rfl (by decide) rfl ?_
      refine Go.goto (off := -92) 62 (by decide +kernel) (by decide) ?_
      refine Go.sub [1, 2, 3, 4, 0] [(0, .ref (ad E 109)), (1, .int x1), (4, .int x4), (5, .int x5), (6, .int (x6 + (1 : Int32)))] rfl ?_
      exact hk62 x1 x4 x5 (x6 + (1 : Int32)) (u2 P 123 (((287 : Int32) * x5) + x6).toNatClampNeg x7) h
    · rw [if_neg c1] at h
      refine Go.iload (i := 9) 6 (by decide +kernel) rfl ?_
      refine Go.iload (i := 4) 2 (by decide +kernel) rfl ?_
      refine Go.icmp_eq (off := 42) 129 (by decide +kernel) (by decide) (fun c3 => ?_) (fun c3 => ?_)
      · rw [if_pos c3] at h
        exact t_j_Mo_laysBack_129 hG hE d hd k53 hk53 k62 hk62 (fun z0 z1 z2 z3 z4 z5 Pz => l_Mo_laysBack_76 k53 k62 n z0 z1 z2 z3 z4 z5 Pz) (fun z0 z1 z2 z3 z4 z5 Pz q => ih z0 z1 z2 z3 z4 z5 Pz q) x1 x4 x5 x6 x7 x9 P h
      · rw [if_neg c3] at h
        refine Go.aload_n (k := 0) (i := 0) 0 (by decide +kernel) rfl rfl ?_
        refine Go.iload (i := 6) 4 (by decide +kernel) rfl ?_
        refine Go.iload (i := 9) 6 (by decide +kernel) rfl ?_
        obtain ⟨v4, hv4, h⟩ := St.bind h
        refine Go.cV_i (P1 := P) (v := v4) (d - 1) 109 [.int x6, .int x9] sh109 hE w_Mo_routed (e_Mo_routed hG hE (d - 1) (by omega) x6 x9 P ⟨_, hv4, rfl, rfl, rfl⟩) lk1712 rfl (by omega) (Nat.le_of_ble_eq_true rfl) (by decide +kernel) _ rfl ?_
        refine Go.iconst (n := -1) (-1 : Int32) (by decide +kernel) rfl ?_
        refine Go.icmp_eq (off := 30) 129 (by decide +kernel) (by decide) (fun c5 => ?_) (fun c5 => ?_)
        · rw [if_pos c5] at h
          exact t_j_Mo_laysBack_129 hG hE d hd k53 hk53 k62 hk62 (fun z0 z1 z2 z3 z4 z5 Pz => l_Mo_laysBack_76 k53 k62 n z0 z1 z2 z3 z4 z5 Pz) (fun z0 z1 z2 z3 z4 z5 Pz q => ih z0 z1 z2 z3 z4 z5 Pz q) x1 x4 x5 x6 x7 x9 P h
        · rw [if_neg c5] at h
          refine Go.lload (i := 7) 5 (by decide +kernel) rfl ?_
          refine Go.aload_n (k := 0) (i := 0) 0 (by decide +kernel) rfl rfl ?_
          refine Go.get 109 26 (.ref (ad E 123)) (by decide) (by decide) sh109 (ltO hE sh109) (vlR hE rfl rfl) lk1356 (by decide +kernel) ?_
          refine Go.sipush (n := 287) (287 : Int32) (by decide +kernel) (by decide) ?_
          refine Go.iload (i := 5) 3 (by decide +kernel) rfl ?_
          refine Go.iconst (n := 1) (1 : Int32) (by decide +kernel) rfl ?_
          refine Go.isub (by decide +kernel) ?_
          refine Go.imul (by decide +kernel) ?_
          refine Go.aload_n (k := 0) (i := 0) 0 (by decide +kernel) rfl rfl ?_
          refine Go.iload (i := 6) 4 (by decide +kernel) rfl ?_
          refine Go.iload (i := 9) 6 (by decide +kernel) rfl ?_
          obtain ⟨v6, hv6, h⟩ := St.bind h
          refine Go.cV_i (P1 := P) (v := v6) (d - 1) 109 [.int x6, .int x9] sh109 hE w_Mo_routed (e_Mo_routed hG hE (d - 1) (by omega) x6 x9 P ⟨_, hv6, rfl, rfl, rfl⟩) lk1712 rfl (by omega) (Nat.le_of_ble_eq_true rfl) (by decide +kernel) _ rfl ?_
          refine Go.iadd (by decide +kernel) ?_
          obtain ⟨b7, h⟩ := St.ck h
          refine Go.laload 123 3157 sh123 (ltA hE sh123 (by decide)) (inb_in b7) (by decide +kernel) ?_
          refine Go.ladd (by decide +kernel) ?_
          obtain ⟨y8, hy8, h⟩ := St.lb h
          refine Go.eql y8 hy8 ?_
          refine Go.lstore (i := 7) [(7, .long y8), (0, .ref (ad E 109)), (1, .int x1), (4, .int x4), (5, .int x5), (6, .int x6), (9, .int x9)] (by decide +kernel) (by decide) rfl ?_
          refine Go.sub [1, 2, 3, 4, 5, 0, 6] [(0, .ref (ad E 109)), (1, .int x1), (4, .int x4), (5, .int x5), (6, .int x6), (7, .long y8), (9, .int x9)] rfl ?_
          exact t_j_Mo_laysBack_129 hG hE d hd k53 hk53 k62 hk62 (fun z0 z1 z2 z3 z4 z5 Pz => l_Mo_laysBack_76 k53 k62 n z0 z1 z2 z3 z4 z5 Pz) (fun z0 z1 z2 z3 z4 z5 Pz q => ih z0 z1 z2 z3 z4 z5 Pz q) x1 x4 x5 x6 y8 x9 P h
theorem t_l_Mo_laysBack_62 {G : GX} (hG : GOK G) {E : EV} (hE : E0 E) (d : Nat) (hd : 5 ≤ d) {Q : QT} (k53 : Int32 → Int32 → Int32 → PM → Option (Int64 × PM)) (hk53 : ∀ (x1 : Int32) (x4 : Int32) (x5 : Int32) (P : PM), St E rLP (k53 x1 x4 x5 P) Q → Go G c_Mo_laysBack "YawnRouteModel" 10 (some .long) false d nOb nOb Q 53 [(0, .ref (ad E 109)), (1, .int x1), (4, .int x4), (5, .int x5)] [] P E) : ∀ (n : Nat) (x1 : Int32) (x4 : Int32) (x5 : Int32) (x6 : Int32) (P : PM), St E rLP (l_Mo_laysBack_62 k53 n x1 x4 x5 x6 P) Q → Go G c_Mo_laysBack "YawnRouteModel" 10 (some .long) false d nOb nOb Q 62 [(0, .ref (ad E 109)), (1, .int x1), (4, .int x4), (5, .int x5), (6, .int x6)] [] P E := by
  intro n
  induction n with
  | zero =>
    intro x1 x4 x5 x6 P h
    rw [l_Mo_laysBack_62] at h
    exact St.none_ h
  | succ n ih =>
    intro x1 x4 x5 x6 P h
    rw [l_Mo_laysBack_62] at h
    refine Go.iload (i := 6) 4 (by decide +kernel) rfl ?_
    refine Go.sipush (n := 287) (287 : Int32) (by decide +kernel) (by decide) ?_
    refine Go.icmp_ge (off := 90) 157 (by decide +kernel) (by decide) (fun c1 => ?_) (fun c1 => ?_)
    · rw [if_pos c1] at h
      refine Go.iinc (i := 5) (n := 1) 3 (x5 + (1 : Int32)) [(5, .int (x5 + (1 : Int32))), (0, .ref (ad E 109)), (1, .int x1), (4, .int x4), (6, .int x6)] (by decide +kernel) rfl rfl (by decide) rfl ?_
      refine Go.goto (off := -107) 53 (by decide +kernel) (by decide) ?_
      refine Go.sub [1, 2, 3, 0] [(0, .ref (ad E 109)), (1, .int x1), (4, .int x4), (5, .int (x5 + (1 : Int32)))] rfl ?_
      exact hk53 x1 x4 (x5 + (1 : Int32)) P h
    · rw [if_neg c1] at h
      refine Go.lconst (n := 0) (0 : Int64) (by decide +kernel) rfl ?_
      refine Go.lstore (i := 7) [(7, .long (0 : Int64)), (0, .ref (ad E 109)), (1, .int x1), (4, .int x4), (5, .int x5), (6, .int x6)] (by decide +kernel) (by decide) rfl ?_
      refine Go.iconst (n := 0) (0 : Int32) (by decide +kernel) rfl ?_
      refine Go.istore (i := 9) [(9, .int (0 : Int32)), (7, .long (0 : Int64)), (0, .ref (ad E 109)), (1, .int x1), (4, .int x4), (5, .int x5), (6, .int x6)] (by decide +kernel) (by decide) rfl ?_
      refine Go.sub [2, 3, 4, 5, 6, 1, 0] [(0, .ref (ad E 109)), (1, .int x1), (4, .int x4), (5, .int x5), (6, .int x6), (7, .long (0 : Int64)), (9, .int (0 : Int32))] rfl ?_
      exact t_l_Mo_laysBack_76 hG hE d hd k53 hk53 (fun z0 z1 z2 z3 Pz => l_Mo_laysBack_62 k53 n z0 z1 z2 z3 Pz) (fun z0 z1 z2 z3 Pz q => ih z0 z1 z2 z3 Pz q) FU x1 x4 x5 x6 (0 : Int64) (0 : Int32) P h
theorem t_l_Mo_laysBack_53 {G : GX} (hG : GOK G) {E : EV} (hE : E0 E) (d : Nat) (hd : 5 ≤ d) {Q : QT} : ∀ (n : Nat) (x1 : Int32) (x4 : Int32) (x5 : Int32) (P : PM), St E rLP (l_Mo_laysBack_53 n x1 x4 x5 P) Q → Go G c_Mo_laysBack "YawnRouteModel" 10 (some .long) false d nOb nOb Q 53 [(0, .ref (ad E 109)), (1, .int x1), (4, .int x4), (5, .int x5)] [] P E := by
  intro n
  induction n with
  | zero =>
    intro x1 x4 x5 P h
    rw [l_Mo_laysBack_53] at h
    exact St.none_ h
  | succ n ih =>
    intro x1 x4 x5 P h
    rw [l_Mo_laysBack_53] at h
    refine Go.iload (i := 5) 3 (by decide +kernel) rfl ?_
    refine Go.iload_n (k := 1) (i := 1) 1 (by decide +kernel) rfl rfl ?_
    refine Go.icmp_gt (off := 107) 163 (by decide +kernel) (by decide) (fun c1 => ?_) (fun c1 => ?_)
    · rw [if_pos c1] at h
      refine Go.aload_n (k := 0) (i := 0) 0 (by decide +kernel) rfl rfl ?_
      refine Go.get 109 26 (.ref (ad E 123)) (by decide) (by decide) sh109 (ltO hE sh109) (vlR hE rfl rfl) lk1356 (by decide +kernel) ?_
      refine Go.sipush (n := 287) (287 : Int32) (by decide +kernel) (by decide) ?_
      refine Go.iload_n (k := 1) (i := 1) 1 (by decide +kernel) rfl rfl ?_
      refine Go.imul (by decide +kernel) ?_
      refine Go.aload_n (k := 0) (i := 0) 0 (by decide +kernel) rfl rfl ?_
      refine Go.cV_i (P1 := P) (v := (f_Mo_standNow P)) (d - 1) 109 [] sh109 hE w_Mo_standNow (e_Mo_standNow hG hE (d - 1) (by omega) P ⟨rfl, rfl, rfl⟩) lk1720 rfl (by omega) (Nat.le_of_ble_eq_true rfl) (by decide +kernel) _ rfl ?_
      refine Go.iadd (by decide +kernel) ?_
      obtain ⟨b2, h⟩ := St.ck h
      refine Go.laload 123 3157 sh123 (ltA hE sh123 (by decide)) (inb_in b2) (by decide +kernel) ?_
      exact Go.lret rfl hE.2 (by decide +kernel) (St.fLP h)
    · rw [if_neg c1] at h
      refine Go.iconst (n := 0) (0 : Int32) (by decide +kernel) rfl ?_
      refine Go.istore (i := 6) [(6, .int (0 : Int32)), (0, .ref (ad E 109)), (1, .int x1), (4, .int x4), (5, .int x5)] (by decide +kernel) (by decide) rfl ?_
      refine Go.sub [1, 2, 3, 4, 0] [(0, .ref (ad E 109)), (1, .int x1), (4, .int x4), (5, .int x5), (6, .int (0 : Int32))] rfl ?_
      exact t_l_Mo_laysBack_62 hG hE d hd (fun z0 z1 z2 Pz => l_Mo_laysBack_53 n z0 z1 z2 Pz) (fun z0 z1 z2 Pz q => ih z0 z1 z2 Pz q) FU x1 x4 x5 (0 : Int32) P h
theorem t_l_Mo_laysBack_14 {G : GX} (hG : GOK G) {E : EV} (hE : E0 E) (d : Nat) (hd : 5 ≤ d) {Q : QT} : ∀ (n : Nat) (x1 : Int32) (x2 : Int32) (x3 : Int32) (x4 : Int32) (x5 : Int32) (P : PM), St E rLP (l_Mo_laysBack_14 n x1 x2 x3 x4 x5 P) Q → Go G c_Mo_laysBack "YawnRouteModel" 10 (some .long) false d nOb nOb Q 14 [(0, .ref (ad E 109)), (1, .int x1), (2, .int x2), (3, .int x3), (4, .int x4), (5, .int x5)] [] P E := by
  intro n
  induction n with
  | zero =>
    intro x1 x2 x3 x4 x5 P h
    rw [l_Mo_laysBack_14] at h
    exact St.none_ h
  | succ n ih =>
    intro x1 x2 x3 x4 x5 P h
    rw [l_Mo_laysBack_14] at h
    refine Go.iload (i := 5) 5 (by decide +kernel) rfl ?_
    refine Go.sipush (n := 287) (287 : Int32) (by decide +kernel) (by decide) ?_
    refine Go.icmp_ge (off := 31) 50 (by decide +kernel) (by decide) (fun c1 => ?_) (fun c1 => ?_)
    · rw [if_pos c1] at h
      refine Go.iconst (n := 1) (1 : Int32) (by decide +kernel) rfl ?_
      refine Go.istore (i := 5) [(5, .int (1 : Int32)), (0, .ref (ad E 109)), (1, .int x1), (2, .int x2), (3, .int x3), (4, .int x4)] (by decide +kernel) (by decide) rfl ?_
      refine Go.sub [1, 2, 5, 0] [(0, .ref (ad E 109)), (1, .int x1), (4, .int x4), (5, .int (1 : Int32))] rfl ?_
      exact t_l_Mo_laysBack_53 hG hE d hd FU x1 x4 (1 : Int32) P h
    · rw [if_neg c1] at h
      refine Go.aload_n (k := 0) (i := 0) 0 (by decide +kernel) rfl rfl ?_
      refine Go.get 109 26 (.ref (ad E 123)) (by decide) (by decide) sh109 (ltO hE sh109) (vlR hE rfl rfl) lk1356 (by decide +kernel) ?_
      refine Go.iload (i := 5) 5 (by decide +kernel) rfl ?_
      refine Go.iload (i := 5) 5 (by decide +kernel) rfl ?_
      refine Go.iload_n (k := 2) (i := 2) 2 (by decide +kernel) rfl rfl ?_
      refine Go.iload_n (k := 3) (i := 3) 3 (by decide +kernel) rfl rfl ?_
      refine Go.cS_i (P1 := P) (v := (f_Mo_standOf x2 x3 P)) (d - 1) [.int x2, .int x3] hE w_Mo_standOf (e_Mo_standOf hG hE (d - 1) (by omega) x2 x3 P ⟨rfl, rfl, rfl⟩) lk1704 rfl (by omega) (Nat.le_of_ble_eq_true rfl) (by decide +kernel) _ rfl ?_
      refine Go.icmp_ne (off := 7) 42 (by decide +kernel) (by decide) (fun c2 => ?_) (fun c2 => ?_)
      · rw [if_neg c2] at h
        refine Go.lconst (n := 0) (0 : Int64) (by decide +kernel) rfl ?_
        exact t_j_Mo_laysBack_43 hG hE d hd (fun z0 z1 z2 z3 z4 Pz => l_Mo_laysBack_14 n z0 z1 z2 z3 z4 Pz) (fun z0 z1 z2 z3 z4 Pz q => ih z0 z1 z2 z3 z4 Pz q) x1 x2 x3 x4 x5 x5 (0 : Int64) P h
      · rw [if_pos c2] at h
        refine Go.lconst (n := 1) (1 : Int64) (by decide +kernel) rfl ?_
        refine Go.goto (off := 4) 43 (by decide +kernel) (by decide) ?_
        exact t_j_Mo_laysBack_43 hG hE d hd (fun z0 z1 z2 z3 z4 Pz => l_Mo_laysBack_14 n z0 z1 z2 z3 z4 Pz) (fun z0 z1 z2 z3 z4 Pz q => ih z0 z1 z2 z3 z4 Pz q) x1 x2 x3 x4 x5 x5 (1 : Int64) P h
theorem t_f_Mo_laysBack {G : GX} (hG : GOK G) {E : EV} (hE : E0 E) (d : Nat) (hd : 5 ≤ d) {Q : QT} (a1 : Int32) (a2 : Int32) (a3 : Int32) (a4 : Int32) (P : PM) (h : St E rLP (f_Mo_laysBack a1 a2 a3 a4 P) Q) : Go G c_Mo_laysBack "YawnRouteModel" 10 (some .long) false d nOb nOb Q 0 [(0, .ref (ad E 109)), (1, .int a1), (2, .int a2), (3, .int a3), (4, .int a4)] [] P E := by
  rw [f_Mo_laysBack] at h
  refine Go.aload_n (k := 0) (i := 0) 0 (by decide +kernel) rfl rfl ?_
  refine Go.aload_n (k := 0) (i := 0) 0 (by decide +kernel) rfl rfl ?_
  refine Go.get 109 1 (.ref (ad E 110)) (by decide) (by decide) sh109 (ltO hE sh109) (vlR hE rfl rfl) lk1331 (by decide +kernel) ?_
  refine Go.bipush (n := 116) (116 : Int32) (by decide +kernel) (by decide) ?_
  refine Go.iaload 110 3408 sh110 (ltA hE sh110 (by decide)) (vp_in_iff.mpr (by decide)) (by decide +kernel) ?_
  obtain ⟨P1, hP1, h⟩ := St.bind h
  refine Go.cV_v (P1 := P1) (d - 1) 109 [.int (P.1 110 (116 : Int32).toNatClampNeg)] sh109 hE w_Mo_laysThen (e_Mo_laysThen hG hE (d - 1) (by omega) (P.1 110 (116 : Int32).toNatClampNeg) P ⟨_, hP1, rfl, rfl, rfl⟩) lk1700 rfl (by omega) (Nat.le_of_ble_eq_true rfl) (by decide +kernel) _ rfl ?_
  refine Go.iconst (n := 0) (0 : Int32) (by decide +kernel) rfl ?_
  refine Go.istore (i := 5) [(5, .int (0 : Int32)), (0, .ref (ad E 109)), (1, .int a1), (2, .int a2), (3, .int a3), (4, .int a4)] (by decide +kernel) (by decide) rfl ?_
  refine Go.sub [1, 2, 3, 4, 5, 0] [(0, .ref (ad E 109)), (1, .int a1), (2, .int a2), (3, .int a3), (4, .int a4), (5, .int (0 : Int32))] rfl ?_
  exact t_l_Mo_laysBack_14 hG hE d hd FU a1 a2 a3 a4 (0 : Int32) P1 h
theorem e_Mo_laysBack {G : GX} (hG : GOK G) {E : EV} (hE : E0 E) (d : Nat) (hd : 5 ≤ d) (a1 : Int32) (a2 : Int32) (a3 : Int32) (a4 : Int32) (P : PM) {Q : QT} (h : St E rLP (f_Mo_laysBack a1 a2 a3 a4 P) Q) : Con G y_Mo_laysBack cw_Mo_laysBack d nOb nOb [.ref (ad E 109), .int a1, .int a2, .int a3, .int a4] P E Q :=
  Con.of hG (by decide +kernel) rfl (fun h => by cases h) hE.2 (Nat.le_of_ble_eq_true rfl) (t_f_Mo_laysBack hG hE d hd a1 a2 a3 a4 P h)
