/-! methods as functions, by program: Mo_readFlag Mo_readStation Mo_readWay Mo_readAt Mo_readLaw Mo_readLine -/
abbrev c_Mo_readFlag : ByteArray := prog_14_method_26_code
abbrev y_Mo_readFlag : MethodName := ⟨"YawnRouteModel", "readFlag", "(I)Z"⟩
abbrev cw_Mo_readFlag : Cond := .code y_Mo_readFlag c_Mo_readFlag 2 (some .boolean)
theorem w_Mo_readFlag : VW 12 y_Mo_readFlag c_Mo_readFlag 2 (some .boolean) 1 := ⟨by decide, lk1489, lp55_, lk14, lk1490, ⟨by decide, by decide, by decide +kernel⟩, by decide⟩
noncomputable def j_Mo_readFlag_83 (P : PM) : Option (Int32 × PM) := if (P.1 109 11) = (0 : Int32) then (some ((1 : Int32), P)) else (some ((0 : Int32), P))
noncomputable def f_Mo_readFlag (a1 : Int32) (P : PM) : Option (Int32 × PM) := bd2 (f_Mo_eats (6 : Int32) P) (fun v1 P2 => if v1 = (0 : Int32) then (bd2 (f_Mo_eats (7 : Int32) P2) (fun v4 P5 => if v4 = (0 : Int32) then (bd2 (f_Mo_eats (8 : Int32) P5) (fun v7 P8 => if v7 = (0 : Int32) then (some ((0 : Int32), P8)) else (j_Mo_readFlag_83 (u1 P8 113 (116 : Int32).toNatClampNeg ((P8.1 113 (116 : Int32).toNatClampNeg) ||| ((1 : Int32) <<< (a1 &&& 31))))))) else (bd2 (f_Mo_takes (0 : Int32) (9 : Int32) P5) (fun v10 P11 => ck (inb ((8 : Int32) + a1) 1136) (j_Mo_readFlag_83 (u1 P11 113 ((8 : Int32) + a1).toNatClampNeg v10)))))) else (bd2 (f_Mo_takes (0 : Int32) (9 : Int32) P2) (fun v13 P14 => ck (inb ((117 : Int32) + a1) 1136) (j_Mo_readFlag_83 (u1 P14 113 ((117 : Int32) + a1).toNatClampNeg v13)))))
theorem t_j_Mo_readFlag_83 {G : GX} (hG : GOK G) {E : EV} (hE : E0 E) (d : Nat) (hd : 8 ≤ d) {Q : QT} (P : PM) (h : St E rIP (j_Mo_readFlag_83 P) Q) : Go G c_Mo_readFlag "YawnRouteModel" 2 (some .boolean) false d nOb nOb Q 83 [(0, .ref (ad E 109))] [] P E := by
  rw [j_Mo_readFlag_83] at h
  refine Go.aload_n (k := 0) (i := 0) 0 (by decide +kernel) rfl rfl ?_
  refine Go.get 109 11 (.int (P.1 109 11)) (by decide) (by decide) sh109 (ltO hE sh109) rfl lk1341 (by decide +kernel) ?_
  refine Go.if_ne (off := 7) 94 (by decide +kernel) (by decide) (fun c1 => ?_) (fun c1 => ?_)
  · rw [if_neg c1] at h
    refine Go.iconst (n := 0) (0 : Int32) (by decide +kernel) rfl ?_
    exact Go.iret rfl rfl hE.2 (by decide +kernel) (St.fIP h)
  · rw [if_pos c1] at h
    refine Go.iconst (n := 1) (1 : Int32) (by decide +kernel) rfl ?_
    refine Go.goto (off := 4) 95 (by decide +kernel) (by decide) ?_
    exact Go.iret rfl rfl hE.2 (by decide +kernel) (St.fIP h)
theorem t_f_Mo_readFlag {G : GX} (hG : GOK G) {E : EV} (hE : E0 E) (d : Nat) (hd : 8 ≤ d) {Q : QT} (a1 : Int32) (P : PM) (h : St E rIP (f_Mo_readFlag a1 P) Q) : Go G c_Mo_readFlag "YawnRouteModel" 2 (some .boolean) false d nOb nOb Q 0 [(0, .ref (ad E 109)), (1, .int a1)] [] P E := by
  rw [f_Mo_readFlag] at h
  refine Go.aload_n (k := 0) (i := 0) 0 (by decide +kernel) rfl rfl ?_
  refine Go.bipush (n := 6) (6 : Int32) (by decide +kernel) (by decide) ?_
  obtain ⟨v1, P2, hv1, h⟩ := St.bd2 h
  refine Go.cV_i (P1 := P2) (v := v1) (d - 1) 109 [.int (6 : Int32)] sh109 hE w_Mo_eats (e_Mo_eats hG hE (d - 1) (by omega) (6 : Int32) P ⟨_, hv1, rfl, rfl, rfl⟩) lk1463 rfl (by omega) (Nat.le_of_ble_eq_true rfl) (by decide +kernel) _ rfl ?_
  refine Go.if_eq (off := 22) 28 (by decide +kernel) (by decide) (fun c3 => ?_) (fun c3 => ?_)
  · rw [if_pos c3] at h
    refine Go.aload_n (k := 0) (i := 0) 0 (by decide +kernel) rfl rfl ?_
    refine Go.bipush (n := 7) (7 : Int32) (by decide +kernel) (by decide) ?_
    obtain ⟨v4, P5, hv4, h⟩ := St.bd2 h
    refine Go.cV_i (P1 := P5) (v := v4) (d - 1) 109 [.int (7 : Int32)] sh109 hE w_Mo_eats (e_Mo_eats hG hE (d - 1) (by omega) (7 : Int32) P2 ⟨_, hv4, rfl, rfl, rfl⟩) lk1463 rfl (by omega) (Nat.le_of_ble_eq_true rfl) (by decide +kernel) _ rfl ?_
    refine Go.if_eq (off := 22) 56 (by decide +kernel) (by decide) (fun c6 => ?_) (fun c6 => ?_)
    · rw [if_pos c6] at h
      refine Go.aload_n (k := 0) (i := 0) 0 (by decide +kernel) rfl rfl ?_
      refine Go.bipush (n := 8) (8 : Int32) (by decide +kernel) (by decide) ?_
      obtain ⟨v7, P8, hv7, h⟩ := St.bd2 h
      refine Go.cV_i (P1 := P8) (v := v7) (d - 1) 109 [.int (8 : Int32)] sh109 hE w_Mo_eats (e_Mo_eats hG hE (d - 1) (by omega) (8 : Int32) P5 ⟨_, hv7, rfl, rfl, rfl⟩) lk1463 rfl (by omega) (Nat.le_of_ble_eq_true rfl) (by decide +kernel) _ rfl ?_
      refine Go.if_eq (off := 19) 81 (by decide +kernel) (by decide) (fun c9 => ?_) (fun c9 => ?_)
      · rw [if_pos c9] at h
        refine Go.iconst (n := 0) (0 : Int32) (by decide +kernel) rfl ?_
        exact Go.iret rfl rfl hE.2 (by decide +kernel) (St.fIP h)
      · rw [if_neg c9] at h
        refine Go.aload_n (k := 0) (i := 0) 0 (by decide +kernel) rfl rfl ?_
        refine Go.get 109 4 (.ref (ad E 113)) (by decide) (by decide) sh109 (ltO hE sh109) (vlR hE rfl rfl) lk1334 (by decide +kernel) ?_
        refine Go.bipush (n := 116) (116 : Int32) (by decide +kernel) (by decide) ?_
        refine Go.dup2 (by decide +kernel) rfl rfl ?_
        refine Go.iaload 113 1136 sh113 (ltA hE sh113 (by decide)) (vp_in_iff.mpr (by decide)) (by decide +kernel) ?_
        refine Go.iconst (n := 1) (1 : Int32) (by decide +kernel) rfl ?_
        refine Go.iload_n (k := 1) (i := 1) 1 (by decide +kernel) rfl rfl ?_
        refine Go.ishl (by decide +kernel) ?_
        refine Go.ior (by decide +kernel) ?_
        refine Go.iastore 113 1136 sh113 (ltA hE sh113 (by decide)) (vp_in_iff.mpr (by decide)) (by decide +kernel) ?_
        refine Go.goto (off := 5) 83 (by decide +kernel) (by decide) ?_
        refine Go.sub [0] [(0, .ref (ad E 109))] rfl ?_
        exact t_j_Mo_readFlag_83 hG hE d hd (u1 P8 113 (116 : Int32).toNatClampNeg ((P8.1 113 (116 : Int32).toNatClampNeg) ||| ((1 : Int32) <<< (a1 &&& 31)))) h
    · rw [if_neg c6] at h
      refine Go.aload_n (k := 0) (i := 0) 0 (by decide +kernel) rfl rfl ?_
      refine Go.get 109 4 (.ref (ad E 113)) (by decide) (by decide) sh109 (ltO hE sh109) (vlR hE rfl rfl) lk1334 (by decide +kernel) ?_
      refine Go.bipush (n := 8) (8 : Int32) (by decide +kernel) (by decide) ?_
      refine Go.iload_n (k := 1) (i := 1) 1 (by decide +kernel) rfl rfl ?_
      refine Go.iadd (by decide +kernel) ?_
      refine Go.aload_n (k := 0) (i := 0) 0 (by decide +kernel) rfl rfl ?_
      refine Go.iconst (n := 0) (0 : Int32) (by decide +kernel) rfl ?_
      refine Go.bipush (n := 9) (9 : Int32) (by decide +kernel) (by decide) ?_
      obtain ⟨v10, P11, hv10, h⟩ := St.bd2 h
      refine Go.cV_i (P1 := P11) (v := v10) (d - 1) 109 [.int (0 : Int32), .int (9 : Int32)] sh109 hE w_Mo_takes (e_Mo_takes hG hE (d - 1) (by omega) (0 : Int32) (9 : Int32) P5 ⟨_, hv10, rfl, rfl, rfl⟩) lk1491 rfl (by omega) (Nat.le_of_ble_eq_true rfl) (by decide +kernel) _ rfl ?_
      obtain ⟨b12, h⟩ := St.ck h
      refine Go.iastore 113 1136 sh113 (ltA hE sh113 (by decide)) (inb_in b12) (by decide +kernel) ?_
      refine Go.goto (off := 30) 83 (by decide +kernel) (by decide) ?_
      refine Go.sub [0] [(0, .ref (ad E 109))] rfl ?_
      exact t_j_Mo_readFlag_83 hG hE d hd (u1 P11 113 ((8 : Int32) + a1).toNatClampNeg v10) h
  · rw [if_neg c3] at h
    refine Go.aload_n (k := 0) (i := 0) 0 (by decide +kernel) rfl rfl ?_
    refine Go.get 109 4 (.ref (ad E 113)) (by decide) (by decide) sh109 (ltO hE sh109) (vlR hE rfl rfl) lk1334 (by decide +kernel) ?_
    refine Go.bipush (n := 117) (117 : Int32) (by decide +kernel) (by decide) ?_
    refine Go.iload_n (k := 1) (i := 1) 1 (by decide +kernel) rfl rfl ?_
    refine Go.iadd (by decide +kernel) ?_
    refine Go.aload_n (k := 0) (i := 0) 0 (by decide +kernel) rfl rfl ?_
    refine Go.iconst (n := 0) (0 : Int32) (by decide +kernel) rfl ?_
    refine Go.bipush (n := 9) (9 : Int32) (by decide +kernel) (by decide) ?_
    obtain ⟨v13, P14, hv13, h⟩ := St.bd2 h
    refine Go.cV_i (P1 := P14) (v := v13) (d - 1) 109 [.int (0 : Int32), .int (9 : Int32)] sh109 hE w_Mo_takes (e_Mo_takes hG hE (d - 1) (by omega) (0 : Int32) (9 : Int32) P2 ⟨_, hv13, rfl, rfl, rfl⟩) lk1491 rfl (by omega) (Nat.le_of_ble_eq_true rfl) (by decide +kernel) _ rfl ?_
    obtain ⟨b15, h⟩ := St.ck h
    refine Go.iastore 113 1136 sh113 (ltA hE sh113 (by decide)) (inb_in b15) (by decide +kernel) ?_
    refine Go.goto (off := 58) 83 (by decide +kernel) (by decide) ?_
    refine Go.sub [0] [(0, .ref (ad E 109))] rfl ?_
    exact t_j_Mo_readFlag_83 hG hE d hd (u1 P14 113 ((117 : Int32) + a1).toNatClampNeg v13) h
theorem e_Mo_readFlag {G : GX} (hG : GOK G) {E : EV} (hE : E0 E) (d : Nat) (hd : 8 ≤ d) (a1 : Int32) (P : PM) {Q : QT} (h : St E rIP (f_Mo_readFlag a1 P) Q) : Con G y_Mo_readFlag cw_Mo_readFlag d nOb nOb [.ref (ad E 109), .int a1] P E Q :=
  Con.of hG (by decide +kernel) rfl (fun h => by cases h) hE.2 (Nat.le_of_ble_eq_true rfl) (t_f_Mo_readFlag hG hE d hd a1 P h)
abbrev c_Mo_readStation : ByteArray := prog_14_method_27_code
abbrev y_Mo_readStation : MethodName := ⟨"YawnRouteModel", "readStation", "()V"⟩
abbrev cw_Mo_readStation : Cond := .code y_Mo_readStation c_Mo_readStation 2 none
theorem w_Mo_readStation : VW 12 y_Mo_readStation c_Mo_readStation 2 none 0 := ⟨by decide, lk1485, lp54_, lk14, lk1486, ⟨by decide, by decide, by decide +kernel⟩, by decide⟩
noncomputable def j_Mo_readStation_48 (P : PM) : Option PM := if (P.1 109 11) = (0 : Int32) then (some (u1 P 113 (1 : Int32).toNatClampNeg ((P.1 113 (1 : Int32).toNatClampNeg) + (1 : Int32)))) else (some P)
noncomputable def l_Mo_readStation_30 : Nat → Int32 → PM → Option PM
  | 0, _, _ => none
  | n + 1, x1, P => if (P.1 109 11) = (0 : Int32) then (bd2 (f_Mo_readFlag x1 P) (fun v2 P3 => if v2 = (0 : Int32) then (j_Mo_readStation_48 P3) else (l_Mo_readStation_30 n x1 P3))) else (j_Mo_readStation_48 P)
noncomputable def j_Mo_readStation_18 (x1 : Int32) (P : PM) : Option PM := if (P.1 109 11) = (0 : Int32) then ((f_Mo_next P).bind (fun P2 => l_Mo_readStation_30 FU x1 P2)) else (some P)
noncomputable def f_Mo_readStation (P : PM) : Option PM := lb (P.1 113 (1 : Int32).toNatClampNeg) (fun y1 => if y1 = (7 : Int32) then ((f_Mo_fails (4 : Int32) P).bind (fun P3 => j_Mo_readStation_18 y1 P3)) else (j_Mo_readStation_18 y1 P))
theorem t_j_Mo_readStation_48 {G : GX} (hG : GOK G) {E : EV} (hE : E0 E) (d : Nat) (hd : 9 ≤ d) {Q : QT} (P : PM) (h : St E rP (j_Mo_readStation_48 P) Q) : Go G c_Mo_readStation "YawnRouteModel" 2 none false d nOb nOb Q 48 [(0, .ref (ad E 109))] [] P E := by
  rw [j_Mo_readStation_48] at h
  refine Go.aload_n (k := 0) (i := 0) 0 (by decide +kernel) rfl rfl ?_
  refine Go.get 109 11 (.int (P.1 109 11)) (by decide) (by decide) sh109 (ltO hE sh109) rfl lk1341 (by decide +kernel) ?_
  refine Go.if_ne (off := 13) 65 (by decide +kernel) (by decide) (fun c1 => ?_) (fun c1 => ?_)
  · rw [if_neg c1] at h
    exact Go.vret rfl hE.2 (by decide +kernel) (St.fP h)
  · rw [if_pos c1] at h
    refine Go.aload_n (k := 0) (i := 0) 0 (by decide +kernel) rfl rfl ?_
    refine Go.get 109 4 (.ref (ad E 113)) (by decide) (by decide) sh109 (ltO hE sh109) (vlR hE rfl rfl) lk1334 (by decide +kernel) ?_
    refine Go.iconst (n := 1) (1 : Int32) (by decide +kernel) rfl ?_
    refine Go.dup2 (by decide +kernel) rfl rfl ?_
    refine Go.iaload 113 1136 sh113 (ltA hE sh113 (by decide)) (vp_in_iff.mpr (by decide)) (by decide +kernel) ?_
    refine Go.iconst (n := 1) (1 : Int32) (by decide +kernel) rfl ?_
    refine Go.iadd (by decide +kernel) ?_
    refine Go.iastore 113 1136 sh113 (ltA hE sh113 (by decide)) (vp_in_iff.mpr (by decide)) (by decide +kernel) ?_
    exact Go.vret rfl hE.2 (by decide +kernel) (St.fP h)
theorem t_l_Mo_readStation_30 {G : GX} (hG : GOK G) {E : EV} (hE : E0 E) (d : Nat) (hd : 9 ≤ d) {Q : QT} : ∀ (n : Nat) (x1 : Int32) (P : PM), St E rP (l_Mo_readStation_30 n x1 P) Q → Go G c_Mo_readStation "YawnRouteModel" 2 none false d nOb nOb Q 30 [(0, .ref (ad E 109)), (1, .int x1)] [] P E := by
  intro n
  induction n with
  | zero =>
    intro x1 P h
    rw [l_Mo_readStation_30] at h
    exact St.none_ h
  | succ n ih =>
    intro x1 P h
    rw [l_Mo_readStation_30] at h
    refine Go.aload_n (k := 0) (i := 0) 0 (by decide +kernel) rfl rfl ?_
    refine Go.get 109 11 (.int (P.1 109 11)) (by decide) (by decide) sh109 (ltO hE sh109) rfl lk1341 (by decide +kernel) ?_
    refine Go.if_ne (off := 14) 48 (by decide +kernel) (by decide) (fun c1 => ?_) (fun c1 => ?_)
    · rw [if_neg c1] at h
      refine Go.sub [0] [(0, .ref (ad E 109))] rfl ?_
      exact t_j_Mo_readStation_48 hG hE d hd P h
    · rw [if_pos c1] at h
      refine Go.aload_n (k := 0) (i := 0) 0 (by decide +kernel) rfl rfl ?_
      refine Go.iload_n (k := 1) (i := 1) 1 (by decide +kernel) rfl rfl ?_
      obtain ⟨v2, P3, hv2, h⟩ := St.bd2 h
      refine Go.cV_i (P1 := P3) (v := v2) (d - 1) 109 [.int x1] sh109 hE w_Mo_readFlag (e_Mo_readFlag hG hE (d - 1) (by omega) x1 P ⟨_, hv2, rfl, rfl, rfl⟩) lk1487 rfl (by omega) (Nat.le_of_ble_eq_true rfl) (by decide +kernel) _ rfl ?_
      refine Go.if_eq (off := 6) 48 (by decide +kernel) (by decide) (fun c4 => ?_) (fun c4 => ?_)
      · rw [if_pos c4] at h
        refine Go.sub [0] [(0, .ref (ad E 109))] rfl ?_
        exact t_j_Mo_readStation_48 hG hE d hd P3 h
      · rw [if_neg c4] at h
        refine Go.goto (off := -15) 30 (by decide +kernel) (by decide) ?_
        exact ih x1 P3 h
theorem t_j_Mo_readStation_18 {G : GX} (hG : GOK G) {E : EV} (hE : E0 E) (d : Nat) (hd : 9 ≤ d) {Q : QT} (x1 : Int32) (P : PM) (h : St E rP (j_Mo_readStation_18 x1 P) Q) : Go G c_Mo_readStation "YawnRouteModel" 2 none false d nOb nOb Q 18 [(0, .ref (ad E 109)), (1, .int x1)] [] P E := by
  rw [j_Mo_readStation_18] at h
  refine Go.aload_n (k := 0) (i := 0) 0 (by decide +kernel) rfl rfl ?_
  refine Go.get 109 11 (.int (P.1 109 11)) (by decide) (by decide) sh109 (ltO hE sh109) rfl lk1341 (by decide +kernel) ?_
  refine Go.if_eq (off := 4) 26 (by decide +kernel) (by decide) (fun c1 => ?_) (fun c1 => ?_)
  · rw [if_pos c1] at h
    refine Go.aload_n (k := 0) (i := 0) 0 (by decide +kernel) rfl rfl ?_
    obtain ⟨P2, hP2, h⟩ := St.bind h
    refine Go.cV_v (P1 := P2) (d - 1) 109 [] sh109 hE w_Mo_next (e_Mo_next hG hE (d - 1) (by omega) P ⟨_, hP2, rfl, rfl, rfl⟩) lk1441 rfl (by omega) (Nat.le_of_ble_eq_true rfl) (by decide +kernel) _ rfl ?_
    exact t_l_Mo_readStation_30 hG hE d hd FU x1 P2 h
  · rw [if_neg c1] at h
    exact Go.vret rfl hE.2 (by decide +kernel) (St.fP h)
theorem t_f_Mo_readStation {G : GX} (hG : GOK G) {E : EV} (hE : E0 E) (d : Nat) (hd : 9 ≤ d) {Q : QT} (P : PM) (h : St E rP (f_Mo_readStation P) Q) : Go G c_Mo_readStation "YawnRouteModel" 2 none false d nOb nOb Q 0 [(0, .ref (ad E 109))] [] P E := by
  rw [f_Mo_readStation] at h
  refine Go.aload_n (k := 0) (i := 0) 0 (by decide +kernel) rfl rfl ?_
  refine Go.get 109 4 (.ref (ad E 113)) (by decide) (by decide) sh109 (ltO hE sh109) (vlR hE rfl rfl) lk1334 (by decide +kernel) ?_
  refine Go.iconst (n := 1) (1 : Int32) (by decide +kernel) rfl ?_
  refine Go.iaload 113 1136 sh113 (ltA hE sh113 (by decide)) (vp_in_iff.mpr (by decide)) (by decide +kernel) ?_
  obtain ⟨y1, hy1, h⟩ := St.lb h
  refine Go.eqi y1 hy1 ?_
  refine Go.istore_n (k := 1) (i := 1) [(1, .int y1), (0, .ref (ad E 109))] (by decide +kernel) rfl (by decide) rfl ?_
  refine Go.iload_n (k := 1) (i := 1) 0 (by decide +kernel) rfl rfl ?_
  refine Go.bipush (n := 7) (7 : Int32) (by decide +kernel) (by decide) ?_
  refine Go.icmp_ne (off := 8) 18 (by decide +kernel) (by decide) (fun c2 => ?_) (fun c2 => ?_)
  · rw [if_neg c2] at h
    refine Go.sub [1, 0] [(0, .ref (ad E 109)), (1, .int y1)] rfl ?_
    exact t_j_Mo_readStation_18 hG hE d hd y1 P h
  · rw [if_pos c2] at h
    refine Go.aload_n (k := 0) (i := 0) 1 (by decide +kernel) rfl rfl ?_
    refine Go.iconst (n := 4) (4 : Int32) (by decide +kernel) rfl ?_
    obtain ⟨P3, hP3, h⟩ := St.bind h
    refine Go.cV_v (P1 := P3) (d - 1) 109 [.int (4 : Int32)] sh109 hE w_Mo_fails (e_Mo_fails hG hE (d - 1) (by omega) (4 : Int32) P ⟨_, hP3, rfl, rfl, rfl⟩) lk1471 rfl (by omega) (Nat.le_of_ble_eq_true rfl) (by decide +kernel) _ rfl ?_
    refine Go.sub [1, 0] [(0, .ref (ad E 109)), (1, .int y1)] rfl ?_
    exact t_j_Mo_readStation_18 hG hE d hd y1 P3 h
theorem e_Mo_readStation {G : GX} (hG : GOK G) {E : EV} (hE : E0 E) (d : Nat) (hd : 9 ≤ d) (P : PM) {Q : QT} (h : St E rP (f_Mo_readStation P) Q) : Con G y_Mo_readStation cw_Mo_readStation d nOb nOb [.ref (ad E 109)] P E Q :=
  Con.of hG (by decide +kernel) rfl (fun h => by cases h) hE.2 (Nat.le_of_ble_eq_true rfl) (t_f_Mo_readStation hG hE d hd P h)
abbrev c_Mo_readWay : ByteArray := prog_14_method_28_code
abbrev y_Mo_readWay : MethodName := ⟨"YawnRouteModel", "readWay", "()V"⟩
abbrev cw_Mo_readWay : Cond := .code y_Mo_readWay c_Mo_readWay 6 none
theorem w_Mo_readWay : VW 12 y_Mo_readWay c_Mo_readWay 6 none 0 := ⟨by decide, lk1497, lp57_, lk14, lk1498, ⟨by decide, by decide, by decide +kernel⟩, by decide⟩
noncomputable def j_Mo_readWay_121 (k59 : Int32 → Int32 → Int32 → Int32 → PM → Option PM) (x1 : Int32) (x2 : Int32) (x3 : Int32) (x4 : Int32) (P : PM) : Option PM := k59 x1 x2 x3 x4 P
noncomputable def j_Mo_readWay_84 (k59 : Int32 → Int32 → Int32 → Int32 → PM → Option PM) (x1 : Int32) (x2 : Int32) (x3 : Int32) (x4 : Int32) (P : PM) : Option PM := lb (f_Mo_is (9 : Int32) P) (fun y1 => (f_Mo_next P).bind (fun P2 => if y1 = (0 : Int32) then (bd2 (f_Mo_takes (0 : Int32) (10 : Int32) P2) (fun v4 P5 => j_Mo_readWay_121 k59 x1 x2 x3 v4 P5)) else (bd2 (f_Mo_takes (1 : Int32) (9 : Int32) P2) (fun v6 P7 => j_Mo_readWay_121 k59 x1 x2 v6 x4 P7))))
noncomputable def j_Mo_readWay_124 (x1 : Int32) (x2 : Int32) (x3 : Int32) (x4 : Int32) (P : PM) : Option PM := if (P.1 109 11) = (0 : Int32) then (ck (inb (((15 : Int32) + ((7 : Int32) * x1)) + x2) 1136) (ck (inb (((64 : Int32) + ((7 : Int32) * x1)) + x2) 1136) (some (u1 (u1 P 113 (((15 : Int32) + ((7 : Int32) * x1)) + x2).toNatClampNeg x3) 113 (((64 : Int32) + ((7 : Int32) * x1)) + x2).toNatClampNeg x4)))) else (some P)
noncomputable def l_Mo_readWay_59 : Nat → Int32 → Int32 → Int32 → Int32 → PM → Option PM
  | 0, _, _, _, _, _ => none
  | n + 1, x1, x2, x3, x4, P => if (P.1 109 11) = (0 : Int32) then (if (f_Mo_is (9 : Int32) P) = (0 : Int32) then (if (f_Mo_is (10 : Int32) P) = (0 : Int32) then (j_Mo_readWay_124 x1 x2 x3 x4 P) else (j_Mo_readWay_84 (fun z0 z1 z2 z3 Pz => l_Mo_readWay_59 n z0 z1 z2 z3 Pz) x1 x2 x3 x4 P)) else (j_Mo_readWay_84 (fun z0 z1 z2 z3 Pz => l_Mo_readWay_59 n z0 z1 z2 z3 Pz) x1 x2 x3 x4 P)) else (j_Mo_readWay_124 x1 x2 x3 x4 P)
noncomputable def j_Mo_readWay_40 (x1 : Int32) (P : PM) : Option PM := bd2 (f_Mo_takes (0 : Int32) ((P.1 113 (1 : Int32).toNatClampNeg) - (1 : Int32)) P) (fun v1 P2 => l_Mo_readWay_59 FU x1 v1 (1 : Int32) (1 : Int32) P2)
noncomputable def f_Mo_readWay (P : PM) : Option PM := (f_Mo_next P).bind (fun P1 => bd2 (f_Mo_takes (0 : Int32) ((P1.1 113 (1 : Int32).toNatClampNeg) - (1 : Int32)) P1) (fun v2 P3 => if (f_Mo_is (23 : Int32) P3) = (0 : Int32) then (j_Mo_readWay_40 v2 P3) else (if (P3.1 109 10) = v2 then ((f_Mo_fails (3 : Int32) P3).bind (fun P6 => j_Mo_readWay_40 v2 P6)) else (j_Mo_readWay_40 v2 P3))))
theorem t_j_Mo_readWay_121 {G : GX} (hG : GOK G) {E : EV} (hE : E0 E) (d : Nat) (hd : 8 ≤ d) {Q : QT} (k59 : Int32 → Int32 → Int32 → Int32 → PM → Option PM) (hk59 : ∀ (x1 : Int32) (x2 : Int32) (x3 : Int32) (x4 : Int32) (P : PM), St E rP (k59 x1 x2 x3 x4 P) Q → Go G c_Mo_readWay "YawnRouteModel" 6 none false d nOb nOb Q 59 [(0, .ref (ad E 109)), (1, .int x1), (2, .int x2), (3, .int x3), (4, .int x4)] [] P E) (x1 : Int32) (x2 : Int32) (x3 : Int32) (x4 : Int32) (P : PM) (h : St E rP (j_Mo_readWay_121 k59 x1 x2 x3 x4 P) Q) : Go G c_Mo_readWay "YawnRouteModel" 6 none false d nOb nOb Q 121 [(0, .ref (ad E 109)), (1, .int x1), (2, .int x2), (3, .int x3), (4, .int x4)] [] P E := by
  rw [j_Mo_readWay_121] at h
  refine Go.goto (off := -62) 59 (by decide +kernel) (by decide) ?_
  exact hk59 x1 x2 x3 x4 P h
theorem t_j_Mo_readWay_84 {G : GX} (hG : GOK G) {E : EV} (hE : E0 E) (d : Nat) (hd : 8 ≤ d) {Q : QT} (k59 : Int32 → Int32 → Int32 → Int32 → PM → Option PM) (hk59 : ∀ (x1 : Int32) (x2 : Int32) (x3 : Int32) (x4 : Int32) (P : PM), St E rP (k59 x1 x2 x3 x4 P) Q → Go G c_Mo_readWay "YawnRouteModel" 6 none false d nOb nOb Q 59 [(0, .ref (ad E 109)), (1, .int x1), (2, .int x2), (3, .int x3), (4, .int x4)] [] P E) (x1 : Int32) (x2 : Int32) (x3 : Int32) (x4 : Int32) (P : PM) (h : St E rP (j_Mo_readWay_84 k59 x1 x2 x3 x4 P) Q) : Go G c_Mo_readWay "YawnRouteModel" 6 none false d nOb nOb Q 84 [(0, .ref (ad E 109)), (1, .int x1), (2, .int x2), (3, .int x3), (4, .int x4)] [] P E := by
  rw [j_Mo_readWay_84] at h
  refine Go.aload_n (k := 0) (i := 0) 0 (by decide +kernel) rfl rfl ?_
  refine Go.bipush (n := 9) (9 : Int32) (by decide +kernel) (by decide) ?_
  refine Go.cV_i (P1 := P) (v := (f_Mo_is (9 : Int32) P)) (d - 1) 109 [.int (9 : Int32)] sh109 hE w_Mo_is (e_Mo_is hG hE (d - 1) (by omega) (9 : Int32) P ⟨rfl, rfl, rfl⟩) lk1467 rfl (by omega) (Nat.le_of_ble_eq_true rfl) (by decide +kernel) _ rfl ?_
  obtain ⟨y1, hy1, h⟩ := St.lb h
  refine Go.eqi y1 hy1 ?_
  refine Go.istore (i := 5) [(5, .int y1), (0, .ref (ad E 109)), (1, .int x1), (2, .int x2), (3, .int x3), (4, .int x4)] (by decide +kernel) (by decide) rfl ?_
  refine Go.aload_n (k := 0) (i := 0) 1 (by decide +kernel) rfl rfl ?_
  obtain ⟨P2, hP2, h⟩ := St.bind h
  refine Go.cV_v (P1 := P2) (d - 1) 109 [] sh109 hE w_Mo_next (e_Mo_next hG hE (d - 1) (by omega) P ⟨_, hP2, rfl, rfl, rfl⟩) lk1441 rfl (by omega) (Nat.le_of_ble_eq_true rfl) (by decide +kernel) _ rfl ?_
  refine Go.iload (i := 5) 0 (by decide +kernel) rfl ?_
  refine Go.if_eq (off := 14) 112 (by decide +kernel) (by decide) (fun c3 => ?_) (fun c3 => ?_)
  · rw [if_pos c3] at h
    refine Go.aload_n (k := 0) (i := 0) 1 (by decide +kernel) rfl rfl ?_
    refine Go.iconst (n := 0) (0 : Int32) (by decide +kernel) rfl ?_
    refine Go.bipush (n := 10) (10 : Int32) (by decide +kernel) (by decide) ?_
    obtain ⟨v4, P5, hv4, h⟩ := St.bd2 h
    refine Go.cV_i (P1 := P5) (v := v4) (d - 1) 109 [.int (0 : Int32), .int (10 : Int32)] sh109 hE w_Mo_takes (e_Mo_takes hG hE (d - 1) (by omega) (0 : Int32) (10 : Int32) P2 ⟨_, hv4, rfl, rfl, rfl⟩) lk1491 rfl (by omega) (Nat.le_of_ble_eq_true rfl) (by decide +kernel) _ rfl ?_
    refine Go.istore (i := 4) [(4, .int v4), (5, .int y1), (0, .ref (ad E 109)), (1, .int x1), (2, .int x2), (3, .int x3)] (by decide +kernel) (by decide) rfl ?_
    refine Go.sub [2, 3, 4, 5, 0] [(0, .ref (ad E 109)), (1, .int x1), (2, .int x2), (3, .int x3), (4, .int v4)] rfl ?_
    exact t_j_Mo_readWay_121 hG hE d hd k59 hk59 x1 x2 x3 v4 P5 h
  · rw [if_neg c3] at h
    refine Go.aload_n (k := 0) (i := 0) 1 (by decide +kernel) rfl rfl ?_
    refine Go.iconst (n := 1) (1 : Int32) (by decide +kernel) rfl ?_
    refine Go.bipush (n := 9) (9 : Int32) (by decide +kernel) (by decide) ?_
    obtain ⟨v6, P7, hv6, h⟩ := St.bd2 h
    refine Go.cV_i (P1 := P7) (v := v6) (d - 1) 109 [.int (1 : Int32), .int (9 : Int32)] sh109 hE w_Mo_takes (e_Mo_takes hG hE (d - 1) (by omega) (1 : Int32) (9 : Int32) P2 ⟨_, hv6, rfl, rfl, rfl⟩) lk1491 rfl (by omega) (Nat.le_of_ble_eq_true rfl) (by decide +kernel) _ rfl ?_
    refine Go.istore_n (k := 3) (i := 3) [(3, .int v6), (5, .int y1), (0, .ref (ad E 109)), (1, .int x1), (2, .int x2), (4, .int x4)] (by decide +kernel) rfl (by decide) rfl ?_
    refine Go.goto (off := 12) 121 (by decide +kernel) (by decide) ?_
    refine Go.sub [2, 3, 4, 0, 5] [(0, .ref (ad E 109)), (1, .int x1), (2, .int x2), (3, .int v6), (4, .int x4)] rfl ?_
    exact t_j_Mo_readWay_121 hG hE d hd k59 hk59 x1 x2 v6 x4 P7 h
theorem t_j_Mo_readWay_124 {G : GX} (hG : GOK G) {E : EV} (hE : E0 E) (d : Nat) (hd : 8 ≤ d) {Q : QT} (x1 : Int32) (x2 : Int32) (x3 : Int32) (x4 : Int32) (P : PM) (h : St E rP (j_Mo_readWay_124 x1 x2 x3 x4 P) Q) : Go G c_Mo_readWay "YawnRouteModel" 6 none false d nOb nOb Q 124 [(0, .ref (ad E 109)), (1, .int x1), (2, .int x2), (3, .int x3), (4, .int x4)] [] P E := by
  rw [j_Mo_readWay_124] at h
  refine Go.aload_n (k := 0) (i := 0) 0 (by decide +kernel) rfl rfl ?_
  refine Go.get 109 11 (.int (P.1 109 11)) (by decide) (by decide) sh109 (ltO hE sh109) rfl lk1341 (by decide +kernel) ?_
  refine Go.if_eq (off := 4) 132 (by decide +kernel) (by decide) (fun c1 => ?_) (fun c1 => ?_)
  · rw [if_pos c1] at h
    refine Go.aload_n (k := 0) (i := 0) 0 (by decide +kernel) rfl rfl ?_
    refine Go.get 109 4 (.ref (ad E 113)) (by decide) (by decide) sh109 (ltO hE sh109) (vlR hE rfl rfl) lk1334 (by decide +kernel) ?_
    refine Go.bipush (n := 15) (15 : Int32) (by decide +kernel) (by decide) ?_
    refine Go.bipush (n := 7) (7 : Int32) (by decide +kernel) (by decide) ?_
    refine Go.iload_n (k := 1) (i := 1) 1 (by decide +kernel) rfl rfl ?_
    refine Go.imul (by decide +kernel) ?_
    refine Go.iadd (by decide +kernel) ?_
    refine Go.iload_n (k := 2) (i := 2) 2 (by decide +kernel) rfl rfl ?_
    refine Go.iadd (by decide +kernel) ?_
    refine Go.iload_n (k := 3) (i := 3) 3 (by decide +kernel) rfl rfl ?_
    obtain ⟨b2, h⟩ := St.ck h
    refine Go.iastore 113 1136 sh113 (ltA hE sh113 (by decide)) (inb_in b2) (by decide +kernel) ?_
    refine Go.aload_n (k := 0) (i := 0) 0 (by decide +kernel) rfl rfl ?_
    refine Go.get 109 4 (.ref (ad E 113)) (by decide) (by decide) sh109 (ltO hE sh109) (vlR hE rfl rfl) lk1334 (by decide +kernel) ?_
    refine Go.bipush (n := 64) (64 : Int32) (by decide +kernel) (by decide) ?_
    refine Go.bipush (n := 7) (7 : Int32) (by decide +kernel) (by decide) ?_
    refine Go.iload_n (k := 1) (i := 1) 1 (by decide +kernel) rfl rfl ?_
    refine Go.imul (by decide +kernel) ?_
    refine Go.iadd (by decide +kernel) ?_
    refine Go.iload_n (k := 2) (i := 2) 2 (by decide +kernel) rfl rfl ?_
    refine Go.iadd (by decide +kernel) ?_
    refine Go.iload (i := 4) 4 (by decide +kernel) rfl ?_
    obtain ⟨b3, h⟩ := St.ck h
    refine Go.iastore 113 1136 sh113 (ltA hE sh113 (by decide)) (inb_in b3) (by decide +kernel) ?_
    exact Go.vret rfl hE.2 (by decide +kernel) (St.fP h)
  · rw [if_neg c1] at h
    exact Go.vret rfl hE.2 (by decide +kernel) (St.fP h)
theorem t_l_Mo_readWay_59 {G : GX} (hG : GOK G) {E : EV} (hE : E0 E) (d : Nat) (hd : 8 ≤ d) {Q : QT} : ∀ (n : Nat) (x1 : Int32) (x2 : Int32) (x3 : Int32) (x4 : Int32) (P : PM), St E rP (l_Mo_readWay_59 n x1 x2 x3 x4 P) Q → Go G c_Mo_readWay "YawnRouteModel" 6 none false d nOb nOb Q 59 [(0, .ref (ad E 109)), (1, .int x1), (2, .int x2), (3, .int x3), (4, .int x4)] [] P E := by
  intro n
  induction n with
  | zero =>
    intro x1 x2 x3 x4 P h
    rw [l_Mo_readWay_59] at h
    exact St.none_ h
  | succ n ih =>
    intro x1 x2 x3 x4 P h
    rw [l_Mo_readWay_59] at h
    refine Go.aload_n (k := 0) (i := 0) 0 (by decide +kernel) rfl rfl ?_
    refine Go.get 109 11 (.int (P.1 109 11)) (by decide) (by decide) sh109 (ltO hE sh109) rfl lk1341 (by decide +kernel) ?_
    refine Go.if_ne (off := 61) 124 (by decide +kernel) (by decide) (fun c1 => ?_) (fun c1 => ?_)
    · rw [if_neg c1] at h
      exact t_j_Mo_readWay_124 hG hE d hd x1 x2 x3 x4 P h
    · rw [if_pos c1] at h
      refine Go.aload_n (k := 0) (i := 0) 0 (by decide +kernel) rfl rfl ?_
      refine Go.bipush (n := 9) (9 : Int32) (by decide +kernel) (by decide) ?_
      refine Go.cV_i (P1 := P) (v := (f_Mo_is (9 : Int32) P)) (d - 1) 109 [.int (9 : Int32)] sh109 hE w_Mo_is (e_Mo_is hG hE (d - 1) (by omega) (9 : Int32) P ⟨rfl, rfl, rfl⟩) lk1467 rfl (by omega) (Nat.le_of_ble_eq_true rfl) (by decide +kernel) _ rfl ?_
      refine Go.if_ne (off := 12) 84 (by decide +kernel) (by decide) (fun c2 => ?_) (fun c2 => ?_)
      · rw [if_neg c2] at h
        exact t_j_Mo_readWay_84 hG hE d hd (fun z0 z1 z2 z3 Pz => l_Mo_readWay_59 n z0 z1 z2 z3 Pz) (fun z0 z1 z2 z3 Pz q => ih z0 z1 z2 z3 Pz q) x1 x2 x3 x4 P h
      · rw [if_pos c2] at h
        refine Go.aload_n (k := 0) (i := 0) 0 (by decide +kernel) rfl rfl ?_
        refine Go.bipush (n := 10) (10 : Int32) (by decide +kernel) (by decide) ?_
        refine Go.cV_i (P1 := P) (v := (f_Mo_is (10 : Int32) P)) (d - 1) 109 [.int (10 : Int32)] sh109 hE w_Mo_is (e_Mo_is hG hE (d - 1) (by omega) (10 : Int32) P ⟨rfl, rfl, rfl⟩) lk1467 rfl (by omega) (Nat.le_of_ble_eq_true rfl) (by decide +kernel) _ rfl ?_
        refine Go.if_eq (off := 43) 124 (by decide +kernel) (by decide) (fun c3 => ?_) (fun c3 => ?_)
        · rw [if_pos c3] at h
          exact t_j_Mo_readWay_124 hG hE d hd x1 x2 x3 x4 P h
        · rw [if_neg c3] at h
          exact t_j_Mo_readWay_84 hG hE d hd (fun z0 z1 z2 z3 Pz => l_Mo_readWay_59 n z0 z1 z2 z3 Pz) (fun z0 z1 z2 z3 Pz q => ih z0 z1 z2 z3 Pz q) x1 x2 x3 x4 P h
theorem t_j_Mo_readWay_40 {G : GX} (hG : GOK G) {E : EV} (hE : E0 E) (d : Nat) (hd : 8 ≤ d) {Q : QT} (x1 : Int32) (P : PM) (h : St E rP (j_Mo_readWay_40 x1 P) Q) : Go G c_Mo_readWay "YawnRouteModel" 6 none false d nOb nOb Q 40 [(0, .ref (ad E 109)), (1, .int x1)] [] P E := by
  rw [j_Mo_readWay_40] at h
  refine Go.aload_n (k := 0) (i := 0) 0 (by decide +kernel) rfl rfl ?_
  refine Go.iconst (n := 0) (0 : Int32) (by decide +kernel) rfl ?_
  refine Go.aload_n (k := 0) (i := 0) 0 (by decide +kernel) rfl rfl ?_
  refine Go.get 109 4 (.ref (ad E 113)) (by decide) (by decide) sh109 (ltO hE sh109) (vlR hE rfl rfl) lk1334 (by decide +kernel) ?_
  refine Go.iconst (n := 1) (1 : Int32) (by decide +kernel) rfl ?_
  refine Go.iaload 113 1136 sh113 (ltA hE sh113 (by decide)) (vp_in_iff.mpr (by decide)) (by decide +kernel) ?_
  refine Go.iconst (n := 1) (1 : Int32) (by decide +kernel) rfl ?_
  refine Go.isub (by decide +kernel) ?_
  obtain ⟨v1, P2, hv1, h⟩ := St.bd2 h
  refine Go.cV_i (P1 := P2) (v := v1) (d - 1) 109 [.int (0 : Int32), .int ((P.1 113 (1 : Int32).toNatClampNeg) - (1 : Int32))] sh109 hE w_Mo_takes (e_Mo_takes hG hE (d - 1) (by omega) (0 : Int32) ((P.1 113 (1 : Int32).toNatClampNeg) - (1 : Int32)) P ⟨_, hv1, rfl, rfl, rfl⟩) lk1491 rfl (by omega) (Nat.le_of_ble_eq_true rfl) (by decide +kernel) _ rfl ?_
  refine Go.istore_n (k := 2) (i := 2) [(2, .int v1), (0, .ref (ad E 109)), (1, .int x1)] (by decide +kernel) rfl (by decide) rfl ?_
  refine Go.iconst (n := 1) (1 : Int32) (by decide +kernel) rfl ?_
  refine Go.istore_n (k := 3) (i := 3) [(3, .int (1 : Int32)), (2, .int v1), (0, .ref (ad E 109)), (1, .int x1)] (by decide +kernel) rfl (by decide) rfl ?_
  refine Go.iconst (n := 1) (1 : Int32) (by decide +kernel) rfl ?_
  refine Go.istore (i := 4) [(4, .int (1 : Int32)), (3, .int (1 : Int32)), (2, .int v1), (0, .ref (ad E 109)), (1, .int x1)] (by decide +kernel) (by decide) rfl ?_
  refine Go.sub [3, 4, 2, 1, 0] [(0, .ref (ad E 109)), (1, .int x1), (2, .int v1), (3, .int (1 : Int32)), (4, .int (1 : Int32))] rfl ?_
  exact t_l_Mo_readWay_59 hG hE d hd FU x1 v1 (1 : Int32) (1 : Int32) P2 h
theorem t_f_Mo_readWay {G : GX} (hG : GOK G) {E : EV} (hE : E0 E) (d : Nat) (hd : 8 ≤ d) {Q : QT} (P : PM) (h : St E rP (f_Mo_readWay P) Q) : Go G c_Mo_readWay "YawnRouteModel" 6 none false d nOb nOb Q 0 [(0, .ref (ad E 109))] [] P E := by
  rw [f_Mo_readWay] at h
  refine Go.aload_n (k := 0) (i := 0) 0 (by decide +kernel) rfl rfl ?_
  obtain ⟨P1, hP1, h⟩ := St.bind h
  refine Go.cV_v (P1 := P1) (d - 1) 109 [] sh109 hE w_Mo_next (e_Mo_next hG hE (d - 1) (by omega) P ⟨_, hP1, rfl, rfl, rfl⟩) lk1441 rfl (by omega) (Nat.le_of_ble_eq_true rfl) (by decide +kernel) _ rfl ?_
  refine Go.aload_n (k := 0) (i := 0) 0 (by decide +kernel) rfl rfl ?_
  refine Go.iconst (n := 0) (0 : Int32) (by decide +kernel) rfl ?_
  refine Go.aload_n (k := 0) (i := 0) 0 (by decide +kernel) rfl rfl ?_
  refine Go.get 109 4 (.ref (ad E 113)) (by decide) (by decide) sh109 (ltO hE sh109) (vlR hE rfl rfl) lk1334 (by decide +kernel) ?_
  refine Go.iconst (n := 1) (1 : Int32) (by decide +kernel) rfl ?_
  refine Go.iaload 113 1136 sh113 (ltA hE sh113 (by decide)) (vp_in_iff.mpr (by decide)) (by decide +kernel) ?_
  refine Go.iconst (n := 1) (1 : Int32) (by decide +kernel) rfl ?_
  refine Go.isub (by decide +kernel) ?_
  obtain ⟨v2, P3, hv2, h⟩ := St.bd2 h
  refine Go.cV_i (P1 := P3) (v := v2) (d - 1) 109 [.int (0 : Int32), .int ((P1.1 113 (1 : Int32).toNatClampNeg) - (1 : Int32))] sh109 hE w_Mo_takes (e_Mo_takes hG hE (d - 1) (by omega) (0 : Int32) ((P1.1 113 (1 : Int32).toNatClampNeg) - (1 : Int32)) P1 ⟨_, hv2, rfl, rfl, rfl⟩) lk1491 rfl (by omega) (Nat.le_of_ble_eq_true rfl) (by decide +kernel) _ rfl ?_
  refine Go.istore_n (k := 1) (i := 1) [(1, .int v2), (0, .ref (ad E 109))] (by decide +kernel) rfl (by decide) rfl ?_
  refine Go.aload_n (k := 0) (i := 0) 1 (by decide +kernel) rfl rfl ?_
  refine Go.bipush (n := 23) (23 : Int32) (by decide +kernel) (by decide) ?_
  refine Go.cV_i (P1 := P3) (v := (f_Mo_is (23 : Int32) P3)) (d - 1) 109 [.int (23 : Int32)] sh109 hE w_Mo_is (e_Mo_is hG hE (d - 1) (by omega) (23 : Int32) P3 ⟨rfl, rfl, rfl⟩) lk1467 rfl (by omega) (Nat.le_of_ble_eq_true rfl) (by decide +kernel) _ rfl ?_
  refine Go.if_eq (off := 16) 40 (by decide +kernel) (by decide) (fun c4 => ?_) (fun c4 => ?_)
  · rw [if_pos c4] at h
    refine Go.sub [1, 0] [(0, .ref (ad E 109)), (1, .int v2)] rfl ?_
    exact t_j_Mo_readWay_40 hG hE d hd v2 P3 h
  · rw [if_neg c4] at h
    refine Go.aload_n (k := 0) (i := 0) 1 (by decide +kernel) rfl rfl ?_
    refine Go.get 109 10 (.int (P3.1 109 10)) (by decide) (by decide) sh109 (ltO hE sh109) rfl lk1340 (by decide +kernel) ?_
    refine Go.iload_n (k := 1) (i := 1) 0 (by decide +kernel) rfl rfl ?_
    refine Go.icmp_ne (off := 8) 40 (by decide +kernel) (by decide) (fun c5 => ?_) (fun c5 => ?_)
    · rw [if_neg c5] at h
      refine Go.sub [1, 0] [(0, .ref (ad E 109)), (1, .int v2)] rfl ?_
      exact t_j_Mo_readWay_40 hG hE d hd v2 P3 h
    · rw [if_pos c5] at h
      refine Go.aload_n (k := 0) (i := 0) 1 (by decide +kernel) rfl rfl ?_
      refine Go.iconst (n := 3) (3 : Int32) (by decide +kernel) rfl ?_
      obtain ⟨P6, hP6, h⟩ := St.bind h
      refine Go.cV_v (P1 := P6) (d - 1) 109 [.int (3 : Int32)] sh109 hE w_Mo_fails (e_Mo_fails hG hE (d - 1) (by omega) (3 : Int32) P3 ⟨_, hP6, rfl, rfl, rfl⟩) lk1471 rfl (by omega) (Nat.le_of_ble_eq_true rfl) (by decide +kernel) _ rfl ?_
      refine Go.sub [1, 0] [(0, .ref (ad E 109)), (1, .int v2)] rfl ?_
      exact t_j_Mo_readWay_40 hG hE d hd v2 P6 h
theorem e_Mo_readWay {G : GX} (hG : GOK G) {E : EV} (hE : E0 E) (d : Nat) (hd : 8 ≤ d) (P : PM) {Q : QT} (h : St E rP (f_Mo_readWay P) Q) : Con G y_Mo_readWay cw_Mo_readWay d nOb nOb [.ref (ad E 109)] P E Q :=
  Con.of hG (by decide +kernel) rfl (fun h => by cases h) hE.2 (Nat.le_of_ble_eq_true rfl) (t_f_Mo_readWay hG hE d hd P h)
abbrev c_Mo_readAt : ByteArray := prog_14_method_29_code
abbrev y_Mo_readAt : MethodName := ⟨"YawnRouteModel", "readAt", "()V"⟩
abbrev cw_Mo_readAt : Cond := .code y_Mo_readAt c_Mo_readAt 3 none
theorem w_Mo_readAt : VW 12 y_Mo_readAt c_Mo_readAt 3 none 0 := ⟨by decide, lk1501, lp58_, lk14, lk1502, ⟨by decide, by decide, by decide +kernel⟩, by decide⟩
noncomputable def j_Mo_readAt_32 (x1 : Int32) (P : PM) : Option PM := bd2 (f_Mo_takes (1 : Int32) (40 : Int32) P) (fun v1 P2 => if (P2.1 109 11) = (0 : Int32) then (some (u1 (u1 P2 113 (113 : Int32).toNatClampNeg x1) 113 (114 : Int32).toNatClampNeg v1)) else (some P2))
noncomputable def f_Mo_readAt (P : PM) : Option PM := (f_Mo_next P).bind (fun P1 => bd2 (f_Mo_takes (0 : Int32) ((P1.1 113 (1 : Int32).toNatClampNeg) - (1 : Int32)) P1) (fun v2 P3 => bd2 (f_Mo_eats (11 : Int32) P3) (fun v4 P5 => if v4 = (0 : Int32) then ((f_Mo_fails (2 : Int32) P5).bind (fun P7 => j_Mo_readAt_32 v2 P7)) else (j_Mo_readAt_32 v2 P5))))
theorem t_j_Mo_readAt_32 {G : GX} (hG : GOK G) {E : EV} (hE : E0 E) (d : Nat) (hd : 8 ≤ d) {Q : QT} (x1 : Int32) (P : PM) (h : St E rP (j_Mo_readAt_32 x1 P) Q) : Go G c_Mo_readAt "YawnRouteModel" 3 none false d nOb nOb Q 32 [(0, .ref (ad E 109)), (1, .int x1)] [] P E := by
  rw [j_Mo_readAt_32] at h
  refine Go.aload_n (k := 0) (i := 0) 0 (by decide +kernel) rfl rfl ?_
  refine Go.iconst (n := 1) (1 : Int32) (by decide +kernel) rfl ?_
  refine Go.bipush (n := 40) (40 : Int32) (by decide +kernel) (by decide) ?_
  obtain ⟨v1, P2, hv1, h⟩ := St.bd2 h
  refine Go.cV_i (P1 := P2) (v := v1) (d - 1) 109 [.int (1 : Int32), .int (40 : Int32)] sh109 hE w_Mo_takes (e_Mo_takes hG hE (d - 1) (by omega) (1 : Int32) (40 : Int32) P ⟨_, hv1, rfl, rfl, rfl⟩) lk1491 rfl (by omega) (Nat.le_of_ble_eq_true rfl) (by decide +kernel) _ rfl ?_
  refine Go.istore_n (k := 2) (i := 2) [(2, .int v1), (0, .ref (ad E 109)), (1, .int x1)] (by decide +kernel) rfl (by decide) rfl ?_
  refine Go.aload_n (k := 0) (i := 0) 1 (by decide +kernel) rfl rfl ?_
  refine Go.get 109 11 (.int (P2.1 109 11)) (by decide) (by decide) sh109 (ltO hE sh109) rfl lk1341 (by decide +kernel) ?_
  refine Go.if_eq (off := 4) 48 (by decide +kernel) (by decide) (fun c3 => ?_) (fun c3 => ?_)
  · rw [if_pos c3] at h
    refine Go.aload_n (k := 0) (i := 0) 1 (by decide +kernel) rfl rfl ?_
    refine Go.get 109 4 (.ref (ad E 113)) (by decide) (by decide) sh109 (ltO hE sh109) (vlR hE rfl rfl) lk1334 (by decide +kernel) ?_
    refine Go.bipush (n := 113) (113 : Int32) (by decide +kernel) (by decide) ?_
    refine Go.iload_n (k := 1) (i := 1) 2 (by decide +kernel) rfl rfl ?_
    refine Go.iastore 113 1136 sh113 (ltA hE sh113 (by decide)) (vp_in_iff.mpr (by decide)) (by decide +kernel) ?_
    refine Go.aload_n (k := 0) (i := 0) 1 (by decide +kernel) rfl rfl ?_
    refine Go.get 109 4 (.ref (ad E 113)) (by decide) (by decide) sh109 (ltO hE sh109) (vlR hE rfl rfl) lk1334 (by decide +kernel) ?_
    refine Go.bipush (n := 114) (114 : Int32) (by decide +kernel) (by decide) ?_
    refine Go.iload_n (k := 2) (i := 2) 0 (by decide +kernel) rfl rfl ?_
    refine Go.iastore 113 1136 sh113 (ltA hE sh113 (by decide)) (vp_in_iff.mpr (by decide)) (by decide +kernel) ?_
    exact Go.vret rfl hE.2 (by decide +kernel) (St.fP h)
  · rw [if_neg c3] at h
    exact Go.vret rfl hE.2 (by decide +kernel) (St.fP h)
theorem t_f_Mo_readAt {G : GX} (hG : GOK G) {E : EV} (hE : E0 E) (d : Nat) (hd : 8 ≤ d) {Q : QT} (P : PM) (h : St E rP (f_Mo_readAt P) Q) : Go G c_Mo_readAt "YawnRouteModel" 3 none false d nOb nOb Q 0 [(0, .ref (ad E 109))] [] P E := by
  rw [f_Mo_readAt] at h
  refine Go.aload_n (k := 0) (i := 0) 0 (by decide +kernel) rfl rfl ?_
  obtain ⟨P1, hP1, h⟩ := St.bind h
  refine Go.cV_v (P1 := P1) (d - 1) 109 [] sh109 hE w_Mo_next (e_Mo_next hG hE (d - 1) (by omega) P ⟨_, hP1, rfl, rfl, rfl⟩) lk1441 rfl (by omega) (Nat.le_of_ble_eq_true rfl) (by decide +kernel) _ rfl ?_
  refine Go.aload_n (k := 0) (i := 0) 0 (by decide +kernel) rfl rfl ?_
  refine Go.iconst (n := 0) (0 : Int32) (by decide +kernel) rfl ?_
  refine Go.aload_n (k := 0) (i := 0) 0 (by decide +kernel) rfl rfl ?_
  refine Go.get 109 4 (.ref (ad E 113)) (by decide) (by decide) sh109 (ltO hE sh109) (vlR hE rfl rfl) lk1334 (by decide +kernel) ?_
  refine Go.iconst (n := 1) (1 : Int32) (by decide +kernel) rfl ?_
  refine Go.iaload 113 1136 sh113 (ltA hE sh113 (by decide)) (vp_in_iff.mpr (by decide)) (by decide +kernel) ?_
  refine Go.iconst (n := 1) (1 : Int32) (by decide +kernel) rfl ?_
  refine Go.isub (by decide +kernel) ?_
  obtain ⟨v2, P3, hv2, h⟩ := St.bd2 h
  refine Go.cV_i (P1 := P3) (v := v2) (d - 1) 109 [.int (0 : Int32), .int ((P1.1 113 (1 : Int32).toNatClampNeg) - (1 : Int32))] sh109 hE w_Mo_takes (e_Mo_takes hG hE (d - 1) (by omega) (0 : Int32) ((P1.1 113 (1 : Int32).toNatClampNeg) - (1 : Int32)) P1 ⟨_, hv2, rfl, rfl, rfl⟩) lk1491 rfl (by omega) (Nat.le_of_ble_eq_true rfl) (by decide +kernel) _ rfl ?_
  refine Go.istore_n (k := 1) (i := 1) [(1, .int v2), (0, .ref (ad E 109))] (by decide +kernel) rfl (by decide) rfl ?_
  refine Go.aload_n (k := 0) (i := 0) 1 (by decide +kernel) rfl rfl ?_
  refine Go.bipush (n := 11) (11 : Int32) (by decide +kernel) (by decide) ?_
  obtain ⟨v4, P5, hv4, h⟩ := St.bd2 h
  refine Go.cV_i (P1 := P5) (v := v4) (d - 1) 109 [.int (11 : Int32)] sh109 hE w_Mo_eats (e_Mo_eats hG hE (d - 1) (by omega) (11 : Int32) P3 ⟨_, hv4, rfl, rfl, rfl⟩) lk1463 rfl (by omega) (Nat.le_of_ble_eq_true rfl) (by decide +kernel) _ rfl ?_
  refine Go.if_ne (off := 8) 32 (by decide +kernel) (by decide) (fun c6 => ?_) (fun c6 => ?_)
  · rw [if_neg c6] at h
    refine Go.sub [1, 0] [(0, .ref (ad E 109)), (1, .int v2)] rfl ?_
    exact t_j_Mo_readAt_32 hG hE d hd v2 P5 h
  · rw [if_pos c6] at h
    refine Go.aload_n (k := 0) (i := 0) 1 (by decide +kernel) rfl rfl ?_
    refine Go.iconst (n := 2) (2 : Int32) (by decide +kernel) rfl ?_
    obtain ⟨P7, hP7, h⟩ := St.bind h
    refine Go.cV_v (P1 := P7) (d - 1) 109 [.int (2 : Int32)] sh109 hE w_Mo_fails (e_Mo_fails hG hE (d - 1) (by omega) (2 : Int32) P5 ⟨_, hP7, rfl, rfl, rfl⟩) lk1471 rfl (by omega) (Nat.le_of_ble_eq_true rfl) (by decide +kernel) _ rfl ?_
    refine Go.sub [1, 0] [(0, .ref (ad E 109)), (1, .int v2)] rfl ?_
    exact t_j_Mo_readAt_32 hG hE d hd v2 P7 h
theorem e_Mo_readAt {G : GX} (hG : GOK G) {E : EV} (hE : E0 E) (d : Nat) (hd : 8 ≤ d) (P : PM) {Q : QT} (h : St E rP (f_Mo_readAt P) Q) : Con G y_Mo_readAt cw_Mo_readAt d nOb nOb [.ref (ad E 109)] P E Q :=
  Con.of hG (by decide +kernel) rfl (fun h => by cases h) hE.2 (Nat.le_of_ble_eq_true rfl) (t_f_Mo_readAt hG hE d hd P h)
abbrev c_Mo_readLaw : ByteArray := prog_14_method_30_code
abbrev y_Mo_readLaw : MethodName := ⟨"YawnRouteModel", "readLaw", "(I)V"⟩
abbrev cw_Mo_readLaw : Cond := .code y_Mo_readLaw c_Mo_readLaw 3 none
theorem w_Mo_readLaw : VW 12 y_Mo_readLaw c_Mo_readLaw 3 none 1 := ⟨by decide, lk1505, lp59_, lk14, lk1506, ⟨by decide, by decide, by decide +kernel⟩, by decide⟩
noncomputable def j_Mo_readLaw_45 (x1 : Int32) (x2 : Int32) (P : PM) : Option PM := if (P.1 109 11) = (0 : Int32) then (ck (inb ((2 : Int32) + x1) 1136) (ck (inb ((4 : Int32) + x1) 1136) (ck (inb ((6 : Int32) + x1) 1136) (some (u1 (u1 (u1 P 113 ((2 : Int32) + x1).toNatClampNeg (1 : Int32)) 113 ((4 : Int32) + x1).toNatClampNeg x2) 113 ((6 : Int32) + x1).toNatClampNeg (((u1 (u1 P 113 ((2 : Int32) + x1).toNatClampNeg (1 : Int32)) 113 ((4 : Int32) + x1).toNatClampNeg x2).1 113 (235 : Int32).toNatClampNeg) - x2)))))) else (some P)
noncomputable def j_Mo_readLaw_18 (x1 : Int32) (P : PM) : Option PM := lb (P.1 113 (235 : Int32).toNatClampNeg) (fun y1 => if x1 = (1 : Int32) then ((g_Mo_readSum (0 : Int32) P).bind (fun P4 => j_Mo_readLaw_45 x1 y1 P4)) else ((g_Mo_readTruth (0 : Int32) P).bind (fun P3 => j_Mo_readLaw_45 x1 y1 P3)))
noncomputable def f_Mo_readLaw (a1 : Int32) (P : PM) : Option PM := (f_Mo_next P).bind (fun P1 => bd2 (f_Mo_eats (31 : Int32) P1) (fun v2 P3 => if v2 = (0 : Int32) then ((f_Mo_fails (2 : Int32) P3).bind (fun P5 => j_Mo_readLaw_18 a1 P5)) else (j_Mo_readLaw_18 a1 P3)))
theorem t_j_Mo_readLaw_45 {G : GX} (hG : GOK G) {E : EV} (hE : E0 E) (d : Nat) (hd : 109 ≤ d) {Q : QT} (x1 : Int32) (x2 : Int32) (P : PM) (h : St E rP (j_Mo_readLaw_45 x1 x2 P) Q) : Go G c_Mo_readLaw "YawnRouteModel" 3 none false d nOb nOb Q 45 [(0, .ref (ad E 109)), (1, .int x1), (2, .int x2)] [] P E := by
  rw [j_Mo_readLaw_45] at h
  refine Go.aload_n (k := 0) (i := 0) 0 (by decide +kernel) rfl rfl ?_
  refine Go.get 109 11 (.int (P.1 109 11)) (by decide) (by decide) sh109 (ltO hE sh109) rfl lk1341 (by decide +kernel) ?_
  refine Go.if_eq (off := 4) 53 (by decide +kernel) (by decide) (fun c1 => ?_) (fun c1 => ?_)
  · rw [if_pos c1] at h
    refine Go.aload_n (k := 0) (i := 0) 0 (by decide +kernel) rfl rfl ?_
    refine Go.get 109 4 (.ref (ad E 113)) (by decide) (by decide) sh109 (ltO hE sh109) (vlR hE rfl rfl) lk1334 (by decide +kernel) ?_
    refine Go.iconst (n := 2) (2 : Int32) (by decide +kernel) rfl ?_
    refine Go.iload_n (k := 1) (i := 1) 1 (by decide +kernel) rfl rfl ?_
    refine Go.iadd (by decide +kernel) ?_
    refine Go.iconst (n := 1) (1 : Int32) (by decide +kernel) rfl ?_
    obtain ⟨b2, h⟩ := St.ck h
    refine Go.iastore 113 1136 sh113 (ltA hE sh113 (by decide)) (inb_in b2) (by decide +kernel) ?_
    refine Go.aload_n (k := 0) (i := 0) 0 (by decide +kernel) rfl rfl ?_
    refine Go.get 109 4 (.ref (ad E 113)) (by decide) (by decide) sh109 (ltO hE sh109) (vlR hE rfl rfl) lk1334 (by decide +kernel) ?_
    refine Go.iconst (n := 4) (4 : Int32) (by decide +kernel) rfl ?_
    refine Go.iload_n (k := 1) (i := 1) 1 (by decide +kernel) rfl rfl ?_
    refine Go.iadd (by decide +kernel) ?_
    refine Go.iload_n (k := 2) (i := 2) 2 (by decide +kernel) rfl rfl ?_
    obtain ⟨b3, h⟩ := St.ck h
    refine Go.iastore 113 1136 sh113 (ltA hE sh113 (by decide)) (inb_in b3) (by decide +kernel) ?_
    refine Go.aload_n (k := 0) (i := 0) 0 (by decide +kernel) rfl rfl ?_
    refine Go.get 109 4 (.ref (ad E 113)) (by decide) (by decide) sh109 (ltO hE sh109) (vlR hE rfl rfl) lk1334 (by decide +kernel) ?_
    refine Go.bipush (n := 6) (6 : Int32) (by decide +kernel) (by decide) ?_
    refine Go.iload_n (k := 1) (i := 1) 1 (by decide +kernel) rfl rfl ?_
    refine Go.iadd (by decide +kernel) ?_
    refine Go.aload_n (k := 0) (i := 0) 0 (by decide +kernel) rfl rfl ?_
    refine Go.get 109 4 (.ref (ad E 113)) (by decide) (by decide) sh109 (ltO hE sh109) (vlR hE rfl rfl) lk1334 (by decide +kernel) ?_
    refine Go.sipush (n := 235) (235 : Int32) (by decide +kernel) (by decide) ?_
    refine Go.iaload 113 1136 sh113 (ltA hE sh113 (by decide)) (vp_in_iff.mpr (by decide)) (by decide +kernel) ?_
    refine Go.iload_n (k := 2) (i := 2) 2 (by decide +kernel) rfl rfl ?_
    refine Go.isub (by decide +kernel) ?_
    obtain ⟨b4, h⟩ := St.ck h
    refine Go.iastore 113 1136 sh113 (ltA hE sh113 (by decide)) (inb_in b4) (by decide +kernel) ?_
    exact Go.vret rfl hE.2 (by decide +kernel) (St.fP h)
  · rw [if_neg c1] at h
    exact Go.vret rfl hE.2 (by decide +kernel) (St.fP h)
theorem t_j_Mo_readLaw_18 {G : GX} (hG : GOK G) {E : EV} (hE : E0 E) (d : Nat) (hd : 109 ≤ d) {Q : QT} (x1 : Int32) (P : PM) (h : St E rP (j_Mo_readLaw_18 x1 P) Q) : Go G c_Mo_readLaw "YawnRouteModel" 3 none false d nOb nOb Q 18 [(0, .ref (ad E 109)), (1, .int x1)] [] P E := by
  rw [j_Mo_readLaw_18] at h
  refine Go.aload_n (k := 0) (i := 0) 0 (by decide +kernel) rfl rfl ?_
  refine Go.get 109 4 (.ref (ad E 113)) (by decide) (by decide) sh109 (ltO hE sh109) (vlR hE rfl rfl) lk1334 (by decide +kernel) ?_
  refine Go.sipush (n := 235) (235 : Int32) (by decide +kernel) (by decide) ?_
  refine Go.iaload 113 1136 sh113 (ltA hE sh113 (by decide)) (vp_in_iff.mpr (by decide)) (by decide +kernel) ?_
  obtain ⟨y1, hy1, h⟩ := St.lb h
  refine Go.eqi y1 hy1 ?_
  refine Go.istore_n (k := 2) (i := 2) [(2, .int y1), (0, .ref (ad E 109)), (1, .int x1)] (by decide +kernel) rfl (by decide) rfl ?_
  refine Go.iload_n (k := 1) (i := 1) 2 (by decide +kernel) rfl rfl ?_
  refine Go.iconst (n := 1) (1 : Int32) (by decide +kernel) rfl ?_
  refine Go.icmp_ne (off := 11) 40 (by decide +kernel) (by decide) (fun c2 => ?_) (fun c2 => ?_)
  · rw [if_neg c2] at h
    refine Go.aload_n (k := 0) (i := 0) 1 (by decide +kernel) rfl rfl ?_
    refine Go.iconst (n := 0) (0 : Int32) (by decide +kernel) rfl ?_
    obtain ⟨P3, hP3, h⟩ := St.bind h
    refine Go.cV_v (P1 := P3) (d - 1) 109 [.int (0 : Int32)] sh109 hE w_Mo_readTruth (e_Mo_readTruth hG hE (d - 1) (by omega) (0 : Int32) P ⟨_, hP3, rfl, rfl, rfl⟩) lk1535 rfl (by omega) (Nat.le_of_ble_eq_true rfl) (by decide +kernel) _ rfl ?_
    refine Go.sub [1, 2, 0] [(0, .ref (ad E 109)), (1, .int x1), (2, .int y1)] rfl ?_
    exact t_j_Mo_readLaw_45 hG hE d hd x1 y1 P3 h
  · rw [if_pos c2] at h
    refine Go.aload_n (k := 0) (i := 0) 1 (by decide +kernel) rfl rfl ?_
    refine Go.iconst (n := 0) (0 : Int32) (by decide +kernel) rfl ?_
    obtain ⟨P4, hP4, h⟩ := St.bind h
    refine Go.cV_v (P1 := P4) (d - 1) 109 [.int (0 : Int32)] sh109 hE w_Mo_readSum (e_Mo_readSum hG hE (d - 1) (by omega) (0 : Int32) P ⟨_, hP4, rfl, rfl, rfl⟩) lk1507 rfl (by omega) (Nat.le_of_ble_eq_true rfl) (by decide +kernel) _ rfl ?_
    refine Go.goto (off := 8) 45 (by decide +kernel) (by decide) ?_
    refine Go.sub [1, 2, 0] [(0, .ref (ad E 109)), (1, .int x1), (2, .int y1)] rfl ?_
    exact t_j_Mo_readLaw_45 hG hE d hd x1 y1 P4 h
theorem t_f_Mo_readLaw {G : GX} (hG : GOK G) {E : EV} (hE : E0 E) (d : Nat) (hd : 109 ≤ d) {Q : QT} (a1 : Int32) (P : PM) (h : St E rP (f_Mo_readLaw a1 P) Q) : Go G c_Mo_readLaw "YawnRouteModel" 3 none false d nOb nOb Q 0 [(0, .ref (ad E 109)), (1, .int a1)] [] P E := by
  rw [f_Mo_readLaw] at h
  refine Go.aload_n (k := 0) (i := 0) 0 (by decide +kernel) rfl rfl ?_
  obtain ⟨P1, hP1, h⟩ := St.bind h
  refine Go.cV_v (P1 := P1) (d - 1) 109 [] sh109 hE w_Mo_next (e_Mo_next hG hE (d - 1) (by omega) P ⟨_, hP1, rfl, rfl, rfl⟩) lk1441 rfl (by omega) (Nat.le_of_ble_eq_true rfl) (by decide +kernel) _ rfl ?_
  refine Go.aload_n (k := 0) (i := 0) 0 (by decide +kernel) rfl rfl ?_
  refine Go.bipush (n := 31) (31 : Int32) (by decide +kernel) (by decide) ?_
  obtain ⟨v2, P3, hv2, h⟩ := St.bd2 h
  refine Go.cV_i (P1 := P3) (v := v2) (d - 1) 109 [.int (31 : Int32)] sh109 hE w_Mo_eats (e_Mo_eats hG hE (d - 1) (by omega) (31 : Int32) P1 ⟨_, hv2, rfl, rfl, rfl⟩) lk1463 rfl (by omega) (Nat.le_of_ble_eq_true rfl) (by decide +kernel) _ rfl ?_
  refine Go.if_ne (off := 8) 18 (by decide +kernel) (by decide) (fun c4 => ?_) (fun c4 => ?_)
  · rw [if_neg c4] at h
    exact t_j_Mo_readLaw_18 hG hE d hd a1 P3 h
  · rw [if_pos c4] at h
    refine Go.aload_n (k := 0) (i := 0) 0 (by decide +kernel) rfl rfl ?_
    refine Go.iconst (n := 2) (2 : Int32) (by decide +kernel) rfl ?_
    obtain ⟨P5, hP5, h⟩ := St.bind h
    refine Go.cV_v (P1 := P5) (d - 1) 109 [.int (2 : Int32)] sh109 hE w_Mo_fails (e_Mo_fails hG hE (d - 1) (by omega) (2 : Int32) P3 ⟨_, hP5, rfl, rfl, rfl⟩) lk1471 rfl (by omega) (Nat.le_of_ble_eq_true rfl) (by decide +kernel) _ rfl ?_
    exact t_j_Mo_readLaw_18 hG hE d hd a1 P5 h
theorem e_Mo_readLaw {G : GX} (hG : GOK G) {E : EV} (hE : E0 E) (d : Nat) (hd : 109 ≤ d) (a1 : Int32) (P : PM) {Q : QT} (h : St E rP (f_Mo_readLaw a1 P) Q) : Con G y_Mo_readLaw cw_Mo_readLaw d nOb nOb [.ref (ad E 109), .int a1] P E Q :=
  Con.of hG (by decide +kernel) rfl (fun h => by cases h) hE.2 (Nat.le_of_ble_eq_true rfl) (t_f_Mo_readLaw hG hE d hd a1 P h)
abbrev c_Mo_readLine : ByteArray := prog_14_method_31_code
abbrev y_Mo_readLine : MethodName := ⟨"YawnRouteModel", "readLine", "()V"⟩
abbrev cw_Mo_readLine : Cond := .code y_Mo_readLine c_Mo_readLine 1 none
theorem w_Mo_readLine : VW 12 y_Mo_readLine c_Mo_readLine 1 none 0 := ⟨by decide, lk1481, lp53_, lk14, lk1482, ⟨by decide, by decide, by decide +kernel⟩, by decide⟩
noncomputable def j_Mo_readLine_69 (P : PM) : Option PM := (f_Mo_readLaw ((P.1 109 9) - (4 : Int32)) P).bind (fun P1 => some P1)
noncomputable def f_Mo_readLine (P : PM) : Option PM := if (P.1 109 11) = (0 : Int32) then (if (f_Mo_is (1 : Int32) P) = (0 : Int32) then (if (f_Mo_is (2 : Int32) P) = (0 : Int32) then (if (f_Mo_is (3 : Int32) P) = (0 : Int32) then (if (f_Mo_is (4 : Int32) P) = (0 : Int32) then (if (f_Mo_is (5 : Int32) P) = (0 : Int32) then ((f_Mo_fails (2 : Int32) P).bind (fun P7 => some P7)) else (j_Mo_readLine_69 P)) else (j_Mo_readLine_69 P)) else ((f_Mo_readAt P).bind (fun P8 => some P8))) else ((f_Mo_readWay P).bind (fun P9 => some P9))) else ((f_Mo_readStation P).bind (fun P10 => some P10))) else (some P)
theorem t_j_Mo_readLine_69 {G : GX} (hG : GOK G) {E : EV} (hE : E0 E) (d : Nat) (hd : 110 ≤ d) {Q : QT} (P : PM) (h : St E rP (j_Mo_readLine_69 P) Q) : Go G c_Mo_readLine "YawnRouteModel" 1 none false d nOb nOb Q 69 [(0, .ref (ad E 109))] [] P E := by
  rw [j_Mo_readLine_69] at h
  refine Go.aload_n (k := 0) (i := 0) 0 (by decide +kernel) rfl rfl ?_
  refine Go.aload_n (k := 0) (i := 0) 0 (by decide +kernel) rfl rfl ?_
  refine Go.get 109 9 (.int (P.1 109 9)) (by decide) (by decide) sh109 (ltO hE sh109) rfl lk1339 (by decide +kernel) ?_
  refine Go.iconst (n := 4) (4 : Int32) (by decide +kernel) rfl ?_
  refine Go.isub (by decide +kernel) ?_
  obtain ⟨P1, hP1, h⟩ := St.bind h
  refine Go.cV_v (P1 := P1) (d - 1) 109 [.int ((P.1 109 9) - (4 : Int32))] sh109 hE w_Mo_readLaw (e_Mo_readLaw hG hE (d - 1) (by omega) ((P.1 109 9) - (4 : Int32)) P ⟨_, hP1, rfl, rfl, rfl⟩) lk1503 rfl (by omega) (Nat.le_of_ble_eq_true rfl) (by decide +kernel) _ rfl ?_
  refine Go.goto (off := 8) 87 (by decide +kernel) (by decide) ?_
  exact Go.vret rfl hE.2 (by decide +kernel) (St.fP h)
theorem t_f_Mo_readLine {G : GX} (hG : GOK G) {E : EV} (hE : E0 E) (d : Nat) (hd : 110 ≤ d) {Q : QT} (P : PM) (h : St E rP (f_Mo_readLine P) Q) : Go G c_Mo_readLine "YawnRouteModel" 1 none false d nOb nOb Q 0 [(0, .ref (ad E 109))] [] P E := by
  rw [f_Mo_readLine] at h
  refine Go.aload_n (k := 0) (i := 0) 0 (by decide +kernel) rfl rfl ?_
  refine Go.get 109 11 (.int (P.1 109 11)) (by decide) (by decide) sh109 (ltO hE sh109) rfl lk1341 (by decide +kernel) ?_
  refine Go.if_eq (off := 4) 8 (by decide +kernel) (by decide) (fun c1 => ?_) (fun c1 => ?_)
  · rw [if_pos c1] at h
    refine Go.aload_n (k := 0) (i := 0) 0 (by decide +kernel) rfl rfl ?_
    refine Go.iconst (n := 1) (1 : Int32) (by decide +kernel) rfl ?_
    refine Go.cV_i (P1 := P) (v := (f_Mo_is (1 : Int32) P)) (d - 1) 109 [.int (1 : Int32)] sh109 hE w_Mo_is (e_Mo_is hG hE (d - 1) (by omega) (1 : Int32) P ⟨rfl, rfl, rfl⟩) lk1467 rfl (by omega) (Nat.le_of_ble_eq_true rfl) (by decide +kernel) _ rfl ?_
    refine Go.if_eq (off := 10) 23 (by decide +kernel) (by decide) (fun c2 => ?_) (fun c2 => ?_)
    · rw [if_pos c2] at h
      refine Go.aload_n (k := 0) (i := 0) 0 (by decide +kernel) rfl rfl ?_
      refine Go.iconst (n := 2) (2 : Int32) (by decide +kernel) rfl ?_
      refine Go.cV_i (P1 := P) (v := (f_Mo_is (2 : Int32) P)) (d - 1) 109 [.int (2 : Int32)] sh109 hE w_Mo_is (e_Mo_is hG hE (d - 1) (by omega) (2 : Int32) P ⟨rfl, rfl, rfl⟩) lk1467 rfl (by omega) (Nat.le_of_ble_eq_true rfl) (by decide +kernel) _ rfl ?_
      refine Go.if_eq (off := 10) 38 (by decide +kernel) (by decide) (fun c3 => ?_) (fun c3 => ?_)
      · rw [if_pos c3] at h
        refine Go.aload_n (k := 0) (i := 0) 0 (by decide +kernel) rfl rfl ?_
        refine Go.iconst (n := 3) (3 : Int32) (by decide +kernel) rfl ?_
        refine Go.cV_i (P1 := P) (v := (f_Mo_is (3 : Int32) P)) (d - 1) 109 [.int (3 : Int32)] sh109 hE w_Mo_is (e_Mo_is hG hE (d - 1) (by omega) (3 : Int32) P ⟨rfl, rfl, rfl⟩) lk1467 rfl (by omega) (Nat.le_of_ble_eq_true rfl) (by decide +kernel) _ rfl ?_
        refine Go.if_eq (off := 10) 53 (by decide +kernel) (by decide) (fun c4 => ?_) (fun c4 => ?_)
        · rw [if_pos c4] at h
          refine Go.aload_n (k := 0) (i := 0) 0 (by decide +kernel) rfl rfl ?_
          refine Go.iconst (n := 4) (4 : Int32) (by decide +kernel) rfl ?_
          refine Go.cV_i (P1 := P) (v := (f_Mo_is (4 : Int32) P)) (d - 1) 109 [.int (4 : Int32)] sh109 hE w_Mo_is (e_Mo_is hG hE (d - 1) (by omega) (4 : Int32) P ⟨rfl, rfl, rfl⟩) lk1467 rfl (by omega) (Nat.le_of_ble_eq_true rfl) (by decide +kernel) _ rfl ?_
          refine Go.if_ne (off := 11) 69 (by decide +kernel) (by decide) (fun c5 => ?_) (fun c5 => ?_)
          · rw [if_neg c5] at h
            exact t_j_Mo_readLine_69 hG hE d hd P h
          · rw [if_pos c5] at h
            refine Go.aload_n (k := 0) (i := 0) 0 (by decide +kernel) rfl rfl ?_
            refine Go.iconst (n := 5) (5 : Int32) (by decide +kernel) rfl ?_
            refine Go.cV_i (P1 := P) (v := (f_Mo_is (5 : Int32) P)) (d - 1) 109 [.int (5 : Int32)] sh109 hE w_Mo_is (e_Mo_is hG hE (d - 1) (by omega) (5 : Int32) P ⟨rfl, rfl, rfl⟩) lk1467 rfl (by omega) (Nat.le_of_ble_eq_true rfl) (by decide +kernel) _ rfl ?_
            refine Go.if_eq (off := 16) 82 (by decide +kernel) (by decide) (fun c6 => ?_) (fun c6 => ?_)
            · rw [if_pos c6] at h
              refine Go.aload_n (k := 0) (i := 0) 0 (by decide +kernel) rfl rfl ?_
              refine Go.iconst (n := 2) (2 : Int32) (by decide +kernel) rfl ?_
              obtain ⟨P7, hP7, h⟩ := St.bind h
              refine Go.cV_v (P1 := P7) (d - 1) 109 [.int (2 : Int32)] sh109 hE w_Mo_fails (e_Mo_fails hG hE (d - 1) (by omega) (2 : Int32) P ⟨_, hP7, rfl, rfl, rfl⟩) lk1471 rfl (by omega) (Nat.le_of_ble_eq_true rfl) (by decide +kernel) _ rfl ?_
              exact Go.vret rfl hE.2 (by decide +kernel) (St.fP h)
            · rw [if_neg c6] at h
              exact t_j_Mo_readLine_69 hG hE d hd P h
        · rw [if_neg c4] at h
          refine Go.aload_n (k := 0) (i := 0) 0 (by decide +kernel) rfl rfl ?_
          obtain ⟨P8, hP8, h⟩ := St.bind h
          refine Go.cV_v (P1 := P8) (d - 1) 109 [] sh109 hE w_Mo_readAt (e_Mo_readAt hG hE (d - 1) (by omega) P ⟨_, hP8, rfl, rfl, rfl⟩) lk1499 rfl (by omega) (Nat.le_of_ble_eq_true rfl) (by decide +kernel) _ rfl ?_
          refine Go.goto (off := 37) 87 (by decide +kernel) (by decide) ?_
          exact Go.vret rfl hE.2 (by decide +kernel) (St.fP h)
      · rw [if_neg c3] at h
        refine Go.aload_n (k := 0) (i := 0) 0 (by decide +kernel) rfl rfl ?_
        obtain ⟨P9, hP9, h⟩ := St.bind h
        refine Go.cV_v (P1 := P9) (d - 1) 109 [] sh109 hE w_Mo_readWay (e_Mo_readWay hG hE (d - 1) (by omega) P ⟨_, hP9, rfl, rfl, rfl⟩) lk1495 rfl (by omega) (Nat.le_of_ble_eq_true rfl) (by decide +kernel) _ rfl ?_
        refine Go.goto (off := 52) 87 (by decide +kernel) (by decide) ?_
        exact Go.vret rfl hE.2 (by decide +kernel) (St.fP h)
    · rw [if_neg c2] at h
      refine Go.aload_n (k := 0) (i := 0) 0 (by decide +kernel) rfl rfl ?_
      obtain ⟨P10, hP10, h⟩ := St.bind h
      refine Go.cV_v (P1 := P10) (d - 1) 109 [] sh109 hE w_Mo_readStation (e_Mo_readStation hG hE (d - 1) (by omega) P ⟨_, hP10, rfl, rfl, rfl⟩) lk1483 rfl (by omega) (Nat.le_of_ble_eq_true rfl) (by decide +kernel) _ rfl ?_
      refine Go.goto (off := 67) 87 (by decide +kernel) (by decide) ?_
      exact Go.vret rfl hE.2 (by decide +kernel) (St.fP h)
  · rw [if_neg c1] at h
    exact Go.vret rfl hE.2 (by decide +kernel) (St.fP h)
theorem e_Mo_readLine {G : GX} (hG : GOK G) {E : EV} (hE : E0 E) (d : Nat) (hd : 110 ≤ d) (P : PM) {Q : QT} (h : St E rP (f_Mo_readLine P) Q) : Con G y_Mo_readLine cw_Mo_readLine d nOb nOb [.ref (ad E 109)] P E Q :=
  Con.of hG (by decide +kernel) rfl (fun h => by cases h) hE.2 (Nat.le_of_ble_eq_true rfl) (t_f_Mo_readLine hG hE d hd P h)
