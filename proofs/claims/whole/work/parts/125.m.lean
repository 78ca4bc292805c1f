/-! methods as functions, by program: Mo_ends Mo_net Mo_fault Mo_isStation Mo_isSize Mo_bitsOf Mo_hoursOf Mo_between -/
abbrev c_Mo_ends : ByteArray := prog_14_method_32_code
abbrev y_Mo_ends : MethodName := ⟨"YawnRouteModel", "ends", "()V"⟩
abbrev cw_Mo_ends : Cond := .code y_Mo_ends c_Mo_ends 1 none
theorem w_Mo_ends : VW 12 y_Mo_ends c_Mo_ends 1 none 0 := ⟨by decide, lk1477, lp52_, lk14, lk1478, ⟨by decide, by decide, by decide +kernel⟩, by decide⟩
noncomputable def j_Mo_ends_14 (P : PM) : Option PM := some (u1 P 113 (0 : Int32).toNatClampNeg ((P.1 113 (0 : Int32).toNatClampNeg) + (1 : Int32)))
noncomputable def f_Mo_ends (P : PM) : Option PM := bd2 (f_Mo_eats (30 : Int32) P) (fun v1 P2 => if v1 = (0 : Int32) then ((f_Mo_fails (2 : Int32) P2).bind (fun P4 => j_Mo_ends_14 P4)) else (j_Mo_ends_14 P2))
theorem t_j_Mo_ends_14 {G : GX} (hG : GOK G) {E : EV} (hE : E0 E) (d : Nat) (hd : 8 ≤ d) {Q : QT} (P : PM) (h : St E rP (j_Mo_ends_14 P) Q) : Go G c_Mo_ends "YawnRouteModel" 1 none false d nOb nOb Q 14 [(0, .ref (ad E 109))] [] P E := by
  rw [j_Mo_ends_14] at h
  refine Go.aload_n (k := 0) (i := 0) 0 (by decide +kernel) rfl rfl ?_
  refine Go.get 109 4 (.ref (ad E 113)) (by decide) (by decide) sh109 (ltO hE sh109) (vlR hE rfl rfl) lk1334 (by decide +kernel) ?_
  refine Go.iconst (n := 0) (0 : Int32) (by decide +kernel) rfl ?_
  refine Go.dup2 (by decide +kernel) rfl rfl ?_
  refine Go.iaload 113 1136 sh113 (ltA hE sh113 (by decide)) (vp_in_iff.mpr (by decide)) (by decide +kernel) ?_
  refine Go.iconst (n := 1) (1 : Int32) (by decide +kernel) rfl ?_
  refine Go.iadd (by decide +kernel) ?_
  refine Go.iastore 113 1136 sh113 (ltA hE sh113 (by decide)) (vp_in_iff.mpr (by decide)) (by decide +kernel) ?_
  exact Go.vret rfl hE.2 (by decide +kernel) (St.fP h)
theorem t_f_Mo_ends {G : GX} (hG : GOK G) {E : EV} (hE : E0 E) (d : Nat) (hd : 8 ≤ d) {Q : QT} (P : PM) (h : St E rP (f_Mo_ends P) Q) : Go G c_Mo_ends "YawnRouteModel" 1 none false d nOb nOb Q 0 [(0, .ref (ad E 109))] [] P E := by
  rw [f_Mo_ends] at h
  refine Go.aload_n (k := 0) (i := 0) 0 (by decide +kernel) rfl rfl ?_
  refine Go.bipush (n := 30) (30 : Int32) (by decide +kernel) (by decide) ?_
  obtain ⟨v1, P2, hv1, h⟩ := St.bd2 h
  refine Go.cV_i (P1 := P2) (v := v1) (d - 1) 109 [.int (30 : Int32)] sh109 hE w_Mo_eats (e_Mo_eats hG hE (d - 1) (by omega) (30 : Int32) P ⟨_, hv1, rfl, rfl, rfl⟩) lk1463 rfl (by omega) (Nat.le_of_ble_eq_true rfl) (by decide +kernel) _ rfl ?_
  refine Go.if_ne (off := 8) 14 (by decide +kernel) (by decide) (fun c3 => ?_) (fun c3 => ?_)
  · rw [if_neg c3] at h
    exact t_j_Mo_ends_14 hG hE d hd P2 h
  · rw [if_pos c3] at h
    refine Go.aload_n (k := 0) (i := 0) 0 (by decide +kernel) rfl rfl ?_
    refine Go.iconst (n := 2) (2 : Int32) (by decide +kernel) rfl ?_
    obtain ⟨P4, hP4, h⟩ := St.bind h
    refine Go.cV_v (P1 := P4) (d - 1) 109 [.int (2 : Int32)] sh109 hE w_Mo_fails (e_Mo_fails hG hE (d - 1) (by omega) (2 : Int32) P2 ⟨_, hP4, rfl, rfl, rfl⟩) lk1471 rfl (by omega) (Nat.le_of_ble_eq_true rfl) (by decide +kernel) _ rfl ?_
    exact t_j_Mo_ends_14 hG hE d hd P4 h
theorem e_Mo_ends {G : GX} (hG : GOK G) {E : EV} (hE : E0 E) (d : Nat) (hd : 8 ≤ d) (P : PM) {Q : QT} (h : St E rP (f_Mo_ends P) Q) : Con G y_Mo_ends cw_Mo_ends d nOb nOb [.ref (ad E 109)] P E Q :=
  Con.of hG (by decide +kernel) rfl (fun h => by cases h) hE.2 (Nat.le_of_ble_eq_true rfl) (t_f_Mo_ends hG hE d hd P h)
abbrev c_Mo_net : ByteArray := prog_14_method_33_code
abbrev y_Mo_net : MethodName := ⟨"YawnRouteModel", "net", "(I)I"⟩
abbrev cw_Mo_net : Cond := .code y_Mo_net c_Mo_net 3 (some .int)
theorem w_Mo_net : VW 12 y_Mo_net c_Mo_net 3 (some .int) 1 := ⟨by decide, lk1435, lk1436, lk14, lk1437, ⟨by decide, by decide, by decide +kernel⟩, by decide⟩
noncomputable def l_Mo_net_141 : Nat → Int32 → PM → Option (Int32 × PM)
  | 0, _, _ => none
  | n + 1, x2, P => if (1136 : Int32) ≤ x2 then (some ((P.1 110 (0 : Int32).toNatClampNeg), P)) else (ck (inb x2 1136) (ck (inb x2 3408) (l_Mo_net_141 n (x2 + (1 : Int32)) (u1 P 110 x2.toNatClampNeg (P.1 113 x2.toNatClampNeg)))))
noncomputable def j_Mo_net_121 (s1 : Int32) (P : PM) : Option (Int32 × PM) := if ((u1 P 109 14 s1).1 109 11) = (0 : Int32) then (l_Mo_net_141 FU (0 : Int32) (u1 P 109 14 s1)) else (some (((-30 : Int32) - ((u1 P 109 14 s1).1 109 11)), (u1 P 109 14 s1)))
noncomputable def j_Mo_net_97 (P : PM) : Option (Int32 × PM) := if ((u1 P 109 13 (P.1 109 11)).1 109 11) = (0 : Int32) then (j_Mo_net_121 (-1 : Int32) (u1 P 109 13 (P.1 109 11))) else (j_Mo_net_121 ((u1 P 109 13 (P.1 109 11)).1 109 12) (u1 P 109 13 (P.1 109 11)))
noncomputable def l_Mo_net_70 : Nat → PM → Option (Int32 × PM)
  | 0, _ => none
  | n + 1, P => if (P.1 109 11) = (0 : Int32) then (if (P.1 109 9) = (24 : Int32) then (j_Mo_net_97 P) else ((f_Mo_readLine P).bind (fun P3 => (f_Mo_ends P3).bind (fun P4 => l_Mo_net_70 n P4)))) else (j_Mo_net_97 P)
noncomputable def j_Mo_net_66 (P : PM) : Option (Int32 × PM) := (f_Mo_ends P).bind (fun P1 => l_Mo_net_70 FU P1)
noncomputable def f_Mo_net (a1 : Int32) (P : PM) : Option (Int32 × PM) := if (f_Mo_within (a1.toInt64) (0 : Int64) (((u1 P 109 0 (0 : Int32)).1 109 5).toInt64) (u1 P 109 0 (0 : Int32))) = (0 : Int32) then (some ((-3 : Int32), (u1 P 109 0 (0 : Int32)))) else ((f_Mo_plain 113 1136 (u1 (u1 (u1 (u1 (u1 P 109 0 (0 : Int32)) 109 8 a1) 109 5 (0 : Int32)) 109 7 (0 : Int32)) 109 11 (0 : Int32))).bind (fun P2 => (f_Mo_next P2).bind (fun P3 => bd2 (f_Mo_eats (0 : Int32) P3) (fun v4 P5 => if v4 = (0 : Int32) then ((f_Mo_fails (2 : Int32) P5).bind (fun P7 => j_Mo_net_66 P7)) else (j_Mo_net_66 P5)))))
theorem t_l_Mo_net_141 {G : GX} (hG : GOK G) {E : EV} (hE : E0 E) (d : Nat) (hd : 111 ≤ d) {Q : QT} : ∀ (n : Nat) (x2 : Int32) (P : PM), St E rIP (l_Mo_net_141 n x2 P) Q → Go G c_Mo_net "YawnRouteModel" 3 (some .int) false d nOb nOb Q 141 [(0, .ref (ad E 109)), (2, .int x2)] [] P E := by
  intro n
  induction n with
  | zero =>
    intro x2 P h
    rw [l_Mo_net_141] at h
    exact St.none_ h
  | succ n ih =>
    intro x2 P h
    rw [l_Mo_net_141] at h
    refine Go.iload_n (k := 2) (i := 2) 1 (by decide +kernel) rfl rfl ?_
    refine Go.sipush (n := 1136) (1136 : Int32) (by decide +kernel) (by decide) ?_
    refine Go.icmp_ge (off := 21) 166 (by decide +kernel) (by decide) (fun c1 => ?_) (fun c1 => ?_)
    · rw [if_pos c1] at h
      refine Go.aload_n (k := 0) (i := 0) 0 (by decide +kernel) rfl rfl ?_
      refine Go.get 109 1 (.ref (ad E 110)) (by decide) (by decide) sh109 (ltO hE sh109) (vlR hE rfl rfl) lk1331 (by decide +kernel) ?_
      refine Go.iconst (n := 0) (0 : Int32) (by decide +kernel) rfl ?_
      refine Go.iaload 110 3408 sh110 (ltA hE sh110 (by decide)) (vp_in_iff.mpr (by decide)) (by decide +kernel) ?_
      exact Go.iret rfl rfl hE.2 (by decide +kernel) (St.fIP h)
    · rw [if_neg c1] at h
      refine Go.aload_n (k := 0) (i := 0) 0 (by decide +kernel) rfl rfl ?_
      refine Go.get 109 1 (.ref (ad E 110)) (by decide) (by decide) sh109 (ltO hE sh109) (vlR hE rfl rfl) lk1331 (by decide +kernel) ?_
      refine Go.iload_n (k := 2) (i := 2) 1 (by decide +kernel) rfl rfl ?_
      refine Go.aload_n (k := 0) (i := 0) 0 (by decide +kernel) rfl rfl ?_
      refine Go.get 109 4 (.ref (ad E 113)) (by decide) (by decide) sh109 (ltO hE sh109) (vlR hE rfl rfl) lk1334 (by decide +kernel) ?_
      refine Go.iload_n (k := 2) (i := 2) 1 (by decide +kernel) rfl rfl ?_
      obtain ⟨b2, h⟩ := St.ck h
      refine Go.iaload 113 1136 sh113 (ltA hE sh113 (by decide)) (inb_in b2) (by decide +kernel) ?_
      obtain ⟨b3, h⟩ := St.ck h
      refine Go.iastore 110 3408 sh110 (ltA hE sh110 (by decide)) (inb_in b3) (by decide +kernel) ?_
      refine Go.iinc (i := 2) (n := 1) 1 (x2 + (1 : Int32)) [(2, .int (x2 + (1 : Int32))), (0, .ref (ad E 109))] (by decide +kernel) rfl rfl (by decide) rfl ?_
      refine Go.goto (off := -22) 141 (by decide +kernel) (by decide) ?_
      refine Go.sub [1, 0] [(0, .ref (ad E 109)), (2, .int (x2 + (1 : Int32)))] rfl ?_
      exact ih (x2 + (1 : Int32)) (u1 P 110 x2.toNatClampNeg (P.1 113 x2.toNatClampNeg)) h
theorem t_j_Mo_net_121 {G : GX} (hG : GOK G) {E : EV} (hE : E0 E) (d : Nat) (hd : 111 ≤ d) {Q : QT} (s1 : Int32) (P : PM) (h : St E rIP (j_Mo_net_121 s1 P) Q) : Go G c_Mo_net "YawnRouteModel" 3 (some .int) false d nOb nOb Q 121 [(0, .ref (ad E 109))] [.int s1, .ref (ad E 109)] P E := by
  rw [j_Mo_net_121] at h
  refine Go.put 109 14 (by decide) (by decide) sh109 (ltO hE sh109) (Or.inl rfl) rfl rfl rfl lk1344 (by decide +kernel) ?_
  refine Go.aload_n (k := 0) (i := 0) 0 (by decide +kernel) rfl rfl ?_
  refine Go.get 109 11 (.int ((u1 P 109 14 s1).1 109 11)) (by decide) (by decide) sh109 (ltO hE sh109) rfl lk1341 (by decide +kernel) ?_
  refine Go.if_eq (off := 11) 139 (by decide +kernel) (by decide) (fun c1 => ?_) (fun c1 => ?_)
  · rw [if_pos c1] at h
    refine Go.iconst (n := 0) (0 : Int32) (by decide +kernel) rfl ?_
    refine Go.istore_n (k := 2) (i := 2) [(2, .int (0 : Int32)), (0, .ref (ad E 109))] (by decide +kernel) rfl (by decide) rfl ?_
    refine Go.sub [1, 0] [(0, .ref (ad E 109)), (2, .int (0 : Int32))] rfl ?_
    exact t_l_Mo_net_141 hG hE d hd FU (0 : Int32) (u1 P 109 14 s1) h
  · rw [if_neg c1] at h
    refine Go.bipush (n := -30) (-30 : Int32) (by decide +kernel) (by decide) ?_
    refine Go.aload_n (k := 0) (i := 0) 0 (by decide +kernel) rfl rfl ?_
    refine Go.get 109 11 (.int ((u1 P 109 14 s1).1 109 11)) (by decide) (by decide) sh109 (ltO hE sh109) rfl lk1341 (by decide +kernel) ?_
    refine Go.isub (by decide +kernel) ?_
    exact Go.iret rfl rfl hE.2 (by decide +kernel) (St.fIP h)
theorem t_j_Mo_net_97 {G : GX} (hG : GOK G) {E : EV} (hE : E0 E) (d : Nat) (hd : 111 ≤ d) {Q : QT} (P : PM) (h : St E rIP (j_Mo_net_97 P) Q) : Go G c_Mo_net "YawnRouteModel" 3 (some .int) false d nOb nOb Q 97 [(0, .ref (ad E 109))] [] P E := by
  rw [j_Mo_net_97] at h
  refine Go.aload_n (k := 0) (i := 0) 0 (by decide +kernel) rfl rfl ?_
  refine Go.aload_n (k := 0) (i := 0) 0 (by decide +kernel) rfl rfl ?_
  refine Go.get 109 11 (.int (P.1 109 11)) (by decide) (by decide) sh109 (ltO hE sh109) rfl lk1341 (by decide +kernel) ?_
  refine Go.put 109 13 (by decide) (by decide) sh109 (ltO hE sh109) (Or.inl rfl) rfl rfl rfl lk1343 (by decide +kernel) ?_
  refine Go.aload_n (k := 0) (i := 0) 0 (by decide +kernel) rfl rfl ?_
  refine Go.aload_n (k := 0) (i := 0) 0 (by decide +kernel) rfl rfl ?_
  refine Go.get 109 11 (.int ((u1 P 109 13 (P.1 109 11)).1 109 11)) (by decide) (by decide) sh109 (ltO hE sh109) rfl lk1341 (by decide +kernel) ?_
  refine Go.if_ne (off := 7) 117 (by decide +kernel) (by decide) (fun c1 => ?_) (fun c1 => ?_)
  · rw [if_neg c1] at h
    refine Go.aload_n (k := 0) (i := 0) 0 (by decide +kernel) rfl rfl ?_
    refine Go.get 109 12 (.int ((u1 P 109 13 (P.1 109 11)).1 109 12)) (by decide) (by decide) sh109 (ltO hE sh109) rfl lk1342 (by decide +kernel) ?_
    exact t_j_Mo_net_121 hG hE d hd ((u1 P 109 13 (P.1 109 11)).1 109 12) (u1 P 109 13 (P.1 109 11)) h
  · rw [if_pos c1] at h
    refine Go.iconst (n := -1) (-1 : Int32) (by decide +kernel) rfl ?_
    refine Go.goto (off := 7) 121 (by decide +kernel) (by decide) ?_
    exact t_j_Mo_net_121 hG hE d hd (-1 : Int32) (u1 P 109 13 (P.1 109 11)) h
theorem t_l_Mo_net_70 {G : GX} (hG : GOK G) {E : EV} (hE : E0 E) (d : Nat) (hd : 111 ≤ d) {Q : QT} : ∀ (n : Nat) (P : PM), St E rIP (l_Mo_net_70 n P) Q → Go G c_Mo_net "YawnRouteModel" 3 (some .int) false d nOb nOb Q 70 [(0, .ref (ad E 109))] [] P E := by
  intro n
  induction n with
  | zero =>
    intro P h
    rw [l_Mo_net_70] at h
    exact St.none_ h
  | succ n ih =>
    intro P h
    rw [l_Mo_net_70] at h
    refine Go.aload_n (k := 0) (i := 0) 0 (by decide +kernel) rfl rfl ?_
    refine Go.get 109 11 (.int (P.1 109 11)) (by decide) (by decide) sh109 (ltO hE sh109) rfl lk1341 (by decide +kernel) ?_
    refine Go.if_ne (off := 23) 97 (by decide +kernel) (by decide) (fun c1 => ?_) (fun c1 => ?_)
    · rw [if_neg c1] at h
      exact t_j_Mo_net_97 hG hE d hd P h
    · rw [if_pos c1] at h
      refine Go.aload_n (k := 0) (i := 0) 0 (by decide +kernel) rfl rfl ?_
      refine Go.get 109 9 (.int (P.1 109 9)) (by decide) (by decide) sh109 (ltO hE sh109) rfl lk1339 (by decide +kernel) ?_
      refine Go.bipush (n := 24) (24 : Int32) (by decide +kernel) (by decide) ?_
      refine Go.icmp_eq (off := 14) 97 (by decide +kernel) (by decide) (fun c2 => ?_) (fun c2 => ?_)
      · rw [if_pos c2] at h
        exact t_j_Mo_net_97 hG hE d hd P h
      · rw [if_neg c2] at h
        refine Go.aload_n (k := 0) (i := 0) 0 (by decide +kernel) rfl rfl ?_
        obtain ⟨P3, hP3, h⟩ := St.bind h
        refine Go.cV_v (P1 := P3) (d - 1) 109 [] sh109 hE w_Mo_readLine (e_Mo_readLine hG hE (d - 1) (by omega) P ⟨_, hP3, rfl, rfl, rfl⟩) lk1479 rfl (by omega) (Nat.le_of_ble_eq_true rfl) (by decide +kernel) _ rfl ?_
        refine Go.aload_n (k := 0) (i := 0) 0 (by decide +kernel) rfl rfl ?_
        obtain ⟨P4, hP4, h⟩ := St.bind h
        refine Go.cV_v (P1 := P4) (d - 1) 109 [] sh109 hE w_Mo_ends (e_Mo_ends hG hE (d - 1) (by omega) P3 ⟨_, hP4, rfl, rfl, rfl⟩) lk1475 rfl (by omega) (Nat.le_of_ble_eq_true rfl) (by decide +kernel) _ rfl ?_
        refine Go.goto (off := -24) 70 (by decide +kernel) (by decide) ?_
        exact ih P4 h
theorem t_j_Mo_net_66 {G : GX} (hG : GOK G) {E : EV} (hE : E0 E) (d : Nat) (hd : 111 ≤ d) {Q : QT} (P : PM) (h : St E rIP (j_Mo_net_66 P) Q) : Go G c_Mo_net "YawnRouteModel" 3 (some .int) false d nOb nOb Q 66 [(0, .ref (ad E 109))] [] P E := by
  rw [j_Mo_net_66] at h
  refine Go.aload_n (k := 0) (i := 0) 0 (by decide +kernel) rfl rfl ?_
  obtain ⟨P1, hP1, h⟩ := St.bind h
  refine Go.cV_v (P1 := P1) (d - 1) 109 [] sh109 hE w_Mo_ends (e_Mo_ends hG hE (d - 1) (by omega) P ⟨_, hP1, rfl, rfl, rfl⟩) lk1475 rfl (by omega) (Nat.le_of_ble_eq_true rfl) (by decide +kernel) _ rfl ?_
  exact t_l_Mo_net_70 hG hE d hd FU P1 h
theorem t_f_Mo_net {G : GX} (hG : GOK G) {E : EV} (hE : E0 E) (d : Nat) (hd : 111 ≤ d) {Q : QT} (a1 : Int32) (P : PM) (h : St E rIP (f_Mo_net a1 P) Q) : Go G c_Mo_net "YawnRouteModel" 3 (some .int) false d nOb nOb Q 0 [(0, .ref (ad E 109)), (1, .int a1)] [] P E := by
  rw [f_Mo_net] at h
  refine Go.aload_n (k := 0) (i := 0) 0 (by decide +kernel) rfl rfl ?_
  refine Go.iconst (n := 0) (0 : Int32) (by decide +kernel) rfl ?_
  refine Go.put 109 0 (by decide) (by decide) sh109 (ltO hE sh109) (Or.inl rfl) rfl rfl rfl lk1330 (by decide +kernel) ?_
  refine Go.iload_n (k := 1) (i := 1) 1 (by decide +kernel) rfl rfl ?_
  refine Go.i2l (by decide +kernel) ?_
  refine Go.lconst (n := 0) (0 : Int64) (by decide +kernel) rfl ?_
  refine Go.aload_n (k := 0) (i := 0) 0 (by decide +kernel) rfl rfl ?_
  refine Go.get 109 5 (.int ((u1 P 109 0 (0 : Int32)).1 109 5)) (by decide) (by decide) sh109 (ltO hE sh109) rfl lk1335 (by decide +kernel) ?_
  refine Go.i2l (by decide +kernel) ?_
  refine Go.cS_i (P1 := (u1 P 109 0 (0 : Int32))) (v := (f_Mo_within (a1.toInt64) (0 : Int64) (((u1 P 109 0 (0 : Int32)).1 109 5).toInt64) (u1 P 109 0 (0 : Int32)))) (d - 1) [.long (a1.toInt64), .long (0 : Int64), .long (((u1 P 109 0 (0 : Int32)).1 109 5).toInt64)] hE w_Mo_within (e_Mo_within hG hE (d - 1) (by omega) (a1.toInt64) (0 : Int64) (((u1 P 109 0 (0 : Int32)).1 109 5).toInt64) (u1 P 109 0 (0 : Int32)) ⟨rfl, rfl, rfl⟩) lk1438 rfl (by omega) (Nat.le_of_ble_eq_true rfl) (by decide +kernel) _ rfl ?_
  refine Go.if_ne (off := 6) 22 (by decide +kernel) (by decide) (fun c1 => ?_) (fun c1 => ?_)
  · rw [if_neg c1] at h
    refine Go.aload_n (k := 0) (i := 0) 0 (by decide +kernel) rfl rfl ?_
    refine Go.iload_n (k := 1) (i := 1) 1 (by decide +kernel) rfl rfl ?_
    refine Go.put 109 8 (by decide) (by decide) sh109 (ltO hE sh109) (Or.inl rfl) rfl rfl rfl lk1338 (by decide +kernel) ?_
    refine Go.aload_n (k := 0) (i := 0) 0 (by decide +kernel) rfl rfl ?_
    refine Go.iconst (n := 0) (0 : Int32) (by decide +kernel) rfl ?_
    refine Go.put 109 5 (by decide) (by decide) sh109 (ltO hE sh109) (Or.inl rfl) rfl rfl rfl lk1335 (by decide +kernel) ?_
    refine Go.aload_n (k := 0) (i := 0) 0 (by decide +kernel) rfl rfl ?_
    refine Go.iconst (n := 0) (0 : Int32) (by decide +kernel) rfl ?_
    refine Go.put 109 7 (by decide) (by decide) sh109 (ltO hE sh109) (Or.inl rfl) rfl rfl rfl lk1337 (by decide +kernel) ?_
    refine Go.aload_n (k := 0) (i := 0) 0 (by decide +kernel) rfl rfl ?_
    refine Go.iconst (n := 0) (0 : Int32) (by decide +kernel) rfl ?_
    refine Go.put 109 11 (by decide) (by decide) sh109 (ltO hE sh109) (Or.inl rfl) rfl rfl rfl lk1341 (by decide +kernel) ?_
    refine Go.aload_n (k := 0) (i := 0) 0 (by decide +kernel) rfl rfl ?_
    refine Go.get 109 4 (.ref (ad E 113)) (by decide) (by decide) sh109 (ltO hE sh109) (vlR hE rfl rfl) lk1334 (by decide +kernel) ?_
    obtain ⟨P2, hP2, h⟩ := St.bind h
    refine Go.cS_v (P1 := P2) (d - 1) [.ref (ad E 113)] hE w_Mo_plain (e_Mo_plain hG hE (d - 1) (by omega) 113 1136 sh113 (u1 (u1 (u1 (u1 (u1 P 109 0 (0 : Int32)) 109 8 a1) 109 5 (0 : Int32)) 109 7 (0 : Int32)) 109 11 (0 : Int32)) ⟨_, hP2, rfl, rfl, rfl⟩) lk1327 rfl (by omega) (Nat.le_of_ble_eq_true rfl) (by decide +kernel) _ rfl ?_
    refine Go.aload_n (k := 0) (i := 0) 0 (by decide +kernel) rfl rfl ?_
    obtain ⟨P3, hP3, h⟩ := St.bind h
    refine Go.cV_v (P1 := P3) (d - 1) 109 [] sh109 hE w_Mo_next (e_Mo_next hG hE (d - 1) (by omega) P2 ⟨_, hP3, rfl, rfl, rfl⟩) lk1441 rfl (by omega) (Nat.le_of_ble_eq_true rfl) (by decide +kernel) _ rfl ?_
    refine Go.aload_n (k := 0) (i := 0) 0 (by decide +kernel) rfl rfl ?_
    refine Go.iconst (n := 0) (0 : Int32) (by decide +kernel) rfl ?_
    obtain ⟨v4, P5, hv4, h⟩ := St.bd2 h
    refine Go.cV_i (P1 := P5) (v := v4) (d - 1) 109 [.int (0 : Int32)] sh109 hE w_Mo_eats (e_Mo_eats hG hE (d - 1) (by omega) (0 : Int32) P3 ⟨_, hv4, rfl, rfl, rfl⟩) lk1463 rfl (by omega) (Nat.le_of_ble_eq_true rfl) (by decide +kernel) _ rfl ?_
    refine Go.if_ne (off := 8) 66 (by decide +kernel) (by decide) (fun c6 => ?_) (fun c6 => ?_)
    · rw [if_neg c6] at h
      refine Go.sub [0] [(0, .ref (ad E 109))] rfl ?_
      exact t_j_Mo_net_66 hG hE d hd P5 h
    · rw [if_pos c6] at h
      refine Go.aload_n (k := 0) (i := 0) 0 (by decide +kernel) rfl rfl ?_
      refine Go.iconst (n := 2) (2 : Int32) (by decide +kernel) rfl ?_
      obtain ⟨P7, hP7, h⟩ := St.bind h
      refine Go.cV_v (P1 := P7) (d - 1) 109 [.int (2 : Int32)] sh109 hE w_Mo_fails (e_Mo_fails hG hE (d - 1) (by omega) (2 : Int32) P5 ⟨_, hP7, rfl, rfl, rfl⟩) lk1471 rfl (by omega) (Nat.le_of_ble_eq_true rfl) (by decide +kernel) _ rfl ?_
      refine Go.sub [0] [(0, .ref (ad E 109))] rfl ?_
      exact t_j_Mo_net_66 hG hE d hd P7 h
  · rw [if_pos c1] at h
    refine Go.bipush (n := -3) (-3 : Int32) (by decide +kernel) (by decide) ?_
    exact Go.iret rfl rfl hE.2 (by decide +kernel) (St.fIP h)
theorem e_Mo_net {G : GX} (hG : GOK G) {E : EV} (hE : E0 E) (d : Nat) (hd : 111 ≤ d) (a1 : Int32) (P : PM) {Q : QT} (h : St E rIP (f_Mo_net a1 P) Q) : Con G y_Mo_net cw_Mo_net d nOb nOb [.ref (ad E 109), .int a1] P E Q :=
  Con.of hG (by decide +kernel) rfl (fun h => by cases h) hE.2 (Nat.le_of_ble_eq_true rfl) (t_f_Mo_net hG hE d hd a1 P h)
abbrev c_Mo_fault : ByteArray := prog_14_method_34_code
abbrev y_Mo_fault : MethodName := ⟨"YawnRouteModel", "fault", "(I)I"⟩
abbrev cw_Mo_fault : Cond := .code y_Mo_fault c_Mo_fault 2 (some .int)
theorem w_Mo_fault : VW 12 y_Mo_fault c_Mo_fault 2 (some .int) 1 := ⟨by decide, lk1548, lk1549, lk14, lk1550, ⟨by decide, by decide, by decide +kernel⟩, by decide⟩
noncomputable def f_Mo_fault (a1 : Int32) (P : PM) : Option (Int32 × PM) := if a1 = (0 : Int32) then (some (((u1 P 109 0 (0 : Int32)).1 109 13), (u1 P 109 0 (0 : Int32)))) else (if a1 = (1 : Int32) then (some (((u1 P 109 0 (0 : Int32)).1 109 14), (u1 P 109 0 (0 : Int32)))) else (some ((-1 : Int32), (u1 P 109 0 (0 : Int32)))))
theorem t_f_Mo_fault {G : GX} (hG : GOK G) {E : EV} (hE : E0 E) (d : Nat) (hd : 1 ≤ d) {Q : QT} (a1 : Int32) (P : PM) (h : St E rIP (f_Mo_fault a1 P) Q) : Go G c_Mo_fault "YawnRouteModel" 2 (some .int) false d nOb nOb Q 0 [(0, .ref (ad E 109)), (1, .int a1)] [] P E := by
  rw [f_Mo_fault] at h
  refine Go.aload_n (k := 0) (i := 0) 0 (by decide +kernel) rfl rfl ?_
  refine Go.iconst (n := 0) (0 : Int32) (by decide +kernel) rfl ?_
  refine Go.put 109 0 (by decide) (by decide) sh109 (ltO hE sh109) (Or.inl rfl) rfl rfl rfl lk1330 (by decide +kernel) ?_
  refine Go.iload_n (k := 1) (i := 1) 1 (by decide +kernel) rfl rfl ?_
  refine Go.if_ne (off := 10) 16 (by decide +kernel) (by decide) (fun c1 => ?_) (fun c1 => ?_)
  · rw [if_neg c1] at h
    refine Go.iload_n (k := 1) (i := 1) 1 (by decide +kernel) rfl rfl ?_
    refine Go.iconst (n := 1) (1 : Int32) (by decide +kernel) rfl ?_
    refine Go.icmp_ne (off := 10) 28 (by decide +kernel) (by decide) (fun c2 => ?_) (fun c2 => ?_)
    · rw [if_neg c2] at h
      refine Go.iconst (n := -1) (-1 : Int32) (by decide +kernel) rfl ?_
      exact Go.iret rfl rfl hE.2 (by decide +kernel) (St.fIP h)
    · rw [if_pos c2] at h
      refine Go.aload_n (k := 0) (i := 0) 0 (by decide +kernel) rfl rfl ?_
      refine Go.get 109 14 (.int ((u1 P 109 0 (0 : Int32)).1 109 14)) (by decide) (by decide) sh109 (ltO hE sh109) rfl lk1344 (by decide +kernel) ?_
      refine Go.goto (off := 4) 29 (by decide +kernel) (by decide) ?_
      exact Go.iret rfl rfl hE.2 (by decide +kernel) (St.fIP h)
  · rw [if_pos c1] at h
    refine Go.aload_n (k := 0) (i := 0) 0 (by decide +kernel) rfl rfl ?_
    refine Go.get 109 13 (.int ((u1 P 109 0 (0 : Int32)).1 109 13)) (by decide) (by decide) sh109 (ltO hE sh109) rfl lk1343 (by decide +kernel) ?_
    refine Go.goto (off := 16) 29 (by decide +kernel) (by decide) ?_
    exact Go.iret rfl rfl hE.2 (by decide +kernel) (St.fIP h)
theorem e_Mo_fault {G : GX} (hG : GOK G) {E : EV} (hE : E0 E) (d : Nat) (hd : 1 ≤ d) (a1 : Int32) (P : PM) {Q : QT} (h : St E rIP (f_Mo_fault a1 P) Q) : Con G y_Mo_fault cw_Mo_fault d nOb nOb [.ref (ad E 109), .int a1] P E Q :=
  Con.of hG (by decide +kernel) rfl (fun h => by cases h) hE.2 (Nat.le_of_ble_eq_true rfl) (t_f_Mo_fault hG hE d hd a1 P h)
abbrev c_Mo_isStation : ByteArray := prog_14_method_35_code
abbrev y_Mo_isStation : MethodName := ⟨"YawnRouteModel", "isStation", "(J)Z"⟩
abbrev cw_Mo_isStation : Cond := .code y_Mo_isStation c_Mo_isStation 3 (some .boolean)
theorem w_Mo_isStation : VW 12 y_Mo_isStation c_Mo_isStation 3 (some .boolean) 1 := ⟨by decide, lk1557, lp70_, lk14, lk1558, ⟨by decide, by decide, by decide +kernel⟩, by decide⟩
noncomputable def f_Mo_isStation (a1 : Int64) (P : PM) : Option Int32 := ck (isz (f_Mo_within a1 (0 : Int64) (((P.1 110 (1 : Int32).toNatClampNeg) - (1 : Int32)).toInt64) P)) (some (f_Mo_within a1 (0 : Int64) (((P.1 110 (1 : Int32).toNatClampNeg) - (1 : Int32)).toInt64) P))
theorem t_f_Mo_isStation {G : GX} (hG : GOK G) {E : EV} (hE : E0 E) (d : Nat) (hd : 2 ≤ d) {P : PM} {Q : QT} (a1 : Int64) (h : St E (rI P) (f_Mo_isStation a1 P) Q) : Go G c_Mo_isStation "YawnRouteModel" 3 (some .boolean) false d nOb nOb Q 0 [(0, .ref (ad E 109)), (1, .long a1)] [] P E := by
  rw [f_Mo_isStation] at h
  refine Go.lload_n (k := 1) (i := 1) 1 (by decide +kernel) rfl rfl ?_
  refine Go.lconst (n := 0) (0 : Int64) (by decide +kernel) rfl ?_
  refine Go.aload_n (k := 0) (i := 0) 0 (by decide +kernel) rfl rfl ?_
  refine Go.get 109 1 (.ref (ad E 110)) (by decide) (by decide) sh109 (ltO hE sh109) (vlR hE rfl rfl) lk1331 (by decide +kernel) ?_
  refine Go.iconst (n := 1) (1 : Int32) (by decide +kernel) rfl ?_
  refine Go.iaload 110 3408 sh110 (ltA hE sh110 (by decide)) (vp_in_iff.mpr (by decide)) (by decide +kernel) ?_
  refine Go.iconst (n := 1) (1 : Int32) (by decide +kernel) rfl ?_
  refine Go.isub (by decide +kernel) ?_
  refine Go.i2l (by decide +kernel) ?_
  refine Go.cS_i (P1 := P) (v := (f_Mo_within a1 (0 : Int64) (((P.1 110 (1 : Int32).toNatClampNeg) - (1 : Int32)).toInt64) P)) (d - 1) [.long a1, .long (0 : Int64), .long (((P.1 110 (1 : Int32).toNatClampNeg) - (1 : Int32)).toInt64)] hE w_Mo_within (e_Mo_within hG hE (d - 1) (by omega) a1 (0 : Int64) (((P.1 110 (1 : Int32).toNatClampNeg) - (1 : Int32)).toInt64) P ⟨rfl, rfl, rfl⟩) lk1438 rfl (by omega) (Nat.le_of_ble_eq_true rfl) (by decide +kernel) _ rfl ?_
  obtain ⟨b1, h⟩ := St.ck h
  exact Go.iret rfl (isz_b b1).1 hE.2 (by decide +kernel) (St.fI h)
theorem e_Mo_isStation {G : GX} (hG : GOK G) {E : EV} (hE : E0 E) (d : Nat) (hd : 2 ≤ d) (a1 : Int64) (P : PM) {Q : QT} (h : St E (rI P) (f_Mo_isStation a1 P) Q) : Con G y_Mo_isStation cw_Mo_isStation d nOb nOb [.ref (ad E 109), .long a1] P E Q :=
  Con.of hG (by decide +kernel) rfl (fun h => by cases h) hE.2 (Nat.le_of_ble_eq_true rfl) (t_f_Mo_isStation hG hE d hd a1 h)
abbrev c_Mo_isSize : ByteArray := prog_14_method_36_code
abbrev y_Mo_isSize : MethodName := ⟨"YawnRouteModel", "isSize", "(J)Z"⟩
abbrev cw_Mo_isSize : Cond := .code y_Mo_isSize c_Mo_isSize 2 (some .boolean)
theorem w_Mo_isSize : SW y_Mo_isSize c_Mo_isSize 2 (some .boolean) 1 := ⟨lk1616, lk14, lk1617, ⟨by decide, by decide, by decide +kernel⟩, by decide⟩
noncomputable def f_Mo_isSize (a0 : Int64) (P : PM) : Option Int32 := ck (isz (f_Mo_within a0 (1 : Int64) (40 : Int64) P)) (some (f_Mo_within a0 (1 : Int64) (40 : Int64) P))
theorem t_f_Mo_isSize {G : GX} (hG : GOK G) {E : EV} (hE : E0 E) (d : Nat) (hd : 2 ≤ d) {P : PM} {Q : QT} (a0 : Int64) (h : St E (rI P) (f_Mo_isSize a0 P) Q) : Go G c_Mo_isSize "YawnRouteModel" 2 (some .boolean) false d nOb nOb Q 0 [(0, .long a0)] [] P E := by
  rw [f_Mo_isSize] at h
  refine Go.lload_n (k := 0) (i := 0) 0 (by decide +kernel) rfl rfl ?_
  refine Go.lconst (n := 1) (1 : Int64) (by decide +kernel) rfl ?_
  refine Go.ldc2 (40 : Int64) lk1618 (by decide +kernel) ?_
  refine Go.cS_i (P1 := P) (v := (f_Mo_within a0 (1 : Int64) (40 : Int64) P)) (d - 1) [.long a0, .long (1 : Int64), .long (40 : Int64)] hE w_Mo_within (e_Mo_within hG hE (d - 1) (by omega) a0 (1 : Int64) (40 : Int64) P ⟨rfl, rfl, rfl⟩) lk1438 rfl (by omega) (Nat.le_of_ble_eq_true rfl) (by decide +kernel) _ rfl ?_
  obtain ⟨b1, h⟩ := St.ck h
  exact Go.iret rfl (isz_b b1).1 hE.2 (by decide +kernel) (St.fI h)
theorem e_Mo_isSize {G : GX} (hG : GOK G) {E : EV} (hE : E0 E) (d : Nat) (hd : 2 ≤ d) (a0 : Int64) (P : PM) {Q : QT} (h : St E (rI P) (f_Mo_isSize a0 P) Q) : Con G y_Mo_isSize cw_Mo_isSize d nOb nOb [.long a0] P E Q :=
  Con.of hG (by decide +kernel) rfl (fun h => by cases h) hE.2 (Nat.le_of_ble_eq_true rfl) (t_f_Mo_isSize hG hE d hd a0 h)
abbrev c_Mo_bitsOf : ByteArray := prog_14_method_37_code
abbrev y_Mo_bitsOf : MethodName := ⟨"YawnRouteModel", "bitsOf", "(I)I"⟩
abbrev cw_Mo_bitsOf : Cond := .code y_Mo_bitsOf c_Mo_bitsOf 3 (some .int)
theorem w_Mo_bitsOf : SW y_Mo_bitsOf c_Mo_bitsOf 3 (some .int) 1 := ⟨lk1769, lk14, lk1770, ⟨by decide, by decide, by decide +kernel⟩, by decide⟩
noncomputable def l_Mo_bitsOf_4 : Nat → Int32 → Int32 → Int32 → PM → Option Int32
  | 0, _, _, _, _ => none
  | n + 1, x0, x1, x2, P => if (10 : Int32) ≤ x2 then (some x1) else (lb (x1 + ((x0 >>> (x2 &&& 31)) &&& (1 : Int32))) (fun y2 => l_Mo_bitsOf_4 n x0 y2 (x2 + (1 : Int32)) P))
noncomputable def f_Mo_bitsOf (a0 : Int32) (P : PM) : Option Int32 := l_Mo_bitsOf_4 FU a0 (0 : Int32) (0 : Int32) P
theorem t_l_Mo_bitsOf_4 {G : GX} (hG : GOK G) {E : EV} (hE : E0 E) (d : Nat) (hd : 1 ≤ d) {P : PM} {Q : QT} : ∀ (n : Nat) (x0 : Int32) (x1 : Int32) (x2 : Int32), St E (rI P) (l_Mo_bitsOf_4 n x0 x1 x2 P) Q → Go G c_Mo_bitsOf "YawnRouteModel" 3 (some .int) false d nOb nOb Q 4 [(0, .int x0), (1, .int x1), (2, .int x2)] [] P E := by
  intro n
  induction n with
  | zero =>
    intro x0 x1 x2 h
    rw [l_Mo_bitsOf_4] at h
    exact St.none_ h
  | succ n ih =>
    intro x0 x1 x2 h
    rw [l_Mo_bitsOf_4] at h
    refine Go.iload_n (k := 2) (i := 2) 2 (by decide +kernel) rfl rfl ?_
    refine Go.bipush (n := 10) (10 : Int32) (by decide +kernel) (by decide) ?_
    refine Go.icmp_ge (off := 17) 24 (by decide +kernel) (by decide) (fun c1 => ?_) (fun c1 => ?_)
    · rw [if_pos c1] at h
      refine Go.iload_n (k := 1) (i := 1) 1 (by decide +kernel) rfl rfl ?_
      exact Go.iret rfl rfl hE.2 (by decide +kernel) (St.fI h)
    · rw [if_neg c1] at h
      refine Go.iload_n (k := 1) (i := 1) 1 (by decide +kernel) rfl rfl ?_
      refine Go.iload_n (k := 0) (i := 0) 0 (by decide +kernel) rfl rfl ?_
      refine Go.iload_n (k := 2) (i := 2) 2 (by decide +kernel) rfl rfl ?_
      refine Go.ishr (by decide +kernel) ?_
      refine Go.iconst (n := 1) (1 : Int32) (by decide +kernel) rfl ?_
      refine Go.iand (by decide +kernel) ?_
      refine Go.iadd (by decide +kernel) ?_
      obtain ⟨y2, hy2, h⟩ := St.lb h
      refine Go.eqi y2 hy2 ?_
      refine Go.istore_n (k := 1) (i := 1) [(1, .int y2), (0, .int x0), (2, .int x2)] (by decide +kernel) rfl (by decide) rfl ?_
      refine Go.iinc (i := 2) (n := 1) 2 (x2 + (1 : Int32)) [(2, .int (x2 + (1 : Int32))), (1, .int y2), (0, .int x0)] (by decide +kernel) rfl rfl (by decide) rfl ?_
      refine Go.goto (off := -17) 4 (by decide +kernel) (by decide) ?_
      refine Go.sub [2, 1, 0] [(0, .int x0), (1, .int y2), (2, .int (x2 + (1 : Int32)))] rfl ?_
      exact ih x0 y2 (x2 + (1 : Int32)) h
theorem t_f_Mo_bitsOf {G : GX} (hG : GOK G) {E : EV} (hE : E0 E) (d : Nat) (hd : 1 ≤ d) {P : PM} {Q : QT} (a0 : Int32) (h : St E (rI P) (f_Mo_bitsOf a0 P) Q) : Go G c_Mo_bitsOf "YawnRouteModel" 3 (some .int) false d nOb nOb Q 0 [(0, .int a0)] [] P E := by
  rw [f_Mo_bitsOf] at h
  refine Go.iconst (n := 0) (0 : Int32) (by decide +kernel) rfl ?_
  refine Go.istore_n (k := 1) (i := 1) [(1, .int (0 : Int32)), (0, .int a0)] (by decide +kernel) rfl (by decide) rfl ?_
  refine Go.iconst (n := 0) (0 : Int32) (by decide +kernel) rfl ?_
  refine Go.istore_n (k := 2) (i := 2) [(2, .int (0 : Int32)), (1, .int (0 : Int32)), (0, .int a0)] (by decide +kernel) rfl (by decide) rfl ?_
  refine Go.sub [2, 1, 0] [(0, .int a0), (1, .int (0 : Int32)), (2, .int (0 : Int32))] rfl ?_
  exact t_l_Mo_bitsOf_4 hG hE d hd FU a0 (0 : Int32) (0 : Int32) h
theorem e_Mo_bitsOf {G : GX} (hG : GOK G) {E : EV} (hE : E0 E) (d : Nat) (hd : 1 ≤ d) (a0 : Int32) (P : PM) {Q : QT} (h : St E (rI P) (f_Mo_bitsOf a0 P) Q) : Con G y_Mo_bitsOf cw_Mo_bitsOf d nOb nOb [.int a0] P E Q :=
  Con.of hG (by decide +kernel) rfl (fun h => by cases h) hE.2 (Nat.le_of_ble_eq_true rfl) (t_f_Mo_bitsOf hG hE d hd a0 h)
abbrev c_Mo_hoursOf : ByteArray := prog_14_method_38_code
abbrev y_Mo_hoursOf : MethodName := ⟨"YawnRouteModel", "hoursOf", "(II)I"⟩
abbrev cw_Mo_hoursOf : Cond := .code y_Mo_hoursOf c_Mo_hoursOf 3 (some .int)
theorem w_Mo_hoursOf : VW 12 y_Mo_hoursOf c_Mo_hoursOf 3 (some .int) 2 := ⟨by decide, lk1561, lp71_, lk14, lk1562, ⟨by decide, by decide, by decide +kernel⟩, by decide⟩
noncomputable def f_Mo_hoursOf (a1 : Int32) (a2 : Int32) (P : PM) : Option Int32 := ck (inb (((15 : Int32) + ((7 : Int32) * a1)) + a2) 3408) (some (P.1 110 (((15 : Int32) + ((7 : Int32) * a1)) + a2).toNatClampNeg))
theorem t_f_Mo_hoursOf {G : GX} (hG : GOK G) {E : EV} (hE : E0 E) (d : Nat) (hd : 1 ≤ d) {P : PM} {Q : QT} (a1 : Int32) (a2 : Int32) (h : St E (rI P) (f_Mo_hoursOf a1 a2 P) Q) : Go G c_Mo_hoursOf "YawnRouteModel" 3 (some .int) false d nOb nOb Q 0 [(0, .ref (ad E 109)), (1, .int a1), (2, .int a2)] [] P E := by
  rw [f_Mo_hoursOf] at h
  refine Go.aload_n (k := 0) (i := 0) 0 (by decide +kernel) rfl rfl ?_
  refine Go.get 109 1 (.ref (ad E 110)) (by decide) (by decide) sh109 (ltO hE sh109) (vlR hE rfl rfl) lk1331 (by decide +kernel) ?_
  refine Go.bipush (n := 15) (15 : Int32) (by decide +kernel) (by decide) ?_
  refine Go.bipush (n := 7) (7 : Int32) (by decide +kernel) (by decide) ?_
  refine Go.iload_n (k := 1) (i := 1) 1 (by decide +kernel) rfl rfl ?_
  refine Go.imul (by decide +kernel) ?_
  refine Go.iadd (by decide +kernel) ?_
  refine Go.iload_n (k := 2) (i := 2) 2 (by decide +kernel) rfl rfl ?_
  refine Go.iadd (by decide +kernel) ?_
  obtain ⟨b1, h⟩ := St.ck h
  refine Go.iaload 110 3408 sh110 (ltA hE sh110 (by decide)) (inb_in b1) (by decide +kernel) ?_
  exact Go.iret rfl rfl hE.2 (by decide +kernel) (St.fI h)
theorem e_Mo_hoursOf {G : GX} (hG : GOK G) {E : EV} (hE : E0 E) (d : Nat) (hd : 1 ≤ d) (a1 : Int32) (a2 : Int32) (P : PM) {Q : QT} (h : St E (rI P) (f_Mo_hoursOf a1 a2 P) Q) : Con G y_Mo_hoursOf cw_Mo_hoursOf d nOb nOb [.ref (ad E 109), .int a1, .int a2] P E Q :=
  Con.of hG (by decide +kernel) rfl (fun h => by cases h) hE.2 (Nat.le_of_ble_eq_true rfl) (t_f_Mo_hoursOf hG hE d hd a1 a2 h)
abbrev c_Mo_between : ByteArray := prog_14_method_39_code
abbrev y_Mo_between : MethodName := ⟨"YawnRouteModel", "between", "(III)I"⟩
abbrev cw_Mo_between : Cond := .code y_Mo_between c_Mo_between 5 (some .int)
theorem w_Mo_between : SW y_Mo_between c_Mo_between 5 (some .int) 3 := ⟨lk1587, lk14, lk1588, ⟨by decide, by decide, by decide +kernel⟩, by decide⟩
noncomputable def j_Mo_between_116 (s0 : Int64) (P : PM) : Int32 := if (lg_cmp s0 (1000000 : Int64)) ≤ (0 : Int32) then (if (0 : Int32) ≤ (lg_cmp s0 (-1000000 : Int64)) then ((s0.toInt32)) else (((-1000000 : Int64).toInt32))) else (((1000000 : Int64).toInt32))
noncomputable def f_Mo_between (a0 : Int32) (a1 : Int32) (a2 : Int32) (P : PM) : Int32 := if a0 = (3003 : Int32) then (if a1 = a2 then ((1 : Int32)) else ((0 : Int32))) else (if a0 = (3004 : Int32) then (if a2 ≤ a1 then ((0 : Int32)) else ((1 : Int32))) else (if a0 = (3005 : Int32) then (if a1 ≤ a2 then ((0 : Int32)) else ((1 : Int32))) else (if a0 = (3006 : Int32) then (if a0 = (3000 : Int32) then (j_Mo_between_116 ((a1.toInt64) + (a2.toInt64)) P) else (if a0 = (3001 : Int32) then (j_Mo_between_116 ((a1.toInt64) - (a2.toInt64)) P) else (j_Mo_between_116 ((a1.toInt64) * (a2.toInt64)) P))) else (if a0 = (3007 : Int32) then ((a1 &&& a2)) else (if a0 = (3008 : Int32) then ((a1 ||| a2)) else (if a0 = (3000 : Int32) then (j_Mo_between_116 ((a1.toInt64) + (a2.toInt64)) P) else (if a0 = (3001 : Int32) then (j_Mo_between_116 ((a1.toInt64) - (a2.toInt64)) P) else (j_Mo_between_116 ((a1.toInt64) * (a2.toInt64)) P))))))))
theorem t_j_Mo_between_116 {G : GX} (hG : GOK G) {E : EV} (hE : E0 E) (d : Nat) (hd : 1 ≤ d) {P : PM} {Q : QT} (s0 : Int64) (h : Q (some (.int (j_Mo_between_116 s0 P))) P E) : Go G c_Mo_between "YawnRouteModel" 5 (some .int) false d nOb nOb Q 116 [] [.long s0] P E := by
  rw [j_Mo_between_116] at h
  refine Go.lstore_n (k := 3) (i := 3) [(3, .long s0)] (by decide +kernel) rfl (by decide) rfl ?_
  refine Go.lload_n (k := 3) (i := 3) 0 (by decide +kernel) rfl rfl ?_
  refine Go.ldc2 (1000000 : Int64) lk1589 (by decide +kernel) ?_
  refine Go.lcmp (by decide +kernel) ?_
  refine Go.if_le (off := 9) 131 (by decide +kernel) (by decide) (fun c1 => ?_) (fun c1 => ?_)
  · rw [if_pos c1] at h
    refine Go.lload_n (k := 3) (i := 3) 0 (by decide +kernel) rfl rfl ?_
    refine Go.ldc2 (-1000000 : Int64) lk1590 (by decide +kernel) ?_
    refine Go.lcmp (by decide +kernel) ?_
    refine Go.if_ge (off := 9) 145 (by decide +kernel) (by decide) (fun c2 => ?_) (fun c2 => ?_)
    · rw [if_pos c2] at h
      refine Go.lload_n (k := 3) (i := 3) 0 (by decide +kernel) rfl rfl ?_
      refine Go.l2i (by decide +kernel) ?_
      exact Go.iret rfl rfl hE.2 (by decide +kernel) h
    · rw [if_neg c2] at h
      refine Go.ldc2 (-1000000 : Int64) lk1590 (by decide +kernel) ?_
      refine Go.goto (off := 4) 146 (by decide +kernel) (by decide) ?_
      refine Go.l2i (by decide +kernel) ?_
      exact Go.iret rfl rfl hE.2 (by decide +kernel) h
  · rw [if_neg c1] at h
    refine Go.ldc2 (1000000 : Int64) lk1589 (by decide +kernel) ?_
    refine Go.goto (off := 18) 146 (by decide +kernel) (by decide) ?_
    refine Go.l2i (by decide +kernel) ?_
    exact Go.iret rfl rfl hE.2 (by decide +kernel) h
theorem t_f_Mo_between {G : GX} (hG : GOK G) {E : EV} (hE : E0 E) (d : Nat) (hd : 1 ≤ d) {P : PM} {Q : QT} (a0 : Int32) (a1 : Int32) (a2 : Int32) (h : Q (some (.int (f_Mo_between a0 a1 a2 P))) P E) : Go G c_Mo_between "YawnRouteModel" 5 (some .int) false d nOb nOb Q 0 [(0, .int a0), (1, .int a1), (2, .int a2)] [] P E := by
  rw [f_Mo_between] at h
  refine Go.iload_n (k := 0) (i := 0) 0 (by decide +kernel) rfl rfl ?_
  by_cases c1 : a0 = (3003 : Int32)
  · rw [if_pos c1] at h
    refine Go.tabIn (dflt := 80) (lo := 3003) (hi := 3008) (offs := #[39, 50, 61, 80, 72, 76]) (len := 39) (off := 39) 40 (by decide +kernel) (by rw [c1]; decide) (by rw [c1]; decide) (by rw [c1]; rfl) (by decide) ?_
    refine Go.iload_n (k := 1) (i := 1) 1 (by decide +kernel) rfl rfl ?_
    refine Go.iload_n (k := 2) (i := 2) 2 (by decide +kernel) rfl rfl ?_
    refine Go.icmp_ne (off := 7) 49 (by decide +kernel) (by decide) (fun c2 => ?_) (fun c2 => ?_)
    · rw [if_neg c2] at h
      refine Go.iconst (n := 0) (0 : Int32) (by decide +kernel) rfl ?_
      exact Go.iret rfl rfl hE.2 (by decide +kernel) h
    · rw [if_pos c2] at h
      refine Go.iconst (n := 1) (1 : Int32) (by decide +kernel) rfl ?_
      refine Go.goto (off := 4) 50 (by decide +kernel) (by decide) ?_
      exact Go.iret rfl rfl hE.2 (by decide +kernel) h
  · rw [if_neg c1] at h
    by_cases c3 : a0 = (3004 : Int32)
    · rw [if_pos c3] at h
      refine Go.tabIn (dflt := 80) (lo := 3003) (hi := 3008) (offs := #[39, 50, 61, 80, 72, 76]) (len := 39) (off := 50) 51 (by decide +kernel) (by rw [c3]; decide) (by rw [c3]; decide) (by rw [c3]; rfl) (by decide) ?_
      refine Go.iload_n (k := 1) (i := 1) 1 (by decide +kernel) rfl rfl ?_
      refine Go.iload_n (k := 2) (i := 2) 2 (by decide +kernel) rfl rfl ?_
      refine Go.icmp_ge (off := 7) 60 (by decide +kernel) (by decide) (fun c4 => ?_) (fun c4 => ?_)
      · rw [if_pos c4] at h
        refine Go.iconst (n := 0) (0 : Int32) (by decide +kernel) rfl ?_
        exact Go.iret rfl rfl hE.2 (by decide +kernel) h
      · rw [if_neg c4] at h
        refine Go.iconst (n := 1) (1 : Int32) (by decide +kernel) rfl ?_
        refine Go.goto (off := 4) 61 (by decide +kernel) (by decide) ?_
        exact Go.iret rfl rfl hE.2 (by decide +kernel) h
    · rw [if_neg c3] at h
      by_cases c5 : a0 = (3005 : Int32)
      · rw [if_pos c5] at h
        refine Go.tabIn (dflt := 80) (lo := 3003) (hi := 3008) (offs := #[39, 50, 61, 80, 72, 76]) (len := 39) (off := 61) 62 (by decide +kernel) (by rw [c5]; decide) (by rw [c5]; decide) (by rw [c5]; rfl) (by decide) ?_
        refine Go.iload_n (k := 1) (i := 1) 1 (by decide +kernel) rfl rfl ?_
        refine Go.iload_n (k := 2) (i := 2) 2 (by decide +kernel) rfl rfl ?_
        refine Go.icmp_le (off := 7) 71 (by decide +kernel) (by decide) (fun c6 => ?_) (fun c6 => ?_)
        · rw [if_pos c6] at h
          refine Go.iconst (n := 0) (0 : Int32) (by decide +kernel) rfl ?_
          exact Go.iret rfl rfl hE.2 (by decide +kernel) h
        · rw [if_neg c6] at h
          refine Go.iconst (n := 1) (1 : Int32) (by decide +kernel) rfl ?_
          refine Go.goto (off := 4) 72 (by decide +kernel) (by decide) ?_
          exact Go.iret rfl rfl hE.2 (by decide +kernel) h
      · rw [if_neg c5] at h
        by_cases c7 : a0 = (3006 : Int32)
        · rw [if_pos c7] at h
          refine Go.tabIn (dflt := 80) (lo := 3003) (hi := 3008) (offs := #[39, 50, 61, 80, 72, 76]) (len := 39) (off := 80) 81 (by decide +kernel) (by rw [c7]; decide) (by rw [c7]; decide) (by rw [c7]; rfl) (by decide) ?_
          refine Go.iload_n (k := 0) (i := 0) 0 (by decide +kernel) rfl rfl ?_
          refine Go.sipush (n := 3000) (3000 : Int32) (by decide +kernel) (by decide) ?_
          refine Go.icmp_ne (off := 11) 96 (by decide +kernel) (by decide) (fun c8 => ?_) (fun c8 => ?_)
          · rw [if_neg c8] at h
            refine Go.iload_n (k := 0) (i := 0) 0 (by decide +kernel) rfl rfl ?_
            refine Go.sipush (n := 3001) (3001 : Int32) (by decide +kernel) (by decide) ?_
            refine Go.icmp_ne (off := 11) 111 (by decide +kernel) (by decide) (fun c9 => ?_) (fun c9 => ?_)
            · rw [if_neg c9] at h
              refine Go.iload_n (k := 1) (i := 1) 1 (by decide +kernel) rfl rfl ?_
              refine Go.i2l (by decide +kernel) ?_
              refine Go.iload_n (k := 2) (i := 2) 2 (by decide +kernel) rfl rfl ?_
              refine Go.i2l (by decide +kernel) ?_
              refine Go.lmul (by decide +kernel) ?_
              refine Go.sub [] [] rfl ?_
              exact t_j_Mo_between_116 hG hE d hd ((a1.toInt64) * (a2.toInt64)) h
            · rw [if_pos c9] at h
              refine Go.iload_n (k := 1) (i := 1) 1 (by decide +kernel) rfl rfl ?_
              refine Go.i2l (by decide +kernel) ?_
              refine Go.iload_n (k := 2) (i := 2) 2 (by decide +kernel) rfl rfl ?_
              refine Go.i2l (by decide +kernel) ?_
              refine Go.lsub (by decide +kernel) ?_
              refine Go.goto (off := 8) 116 (by decide +kernel) (by decide) ?_
              refine Go.sub [] [] rfl ?_
              exact t_j_Mo_between_116 hG hE d hd ((a1.toInt64) - (a2.toInt64)) h
          · rw [if_pos c8] at h
            refine Go.iload_n (k := 1) (i := 1) 1 (by decide +kernel) rfl rfl ?_
            refine Go.i2l (by decide +kernel) ?_
            refine Go.iload_n (k := 2) (i := 2) 2 (by decide +kernel) rfl rfl ?_
            refine Go.i2l (by decide +kernel) ?_
            refine Go.ladd (by decide +kernel) ?_
            refine Go.goto (off := 23) 116 (by decide +kernel) (by decide) ?_
            refine Go.sub [] [] rfl ?_
            exact t_j_Mo_between_116 hG hE d hd ((a1.toInt64) + (a2.toInt64)) h
        · rw [if_neg c7] at h
          by_cases c10 : a0 = (3007 : Int32)
          · rw [if_pos c10] at h
            refine Go.tabIn (dflt := 80) (lo := 3003) (hi := 3008) (offs := #[39, 50, 61, 80, 72, 76]) (len := 39) (off := 72) 73 (by decide +kernel) (by rw [c10]; decide) (by rw [c10]; decide) (by rw [c10]; rfl) (by decide) ?_
            refine Go.iload_n (k := 1) (i := 1) 1 (by decide +kernel) rfl rfl ?_
            refine Go.iload_n (k := 2) (i := 2) 2 (by decide +kernel) rfl rfl ?_
            refine Go.iand (by decide +kernel) ?_
            exact Go.iret rfl rfl hE.2 (by decide +kernel) h
          · rw [if_neg c10] at h
            by_cases c11 : a0 = (3008 : Int32)
            · rw [if_pos c11] at h
              refine Go.tabIn (dflt := 80) (lo := 3003) (hi := 3008) (offs := #[39, 50, 61, 80, 72, 76]) (len := 39) (off := 76) 77 (by decide +kernel) (by rw [c11]; decide) (by rw [c11]; decide) (by rw [c11]; rfl) (by decide) ?_
              refine Go.iload_n (k := 1) (i := 1) 1 (by decide +kernel) rfl rfl ?_
              refine Go.iload_n (k := 2) (i := 2) 2 (by decide +kernel) rfl rfl ?_
              refine Go.ior (by decide +kernel) ?_
              exact Go.iret rfl rfl hE.2 (by decide +kernel) h
            · rw [if_neg c11] at h
              have qc1 := lv_neT (k := (3003 : Int32)) (a := 3003) c1 (by decide)
              have qc3 := lv_neT (k := (3004 : Int32)) (a := 3004) c3 (by decide)
              have qc5 := lv_neT (k := (3005 : Int32)) (a := 3005) c5 (by decide)
              have qc7 := lv_neT (k := (3006 : Int32)) (a := 3006) c7 (by decide)
              have qc10 := lv_neT (k := (3007 : Int32)) (a := 3007) c10 (by decide)
              have qc11 := lv_neT (k := (3008 : Int32)) (a := 3008) c11 (by decide)
              refine Go.tabOut (dflt := 80) (lo := 3003) (hi := 3008) (offs := #[39, 50, 61, 80, 72, 76]) (len := 39) 81 (by decide +kernel) (by omega) (by decide) ?_
              refine Go.iload_n (k := 0) (i := 0) 0 (by decide +kernel) rfl rfl ?_
              refine Go.sipush (n := 3000) (3000 : Int32) (by decide +kernel) (by decide) ?_
              refine Go.icmp_ne (off := 11) 96 (by decide +kernel) (by decide) (fun c12 => ?_) (fun c12 => ?_)
              · rw [if_neg c12] at h
                refine Go.iload_n (k := 0) (i := 0) 0 (by decide +kernel) rfl rfl ?_
                refine Go.sipush (n := 3001) (3001 : Int32) (by decide +kernel) (by decide) ?_
                refine Go.icmp_ne (off := 11) 111 (by decide +kernel) (by decide) (fun c13 => ?_) (fun c13 => ?_)
                · rw [if_neg c13] at h
                  refine Go.iload_n (k := 1) (i := 1) 1 (by decide +kernel) rfl rfl ?_
                  refine Go.i2l (by decide +kernel) ?_
                  refine Go.iload_n (k := 2) (i := 2) 2 (by decide +kernel) rfl rfl ?_
                  refine Go.i2l (by decide +kernel) ?_
                  refine Go.lmul (by decide +kernel) ?_
                  refine Go.sub [] [] rfl ?_
                  exact t_j_Mo_between_116 hG hE d hd ((a1.toInt64) * (a2.toInt64)) h
                · rw [if_pos c13] at h
                  refine Go.iload_n (k := 1) (i := 1) 1 (by decide +kernel) rfl rfl ?_
                  refine Go.i2l (by decide +kernel) ?_
                  refine Go.iload_n (k := 2) (i := 2) 2 (by decide +kernel) rfl rfl ?_
                  refine Go.i2l (by decide +kernel) ?_
                  refine Go.lsub (by decide +kernel) ?_
                  refine Go.goto (off := 8) 116 (by decide +kernel) (by decide) ?_
                  refine Go.sub [] [] rfl ?_
                  exact t_j_Mo_between_116 hG hE d hd ((a1.toInt64) - (a2.toInt64)) h
              · rw [if_pos c12] at h
                refine Go.iload_n (k := 1) (i := 1) 1 (by decide +kernel) rfl rfl ?_
                refine Go.i2l (by decide +kernel) ?_
                refine Go.iload_n (k := 2) (i := 2) 2 (by decide +kernel) rfl rfl ?_
                refine Go.i2l (by decide +kernel) ?_
                refine Go.ladd (by decide +kernel) ?_
                refine Go.goto (off := 23) 116 (by decide +kernel) (by decide) ?_
                refine Go.sub [] [] rfl ?_
                exact t_j_Mo_between_116 hG hE d hd ((a1.toInt64) + (a2.toInt64)) h
theorem e_Mo_between {G : GX} (hG : GOK G) {E : EV} (hE : E0 E) (d : Nat) (hd : 1 ≤ d) (a0 : Int32) (a1 : Int32) (a2 : Int32) (P : PM) {Q : QT} (h : Q (some (.int (f_Mo_between a0 a1 a2 P))) P E) : Con G y_Mo_between cw_Mo_between d nOb nOb [.int a0, .int a1, .int a2] P E Q :=
  Con.of hG (by decide +kernel) rfl (fun h => by cases h) hE.2 (Nat.le_of_ble_eq_true rfl) (t_f_Mo_between hG hE d hd a0 a1 a2 h)
