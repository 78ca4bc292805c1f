/-! methods as functions, by program: Mo_goesIn -/
abbrev c_Mo_goesIn : ByteArray := prog_14_method_18_code
abbrev y_Mo_goesIn : MethodName := ⟨"YawnRouteModel", "goesIn", "(I)Z"⟩
abbrev cw_Mo_goesIn : Cond := .code y_Mo_goesIn c_Mo_goesIn 2 (some .boolean)
theorem w_Mo_goesIn : VW 12 y_Mo_goesIn c_Mo_goesIn 2 (some .boolean) 1 := ⟨by decide, lk1529, lp65_, lk14, lk1530, ⟨by decide, by decide, by decide +kernel⟩, by decide⟩
noncomputable def j_Mo_goesIn_22 (P : PM) : Option (Int32 × PM) := if (P.1 109 11) = (0 : Int32) then (some ((1 : Int32), P)) else (some ((0 : Int32), P))
noncomputable def j_Mo_goesIn_11 (P : PM) : Option (Int32 × PM) := if (P.1 109 11) = (0 : Int32) then ((f_Mo_next P).bind (fun P2 => j_Mo_goesIn_22 P2)) else (j_Mo_goesIn_22 P)
noncomputable def f_Mo_goesIn (a1 : Int32) (P : PM) : Option (Int32 × PM) := if a1 = (6 : Int32) then ((f_Mo_fails (4 : Int32) P).bind (fun P2 => j_Mo_goesIn_11 P2)) else (j_Mo_goesIn_11 P)
theorem t_j_Mo_goesIn_22 {G : GX} (hG : GOK G) {E : EV} (hE : E0 E) (d : Nat) (hd : 7 ≤ d) {Q : QT} (P : PM) (h : St E rIP (j_Mo_goesIn_22 P) Q) : Go G c_Mo_goesIn "YawnRouteModel" 2 (some .boolean) false d nOb nOb Q 22 [(0, .ref (ad E 109))] [] P E := by
  rw [j_Mo_goesIn_22] at h
  refine Go.aload_n (k := 0) (i := 0) 0 (by decide +kernel) rfl rfl ?_
  refine Go.get 109 11 (.int (P.1 109 11)) (by decide) (by decide) sh109 (ltO hE sh109) rfl lk1341 (by decide +kernel) ?_
  refine Go.if_ne (off := 7) 33 (by decide +kernel) (by decide) (fun c1 => ?_) (fun c1 => ?_)
  · rw [if_neg c1] at h
    refine Go.iconst (n := 0) (0 : Int32) (by decide +kernel) rfl ?_
    exact Go.iret rfl rfl hE.2 (by decide +kernel) (St.fIP h)
  · rw [if_pos c1] at h
    refine Go.iconst (n := 1) (1 : Int32) (by decide +kernel) rfl ?_
    refine Go.goto (off := 4) 34 (by decide +kernel) (by decide) ?_
    exact Go.iret rfl rfl hE.2 (by decide +kernel) (St.fIP h)
theorem t_j_Mo_goesIn_11 {G : GX} (hG : GOK G) {E : EV} (hE : E0 E) (d : Nat) (hd : 7 ≤ d) {Q : QT} (P : PM) (h : St E rIP (j_Mo_goesIn_11 P) Q) : Go G c_Mo_goesIn "YawnRouteModel" 2 (some .boolean) false d nOb nOb Q 11 [(0, .ref (ad E 109))] [] P E := by
  rw [j_Mo_goesIn_11] at h
  refine Go.aload_n (k := 0) (i := 0) 0 (by decide +kernel) rfl rfl ?_
  refine Go.get 109 11 (.int (P.1 109 11)) (by decide) (by decide) sh109 (ltO hE sh109) rfl lk1341 (by decide +kernel) ?_
  refine Go.if_ne (off := 7) 22 (by decide +kernel) (by decide) (fun c1 => ?_) (fun c1 => ?_)
  · rw [if_neg c1] at h
    exact t_j_Mo_goesIn_22 hG hE d hd P h
  · rw [if_pos c1] at h
    refine Go.aload_n (k := 0) (i := 0) 0 (by decide +kernel) rfl rfl ?_
    obtain ⟨P2, hP2, h⟩ := St.bind h
    refine Go.cV_v (P1 := P2) (d - 1) 109 [] sh109 hE w_Mo_next (e_Mo_next hG hE (d - 1) (by omega) P ⟨_, hP2, rfl, rfl, rfl⟩) lk1441 rfl (by omega) (Nat.le_of_ble_eq_true rfl) (by decide +kernel) _ rfl ?_
    exact t_j_Mo_goesIn_22 hG hE d hd P2 h
theorem t_f_Mo_goesIn {G : GX} (hG : GOK G) {E : EV} (hE : E0 E) (d : Nat) (hd : 7 ≤ d) {Q : QT} (a1 : Int32) (P : PM) (h : St E rIP (f_Mo_goesIn a1 P) Q) : Go G c_Mo_goesIn "YawnRouteModel" 2 (some .boolean) false d nOb nOb Q 0 [(0, .ref (ad E 109)), (1, .int a1)] [] P E := by
  rw [f_Mo_goesIn] at h
  refine Go.iload_n (k := 1) (i := 1) 1 (by decide +kernel) rfl rfl ?_
  refine Go.bipush (n := 6) (6 : Int32) (by decide +kernel) (by decide) ?_
  refine Go.icmp_ne (off := 8) 11 (by decide +kernel) (by decide) (fun c1 => ?_) (fun c1 => ?_)
  · rw [if_neg c1] at h
    refine Go.sub [0] [(0, .ref (ad E 109))] rfl ?_
    exact t_j_Mo_goesIn_11 hG hE d hd P h
  · rw [if_pos c1] at h
    refine Go.aload_n (k := 0) (i := 0) 0 (by decide +kernel) rfl rfl ?_
    refine Go.iconst (n := 4) (4 : Int32) (by decide +kernel) rfl ?_
    obtain ⟨P2, hP2, h⟩ := St.bind h
    refine Go.cV_v (P1 := P2) (d - 1) 109 [.int (4 : Int32)] sh109 hE w_Mo_fails (e_Mo_fails hG hE (d - 1) (by omega) (4 : Int32) P ⟨_, hP2, rfl, rfl, rfl⟩) lk1471 rfl (by omega) (Nat.le_of_ble_eq_true rfl) (by decide +kernel) _ rfl ?_
    refine Go.sub [0] [(0, .ref (ad E 109))] rfl ?_
    exact t_j_Mo_goesIn_11 hG hE d hd P2 h
theorem e_Mo_goesIn {G : GX} (hG : GOK G) {E : EV} (hE : E0 E) (d : Nat) (hd : 7 ≤ d) (a1 : Int32) (P : PM) {Q : QT} (h : St E rIP (f_Mo_goesIn a1 P) Q) : Con G y_Mo_goesIn cw_Mo_goesIn d nOb nOb [.ref (ad E 109), .int a1] P E Q :=
  Con.of hG (by decide +kernel) rfl (fun h => by cases h) hE.2 (Nat.le_of_ble_eq_true rfl) (t_f_Mo_goesIn hG hE d hd a1 P h)
