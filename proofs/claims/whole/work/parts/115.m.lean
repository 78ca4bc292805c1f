/-! methods as functions, by program: Sp_meeting Yr_meets St_routesFrom St_countFrom St_countBack Yr_isBack Yr_back -/
abbrev c_Sp_meeting : ByteArray := prog_8_method_7_code
abbrev y_Sp_meeting : MethodName := ⟨"YawnRoute$Spreading", "meeting", "(III)I"⟩
abbrev cw_Sp_meeting : Cond := .code y_Sp_meeting c_Sp_meeting 8 (some .int)
theorem w_Sp_meeting : VW 6 y_Sp_meeting c_Sp_meeting 8 (some .int) 3 := ⟨by decide, lk1137, lk1138, lk12, lk1139, ⟨by decide, by decide, by decide +kernel⟩, by decide⟩
noncomputable def j_Sp_meeting_124 (k62 : Int32 → Int32 → PM → Option (Int32 × PM)) (x5 : Int32) (s0 : Int32) (P : PM) : Option (Int32 × PM) := (f_Sp_isMet P).bind (fun v1 => if v1 = (0 : Int32) then (k62 s0 (x5 + (1 : Int32)) P) else (some (x5, P)))
noncomputable def j_Sp_meeting_119 (k62 : Int32 → Int32 → PM → Option (Int32 × PM)) (x5 : Int32) (P : PM) : Option (Int32 × PM) := j_Sp_meeting_124 k62 x5 (1 : Int32) P
noncomputable def l_Sp_meeting_62 : Nat → Int32 → Int32 → PM → Option (Int32 × PM)
  | 0, _, _, _ => none
  | n + 1, x4, x5, P => if (999 : Int32) < x5 then (some ((-1 : Int32), P)) else (if x4 = (0 : Int32) then (some ((-1 : Int32), P)) else (bd2 (f_Sp_goesOn 66 7 (P.1 21 3) P) (fun v3 P4 => bd2 (f_Sp_goesOn 67 7 (P4.1 21 3) P4) (fun v5 P6 => if v3 = (0 : Int32) then (if v5 = (0 : Int32) then (j_Sp_meeting_124 (fun z0 z1 Pz => l_Sp_meeting_62 n z0 z1 Pz) x5 (0 : Int32) P6) else (j_Sp_meeting_119 (fun z0 z1 Pz => l_Sp_meeting_62 n z0 z1 Pz) x5 P6)) else (j_Sp_meeting_119 (fun z0 z1 Pz => l_Sp_meeting_62 n z0 z1 Pz) x5 P6)))))
noncomputable def f_Sp_meeting (a1 : Int32) (a2 : Int32) (a3 : Int32) (P : PM) : Option (Int32 × PM) := (f_Pa_explore (f_Yr_placeOf a1 a3 P) (P.1 21 3) P).bind (fun P1 => (f_Pa_explore (f_Yr_placeOf a2 a3 P1) (P1.1 21 3) P1).bind (fun P2 => (f_Sp_begin 66 7 a1 a3 P2).bind (fun P3 => (f_Sp_begin 67 7 a2 a3 P3).bind (fun P4 => l_Sp_meeting_62 FU (1 : Int32) (1 : Int32) P4))))
theorem t_j_Sp_meeting_124 {G : GX} (hG : GOK G) {E : EV} (hE : E0 E) (d : Nat) (hd : 6 ≤ d) {Q : QT} (k62 : Int32 → Int32 → PM → Option (Int32 × PM)) (hk62 : ∀ (x4 : Int32) (x5 : Int32) (P : PM), St E rIP (k62 x4 x5 P) Q → Go G c_Sp_meeting "YawnRoute$Spreading" 8 (some .int) false d nOb nOb Q 62 [(0, .ref (ad E 65)), (4, .int x4), (5, .int x5)] [] P E) (x5 : Int32) (s0 : Int32) (P : PM) (h : St E rIP (j_Sp_meeting_124 k62 x5 s0 P) Q) : Go G c_Sp_meeting "YawnRoute$Spreading" 8 (some .int) false d nOb nOb Q 124 [(0, .ref (ad E 65)), (5, .int x5)] [.int s0] P E := by
  rw [j_Sp_meeting_124] at h
  refine Go.istore (i := 4) [(4, .int s0), (0, .ref (ad E 65)), (5, .int x5)] (by decide +kernel) (by decide) rfl ?_
  refine Go.aload_n (k := 0) (i := 0) 1 (by decide +kernel) rfl rfl ?_
  obtain ⟨v1, hv1, h⟩ := St.bind h
  refine Go.cV_i (P1 := P) (v := v1) (d - 1) 65 [] sh65 hE w_Sp_isMet (e_Sp_isMet hG hE (d - 1) (by omega) P ⟨_, hv1, rfl, rfl, rfl⟩) lk1140 rfl (by omega) (Nat.le_of_ble_eq_true rfl) (by decide +kernel) _ rfl ?_
  refine Go.if_eq (off := 6) 136 (by decide +kernel) (by decide) (fun c2 => ?_) (fun c2 => ?_)
  · rw [if_pos c2] at h
    refine Go.iinc (i := 5) (n := 1) 2 (x5 + (1 : Int32)) [(5, .int (x5 + (1 : Int32))), (4, .int s0), (0, .ref (ad E 65))] (by decide +kernel) rfl rfl (by decide) rfl ?_
    refine Go.goto (off := -77) 62 (by decide +kernel) (by decide) ?_
    refine Go.sub [2, 1, 0] [(0, .ref (ad E 65)), (4, .int s0), (5, .int (x5 + (1 : Int32)))] rfl ?_
    exact hk62 s0 (x5 + (1 : Int32)) P h
  · rw [if_neg c2] at h
    refine Go.iload (i := 5) 2 (by decide +kernel) rfl ?_
    exact Go.iret rfl rfl hE.2 (by decide +kernel) (St.fIP h)
theorem t_j_Sp_meeting_119 {G : GX} (hG : GOK G) {E : EV} (hE : E0 E) (d : Nat) (hd : 6 ≤ d) {Q : QT} (k62 : Int32 → Int32 → PM → Option (Int32 × PM)) (hk62 : ∀ (x4 : Int32) (x5 : Int32) (P : PM), St E rIP (k62 x4 x5 P) Q → Go G c_Sp_meeting "YawnRoute$Spreading" 8 (some .int) false d nOb nOb Q 62 [(0, .ref (ad E 65)), (4, .int x4), (5, .int x5)] [] P E) (x5 : Int32) (P : PM) (h : St E rIP (j_Sp_meeting_119 k62 x5 P) Q) : Go G c_Sp_meeting "YawnRoute$Spreading" 8 (some .int) false d nOb nOb Q 119 [(0, .ref (ad E 65)), (5, .int x5)] [] P E := by
  rw [j_Sp_meeting_119] at h
  refine Go.iconst (n := 1) (1 : Int32) (by decide +kernel) rfl ?_
  refine Go.goto (off := 4) 124 (by decide +kernel) (by decide) ?_
  exact t_j_Sp_meeting_124 hG hE d hd k62 hk62 x5 (1 : Int32) P h
theorem t_l_Sp_meeting_62 {G : GX} (hG : GOK G) {E : EV} (hE : E0 E) (d : Nat) (hd : 6 ≤ d) {Q : QT} : ∀ (n : Nat) (x4 : Int32) (x5 : Int32) (P : PM), St E rIP (l_Sp_meeting_62 n x4 x5 P) Q → Go G c_Sp_meeting "YawnRoute$Spreading" 8 (some .int) false d nOb nOb Q 62 [(0, .ref (ad E 65)), (4, .int x4), (5, .int x5)] [] P E := by
  intro n
  induction n with
  | zero =>
    intro x4 x5 P h
    rw [l_Sp_meeting_62] at h
    exact St.none_ h
  | succ n ih =>
    intro x4 x5 P h
    rw [l_Sp_meeting_62] at h
    refine Go.iload (i := 5) 2 (by decide +kernel) rfl ?_
    refine Go.sipush (n := 999) (999 : Int32) (by decide +kernel) (by decide) ?_
    refine Go.icmp_gt (off := 75) 142 (by decide +kernel) (by decide) (fun c1 => ?_) (fun c1 => ?_)
    · rw [if_pos c1] at h
      refine Go.iconst (n := -1) (-1 : Int32) (by decide +kernel) rfl ?_
      exact Go.iret rfl rfl hE.2 (by decide +kernel) (St.fIP h)
    · rw [if_neg c1] at h
      refine Go.iload (i := 4) 1 (by decide +kernel) rfl ?_
      refine Go.if_eq (off := 70) 142 (by decide +kernel) (by decide) (fun c2 => ?_) (fun c2 => ?_)
      · rw [if_pos c2] at h
        refine Go.iconst (n := -1) (-1 : Int32) (by decide +kernel) rfl ?_
        exact Go.iret rfl rfl hE.2 (by decide +kernel) (St.fIP h)
      · rw [if_neg c2] at h
        refine Go.aload_n (k := 0) (i := 0) 0 (by decide +kernel) rfl rfl ?_
        refine Go.aload_n (k := 0) (i := 0) 0 (by decide +kernel) rfl rfl ?_
        refine Go.get 65 3 (.ref (ad E 66)) (by decide) (by decide) sh65 (ltO hE sh65) (vlR hE rfl rfl) lk346 (by decide +kernel) ?_
        refine Go.aload_n (k := 0) (i := 0) 0 (by decide +kernel) rfl rfl ?_
        refine Go.get 65 1 (.ref (ad E 21)) (by decide) (by decide) sh65 (ltO hE sh65) (vlR hE rfl rfl) lk344 (by decide +kernel) ?_
        refine Go.get 21 3 (.int (P.1 21 3)) (by decide) (by decide) sh21 (ltO hE sh21) rfl lk163 (by decide +kernel) ?_
        obtain ⟨v3, P4, hv3, h⟩ := St.bd2 h
        refine Go.cV_i (P1 := P4) (v := v3) (d - 1) 65 [.ref (ad E 66), .int (P.1 21 3)] sh65 hE w_Sp_goesOn (e_Sp_goesOn hG hE (d - 1) (by omega) 66 7 sh66 (P.1 21 3) P ⟨_, hv3, rfl, rfl, rfl⟩) lk1097 rfl (by omega) (Nat.le_of_ble_eq_true rfl) (by decide +kernel) _ rfl ?_
        refine Go.istore (i := 6) [(6, .int v3), (0, .ref (ad E 65)), (4, .int x4), (5, .int x5)] (by decide +kernel) (by decide) rfl ?_
        refine Go.aload_n (k := 0) (i := 0) 1 (by decide +kernel) rfl rfl ?_
        refine Go.aload_n (k := 0) (i := 0) 1 (by decide +kernel) rfl rfl ?_
        refine Go.get 65 4 (.ref (ad E 67)) (by decide) (by decide) sh65 (ltO hE sh65) (vlR hE rfl rfl) lk347 (by decide +kernel) ?_
        refine Go.aload_n (k := 0) (i := 0) 1 (by decide +kernel) rfl rfl ?_
        refine Go.get 65 1 (.ref (ad E 21)) (by decide) (by decide) sh65 (ltO hE sh65) (vlR hE rfl rfl) lk344 (by decide +kernel) ?_
        refine Go.get 21 3 (.int (P4.1 21 3)) (by decide) (by decide) sh21 (ltO hE sh21) rfl lk163 (by decide +kernel) ?_
        obtain ⟨v5, P6, hv5, h⟩ := St.bd2 h
        refine Go.cV_i (P1 := P6) (v := v5) (d - 1) 65 [.ref (ad E 67), .int (P4.1 21 3)] sh65 hE w_Sp_goesOn (e_Sp_goesOn hG hE (d - 1) (by omega) 67 7 sh67 (P4.1 21 3) P4 ⟨_, hv5, rfl, rfl, rfl⟩) lk1097 rfl (by omega) (Nat.le_of_ble_eq_true rfl) (by decide +kernel) _ rfl ?_
        refine Go.istore (i := 7) [(7, .int v5), (6, .int v3), (0, .ref (ad E 65)), (4, .int x4), (5, .int x5)] (by decide +kernel) (by decide) rfl ?_
        refine Go.iload (i := 6) 1 (by decide +kernel) rfl ?_
        refine Go.if_ne (off := 8) 119 (by decide +kernel) (by decide) (fun c7 => ?_) (fun c7 => ?_)
        · rw [if_neg c7] at h
          refine Go.sub [2, 4] [(0, .ref (ad E 65)), (5, .int x5)] rfl ?_
          exact t_j_Sp_meeting_119 hG hE d hd (fun z0 z1 Pz => l_Sp_meeting_62 n z0 z1 Pz) (fun z0 z1 Pz q => ih z0 z1 Pz q) x5 P6 h
        · rw [if_pos c7] at h
          refine Go.iload (i := 7) 0 (by decide +kernel) rfl ?_
          refine Go.if_eq (off := 7) 123 (by decide +kernel) (by decide) (fun c8 => ?_) (fun c8 => ?_)
          · rw [if_pos c8] at h
            refine Go.iconst (n := 0) (0 : Int32) (by decide +kernel) rfl ?_
            refine Go.sub [2, 4] [(0, .ref (ad E 65)), (5, .int x5)] rfl ?_
            exact t_j_Sp_meeting_124 hG hE d hd (fun z0 z1 Pz => l_Sp_meeting_62 n z0 z1 Pz) (fun z0 z1 Pz q => ih z0 z1 Pz q) x5 (0 : Int32) P6 h
          · rw [if_neg c8] at h
            refine Go.sub [2, 4] [(0, .ref (ad E 65)), (5, .int x5)] rfl ?_
            exact t_j_Sp_meeting_119 hG hE d hd (fun z0 z1 Pz => l_Sp_meeting_62 n z0 z1 Pz) (fun z0 z1 Pz q => ih z0 z1 Pz q) x5 P6 h
theorem t_f_Sp_meeting {G : GX} (hG : GOK G) {E : EV} (hE : E0 E) (d : Nat) (hd : 6 ≤ d) {Q : QT} (a1 : Int32) (a2 : Int32) (a3 : Int32) (P : PM) (h : St E rIP (f_Sp_meeting a1 a2 a3 P) Q) : Go G c_Sp_meeting "YawnRoute$Spreading" 8 (some .int) false d nOb nOb Q 0 [(0, .ref (ad E 65)), (1, .int a1), (2, .int a2), (3, .int a3)] [] P E := by
  rw [f_Sp_meeting] at h
  refine Go.aload_n (k := 0) (i := 0) 0 (by decide +kernel) rfl rfl ?_
  refine Go.get 65 2 (.ref (ad E 58)) (by decide) (by decide) sh65 (ltO hE sh65) (vlR hE rfl rfl) lk345 (by decide +kernel) ?_
  refine Go.iload_n (k := 1) (i := 1) 1 (by decide +kernel) rfl rfl ?_
  refine Go.iload_n (k := 3) (i := 3) 3 (by decide +kernel) rfl rfl ?_
  refine Go.cSN_i (P1 := P) (v := (f_Yr_placeOf a1 a3 P)) (d - 1) [.int a1, .int a3] hE w_Yr_placeOf (e_Yr_placeOf hG hE (d - 1) (by omega) a1 a3 P ⟨rfl, rfl, rfl⟩) nw21 rfl (by omega) (Nat.le_of_ble_eq_true rfl) (by decide +kernel) _ rfl ?_
  refine Go.aload_n (k := 0) (i := 0) 0 (by decide +kernel) rfl rfl ?_
  refine Go.get 65 1 (.ref (ad E 21)) (by decide) (by decide) sh65 (ltO hE sh65) (vlR hE rfl rfl) lk344 (by decide +kernel) ?_
  refine Go.get 21 3 (.int (P.1 21 3)) (by decide) (by decide) sh21 (ltO hE sh21) rfl lk163 (by decide +kernel) ?_
  obtain ⟨P1, hP1, h⟩ := St.bind h
  refine Go.cV_v (P1 := P1) (d - 1) 58 [.int (f_Yr_placeOf a1 a3 P), .int (P.1 21 3)] sh58 hE w_Pa_explore (e_Pa_explore hG hE (d - 1) (by omega) (f_Yr_placeOf a1 a3 P) (P.1 21 3) P ⟨_, hP1, rfl, rfl, rfl⟩) lk1088 rfl (by omega) (Nat.le_of_ble_eq_true rfl) (by decide +kernel) _ rfl ?_
  refine Go.aload_n (k := 0) (i := 0) 0 (by decide +kernel) rfl rfl ?_
  refine Go.get 65 2 (.ref (ad E 58)) (by decide) (by decide) sh65 (ltO hE sh65) (vlR hE rfl rfl) lk345 (by decide +kernel) ?_
  refine Go.iload_n (k := 2) (i := 2) 2 (by decide +kernel) rfl rfl ?_
  refine Go.iload_n (k := 3) (i := 3) 3 (by decide +kernel) rfl rfl ?_
  refine Go.cSN_i (P1 := P1) (v := (f_Yr_placeOf a2 a3 P1)) (d - 1) [.int a2, .int a3] hE w_Yr_placeOf (e_Yr_placeOf hG hE (d - 1) (by omega) a2 a3 P1 ⟨rfl, rfl, rfl⟩) nw21 rfl (by omega) (Nat.le_of_ble_eq_true rfl) (by decide +kernel) _ rfl ?_
  refine Go.aload_n (k := 0) (i := 0) 0 (by decide +kernel) rfl rfl ?_
  refine Go.get 65 1 (.ref (ad E 21)) (by decide) (by decide) sh65 (ltO hE sh65) (vlR hE rfl rfl) lk344 (by decide +kernel) ?_
  refine Go.get 21 3 (.int (P1.1 21 3)) (by decide) (by decide) sh21 (ltO hE sh21) rfl lk163 (by decide +kernel) ?_
  obtain ⟨P2, hP2, h⟩ := St.bind h
  refine Go.cV_v (P1 := P2) (d - 1) 58 [.int (f_Yr_placeOf a2 a3 P1), .int (P1.1 21 3)] sh58 hE w_Pa_explore (e_Pa_explore hG hE (d - 1) (by omega) (f_Yr_placeOf a2 a3 P1) (P1.1 21 3) P1 ⟨_, hP2, rfl, rfl, rfl⟩) lk1088 rfl (by omega) (Nat.le_of_ble_eq_true rfl) (by decide +kernel) _ rfl ?_
  refine Go.aload_n (k := 0) (i := 0) 0 (by decide +kernel) rfl rfl ?_
  refine Go.get 65 3 (.ref (ad E 66)) (by decide) (by decide) sh65 (ltO hE sh65) (vlR hE rfl rfl) lk346 (by decide +kernel) ?_
  refine Go.iload_n (k := 1) (i := 1) 1 (by decide +kernel) rfl rfl ?_
  refine Go.iload_n (k := 3) (i := 3) 3 (by decide +kernel) rfl rfl ?_
  obtain ⟨P3, hP3, h⟩ := St.bind h
  refine Go.cS_v (P1 := P3) (d - 1) [.ref (ad E 66), .int a1, .int a3] hE w_Sp_begin (e_Sp_begin hG hE (d - 1) (by omega) 66 7 sh66 a1 a3 P2 ⟨_, hP3, rfl, rfl, rfl⟩) lk1093 rfl (by omega) (Nat.le_of_ble_eq_true rfl) (by decide +kernel) _ rfl ?_
  refine Go.aload_n (k := 0) (i := 0) 0 (by decide +kernel) rfl rfl ?_
  refine Go.get 65 4 (.ref (ad E 67)) (by decide) (by decide) sh65 (ltO hE sh65) (vlR hE rfl rfl) lk347 (by decide +kernel) ?_
  refine Go.iload_n (k := 2) (i := 2) 2 (by decide +kernel) rfl rfl ?_
  refine Go.iload_n (k := 3) (i := 3) 3 (by decide +kernel) rfl rfl ?_
  obtain ⟨P4, hP4, h⟩ := St.bind h
  refine Go.cS_v (P1 := P4) (d - 1) [.ref (ad E 67), .int a2, .int a3] hE w_Sp_begin (e_Sp_begin hG hE (d - 1) (by omega) 67 7 sh67 a2 a3 P3 ⟨_, hP4, rfl, rfl, rfl⟩) lk1093 rfl (by omega) (Nat.le_of_ble_eq_true rfl) (by decide +kernel) _ rfl ?_
  refine Go.iconst (n := 1) (1 : Int32) (by decide +kernel) rfl ?_
  refine Go.istore (i := 4) [(4, .int (1 : Int32)), (0, .ref (ad E 65)), (1, .int a1), (2, .int a2), (3, .int a3)] (by decide +kernel) (by decide) rfl ?_
  refine Go.iconst (n := 1) (1 : Int32) (by decide +kernel) rfl ?_
  refine Go.istore (i := 5) [(5, .int (1 : Int32)), (4, .int (1 : Int32)), (0, .ref (ad E 65)), (1, .int a1), (2, .int a2), (3, .int a3)] (by decide +kernel) (by decide) rfl ?_
  refine Go.sub [2, 1, 0] [(0, .ref (ad E 65)), (4, .int (1 : Int32)), (5, .int (1 : Int32))] rfl ?_
  exact t_l_Sp_meeting_62 hG hE d hd FU (1 : Int32) (1 : Int32) P4 h
theorem e_Sp_meeting {G : GX} (hG : GOK G) {E : EV} (hE : E0 E) (d : Nat) (hd : 6 ≤ d) (a1 : Int32) (a2 : Int32) (a3 : Int32) (P : PM) {Q : QT} (h : St E rIP (f_Sp_meeting a1 a2 a3 P) Q) : Con G y_Sp_meeting cw_Sp_meeting d nOb nOb [.ref (ad E 65), .int a1, .int a2, .int a3] P E Q :=
  Con.of hG (by decide +kernel) rfl (fun h => by cases h) hE.2 (Nat.le_of_ble_eq_true rfl) (t_f_Sp_meeting hG hE d hd a1 a2 a3 P h)
abbrev c_Yr_meets : ByteArray := prog_1_method_28_code
abbrev y_Yr_meets : MethodName := ⟨"YawnRoute", "meets", "(III)I"⟩
abbrev cw_Yr_meets : Cond := .code y_Yr_meets c_Yr_meets 4 (some .int)
theorem w_Yr_meets : VW 11 y_Yr_meets c_Yr_meets 4 (some .int) 3 := ⟨by decide, lk1133, lk1134, lk1, lk1135, ⟨by decide, by decide, by decide +kernel⟩, by decide⟩
noncomputable def f_Yr_meets (a1 : Int32) (a2 : Int32) (a3 : Int32) (P : PM) : Option (Int32 × PM) := if (f_Ne_isStation 14 a1 P) = (0 : Int32) then (some ((-2 : Int32), P)) else (if (f_Ne_isStation 14 a2 P) = (0 : Int32) then (some ((-2 : Int32), P)) else (if (f_Yr_isSize a3 P) = (0 : Int32) then (some ((-3 : Int32), P)) else (if a1 = a2 then (some ((0 : Int32), P)) else (bd2 (f_Sp_meeting a1 a2 a3 P) (fun v5 P6 => some (v5, P6))))))
theorem t_f_Yr_meets {G : GX} (hG : GOK G) {E : EV} (hE : E0 E) (d : Nat) (hd : 7 ≤ d) {Q : QT} (a1 : Int32) (a2 : Int32) (a3 : Int32) (P : PM) (h : St E rIP (f_Yr_meets a1 a2 a3 P) Q) : Go G c_Yr_meets "YawnRoute" 4 (some .int) false d nOb nOb Q 0 [(0, .ref (ad E 0)), (1, .int a1), (2, .int a2), (3, .int a3)] [] P E := by
  rw [f_Yr_meets] at h
  refine Go.aload_n (k := 0) (i := 0) 0 (by decide +kernel) rfl rfl ?_
  refine Go.get 0 2 (.ref (ad E 14)) (by decide) (by decide) sh0 (ltO hE sh0) (vlR hE rfl rfl) lk392 (by decide +kernel) ?_
  refine Go.iload_n (k := 1) (i := 1) 1 (by decide +kernel) rfl rfl ?_
  refine Go.cV_i (P1 := P) (v := (f_Ne_isStation 14 a1 P)) (d - 1) 14 [.int a1] sh14 hE w_Ne_isStation (e_Ne_isStation hG hE (d - 1) (by omega) 14 sh14 a1 P ⟨rfl, rfl, rfl⟩) lk726 rfl (by omega) (Nat.le_of_ble_eq_true rfl) (by decide +kernel) _ rfl ?_
  refine Go.if_eq (off := 14) 22 (by decide +kernel) (by decide) (fun c1 => ?_) (fun c1 => ?_)
  · rw [if_pos c1] at h
    refine Go.bipush (n := -2) (-2 : Int32) (by decide +kernel) (by decide) ?_
    exact Go.iret rfl rfl hE.2 (by decide +kernel) (St.fIP h)
  · rw [if_neg c1] at h
    refine Go.aload_n (k := 0) (i := 0) 0 (by decide +kernel) rfl rfl ?_
    refine Go.get 0 2 (.ref (ad E 14)) (by decide) (by decide) sh0 (ltO hE sh0) (vlR hE rfl rfl) lk392 (by decide +kernel) ?_
    refine Go.iload_n (k := 2) (i := 2) 2 (by decide +kernel) rfl rfl ?_
    refine Go.cV_i (P1 := P) (v := (f_Ne_isStation 14 a2 P)) (d - 1) 14 [.int a2] sh14 hE w_Ne_isStation (e_Ne_isStation hG hE (d - 1) (by omega) 14 sh14 a2 P ⟨rfl, rfl, rfl⟩) lk726 rfl (by omega) (Nat.le_of_ble_eq_true rfl) (by decide +kernel) _ rfl ?_
    refine Go.if_ne (off := 6) 25 (by decide +kernel) (by decide) (fun c2 => ?_) (fun c2 => ?_)
    · rw [if_neg c2] at h
      refine Go.iload_n (k := 3) (i := 3) 3 (by decide +kernel) rfl rfl ?_
      refine Go.cS_i (P1 := P) (v := (f_Yr_isSize a3 P)) (d - 1) [.int a3] hE w_Yr_isSize (e_Yr_isSize hG hE (d - 1) (by omega) a3 P ⟨rfl, rfl, rfl⟩) lk911 rfl (by omega) (Nat.le_of_ble_eq_true rfl) (by decide +kernel) _ rfl ?_
      refine Go.if_ne (off := 6) 35 (by decide +kernel) (by decide) (fun c3 => ?_) (fun c3 => ?_)
      · rw [if_neg c3] at h
        refine Go.iload_n (k := 1) (i := 1) 1 (by decide +kernel) rfl rfl ?_
        refine Go.iload_n (k := 2) (i := 2) 2 (by decide +kernel) rfl rfl ?_
        refine Go.icmp_ne (off := 7) 44 (by decide +kernel) (by decide) (fun c4 => ?_) (fun c4 => ?_)
        · rw [if_neg c4] at h
          refine Go.aload_n (k := 0) (i := 0) 0 (by decide +kernel) rfl rfl ?_
          refine Go.get 0 8 (.ref (ad E 65)) (by decide) (by decide) sh0 (ltO hE sh0) (vlR hE rfl rfl) lk398 (by decide +kernel) ?_
          refine Go.iload_n (k := 1) (i := 1) 1 (by decide +kernel) rfl rfl ?_
          refine Go.iload_n (k := 2) (i := 2) 2 (by decide +kernel) rfl rfl ?_
          refine Go.iload_n (k := 3) (i := 3) 3 (by decide +kernel) rfl rfl ?_
          obtain ⟨v5, P6, hv5, h⟩ := St.bd2 h
          refine Go.cV_i (P1 := P6) (v := v5) (d - 1) 65 [.int a1, .int a2, .int a3] sh65 hE w_Sp_meeting (e_Sp_meeting hG hE (d - 1) (by omega) a1 a2 a3 P ⟨_, hv5, rfl, rfl, rfl⟩) lk1136 rfl (by omega) (Nat.le_of_ble_eq_true rfl) (by decide +kernel) _ rfl ?_
          exact Go.iret rfl rfl hE.2 (by decide +kernel) (St.fIP h)
        · rw [if_pos c4] at h
          refine Go.iconst (n := 0) (0 : Int32) (by decide +kernel) rfl ?_
          refine Go.goto (off := 13) 54 (by decide +kernel) (by decide) ?_
          exact Go.iret rfl rfl hE.2 (by decide +kernel) (St.fIP h)
      · rw [if_pos c3] at h
        refine Go.bipush (n := -3) (-3 : Int32) (by decide +kernel) (by decide) ?_
        exact Go.iret rfl rfl hE.2 (by decide +kernel) (St.fIP h)
    · rw [if_pos c2] at h
      refine Go.bipush (n := -2) (-2 : Int32) (by decide +kernel) (by decide) ?_
      exact Go.iret rfl rfl hE.2 (by decide +kernel) (St.fIP h)
theorem e_Yr_meets {G : GX} (hG : GOK G) {E : EV} (hE : E0 E) (d : Nat) (hd : 7 ≤ d) (a1 : Int32) (a2 : Int32) (a3 : Int32) (P : PM) {Q : QT} (h : St E rIP (f_Yr_meets a1 a2 a3 P) Q) : Con G y_Yr_meets cw_Yr_meets d nOb nOb [.ref (ad E 0), .int a1, .int a2, .int a3] P E Q :=
  Con.of hG (by decide +kernel) rfl (fun h => by cases h) hE.2 (Nat.le_of_ble_eq_true rfl) (t_f_Yr_meets hG hE d hd a1 a2 a3 P h)
abbrev c_St_routesFrom : ByteArray := prog_10_method_4_code
abbrev y_St_routesFrom : MethodName := ⟨"YawnRoute$Steps", "routesFrom", "(II)I"⟩
abbrev cw_St_routesFrom : Cond := .code y_St_routesFrom c_St_routesFrom 3 (some .int)
theorem w_St_routesFrom : VW 8 y_St_routesFrom c_St_routesFrom 3 (some .int) 2 := ⟨by decide, lk1167, lp40_, lk13, lk1168, ⟨by decide, by decide, by decide +kernel⟩, by decide⟩
noncomputable def j_St_routesFrom_28 (P : PM) : Option Int32 := some (0 : Int32)
noncomputable def f_St_routesFrom (a1 : Int32) (a2 : Int32) (P : PM) : Option Int32 := if a1 < (0 : Int32) then (j_St_routesFrom_28 P) else (if (10 : Int32) < a1 then (j_St_routesFrom_28 P) else (if (f_Yr_isPlace a2 P) = (0 : Int32) then (j_St_routesFrom_28 P) else (ck (inb a1 11) (ck (inb a2 280) (some (P.1 (71 + a1.toNatClampNeg) a2.toNatClampNeg))))))
theorem t_j_St_routesFrom_28 {G : GX} (hG : GOK G) {E : EV} (hE : E0 E) (d : Nat) (hd : 2 ≤ d) {P : PM} {Q : QT} (h : St E (rI P) (j_St_routesFrom_28 P) Q) : Go G c_St_routesFrom "YawnRoute$Steps" 3 (some .int) false d nOb nOb Q 28 [] [] P E := by
  rw [j_St_routesFrom_28] at h
  refine Go.iconst (n := 0) (0 : Int32) (by decide +kernel) rfl ?_
  exact Go.iret rfl rfl hE.2 (by decide +kernel) (St.fI h)
theorem t_f_St_routesFrom {G : GX} (hG : GOK G) {E : EV} (hE : E0 E) (d : Nat) (hd : 2 ≤ d) {P : PM} {Q : QT} (a1 : Int32) (a2 : Int32) (h : St E (rI P) (f_St_routesFrom a1 a2 P) Q) : Go G c_St_routesFrom "YawnRoute$Steps" 3 (some .int) false d nOb nOb Q 0 [(0, .ref (ad E 69)), (1, .int a1), (2, .int a2)] [] P E := by
  rw [f_St_routesFrom] at h
  refine Go.iload_n (k := 1) (i := 1) 1 (by decide +kernel) rfl rfl ?_
  refine Go.if_lt (off := 27) 28 (by decide +kernel) (by decide) (fun c1 => ?_) (fun c1 => ?_)
  · rw [if_pos c1] at h
    refine Go.sub [] [] rfl ?_
    exact t_j_St_routesFrom_28 hG hE d hd h
  · rw [if_neg c1] at h
    refine Go.iload_n (k := 1) (i := 1) 1 (by decide +kernel) rfl rfl ?_
    refine Go.bipush (n := 10) (10 : Int32) (by decide +kernel) (by decide) ?_
    refine Go.icmp_gt (off := 21) 28 (by decide +kernel) (by decide) (fun c2 => ?_) (fun c2 => ?_)
    · rw [if_pos c2] at h
      refine Go.sub [] [] rfl ?_
      exact t_j_St_routesFrom_28 hG hE d hd h
    · rw [if_neg c2] at h
      refine Go.iload_n (k := 2) (i := 2) 2 (by decide +kernel) rfl rfl ?_
      refine Go.cSN_i (P1 := P) (v := (f_Yr_isPlace a2 P)) (d - 1) [.int a2] hE w_Yr_isPlace (e_Yr_isPlace hG hE (d - 1) (by omega) a2 P ⟨rfl, rfl, rfl⟩) nw22 rfl (by omega) (Nat.le_of_ble_eq_true rfl) (by decide +kernel) _ rfl ?_
      refine Go.if_eq (off := 14) 28 (by decide +kernel) (by decide) (fun c3 => ?_) (fun c3 => ?_)
      · rw [if_pos c3] at h
        refine Go.sub [] [] rfl ?_
        exact t_j_St_routesFrom_28 hG hE d hd h
      · rw [if_neg c3] at h
        refine Go.aload_n (k := 0) (i := 0) 0 (by decide +kernel) rfl rfl ?_
        refine Go.get 69 3 (.ref (ad E 70)) (by decide) (by decide) sh69 (ltO hE sh69) (vlR hE rfl rfl) lk373 (by decide +kernel) ?_
        refine Go.iload_n (k := 1) (i := 1) 1 (by decide +kernel) rfl rfl ?_
        obtain ⟨b4, h⟩ := St.ck h
        refine Go.aaload 70 6 11 (71 + a1.toNatClampNeg) sh70 (by decide) (ltA hE sh70 (by decide)) (inb_in b4) (by rw [hE.1]; exact raR70 b4) (by decide +kernel) ?_
        refine Go.iload_n (k := 2) (i := 2) 2 (by decide +kernel) rfl rfl ?_
        obtain ⟨b5, h⟩ := St.ck h
        refine Go.iaload (71 + a1.toNatClampNeg) 280 (raS70 b4) (ltA hE (raS70 b4) (by decide)) (inb_in b5) (by decide +kernel) ?_
        refine Go.goto (off := 4) 29 (by decide +kernel) (by decide) ?_
        exact Go.iret rfl rfl hE.2 (by decide +kernel) (St.fI h)
theorem e_St_routesFrom {G : GX} (hG : GOK G) {E : EV} (hE : E0 E) (d : Nat) (hd : 2 ≤ d) (a1 : Int32) (a2 : Int32) (P : PM) {Q : QT} (h : St E (rI P) (f_St_routesFrom a1 a2 P) Q) : Con G y_St_routesFrom cw_St_routesFrom d nOb nOb [.ref (ad E 69), .int a1, .int a2] P E Q :=
  Con.of hG (by decide +kernel) rfl (fun h => by cases h) hE.2 (Nat.le_of_ble_eq_true rfl) (t_f_St_routesFrom hG hE d hd a1 a2 h)
abbrev c_St_countFrom : ByteArray := prog_10_method_3_code
abbrev y_St_countFrom : MethodName := ⟨"YawnRoute$Steps", "countFrom", "(II)V"⟩
abbrev cw_St_countFrom : Cond := .code y_St_countFrom c_St_countFrom 8 none
theorem w_St_countFrom : VW 8 y_St_countFrom c_St_countFrom 8 none 2 := ⟨by decide, lk1162, lp39_, lk13, lk1163, ⟨by decide, by decide, by decide +kernel⟩, by decide⟩
noncomputable def j_St_countFrom_84 (k9 : Int32 → Int32 → Int32 → Int32 → Int32 → PM → Option PM) (x1 : Int32) (x2 : Int32) (x3 : Int32) (x4 : Int32) (x5 : Int32) (P : PM) : Option PM := k9 x1 x2 x3 x4 (x5 + (1 : Int32)) P
noncomputable def l_St_countFrom_9 : Nat → Int32 → Int32 → Int32 → Int32 → Int32 → PM → Option PM
  | 0, _, _, _, _, _, _ => none
  | n + 1, x1, x2, x3, x4, x5, P => if (P.1 14 0) ≤ x5 then (ck (inb x1 11) (ck (inb x2 280) (ck (inb (x1 &&& (1 : Int32)) 2) (ck (inb x2 280) (some (u1 (u1 P (71 + x1.toNatClampNeg) x2.toNatClampNeg x3) (83 + (x1 &&& (1 : Int32)).toNatClampNeg) x2.toNatClampNeg x4)))))) else ((f_Pa_next x2 x5 (P.1 21 3) P).bind (fun v6 => (f_St_routesFrom (x1 - (1 : Int32)) v6 P).bind (fun v7 => if v7 ≤ (0 : Int32) then (j_St_countFrom_84 (fun z0 z1 z2 z3 z4 Pz => l_St_countFrom_9 n z0 z1 z2 z3 z4 Pz) x1 x2 x3 x4 x5 P) else (lb (x3 + v7) (fun y9 => ck (inb ((x1 - (1 : Int32)) &&& (1 : Int32)) 2) (ck (inb v6 280) (lb (x4 &&& ((P.1 (83 + ((x1 - (1 : Int32)) &&& (1 : Int32)).toNatClampNeg) v6.toNatClampNeg) ||| ((1 : Int32) <<< (x5 &&& 31)))) (fun y12 => j_St_countFrom_84 (fun z0 z1 z2 z3 z4 Pz => l_St_countFrom_9 n z0 z1 z2 z3 z4 Pz) x1 x2 y9 y12 x5 P))))))))
noncomputable def f_St_countFrom (a1 : Int32) (a2 : Int32) (P : PM) : Option PM := l_St_countFrom_9 FU a1 a2 (0 : Int32) (127 : Int32) (0 : Int32) P
theorem t_j_St_countFrom_84 {G : GX} (hG : GOK G) {E : EV} (hE : E0 E) (d : Nat) (hd : 4 ≤ d) {Q : QT} (k9 : Int32 → Int32 → Int32 → Int32 → Int32 → PM → Option PM) (hk9 : ∀ (x1 : Int32) (x2 : Int32) (x3 : Int32) (x4 : Int32) (x5 : Int32) (P : PM), St E rP (k9 x1 x2 x3 x4 x5 P) Q → Go G c_St_countFrom "YawnRoute$Steps" 8 none false d nOb nOb Q 9 [(0, .ref (ad E 69)), (1, .int x1), (2, .int x2), (3, .int x3), (4, .int x4), (5, .int x5)] [] P E) (x1 : Int32) (x2 : Int32) (x3 : Int32) (x4 : Int32) (x5 : Int32) (P : PM) (h : St E rP (j_St_countFrom_84 k9 x1 x2 x3 x4 x5 P) Q) : Go G c_St_countFrom "YawnRoute$Steps" 8 none false d nOb nOb Q 84 [(0, .ref (ad E 69)), (1, .int x1), (2, .int x2), (3, .int x3), (4, .int x4), (5, .int x5)] [] P E := by
  rw [j_St_countFrom_84] at h
  refine Go.iinc (i := 5) (n := 1) 5 (x5 + (1 : Int32)) [(5, .int (x5 + (1 : Int32))), (0, .ref (ad E 69)), (1, .int x1), (2, .int x2), (3, .int x3), (4, .int x4)] (by decide +kernel) rfl rfl (by decide) rfl ?_
  refine Go.goto (off := -78) 9 (by decide +kernel) (by decide) ?_
  refine Go.sub [1, 2, 3, 4, 5, 0] [(0, .ref (ad E 69)), (1, .int x1), (2, .int x2), (3, .int x3), (4, .int x4), (5, .int (x5 + (1 : Int32)))] rfl ?_
  exact hk9 x1 x2 x3 x4 (x5 + (1 : Int32)) P h
theorem t_l_St_countFrom_9 {G : GX} (hG : GOK G) {E : EV} (hE : E0 E) (d : Nat) (hd : 4 ≤ d) {Q : QT} : ∀ (n : Nat) (x1 : Int32) (x2 : Int32) (x3 : Int32) (x4 : Int32) (x5 : Int32) (P : PM), St E rP (l_St_countFrom_9 n x1 x2 x3 x4 x5 P) Q → Go G c_St_countFrom "YawnRoute$Steps" 8 none false d nOb nOb Q 9 [(0, .ref (ad E 69)), (1, .int x1), (2, .int x2), (3, .int x3), (4, .int x4), (5, .int x5)] [] P E := by
  intro n
  induction n with
  | zero =>
    intro x1 x2 x3 x4 x5 P h
    rw [l_St_countFrom_9] at h
    exact St.none_ h
  | succ n ih =>
    intro x1 x2 x3 x4 x5 P h
    rw [l_St_countFrom_9] at h
    refine Go.iload (i := 5) 5 (by decide +kernel) rfl ?_
    refine Go.aload_n (k := 0) (i := 0) 0 (by decide +kernel) rfl rfl ?_
    refine Go.get 69 0 (.ref (ad E 14)) (by decide) (by decide) sh69 (ltO hE sh69) (vlR hE rfl rfl) lk370 (by decide +kernel) ?_
    refine Go.get 14 0 (.int (P.1 14 0)) (by decide) (by decide) sh14 (ltO hE sh14) rfl lk88 (by decide +kernel) ?_
    refine Go.icmp_ge (off := 72) 90 (by decide +kernel) (by decide) (fun c1 => ?_) (fun c1 => ?_)
    · rw [if_pos c1] at h
      refine Go.aload_n (k := 0) (i := 0) 0 (by decide +kernel) rfl rfl ?_
      refine Go.get 69 3 (.ref (ad E 70)) (by decide) (by decide) sh69 (ltO hE sh69) (vlR hE rfl rfl) lk373 (by decide +kernel) ?_
      refine Go.iload_n (k := 1) (i := 1) 1 (by decide +kernel) rfl rfl ?_
      obtain ⟨b2, h⟩ := St.ck h
      refine Go.aaload 70 6 11 (71 + x1.toNatClampNeg) sh70 (by decide) (ltA hE sh70 (by decide)) (inb_in b2) (by rw [hE.1]; exact raR70 b2) (by decide +kernel) ?_
      refine Go.iload_n (k := 2) (i := 2) 2 (by decide +kernel) rfl rfl ?_
      refine Go.iload_n (k := 3) (i := 3) 3 (by decide +kernel) rfl rfl ?_
      obtain ⟨b3, h⟩ := St.ck h
      refine Go.iastore (71 + x1.toNatClampNeg) 280 (raS70 b2) (ltA hE (raS70 b2) (by decide)) (inb_in b3) (by decide +kernel) ?_
      refine Go.aload_n (k := 0) (i := 0) 0 (by decide +kernel) rfl rfl ?_
      refine Go.get 69 4 (.ref (ad E 82)) (by decide) (by decide) sh69 (ltO hE sh69) (vlR hE rfl rfl) lk374 (by decide +kernel) ?_
      refine Go.iload_n (k := 1) (i := 1) 1 (by decide +kernel) rfl rfl ?_
      refine Go.iconst (n := 1) (1 : Int32) (by decide +kernel) rfl ?_
      refine Go.iand (by decide +kernel) ?_
      obtain ⟨b4, h⟩ := St.ck h
      refine Go.aaload 82 6 2 (83 + (x1 &&& (1 : Int32)).toNatClampNeg) sh82 (by decide) (ltA hE sh82 (by decide)) (inb_in b4) (by rw [hE.1]; exact raR82 b4) (by decide +kernel) ?_
      refine Go.iload_n (k := 2) (i := 2) 2 (by decide +kernel) rfl rfl ?_
      refine Go.iload (i := 4) 4 (by decide +kernel) rfl ?_
      obtain ⟨b5, h⟩ := St.ck h
      refine Go.iastore (83 + (x1 &&& (1 : Int32)).toNatClampNeg) 280 (raS82 b4) (ltA hE (raS82 b4) (by decide)) (inb_in b5) (by decide +kernel) ?_
      exact Go.vret rfl hE.2 (by decide +kernel) (St.fP h)
    · rw [if_neg c1] at h
      refine Go.aload_n (k := 0) (i := 0) 0 (by decide +kernel) rfl rfl ?_
      refine Go.get 69 2 (.ref (ad E 58)) (by decide) (by decide) sh69 (ltO hE sh69) (vlR hE rfl rfl) lk372 (by decide +kernel) ?_
      refine Go.iload_n (k := 2) (i := 2) 2 (by decide +kernel) rfl rfl ?_
      refine Go.iload (i := 5) 5 (by decide +kernel) rfl ?_
      refine Go.aload_n (k := 0) (i := 0) 0 (by decide +kernel) rfl rfl ?_
      refine Go.get 69 1 (.ref (ad E 21)) (by decide) (by decide) sh69 (ltO hE sh69) (vlR hE rfl rfl) lk371 (by decide +kernel) ?_
      refine Go.get 21 3 (.int (P.1 21 3)) (by decide) (by decide) sh21 (ltO hE sh21) rfl lk164 (by decide +kernel) ?_
      obtain ⟨v6, hv6, h⟩ := St.bind h
      refine Go.cV_i (P1 := P) (v := v6) (d - 1) 58 [.int x2, .int x5, .int (P.1 21 3)] sh58 hE w_Pa_next (e_Pa_next hG hE (d - 1) (by omega) x2 x5 (P.1 21 3) P ⟨_, hv6, rfl, rfl, rfl⟩) lk1164 rfl (by omega) (Nat.le_of_ble_eq_true rfl) (by decide +kernel) _ rfl ?_
      refine Go.istore (i := 6) [(6, .int v6), (0, .ref (ad E 69)), (1, .int x1), (2, .int x2), (3, .int x3), (4, .int x4), (5, .int x5)] (by decide +kernel) (by decide) rfl ?_
      refine Go.aload_n (k := 0) (i := 0) 1 (by decide +kernel) rfl rfl ?_
      refine Go.iload_n (k := 1) (i := 1) 2 (by decide +kernel) rfl rfl ?_
      refine Go.iconst (n := 1) (1 : Int32) (by decide +kernel) rfl ?_
      refine Go.isub (by decide +kernel) ?_
      refine Go.iload (i := 6) 0 (by decide +kernel) rfl ?_
      obtain ⟨v7, hv7, h⟩ := St.bind h
      refine Go.cV_i (P1 := P) (v := v7) (d - 1) 69 [.int (x1 - (1 : Int32)), .int v6] sh69 hE w_St_routesFrom (e_St_routesFrom hG hE (d - 1) (by omega) (x1 - (1 : Int32)) v6 P ⟨_, hv7, rfl, rfl, rfl⟩) lk1165 rfl (by omega) (Nat.le_of_ble_eq_true rfl) (by decide +kernel) _ rfl ?_
      refine Go.istore (i := 7) [(7, .int v7), (6, .int v6), (0, .ref (ad E 69)), (1, .int x1), (2, .int x2), (3, .int x3), (4, .int x4), (5, .int x5)] (by decide +kernel) (by decide) rfl ?_
      refine Go.iload (i := 7) 0 (by decide +kernel) rfl ?_
      refine Go.if_le (off := 31) 84 (by decide +kernel) (by decide) (fun c8 => ?_) (fun c8 => ?_)
      · rw [if_pos c8] at h
        refine Go.sub [2, 3, 4, 5, 6, 7] [(0, .ref (ad E 69)), (1, .int x1), (2, .int x2), (3, .int x3), (4, .int x4), (5, .int x5)] rfl ?_
        exact t_j_St_countFrom_84 hG hE d hd (fun z0 z1 z2 z3 z4 Pz => l_St_countFrom_9 n z0 z1 z2 z3 z4 Pz) (fun z0 z1 z2 z3 z4 Pz q => ih z0 z1 z2 z3 z4 Pz q) x1 x2 x3 x4 x5 P h
      · rw [if_neg c8] at h
        refine Go.iload_n (k := 3) (i := 3) 5 (by decide +kernel) rfl rfl ?_
        refine Go.iload (i := 7) 0 (by decide +kernel) rfl ?_
        refine Go.iadd (by decide +kernel) ?_
        obtain ⟨y9, hy9, h⟩ := St.lb h
        refine Go.eqi y9 hy9 ?_
        refine Go.istore_n (k := 3) (i := 3) [(3, .int y9), (7, .int v7), (6, .int v6), (0, .ref (ad E 69)), (1, .int x1), (2, .int x2), (4, .int x4), (5, .int x5)] (by decide +kernel) rfl (by decide) rfl ?_
        refine Go.iload (i := 4) 6 (by decide +kernel) rfl ?_
        refine Go.aload_n (k := 0) (i := 0) 3 (by decide +kernel) rfl rfl ?_
        refine Go.get 69 4 (.ref (ad E 82)) (by decide) (by decide) sh69 (ltO hE sh69) (vlR hE rfl rfl) lk374 (by decide +kernel) ?_
        refine Go.iload_n (k := 1) (i := 1) 4 (by decide +kernel) rfl rfl ?_
        refine Go.iconst (n := 1) (1 : Int32) (by decide +kernel) rfl ?_
        refine Go.isub (by decide +kernel) ?_
        refine Go.iconst (n := 1) (1 : Int32) (by decide +kernel) rfl ?_
        refine Go.iand (by decide +kernel) ?_
        obtain ⟨b10, h⟩ := St.ck h
        refine Go.aaload 82 6 2 (83 + ((x1 - (1 : Int32)) &&& (1 : Int32)).toNatClampNeg) sh82 (by decide) (ltA hE sh82 (by decide)) (inb_in b10) (by rw [hE.1]; exact raR82 b10) (by decide +kernel) ?_
        refine Go.iload (i := 6) 2 (by decide +kernel) rfl ?_
        obtain ⟨b11, h⟩ := St.ck h
        refine Go.iaload (83 + ((x1 - (1 : Int32)) &&& (1 : Int32)).toNatClampNeg) 280 (raS82 b10) (ltA hE (raS82 b10) (by decide)) (inb_in b11) (by decide +kernel) ?_
        refine Go.iconst (n := 1) (1 : Int32) (by decide +kernel) rfl ?_
        refine Go.iload (i := 5) 7 (by decide +kernel) rfl ?_
        refine Go.ishl (by decide +kernel) ?_
        refine Go.ior (by decide +kernel) ?_
        refine Go.iand (by decide +kernel) ?_
        obtain ⟨y12, hy12, h⟩ := St.lb h
        refine Go.eqi y12 hy12 ?_
        refine Go.istore (i := 4) [(4, .int y12), (3, .int y9), (7, .int v7), (6, .int v6), (0, .ref (ad E 69)), (1, .int x1), (2, .int x2), (5, .int x5)] (by decide +kernel) (by decide) rfl ?_
        refine Go.sub [4, 5, 6, 1, 0, 7] [(0, .ref (ad E 69)), (1, .int x1), (2, .int x2), (3, .int y9), (4, .int y12), (5, .int x5)] rfl ?_
        exact t_j_St_countFrom_84 hG hE d hd (fun z0 z1 z2 z3 z4 Pz => l_St_countFrom_9 n z0 z1 z2 z3 z4 Pz) (fun z0 z1 z2 z3 z4 Pz q => ih z0 z1 z2 z3 z4 Pz q) x1 x2 y9 y12 x5 P h
theorem t_f_St_countFrom {G : GX} (hG : GOK G) {E : EV} (hE : E0 E) (d : Nat) (hd : 4 ≤ d) {Q : QT} (a1 : Int32) (a2 : Int32) (P : PM) (h : St E rP (f_St_countFrom a1 a2 P) Q) : Go G c_St_countFrom "YawnRoute$Steps" 8 none false d nOb nOb Q 0 [(0, .ref (ad E 69)), (1, .int a1), (2, .int a2)] [] P E := by
  rw [f_St_countFrom] at h
  refine Go.iconst (n := 0) (0 : Int32) (by decide +kernel) rfl ?_
  refine Go.istore_n (k := 3) (i := 3) [(3, .int (0 : Int32)), (0, .ref (ad E 69)), (1, .int a1), (2, .int a2)] (by decide +kernel) rfl (by decide) rfl ?_
  refine Go.bipush (n := 127) (127 : Int32) (by decide +kernel) (by decide) ?_
  refine Go.istore (i := 4) [(4, .int (127 : Int32)), (3, .int (0 : Int32)), (0, .ref (ad E 69)), (1, .int a1), (2, .int a2)] (by decide +kernel) (by decide) rfl ?_
  refine Go.iconst (n := 0) (0 : Int32) (by decide +kernel) rfl ?_
  refine Go.istore (i := 5) [(5, .int (0 : Int32)), (4, .int (127 : Int32)), (3, .int (0 : Int32)), (0, .ref (ad E 69)), (1, .int a1), (2, .int a2)] (by decide +kernel) (by decide) rfl ?_
  refine Go.sub [3, 4, 5, 2, 1, 0] [(0, .ref (ad E 69)), (1, .int a1), (2, .int a2), (3, .int (0 : Int32)), (4, .int (127 : Int32)), (5, .int (0 : Int32))] rfl ?_
  exact t_l_St_countFrom_9 hG hE d hd FU a1 a2 (0 : Int32) (127 : Int32) (0 : Int32) P h
theorem e_St_countFrom {G : GX} (hG : GOK G) {E : EV} (hE : E0 E) (d : Nat) (hd : 4 ≤ d) (a1 : Int32) (a2 : Int32) (P : PM) {Q : QT} (h : St E rP (f_St_countFrom a1 a2 P) Q) : Con G y_St_countFrom cw_St_countFrom d nOb nOb [.ref (ad E 69), .int a1, .int a2] P E Q :=
  Con.of hG (by decide +kernel) rfl (fun h => by cases h) hE.2 (Nat.le_of_ble_eq_true rfl) (t_f_St_countFrom hG hE d hd a1 a2 P h)
abbrev c_St_countBack : ByteArray := prog_10_method_2_code
abbrev y_St_countBack : MethodName := ⟨"YawnRoute$Steps", "countBack", "(II)I"⟩
abbrev cw_St_countBack : Cond := .code y_St_countBack c_St_countBack 5 (some .int)
theorem w_St_countBack : VW 8 y_St_countBack c_St_countBack 5 (some .int) 2 := ⟨by decide, lk1153, lk1154, lk13, lk1155, ⟨by decide, by decide, by decide +kernel⟩, by decide⟩
noncomputable def j_St_countBack_113 (k58 : Int32 → Int32 → PM → Option (Int32 × PM)) (x1 : Int32) (x3 : Int32) (P : PM) : Option (Int32 × PM) := k58 x1 (x3 + (1 : Int32)) P
noncomputable def l_St_countBack_72 (k58 : Int32 → Int32 → PM → Option (Int32 × PM)) : Nat → Int32 → Int32 → Int32 → PM → Option (Int32 × PM)
  | 0, _, _, _, _ => none
  | n + 1, x1, x3, x4, P => if (P.1 58 6) ≤ x4 then (j_St_countBack_113 k58 x1 x3 P) else (if (280 : Int32) ≤ x4 then (j_St_countBack_113 k58 x1 x3 P) else (ck (inb x4 280) ((f_St_countFrom x3 (P.1 62 x4.toNatClampNeg) P).bind (fun P4 => l_St_countBack_72 k58 n x1 x3 (x4 + (1 : Int32)) P4))))
noncomputable def j_St_countBack_119 (x1 : Int32) (P : PM) : Option (Int32 × PM) := (f_St_routesFrom x1 (f_Sa_place 21 P) P).bind (fun v1 => some (v1, P))
noncomputable def l_St_countBack_58 : Nat → Int32 → Int32 → PM → Option (Int32 × PM)
  | 0, _, _, _ => none
  | n + 1, x1, x3, P => if x1 < x3 then (j_St_countBack_119 x1 P) else (if (10 : Int32) < x3 then (j_St_countBack_119 x1 P) else (l_St_countBack_72 (fun z0 z1 Pz => l_St_countBack_58 n z0 z1 Pz) FU x1 x3 (0 : Int32) P))
noncomputable def j_St_countBack_56 (x1 : Int32) (P : PM) : Option (Int32 × PM) := l_St_countBack_58 FU x1 (1 : Int32) P
noncomputable def f_St_countBack (a1 : Int32) (a2 : Int32) (P : PM) : Option (Int32 × PM) := (f_Pa_explore (f_Sa_place 21 P) (P.1 21 3) P).bind (fun P1 => (f_Ja_fill_AII 71 280 (0 : Int32) P1).bind (fun P2 => if (f_Yr_isPlace a2 P2) = (0 : Int32) then (j_St_countBack_56 a1 P2) else (ck (inb a2 280) (ck (inb a2 280) (j_St_countBack_56 a1 (u1 (u1 P2 71 a2.toNatClampNeg (1 : Int32)) 83 a2.toNatClampNeg (0 : Int32)))))))
theorem t_j_St_countBack_113 {G : GX} (hG : GOK G) {E : EV} (hE : E0 E) (d : Nat) (hd : 6 ≤ d) {Q : QT} (k58 : Int32 → Int32 → PM → Option (Int32 × PM)) (hk58 : ∀ (x1 : Int32) (x3 : Int32) (P : PM), St E rIP (k58 x1 x3 P) Q → Go G c_St_countBack "YawnRoute$Steps" 5 (some .int) false d nOb nOb Q 58 [(0, .ref (ad E 69)), (1, .int x1), (3, .int x3)] [] P E) (x1 : Int32) (x3 : Int32) (P : PM) (h : St E rIP (j_St_countBack_113 k58 x1 x3 P) Q) : Go G c_St_countBack "YawnRoute$Steps" 5 (some .int) false d nOb nOb Q 113 [(0, .ref (ad E 69)), (1, .int x1), (3, .int x3)] [] P E := by
  rw [j_St_countBack_113] at h
  refine Go.iinc (i := 3) (n := 1) 2 (x3 + (1 : Int32)) [(3, .int (x3 + (1 : Int32))), (0, .ref (ad E 69)), (1, .int x1)] (by decide +kernel) rfl rfl (by decide) rfl ?_
  refine Go.goto (off := -58) 58 (by decide +kernel) (by decide) ?_
  refine Go.sub [1, 2, 0] [(0, .ref (ad E 69)), (1, .int x1), (3, .int (x3 + (1 : Int32)))] rfl ?_
  exact hk58 x1 (x3 + (1 : Int32)) P h
theorem t_l_St_countBack_72 {G : GX} (hG : GOK G) {E : EV} (hE : E0 E) (d : Nat) (hd : 6 ≤ d) {Q : QT} (k58 : Int32 → Int32 → PM → Option (Int32 × PM)) (hk58 : ∀ (x1 : Int32) (x3 : Int32) (P : PM), St E rIP (k58 x1 x3 P) Q → Go G c_St_countBack "YawnRoute$Steps" 5 (some .int) false d nOb nOb Q 58 [(0, .ref (ad E 69)), (1, .int x1), (3, .int x3)] [] P E) : ∀ (n : Nat) (x1 : Int32) (x3 : Int32) (x4 : Int32) (P : PM), St E rIP (l_St_countBack_72 k58 n x1 x3 x4 P) Q → Go G c_St_countBack "YawnRoute$Steps" 5 (some .int) false d nOb nOb Q 72 [(0, .ref (ad E 69)), (1, .int x1), (3, .int x3), (4, .int x4)] [] P E := by
  intro n
  induction n with
  | zero =>
    intro x1 x3 x4 P h
    rw [l_St_countBack_72] at h
    exact St.none_ h
  | succ n ih =>
    intro x1 x3 x4 P h
    rw [l_St_countBack_72] at h
    refine Go.iload (i := 4) 3 (by decide +kernel) rfl ?_
    refine Go.aload_n (k := 0) (i := 0) 0 (by decide +kernel) rfl rfl ?_
    refine Go.get 69 2 (.ref (ad E 58)) (by decide) (by decide) sh69 (ltO hE sh69) (vlR hE rfl rfl) lk372 (by decide +kernel) ?_
    refine Go.get 58 6 (.int (P.1 58 6)) (by decide) (by decide) sh58 (ltO hE sh58) rfl lk297 (by decide +kernel) ?_
    refine Go.icmp_ge (off := 32) 113 (by decide +kernel) (by decide) (fun c1 => ?_) (fun c1 => ?_)
    · rw [if_pos c1] at h
      refine Go.sub [0, 1, 2] [(0, .ref (ad E 69)), (1, .int x1), (3, .int x3)] rfl ?_
      exact t_j_St_countBack_113 hG hE d hd k58 hk58 x1 x3 P h
    · rw [if_neg c1] at h
      refine Go.iload (i := 4) 3 (by decide +kernel) rfl ?_
      refine Go.sipush (n := 280) (280 : Int32) (by decide +kernel) (by decide) ?_
      refine Go.icmp_ge (off := 24) 113 (by decide +kernel) (by decide) (fun c2 => ?_) (fun c2 => ?_)
      · rw [if_pos c2] at h
        refine Go.sub [0, 1, 2] [(0, .ref (ad E 69)), (1, .int x1), (3, .int x3)] rfl ?_
        exact t_j_St_countBack_113 hG hE d hd k58 hk58 x1 x3 P h
      · rw [if_neg c2] at h
        refine Go.aload_n (k := 0) (i := 0) 0 (by decide +kernel) rfl rfl ?_
        refine Go.iload_n (k := 3) (i := 3) 2 (by decide +kernel) rfl rfl ?_
        refine Go.aload_n (k := 0) (i := 0) 0 (by decide +kernel) rfl rfl ?_
        refine Go.get 69 2 (.ref (ad E 58)) (by decide) (by decide) sh69 (ltO hE sh69) (vlR hE rfl rfl) lk372 (by decide +kernel) ?_
        refine Go.get 58 5 (.ref (ad E 62)) (by decide) (by decide) sh58 (ltO hE sh58) (vlR hE rfl rfl) lk295 (by decide +kernel) ?_
        refine Go.iload (i := 4) 3 (by decide +kernel) rfl ?_
        obtain ⟨b3, h⟩ := St.ck h
        refine Go.iaload 62 280 sh62 (ltA hE sh62 (by decide)) (inb_in b3) (by decide +kernel) ?_
        obtain ⟨P4, hP4, h⟩ := St.bind h
        refine Go.cV_v (P1 := P4) (d - 1) 69 [.int x3, .int (P.1 62 x4.toNatClampNeg)] sh69 hE w_St_countFrom (e_St_countFrom hG hE (d - 1) (by omega) x3 (P.1 62 x4.toNatClampNeg) P ⟨_, hP4, rfl, rfl, rfl⟩) lk1160 rfl (by omega) (Nat.le_of_ble_eq_true rfl) (by decide +kernel) _ rfl ?_
        refine Go.iinc (i := 4) (n := 1) 3 (x4 + (1 : Int32)) [(4, .int (x4 + (1 : Int32))), (0, .ref (ad E 69)), (1, .int x1), (3, .int x3)] (by decide +kernel) rfl rfl (by decide) rfl ?_
        refine Go.goto (off := -38) 72 (by decide +kernel) (by decide) ?_
        refine Go.sub [1, 2, 3, 0] [(0, .ref (ad E 69)), (1, .int x1), (3, .int x3), (4, .int (x4 + (1 : Int32)))] rfl ?_
        exact ih x1 x3 (x4 + (1 : Int32)) P4 h
theorem t_j_St_countBack_119 {G : GX} (hG : GOK G) {E : EV} (hE : E0 E) (d : Nat) (hd : 6 ≤ d) {Q : QT} (x1 : Int32) (P : PM) (h : St E rIP (j_St_countBack_119 x1 P) Q) : Go G c_St_countBack "YawnRoute$Steps" 5 (some .int) false d nOb nOb Q 119 [(0, .ref (ad E 69)), (1, .int x1)] [] P E := by
  rw [j_St_countBack_119] at h
  refine Go.aload_n (k := 0) (i := 0) 0 (by decide +kernel) rfl rfl ?_
  refine Go.iload_n (k := 1) (i := 1) 1 (by decide +kernel) rfl rfl ?_
  refine Go.aload_n (k := 0) (i := 0) 0 (by decide +kernel) rfl rfl ?_
  refine Go.get 69 1 (.ref (ad E 21)) (by decide) (by decide) sh69 (ltO hE sh69) (vlR hE rfl rfl) lk371 (by decide +kernel) ?_
  refine Go.cV_i (P1 := P) (v := (f_Sa_place 21 P)) (d - 1) 21 [] sh21 hE w_Sa_place (e_Sa_place hG hE (d - 1) (by omega) 21 sh21 P ⟨rfl, rfl, rfl⟩) lk1156 rfl (by omega) (Nat.le_of_ble_eq_true rfl) (by decide +kernel) _ rfl ?_
  obtain ⟨v1, hv1, h⟩ := St.bind h
  refine Go.cV_i (P1 := P) (v := v1) (d - 1) 69 [.int x1, .int (f_Sa_place 21 P)] sh69 hE w_St_routesFrom (e_St_routesFrom hG hE (d - 1) (by omega) x1 (f_Sa_place 21 P) P ⟨_, hv1, rfl, rfl, rfl⟩) lk1165 rfl (by omega) (Nat.le_of_ble_eq_true rfl) (by decide +kernel) _ rfl ?_
  exact Go.iret rfl rfl hE.2 (by decide +kernel) (St.fIP h)
theorem t_l_St_countBack_58 {G : GX} (hG : GOK G) {E : EV} (hE : E0 E) (d : Nat) (hd : 6 ≤ d) {Q : QT} : ∀ (n : Nat) (x1 : Int32) (x3 : Int32) (P : PM), St E rIP (l_St_countBack_58 n x1 x3 P) Q → Go G c_St_countBack "YawnRoute$Steps" 5 (some .int) false d nOb nOb Q 58 [(0, .ref (ad E 69)), (1, .int x1), (3, .int x3)] [] P E := by
  intro n
  induction n with
  | zero =>
    intro x1 x3 P h
    rw [l_St_countBack_58] at h
    exact St.none_ h
  | succ n ih =>
    intro x1 x3 P h
    rw [l_St_countBack_58] at h
    refine Go.iload_n (k := 3) (i := 3) 2 (by decide +kernel) rfl rfl ?_
    refine Go.iload_n (k := 1) (i := 1) 1 (by decide +kernel) rfl rfl ?_
    refine Go.icmp_gt (off := 59) 119 (by decide +kernel) (by decide) (fun c1 => ?_) (fun c1 => ?_)
    · rw [if_pos c1] at h
      refine Go.sub [0, 1] [(0, .ref (ad E 69)), (1, .int x1)] rfl ?_
      exact t_j_St_countBack_119 hG hE d hd x1 P h
    · rw [if_neg c1] at h
      refine Go.iload_n (k := 3) (i := 3) 2 (by decide +kernel) rfl rfl ?_
      refine Go.bipush (n := 10) (10 : Int32) (by decide +kernel) (by decide) ?_
      refine Go.icmp_gt (off := 53) 119 (by decide +kernel) (by decide) (fun c2 => ?_) (fun c2 => ?_)
      · rw [if_pos c2] at h
        refine Go.sub [0, 1] [(0, .ref (ad E 69)), (1, .int x1)] rfl ?_
        exact t_j_St_countBack_119 hG hE d hd x1 P h
      · rw [if_neg c2] at h
        refine Go.iconst (n := 0) (0 : Int32) (by decide +kernel) rfl ?_
        refine Go.istore (i := 4) [(4, .int (0 : Int32)), (0, .ref (ad E 69)), (1, .int x1), (3, .int x3)] (by decide +kernel) (by decide) rfl ?_
        refine Go.sub [1, 2, 3, 0] [(0, .ref (ad E 69)), (1, .int x1), (3, .int x3), (4, .int (0 : Int32))] rfl ?_
        exact t_l_St_countBack_72 hG hE d hd (fun z0 z1 Pz => l_St_countBack_58 n z0 z1 Pz) (fun z0 z1 Pz q => ih z0 z1 Pz q) FU x1 x3 (0 : Int32) P h
theorem t_j_St_countBack_56 {G : GX} (hG : GOK G) {E : EV} (hE : E0 E) (d : Nat) (hd : 6 ≤ d) {Q : QT} (x1 : Int32) (P : PM) (h : St E rIP (j_St_countBack_56 x1 P) Q) : Go G c_St_countBack "YawnRoute$Steps" 5 (some .int) false d nOb nOb Q 56 [(0, .ref (ad E 69)), (1, .int x1)] [] P E := by
  rw [j_St_countBack_56] at h
  refine Go.iconst (n := 1) (1 : Int32) (by decide +kernel) rfl ?_
  refine Go.istore_n (k := 3) (i := 3) [(3, .int (1 : Int32)), (0, .ref (ad E 69)), (1, .int x1)] (by decide +kernel) rfl (by decide) rfl ?_
  refine Go.sub [1, 2, 0] [(0, .ref (ad E 69)), (1, .int x1), (3, .int (1 : Int32))] rfl ?_
  exact t_l_St_countBack_58 hG hE d hd FU x1 (1 : Int32) P h
theorem t_f_St_countBack {G : GX} (hG : GOK G) {E : EV} (hE : E0 E) (d : Nat) (hd : 6 ≤ d) {Q : QT} (a1 : Int32) (a2 : Int32) (P : PM) (h : St E rIP (f_St_countBack a1 a2 P) Q) : Go G c_St_countBack "YawnRoute$Steps" 5 (some .int) false d nOb nOb Q 0 [(0, .ref (ad E 69)), (1, .int a1), (2, .int a2)] [] P E := by
  rw [f_St_countBack] at h
  refine Go.aload_n (k := 0) (i := 0) 0 (by decide +kernel) rfl rfl ?_
  refine Go.get 69 2 (.ref (ad E 58)) (by decide) (by decide) sh69 (ltO hE sh69) (vlR hE rfl rfl) lk372 (by decide +kernel) ?_
  refine Go.aload_n (k := 0) (i := 0) 0 (by decide +kernel) rfl rfl ?_
  refine Go.get 69 1 (.ref (ad E 21)) (by decide) (by decide) sh69 (ltO hE sh69) (vlR hE rfl rfl) lk371 (by decide +kernel) ?_
  refine Go.cV_i (P1 := P) (v := (f_Sa_place 21 P)) (d - 1) 21 [] sh21 hE w_Sa_place (e_Sa_place hG hE (d - 1) (by omega) 21 sh21 P ⟨rfl, rfl, rfl⟩) lk1156 rfl (by omega) (Nat.le_of_ble_eq_true rfl) (by decide +kernel) _ rfl ?_
  refine Go.aload_n (k := 0) (i := 0) 0 (by decide +kernel) rfl rfl ?_
  refine Go.get 69 1 (.ref (ad E 21)) (by decide) (by decide) sh69 (ltO hE sh69) (vlR hE rfl rfl) lk371 (by decide +kernel) ?_
  refine Go.get 21 3 (.int (P.1 21 3)) (by decide) (by decide) sh21 (ltO hE sh21) rfl lk164 (by decide +kernel) ?_
  obtain ⟨P1, hP1, h⟩ := St.bind h
  refine Go.cV_v (P1 := P1) (d - 1) 58 [.int (f_Sa_place 21 P), .int (P.1 21 3)] sh58 hE w_Pa_explore (e_Pa_explore hG hE (d - 1) (by omega) (f_Sa_place 21 P) (P.1 21 3) P ⟨_, hP1, rfl, rfl, rfl⟩) lk1157 rfl (by omega) (Nat.le_of_ble_eq_true rfl) (by decide +kernel) _ rfl ?_
  refine Go.aload_n (k := 0) (i := 0) 0 (by decide +kernel) rfl rfl ?_
  refine Go.get 69 3 (.ref (ad E 70)) (by decide) (by decide) sh69 (ltO hE sh69) (vlR hE rfl rfl) lk373 (by decide +kernel) ?_
  refine Go.iconst (n := 0) (0 : Int32) (by decide +kernel) rfl ?_
  refine Go.aaload 70 6 11 71 sh70 (by decide) (ltA hE sh70 (by decide)) (vp_in_iff.mpr (by decide)) (by rw [hE.1]; decide) (by decide +kernel) ?_
  refine Go.iconst (n := 0) (0 : Int32) (by decide +kernel) rfl ?_
  obtain ⟨P2, hP2, h⟩ := St.bind h
  refine Go.cS_v (P1 := P2) (d - 1) [.ref (ad E 71), .int (0 : Int32)] hE w_Ja_fill_AII (e_Ja_fill_AII hG hE (d - 1) (by omega) 71 280 sh71 (0 : Int32) P1 ⟨_, hP2, rfl, rfl, rfl⟩) lk1158 rfl (by omega) (Nat.le_of_ble_eq_true rfl) (by decide +kernel) _ rfl ?_
  refine Go.iload_n (k := 2) (i := 2) 2 (by decide +kernel) rfl rfl ?_
  refine Go.cSN_i (P1 := P2) (v := (f_Yr_isPlace a2 P2)) (d - 1) [.int a2] hE w_Yr_isPlace (e_Yr_isPlace hG hE (d - 1) (by omega) a2 P2 ⟨rfl, rfl, rfl⟩) nw22 rfl (by omega) (Nat.le_of_ble_eq_true rfl) (by decide +kernel) _ rfl ?_
  refine Go.if_eq (off := 21) 56 (by decide +kernel) (by decide) (fun c3 => ?_) (fun c3 => ?_)
  · rw [if_pos c3] at h
    refine Go.sub [0, 1] [(0, .ref (ad E 69)), (1, .int a1)] rfl ?_
    exact t_j_St_countBack_56 hG hE d hd a1 P2 h
  · rw [if_neg c3] at h
    refine Go.aload_n (k := 0) (i := 0) 0 (by decide +kernel) rfl rfl ?_
    refine Go.get 69 3 (.ref (ad E 70)) (by decide) (by decide) sh69 (ltO hE sh69) (vlR hE rfl rfl) lk373 (by decide +kernel) ?_
    refine Go.iconst (n := 0) (0 : Int32) (by decide +kernel) rfl ?_
    refine Go.aaload 70 6 11 71 sh70 (by decide) (ltA hE sh70 (by decide)) (vp_in_iff.mpr (by decide)) (by rw [hE.1]; decide) (by decide +kernel) ?_
    refine Go.iload_n (k := 2) (i := 2) 2 (by decide +kernel) rfl rfl ?_
    refine Go.iconst (n := 1) (1 : Int32) (by decide +kernel) rfl ?_
    obtain ⟨b4, h⟩ := St.ck h
    refine Go.iastore 71 280 sh71 (ltA hE sh71 (by decide)) (inb_in b4) (by decide +kernel) ?_
    refine Go.aload_n (k := 0) (i := 0) 0 (by decide +kernel) rfl rfl ?_
    refine Go.get 69 4 (.ref (ad E 82)) (by decide) (by decide) sh69 (ltO hE sh69) (vlR hE rfl rfl) lk374 (by decide +kernel) ?_
    refine Go.iconst (n := 0) (0 : Int32) (by decide +kernel) rfl ?_
    refine Go.aaload 82 6 2 83 sh82 (by decide) (ltA hE sh82 (by decide)) (vp_in_iff.mpr (by decide)) (by rw [hE.1]; decide) (by decide +kernel) ?_
    refine Go.iload_n (k := 2) (i := 2) 2 (by decide +kernel) rfl rfl ?_
    refine Go.iconst (n := 0) (0 : Int32) (by decide +kernel) rfl ?_
    obtain ⟨b5, h⟩ := St.ck h
    refine Go.iastore 83 280 sh83 (ltA hE sh83 (by decide)) (inb_in b5) (by decide +kernel) ?_
    refine Go.sub [0, 1] [(0, .ref (ad E 69)), (1, .int a1)] rfl ?_
    exact t_j_St_countBack_56 hG hE d hd a1 (u1 (u1 P2 71 a2.toNatClampNeg (1 : Int32)) 83 a2.toNatClampNeg (0 : Int32)) h
theorem e_St_countBack {G : GX} (hG : GOK G) {E : EV} (hE : E0 E) (d : Nat) (hd : 6 ≤ d) (a1 : Int32) (a2 : Int32) (P : PM) {Q : QT} (h : St E rIP (f_St_countBack a1 a2 P) Q) : Con G y_St_countBack cw_St_countBack d nOb nOb [.ref (ad E 69), .int a1, .int a2] P E Q :=
  Con.of hG (by decide +kernel) rfl (fun h => by cases h) hE.2 (Nat.le_of_ble_eq_true rfl) (t_f_St_countBack hG hE d hd a1 a2 P h)
abbrev c_Yr_isBack : ByteArray := prog_1_method_50_code
abbrev y_Yr_isBack : MethodName := ⟨"YawnRoute", "isBack", "(II)Z"⟩
abbrev cw_Yr_isBack : Cond := .code y_Yr_isBack c_Yr_isBack 2 (some .boolean)
theorem w_Yr_isBack : SW y_Yr_isBack c_Yr_isBack 2 (some .boolean) 2 := ⟨lk1149, lk1, lk1150, ⟨by decide, by decide, by decide +kernel⟩, by decide⟩
noncomputable def j_Yr_isBack_22 (P : PM) : Int32 := (0 : Int32)
noncomputable def f_Yr_isBack (a0 : Int32) (a1 : Int32) (P : PM) : Int32 := if a0 < (1 : Int32) then (j_Yr_isBack_22 P) else (if (10 : Int32) < a0 then (j_Yr_isBack_22 P) else (if (f_Yr_isSize a1 P) = (0 : Int32) then (j_Yr_isBack_22 P) else ((1 : Int32))))
theorem t_j_Yr_isBack_22 {G : GX} (hG : GOK G) {E : EV} (hE : E0 E) (d : Nat) (hd : 2 ≤ d) {P : PM} {Q : QT} (h : Q (some (.int (j_Yr_isBack_22 P))) P E) : Go G c_Yr_isBack "YawnRoute" 2 (some .boolean) false d nOb nOb Q 22 [] [] P E := by
  rw [j_Yr_isBack_22] at h
  refine Go.iconst (n := 0) (0 : Int32) (by decide +kernel) rfl ?_
  exact Go.iret rfl rfl hE.2 (by decide +kernel) h
theorem t_f_Yr_isBack {G : GX} (hG : GOK G) {E : EV} (hE : E0 E) (d : Nat) (hd : 2 ≤ d) {P : PM} {Q : QT} (a0 : Int32) (a1 : Int32) (h : Q (some (.int (f_Yr_isBack a0 a1 P))) P E) : Go G c_Yr_isBack "YawnRoute" 2 (some .boolean) false d nOb nOb Q 0 [(0, .int a0), (1, .int a1)] [] P E := by
  rw [f_Yr_isBack] at h
  refine Go.iload_n (k := 0) (i := 0) 0 (by decide +kernel) rfl rfl ?_
  refine Go.iconst (n := 1) (1 : Int32) (by decide +kernel) rfl ?_
  refine Go.icmp_lt (off := 20) 22 (by decide +kernel) (by decide) (fun c1 => ?_) (fun c1 => ?_)
  · rw [if_pos c1] at h
    refine Go.sub [] [] rfl ?_
    exact t_j_Yr_isBack_22 hG hE d hd h
  · rw [if_neg c1] at h
    refine Go.iload_n (k := 0) (i := 0) 0 (by decide +kernel) rfl rfl ?_
    refine Go.bipush (n := 10) (10 : Int32) (by decide +kernel) (by decide) ?_
    refine Go.icmp_gt (off := 14) 22 (by decide +kernel) (by decide) (fun c2 => ?_) (fun c2 => ?_)
    · rw [if_pos c2] at h
      refine Go.sub [] [] rfl ?_
      exact t_j_Yr_isBack_22 hG hE d hd h
    · rw [if_neg c2] at h
      refine Go.iload_n (k := 1) (i := 1) 1 (by decide +kernel) rfl rfl ?_
      refine Go.cS_i (P1 := P) (v := (f_Yr_isSize a1 P)) (d - 1) [.int a1] hE w_Yr_isSize (e_Yr_isSize hG hE (d - 1) (by omega) a1 P ⟨rfl, rfl, rfl⟩) lk911 rfl (by omega) (Nat.le_of_ble_eq_true rfl) (by decide +kernel) _ rfl ?_
      refine Go.if_eq (off := 7) 22 (by decide +kernel) (by decide) (fun c3 => ?_) (fun c3 => ?_)
      · rw [if_pos c3] at h
        refine Go.sub [] [] rfl ?_
        exact t_j_Yr_isBack_22 hG hE d hd h
      · rw [if_neg c3] at h
        refine Go.iconst (n := 1) (1 : Int32) (by decide +kernel) rfl ?_
        refine Go.goto (off := 4) 23 (by decide +kernel) (by decide) ?_
        exact Go.iret rfl rfl hE.2 (by decide +kernel) h
theorem e_Yr_isBack {G : GX} (hG : GOK G) {E : EV} (hE : E0 E) (d : Nat) (hd : 2 ≤ d) (a0 : Int32) (a1 : Int32) (P : PM) {Q : QT} (h : Q (some (.int (f_Yr_isBack a0 a1 P))) P E) : Con G y_Yr_isBack cw_Yr_isBack d nOb nOb [.int a0, .int a1] P E Q :=
  Con.of hG (by decide +kernel) rfl (fun h => by cases h) hE.2 (Nat.le_of_ble_eq_true rfl) (t_f_Yr_isBack hG hE d hd a0 a1 h)
abbrev c_Yr_back : ByteArray := prog_1_method_29_code
abbrev y_Yr_back : MethodName := ⟨"YawnRoute", "back", "(III)J"⟩
abbrev cw_Yr_back : Cond := .code y_Yr_back c_Yr_back 5 (some .long)
theorem w_Yr_back : VW 11 y_Yr_back c_Yr_back 5 (some .long) 3 := ⟨by decide, lk1145, lk1146, lk1, lk1147, ⟨by decide, by decide, by decide +kernel⟩, by decide⟩
noncomputable def f_Yr_back (a1 : Int32) (a2 : Int32) (a3 : Int32) (P : PM) : Option (Int64 × PM) := lb (f_Yr_refusal (f_Ne_isStation 14 a2 P) (f_Yr_isBack a1 a3 P) P) (fun y1 => if y1 = (0 : Int32) then (bd2 (f_St_countBack a1 (f_Yr_placeOf a2 a3 P) P) (fun v3 P4 => some ((v3.toInt64), P4))) else (some ((y1.toInt64), P)))
theorem t_f_Yr_back {G : GX} (hG : GOK G) {E : EV} (hE : E0 E) (d : Nat) (hd : 7 ≤ d) {Q : QT} (a1 : Int32) (a2 : Int32) (a3 : Int32) (P : PM) (h : St E rLP (f_Yr_back a1 a2 a3 P) Q) : Go G c_Yr_back "YawnRoute" 5 (some .long) false d nOb nOb Q 0 [(0, .ref (ad E 0)), (1, .int a1), (2, .int a2), (3, .int a3)] [] P E := by
  rw [f_Yr_back] at h
  refine Go.aload_n (k := 0) (i := 0) 0 (by decide +kernel) rfl rfl ?_
  refine Go.aload_n (k := 0) (i := 0) 0 (by decide +kernel) rfl rfl ?_
  refine Go.get 0 2 (.ref (ad E 14)) (by decide) (by decide) sh0 (ltO hE sh0) (vlR hE rfl rfl) lk392 (by decide +kernel) ?_
  refine Go.iload_n (k := 2) (i := 2) 2 (by decide +kernel) rfl rfl ?_
  refine Go.cV_i (P1 := P) (v := (f_Ne_isStation 14 a2 P)) (d - 1) 14 [.int a2] sh14 hE w_Ne_isStation (e_Ne_isStation hG hE (d - 1) (by omega) 14 sh14 a2 P ⟨rfl, rfl, rfl⟩) lk726 rfl (by omega) (Nat.le_of_ble_eq_true rfl) (by decide +kernel) _ rfl ?_
  refine Go.iload_n (k := 1) (i := 1) 1 (by decide +kernel) rfl rfl ?_
  refine Go.iload_n (k := 3) (i := 3) 3 (by decide +kernel) rfl rfl ?_
  refine Go.cS_i (P1 := P) (v := (f_Yr_isBack a1 a3 P)) (d - 1) [.int a1, .int a3] hE w_Yr_isBack (e_Yr_isBack hG hE (d - 1) (by omega) a1 a3 P ⟨rfl, rfl, rfl⟩) lk1148 rfl (by omega) (Nat.le_of_ble_eq_true rfl) (by decide +kernel) _ rfl ?_
  refine Go.cV_i (P1 := P) (v := (f_Yr_refusal (f_Ne_isStation 14 a2 P) (f_Yr_isBack a1 a3 P) P)) (d - 1) 0 [.int (f_Ne_isStation 14 a2 P), .int (f_Yr_isBack a1 a3 P)] sh0 hE w_Yr_refusal (e_Yr_refusal hG hE (d - 1) (by omega) (f_Ne_isStation 14 a2 P) (f_Yr_isBack a1 a3 P) P ⟨rfl, rfl, rfl⟩) lk912 rfl (by omega) (Nat.le_of_ble_eq_true rfl) (by decide +kernel) _ rfl ?_
  obtain ⟨y1, hy1, h⟩ := St.lb h
  refine Go.eqi y1 hy1 ?_
  refine Go.istore (i := 4) [(4, .int y1), (0, .ref (ad E 0)), (1, .int a1), (2, .int a2), (3, .int a3)] (by decide +kernel) (by decide) rfl ?_
  refine Go.iload (i := 4) 0 (by decide +kernel) rfl ?_
  refine Go.if_eq (off := 9) 30 (by decide +kernel) (by decide) (fun c2 => ?_) (fun c2 => ?_)
  · rw [if_pos c2] at h
    refine Go.aload_n (k := 0) (i := 0) 1 (by decide +kernel) rfl rfl ?_
    refine Go.get 0 9 (.ref (ad E 69)) (by decide) (by decide) sh0 (ltO hE sh0) (vlR hE rfl rfl) lk399 (by decide +kernel) ?_
    refine Go.iload_n (k := 1) (i := 1) 2 (by decide +kernel) rfl rfl ?_
    refine Go.iload_n (k := 2) (i := 2) 3 (by decide +kernel) rfl rfl ?_
    refine Go.iload_n (k := 3) (i := 3) 4 (by decide +kernel) rfl rfl ?_
    refine Go.cS_i (P1 := P) (v := (f_Yr_placeOf a2 a3 P)) (d - 1) [.int a2, .int a3] hE w_Yr_placeOf (e_Yr_placeOf hG hE (d - 1) (by omega) a2 a3 P ⟨rfl, rfl, rfl⟩) lk1151 rfl (by omega) (Nat.le_of_ble_eq_true rfl) (by decide +kernel) _ rfl ?_
    obtain ⟨v3, P4, hv3, h⟩ := St.bd2 h
    refine Go.cV_i (P1 := P4) (v := v3) (d - 1) 69 [.int a1, .int (f_Yr_placeOf a2 a3 P)] sh69 hE w_St_countBack (e_St_countBack hG hE (d - 1) (by omega) a1 (f_Yr_placeOf a2 a3 P) P ⟨_, hv3, rfl, rfl, rfl⟩) lk1152 rfl (by omega) (Nat.le_of_ble_eq_true rfl) (by decide +kernel) _ rfl ?_
    refine Go.i2l (by decide +kernel) ?_
    exact Go.lret rfl hE.2 (by decide +kernel) (St.fLP h)
  · rw [if_neg c2] at h
    refine Go.iload (i := 4) 0 (by decide +kernel) rfl ?_
    refine Go.i2l (by decide +kernel) ?_
    refine Go.goto (off := 17) 44 (by decide +kernel) (by decide) ?_
    exact Go.lret rfl hE.2 (by decide +kernel) (St.fLP h)
theorem e_Yr_back {G : GX} (hG : GOK G) {E : EV} (hE : E0 E) (d : Nat) (hd : 7 ≤ d) (a1 : Int32) (a2 : Int32) (a3 : Int32) (P : PM) {Q : QT} (h : St E rLP (f_Yr_back a1 a2 a3 P) Q) : Con G y_Yr_back cw_Yr_back d nOb nOb [.ref (ad E 0), .int a1, .int a2, .int a3] P E Q :=
  Con.of hG (by decide +kernel) rfl (fun h => by cases h) hE.2 (Nat.le_of_ble_eq_true rfl) (t_f_Yr_back hG hE d hd a1 a2 a3 P h)
