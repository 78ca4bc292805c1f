/-! methods as functions, by program: Sp_runWith Sp_run Sp_sizeOf Yr_spread Yr_rounds Sp_holders Yr_crowd Sp_bestStopper Yr_stopper Sp_isMet -/
abbrev c_Sp_runWith : ByteArray := prog_8_method_3_code
abbrev y_Sp_runWith : MethodName := ⟨"YawnRoute$Spreading", "runWith", "(II)I"⟩
abbrev cw_Sp_runWith : Cond := .code y_Sp_runWith c_Sp_runWith 5 (some .int)
theorem w_Sp_runWith : VW 6 y_Sp_runWith c_Sp_runWith 5 (some .int) 2 := ⟨by decide, lk1091, lp36_, lk12, lk1092, ⟨by decide, by decide, by decide +kernel⟩, by decide⟩
noncomputable def j_Sp_runWith_56 (k26 : Int32 → Int32 → Int32 → Int32 → PM → Option (Int32 × PM)) (x1 : Int32) (x2 : Int32) (x4 : Int32) (s0 : Int32) (s1 : Int32) (P : PM) : Option (Int32 × PM) := lb (s0 + s1) (fun y1 => k26 x1 x2 y1 (x4 + (1 : Int32)) P)
noncomputable def l_Sp_runWith_26 : Nat → Int32 → Int32 → Int32 → Int32 → PM → Option (Int32 × PM)
  | 0, _, _, _, _, _ => none
  | n + 1, x1, x2, x3, x4, P => if x2 ≤ x4 then (some (x3, P)) else (if x3 = x4 then (bd2 (f_Sp_goesOn 66 7 x1 P) (fun v3 P4 => if v3 = (0 : Int32) then (j_Sp_runWith_56 (fun z0 z1 z2 z3 Pz => l_Sp_runWith_26 n z0 z1 z2 z3 Pz) x1 x2 x4 x3 (0 : Int32) P4) else (j_Sp_runWith_56 (fun z0 z1 z2 z3 Pz => l_Sp_runWith_26 n z0 z1 z2 z3 Pz) x1 x2 x4 x3 (1 : Int32) P4))) else (some (x3, P)))
noncomputable def f_Sp_runWith (a1 : Int32) (a2 : Int32) (P : PM) : Option (Int32 × PM) := (f_Sp_begin 66 7 (P.1 21 0) (P.1 21 1) P).bind (fun P1 => l_Sp_runWith_26 FU a1 a2 (0 : Int32) (0 : Int32) P1)
theorem t_j_Sp_runWith_56 {G : GX} (hG : GOK G) {E : EV} (hE : E0 E) (d : Nat) (hd : 4 ≤ d) {Q : QT} (k26 : Int32 → Int32 → Int32 → Int32 → PM → Option (Int32 × PM)) (hk26 : ∀ (x1 : Int32) (x2 : Int32) (x3 : Int32) (x4 : Int32) (P : PM), St E rIP (k26 x1 x2 x3 x4 P) Q → Go G c_Sp_runWith "YawnRoute$Spreading" 5 (some .int) false d nOb nOb Q 26 [(0, .ref (ad E 65)), (1, .int x1), (2, .int x2), (3, .int x3), (4, .int x4)] [] P E) (x1 : Int32) (x2 : Int32) (x4 : Int32) (s0 : Int32) (s1 : Int32) (P : PM) (h : St E rIP (j_Sp_runWith_56 k26 x1 x2 x4 s0 s1 P) Q) : Go G c_Sp_runWith "YawnRoute$Spreading" 5 (some .int) false d nOb nOb Q 56 [(0, .ref (ad E 65)), (1, .int x1), (2, .int x2), (4, .int x4)] [.int s1, .int s0] P E := by
  rw [j_Sp_runWith_56] at h
  refine Go.iadd (by decide +kernel) ?_
  obtain ⟨y1, hy1, h⟩ := St.lb h
  refine Go.eqi y1 hy1 ?_
  refine Go.istore_n (k := 3) (i := 3) [(3, .int y1), (0, .ref (ad E 65)), (1, .int x1), (2, .int x2), (4, .int x4)] (by decide +kernel) rfl (by decide) rfl ?_
  refine Go.iinc (i := 4) (n := 1) 4 (x4 + (1 : Int32)) [(4, .int (x4 + (1 : Int32))), (3, .int y1), (0, .ref (ad E 65)), (1, .int x1), (2, .int x2)] (by decide +kernel) rfl rfl (by decide) rfl ?_
  refine Go.goto (off := -35) 26 (by decide +kernel) (by decide) ?_
  refine Go.sub [2, 3, 4, 1, 0] [(0, .ref (ad E 65)), (1, .int x1), (2, .int x2), (3, .int y1), (4, .int (x4 + (1 : Int32)))] rfl ?_
  exact hk26 x1 x2 y1 (x4 + (1 : Int32)) P h
theorem t_l_Sp_runWith_26 {G : GX} (hG : GOK G) {E : EV} (hE : E0 E) (d : Nat) (hd : 4 ≤ d) {Q : QT} : ∀ (n : Nat) (x1 : Int32) (x2 : Int32) (x3 : Int32) (x4 : Int32) (P : PM), St E rIP (l_Sp_runWith_26 n x1 x2 x3 x4 P) Q → Go G c_Sp_runWith "YawnRoute$Spreading" 5 (some .int) false d nOb nOb Q 26 [(0, .ref (ad E 65)), (1, .int x1), (2, .int x2), (3, .int x3), (4, .int x4)] [] P E := by
  intro n
  induction n with
  | zero =>
    intro x1 x2 x3 x4 P h
    rw [l_Sp_runWith_26] at h
    exact St.none_ h
  | succ n ih =>
    intro x1 x2 x3 x4 P h
    rw [l_Sp_runWith_26] at h
    refine Go.iload (i := 4) 4 (by decide +kernel) rfl ?_
    refine Go.iload_n (k := 2) (i := 2) 2 (by decide +kernel) rfl rfl ?_
    refine Go.icmp_ge (off := 35) 64 (by decide +kernel) (by decide) (fun c1 => ?_) (fun c1 => ?_)
    · rw [if_pos c1] at h
      refine Go.iload_n (k := 3) (i := 3) 3 (by decide +kernel) rfl rfl ?_
      exact Go.iret rfl rfl hE.2 (by decide +kernel) (St.fIP h)
    · rw [if_neg c1] at h
      refine Go.iload_n (k := 3) (i := 3) 3 (by decide +kernel) rfl rfl ?_
      refine Go.iload (i := 4) 4 (by decide +kernel) rfl ?_
      refine Go.icmp_ne (off := 29) 64 (by decide +kernel) (by decide) (fun c2 => ?_) (fun c2 => ?_)
      · rw [if_neg c2] at h
        refine Go.iload_n (k := 3) (i := 3) 3 (by decide +kernel) rfl rfl ?_
        exact Go.iret rfl rfl hE.2 (by decide +kernel) (St.fIP h)
      · rw [if_pos c2] at h
        refine Go.iload_n (k := 3) (i := 3) 3 (by decide +kernel) rfl rfl ?_
        refine Go.aload_n (k := 0) (i := 0) 0 (by decide +kernel) rfl rfl ?_
        refine Go.aload_n (k := 0) (i := 0) 0 (by decide +kernel) rfl rfl ?_
        refine Go.get 65 3 (.ref (ad E 66)) (by decide) (by decide) sh65 (ltO hE sh65) (vlR hE rfl rfl) lk346 (by decide +kernel) ?_
        refine Go.iload_n (k := 1) (i := 1) 1 (by decide +kernel) rfl rfl ?_
        obtain ⟨v3, P4, hv3, h⟩ := St.bd2 h
        refine Go.cV_i (P1 := P4) (v := v3) (d - 1) 65 [.ref (ad E 66), .int x1] sh65 hE w_Sp_goesOn (e_Sp_goesOn hG hE (d - 1) (by omega) 66 7 sh66 x1 P ⟨_, hv3, rfl, rfl, rfl⟩) lk1097 rfl (by omega) (Nat.le_of_ble_eq_true rfl) (by decide +kernel) _ rfl ?_
        refine Go.if_eq (off := 7) 55 (by decide +kernel) (by decide) (fun c5 => ?_) (fun c5 => ?_)
        · rw [if_pos c5] at h
          refine Go.iconst (n := 0) (0 : Int32) (by decide +kernel) rfl ?_
          refine Go.sub [0, 1, 2, 4] [(0, .ref (ad E 65)), (1, .int x1), (2, .int x2), (4, .int x4)] rfl ?_
          exact t_j_Sp_runWith_56 hG hE d hd (fun z0 z1 z2 z3 Pz => l_Sp_runWith_26 n z0 z1 z2 z3 Pz) (fun z0 z1 z2 z3 Pz q => ih z0 z1 z2 z3 Pz q) x1 x2 x4 x3 (0 : Int32) P4 h
        · rw [if_neg c5] at h
          refine Go.iconst (n := 1) (1 : Int32) (by decide +kernel) rfl ?_
          refine Go.goto (off := 4) 56 (by decide +kernel) (by decide) ?_
          refine Go.sub [0, 1, 2, 4] [(0, .ref (ad E 65)), (1, .int x1), (2, .int x2), (4, .int x4)] rfl ?_
          exact t_j_Sp_runWith_56 hG hE d hd (fun z0 z1 z2 z3 Pz => l_Sp_runWith_26 n z0 z1 z2 z3 Pz) (fun z0 z1 z2 z3 Pz q => ih z0 z1 z2 z3 Pz q) x1 x2 x4 x3 (1 : Int32) P4 h
theorem t_f_Sp_runWith {G : GX} (hG : GOK G) {E : EV} (hE : E0 E) (d : Nat) (hd : 4 ≤ d) {Q : QT} (a1 : Int32) (a2 : Int32) (P : PM) (h : St E rIP (f_Sp_runWith a1 a2 P) Q) : Go G c_Sp_runWith "YawnRoute$Spreading" 5 (some .int) false d nOb nOb Q 0 [(0, .ref (ad E 65)), (1, .int a1), (2, .int a2)] [] P E := by
  rw [f_Sp_runWith] at h
  refine Go.aload_n (k := 0) (i := 0) 0 (by decide +kernel) rfl rfl ?_
  refine Go.get 65 3 (.ref (ad E 66)) (by decide) (by decide) sh65 (ltO hE sh65) (vlR hE rfl rfl) lk346 (by decide +kernel) ?_
  refine Go.aload_n (k := 0) (i := 0) 0 (by decide +kernel) rfl rfl ?_
  refine Go.get 65 1 (.ref (ad E 21)) (by decide) (by decide) sh65 (ltO hE sh65) (vlR hE rfl rfl) lk344 (by decide +kernel) ?_
  refine Go.get 21 0 (.int (P.1 21 0)) (by decide) (by decide) sh21 (ltO hE sh21) rfl lk150 (by decide +kernel) ?_
  refine Go.aload_n (k := 0) (i := 0) 0 (by decide +kernel) rfl rfl ?_
  refine Go.get 65 1 (.ref (ad E 21)) (by decide) (by decide) sh65 (ltO hE sh65) (vlR hE rfl rfl) lk344 (by decide +kernel) ?_
  refine Go.get 21 1 (.int (P.1 21 1)) (by decide) (by decide) sh21 (ltO hE sh21) rfl lk156 (by decide +kernel) ?_
  obtain ⟨P1, hP1, h⟩ := St.bind h
  refine Go.cS_v (P1 := P1) (d - 1) [.ref (ad E 66), .int (P.1 21 0), .int (P.1 21 1)] hE w_Sp_begin (e_Sp_begin hG hE (d - 1) (by omega) 66 7 sh66 (P.1 21 0) (P.1 21 1) P ⟨_, hP1, rfl, rfl, rfl⟩) lk1093 rfl (by omega) (Nat.le_of_ble_eq_true rfl) (by decide +kernel) _ rfl ?_
  refine Go.iconst (n := 0) (0 : Int32) (by decide +kernel) rfl ?_
  refine Go.istore_n (k := 3) (i := 3) [(3, .int (0 : Int32)), (0, .ref (ad E 65)), (1, .int a1), (2, .int a2)] (by decide +kernel) rfl (by decide) rfl ?_
  refine Go.iconst (n := 0) (0 : Int32) (by decide +kernel) rfl ?_
  refine Go.istore (i := 4) [(4, .int (0 : Int32)), (3, .int (0 : Int32)), (0, .ref (ad E 65)), (1, .int a1), (2, .int a2)] (by decide +kernel) (by decide) rfl ?_
  refine Go.sub [2, 3, 4, 1, 0] [(0, .ref (ad E 65)), (1, .int a1), (2, .int a2), (3, .int (0 : Int32)), (4, .int (0 : Int32))] rfl ?_
  exact t_l_Sp_runWith_26 hG hE d hd FU a1 a2 (0 : Int32) (0 : Int32) P1 h
theorem e_Sp_runWith {G : GX} (hG : GOK G) {E : EV} (hE : E0 E) (d : Nat) (hd : 4 ≤ d) (a1 : Int32) (a2 : Int32) (P : PM) {Q : QT} (h : St E rIP (f_Sp_runWith a1 a2 P) Q) : Con G y_Sp_runWith cw_Sp_runWith d nOb nOb [.ref (ad E 65), .int a1, .int a2] P E Q :=
  Con.of hG (by decide +kernel) rfl (fun h => by cases h) hE.2 (Nat.le_of_ble_eq_true rfl) (t_f_Sp_runWith hG hE d hd a1 a2 P h)
abbrev c_Sp_run : ByteArray := prog_8_method_2_code
abbrev y_Sp_run : MethodName := ⟨"YawnRoute$Spreading", "run", "(I)I"⟩
abbrev cw_Sp_run : Cond := .code y_Sp_run c_Sp_run 2 (some .int)
theorem w_Sp_run : VW 6 y_Sp_run c_Sp_run 2 (some .int) 1 := ⟨by decide, lk1084, lk1085, lk12, lk1086, ⟨by decide, by decide, by decide +kernel⟩, by decide⟩
noncomputable def f_Sp_run (a1 : Int32) (P : PM) : Option (Int32 × PM) := (f_Pa_explore (f_Sa_place 21 P) (P.1 21 3) P).bind (fun P1 => bd2 (f_Sp_runWith (P1.1 21 3) a1 P1) (fun v2 P3 => some (v2, P3)))
theorem t_f_Sp_run {G : GX} (hG : GOK G) {E : EV} (hE : E0 E) (d : Nat) (hd : 6 ≤ d) {Q : QT} (a1 : Int32) (P : PM) (h : St E rIP (f_Sp_run a1 P) Q) : Go G c_Sp_run "YawnRoute$Spreading" 2 (some .int) false d nOb nOb Q 0 [(0, .ref (ad E 65)), (1, .int a1)] [] P E := by
  rw [f_Sp_run] at h
  refine Go.aload_n (k := 0) (i := 0) 0 (by decide +kernel) rfl rfl ?_
  refine Go.get 65 2 (.ref (ad E 58)) (by decide) (by decide) sh65 (ltO hE sh65) (vlR hE rfl rfl) lk345 (by decide +kernel) ?_
  refine Go.aload_n (k := 0) (i := 0) 0 (by decide +kernel) rfl rfl ?_
  refine Go.get 65 1 (.ref (ad E 21)) (by decide) (by decide) sh65 (ltO hE sh65) (vlR hE rfl rfl) lk344 (by decide +kernel) ?_
  refine Go.cV_i (P1 := P) (v := (f_Sa_place 21 P)) (d - 1) 21 [] sh21 hE w_Sa_place (e_Sa_place hG hE (d - 1) (by omega) 21 sh21 P ⟨rfl, rfl, rfl⟩) lk1087 rfl (by omega) (Nat.le_of_ble_eq_true rfl) (by decide +kernel) _ rfl ?_
  refine Go.aload_n (k := 0) (i := 0) 0 (by decide +kernel) rfl rfl ?_
  refine Go.get 65 1 (.ref (ad E 21)) (by decide) (by decide) sh65 (ltO hE sh65) (vlR hE rfl rfl) lk344 (by decide +kernel) ?_
  refine Go.get 21 3 (.int (P.1 21 3)) (by decide) (by decide) sh21 (ltO hE sh21) rfl lk163 (by decide +kernel) ?_
  obtain ⟨P1, hP1, h⟩ := St.bind h
  refine Go.cV_v (P1 := P1) (d - 1) 58 [.int (f_Sa_place 21 P), .int (P.1 21 3)] sh58 hE w_Pa_explore (e_Pa_explore hG hE (d - 1) (by omega) (f_Sa_place 21 P) (P.1 21 3) P ⟨_, hP1, rfl, rfl, rfl⟩) lk1088 rfl (by omega) (Nat.le_of_ble_eq_true rfl) (by decide +kernel) _ rfl ?_
  refine Go.aload_n (k := 0) (i := 0) 0 (by decide +kernel) rfl rfl ?_
  refine Go.aload_n (k := 0) (i := 0) 0 (by decide +kernel) rfl rfl ?_
  refine Go.get 65 1 (.ref (ad E 21)) (by decide) (by decide) sh65 (ltO hE sh65) (vlR hE rfl rfl) lk344 (by decide +kernel) ?_
  refine Go.get 21 3 (.int (P1.1 21 3)) (by decide) (by decide) sh21 (ltO hE sh21) rfl lk163 (by decide +kernel) ?_
  refine Go.iload_n (k := 1) (i := 1) 1 (by decide +kernel) rfl rfl ?_
  obtain ⟨v2, P3, hv2, h⟩ := St.bd2 h
  refine Go.cV_i (P1 := P3) (v := v2) (d - 1) 65 [.int (P1.1 21 3), .int a1] sh65 hE w_Sp_runWith (e_Sp_runWith hG hE (d - 1) (by omega) (P1.1 21 3) a1 P1 ⟨_, hv2, rfl, rfl, rfl⟩) lk1089 rfl (by omega) (Nat.le_of_ble_eq_true rfl) (by decide +kernel) _ rfl ?_
  exact Go.iret rfl rfl hE.2 (by decide +kernel) (St.fIP h)
theorem e_Sp_run {G : GX} (hG : GOK G) {E : EV} (hE : E0 E) (d : Nat) (hd : 6 ≤ d) (a1 : Int32) (P : PM) {Q : QT} (h : St E rIP (f_Sp_run a1 P) Q) : Con G y_Sp_run cw_Sp_run d nOb nOb [.ref (ad E 65), .int a1] P E Q :=
  Con.of hG (by decide +kernel) rfl (fun h => by cases h) hE.2 (Nat.le_of_ble_eq_true rfl) (t_f_Sp_run hG hE d hd a1 P h)
abbrev c_Sp_sizeOf : ByteArray := prog_8_method_4_code
abbrev y_Sp_sizeOf : MethodName := ⟨"YawnRoute$Spreading", "sizeOf", "(I)I"⟩
abbrev cw_Sp_sizeOf : Cond := .code y_Sp_sizeOf c_Sp_sizeOf 2 (some .int)
theorem w_Sp_sizeOf : VW 6 y_Sp_sizeOf c_Sp_sizeOf 2 (some .int) 1 := ⟨by decide, lk1105, lk1106, lk12, lk1107, ⟨by decide, by decide, by decide +kernel⟩, by decide⟩
noncomputable def j_Sp_sizeOf_19 (P : PM) : Option Int32 := some (0 : Int32)
noncomputable def f_Sp_sizeOf (a1 : Int32) (P : PM) : Option Int32 := if a1 < (0 : Int32) then (j_Sp_sizeOf_19 P) else (if (7 : Int32) ≤ a1 then (j_Sp_sizeOf_19 P) else (ck (inb a1 7) (some (P.1 66 a1.toNatClampNeg))))
theorem t_j_Sp_sizeOf_19 {G : GX} (hG : GOK G) {E : EV} (hE : E0 E) (d : Nat) (hd : 1 ≤ d) {P : PM} {Q : QT} (h : St E (rI P) (j_Sp_sizeOf_19 P) Q) : Go G c_Sp_sizeOf "YawnRoute$Spreading" 2 (some .int) false d nOb nOb Q 19 [] [] P E := by
  rw [j_Sp_sizeOf_19] at h
  refine Go.iconst (n := 0) (0 : Int32) (by decide +kernel) rfl ?_
  exact Go.iret rfl rfl hE.2 (by decide +kernel) (St.fI h)
theorem t_f_Sp_sizeOf {G : GX} (hG : GOK G) {E : EV} (hE : E0 E) (d : Nat) (hd : 1 ≤ d) {P : PM} {Q : QT} (a1 : Int32) (h : St E (rI P) (f_Sp_sizeOf a1 P) Q) : Go G c_Sp_sizeOf "YawnRoute$Spreading" 2 (some .int) false d nOb nOb Q 0 [(0, .ref (ad E 65)), (1, .int a1)] [] P E := by
  rw [f_Sp_sizeOf] at h
  refine Go.iload_n (k := 1) (i := 1) 1 (by decide +kernel) rfl rfl ?_
  refine Go.if_lt (off := 18) 19 (by decide +kernel) (by decide) (fun c1 => ?_) (fun c1 => ?_)
  · rw [if_pos c1] at h
    refine Go.sub [] [] rfl ?_
    exact t_j_Sp_sizeOf_19 hG hE d hd h
  · rw [if_neg c1] at h
    refine Go.iload_n (k := 1) (i := 1) 1 (by decide +kernel) rfl rfl ?_
    refine Go.bipush (n := 7) (7 : Int32) (by decide +kernel) (by decide) ?_
    refine Go.icmp_ge (off := 12) 19 (by decide +kernel) (by decide) (fun c2 => ?_) (fun c2 => ?_)
    · rw [if_pos c2] at h
      refine Go.sub [] [] rfl ?_
      exact t_j_Sp_sizeOf_19 hG hE d hd h
    · rw [if_neg c2] at h
      refine Go.aload_n (k := 0) (i := 0) 0 (by decide +kernel) rfl rfl ?_
      refine Go.get 65 3 (.ref (ad E 66)) (by decide) (by decide) sh65 (ltO hE sh65) (vlR hE rfl rfl) lk346 (by decide +kernel) ?_
      refine Go.iload_n (k := 1) (i := 1) 1 (by decide +kernel) rfl rfl ?_
      obtain ⟨b3, h⟩ := St.ck h
      refine Go.iaload 66 7 sh66 (ltA hE sh66 (by decide)) (inb_in b3) (by decide +kernel) ?_
      refine Go.goto (off := 4) 20 (by decide +kernel) (by decide) ?_
      exact Go.iret rfl rfl hE.2 (by decide +kernel) (St.fI h)
theorem e_Sp_sizeOf {G : GX} (hG : GOK G) {E : EV} (hE : E0 E) (d : Nat) (hd : 1 ≤ d) (a1 : Int32) (P : PM) {Q : QT} (h : St E (rI P) (f_Sp_sizeOf a1 P) Q) : Con G y_Sp_sizeOf cw_Sp_sizeOf d nOb nOb [.ref (ad E 65), .int a1] P E Q :=
  Con.of hG (by decide +kernel) rfl (fun h => by cases h) hE.2 (Nat.le_of_ble_eq_true rfl) (t_f_Sp_sizeOf hG hE d hd a1 h)
abbrev c_Yr_spread : ByteArray := prog_1_method_24_code
abbrev y_Yr_spread : MethodName := ⟨"YawnRoute", "spread", "(II)I"⟩
abbrev cw_Yr_spread : Cond := .code y_Yr_spread c_Yr_spread 4 (some .int)
theorem w_Yr_spread : VW 11 y_Yr_spread c_Yr_spread 4 (some .int) 2 := ⟨by decide, lk1080, lk1081, lk1, lk1082, ⟨by decide, by decide, by decide +kernel⟩, by decide⟩
noncomputable def j_Yr_spread_25 (x1 : Int32) (x2 : Int32) (s1 : Int32) (s2 : Int32) (P : PM) : Option (Int32 × PM) := lb (f_Yr_refusal s1 s2 P) (fun y1 => if y1 = (0 : Int32) then (bd2 (f_Sp_run x2 P) (fun v3 P4 => (f_Sp_sizeOf x1 P4).bind (fun v5 => some (v5, P4)))) else (some (y1, P)))
noncomputable def j_Yr_spread_24 (x1 : Int32) (x2 : Int32) (s1 : Int32) (P : PM) : Option (Int32 × PM) := j_Yr_spread_25 x1 x2 s1 (0 : Int32) P
noncomputable def f_Yr_spread (a1 : Int32) (a2 : Int32) (P : PM) : Option (Int32 × PM) := if a2 < (0 : Int32) then (j_Yr_spread_24 a1 a2 (f_Ne_isStation 14 a1 P) P) else (if (999 : Int32) < a2 then (j_Yr_spread_24 a1 a2 (f_Ne_isStation 14 a1 P) P) else (j_Yr_spread_25 a1 a2 (f_Ne_isStation 14 a1 P) (1 : Int32) P))
theorem t_j_Yr_spread_25 {G : GX} (hG : GOK G) {E : EV} (hE : E0 E) (d : Nat) (hd : 7 ≤ d) {Q : QT} (x1 : Int32) (x2 : Int32) (s1 : Int32) (s2 : Int32) (P : PM) (h : St E rIP (j_Yr_spread_25 x1 x2 s1 s2 P) Q) : Go G c_Yr_spread "YawnRoute" 4 (some .int) false d nOb nOb Q 25 [(0, .ref (ad E 0)), (1, .int x1), (2, .int x2)] [.int s2, .int s1, .ref (ad E 0)] P E := by
  rw [j_Yr_spread_25] at h
  refine Go.cV_i (P1 := P) (v := (f_Yr_refusal s1 s2 P)) (d - 1) 0 [.int s1, .int s2] sh0 hE w_Yr_refusal (e_Yr_refusal hG hE (d - 1) (by omega) s1 s2 P ⟨rfl, rfl, rfl⟩) lk912 rfl (by omega) (Nat.le_of_ble_eq_true rfl) (by decide +kernel) _ rfl ?_
  obtain ⟨y1, hy1, h⟩ := St.lb h
  refine Go.eqi y1 hy1 ?_
  refine Go.istore_n (k := 3) (i := 3) [(3, .int y1), (0, .ref (ad E 0)), (1, .int x1), (2, .int x2)] (by decide +kernel) rfl (by decide) rfl ?_
  refine Go.iload_n (k := 3) (i := 3) 0 (by decide +kernel) rfl rfl ?_
  refine Go.if_eq (off := 5) 35 (by decide +kernel) (by decide) (fun c2 => ?_) (fun c2 => ?_)
  · rw [if_pos c2] at h
    refine Go.aload_n (k := 0) (i := 0) 1 (by decide +kernel) rfl rfl ?_
    refine Go.get 0 8 (.ref (ad E 65)) (by decide) (by decide) sh0 (ltO hE sh0) (vlR hE rfl rfl) lk398 (by decide +kernel) ?_
    refine Go.iload_n (k := 2) (i := 2) 3 (by decide +kernel) rfl rfl ?_
    obtain ⟨v3, P4, hv3, h⟩ := St.bd2 h
    refine Go.cV_i (P1 := P4) (v := v3) (d - 1) 65 [.int x2] sh65 hE w_Sp_run (e_Sp_run hG hE (d - 1) (by omega) x2 P ⟨_, hv3, rfl, rfl, rfl⟩) lk1083 rfl (by omega) (Nat.le_of_ble_eq_true rfl) (by decide +kernel) _ rfl ?_
    refine Go.pop (by decide +kernel) rfl ?_
    refine Go.aload_n (k := 0) (i := 0) 1 (by decide +kernel) rfl rfl ?_
    refine Go.get 0 8 (.ref (ad E 65)) (by decide) (by decide) sh0 (ltO hE sh0) (vlR hE rfl rfl) lk398 (by decide +kernel) ?_
    refine Go.iload_n (k := 1) (i := 1) 2 (by decide +kernel) rfl rfl ?_
    obtain ⟨v5, hv5, h⟩ := St.bind h
    refine Go.cV_i (P1 := P4) (v := v5) (d - 1) 65 [.int x1] sh65 hE w_Sp_sizeOf (e_Sp_sizeOf hG hE (d - 1) (by omega) x1 P4 ⟨_, hv5, rfl, rfl, rfl⟩) lk1104 rfl (by omega) (Nat.le_of_ble_eq_true rfl) (by decide +kernel) _ rfl ?_
    exact Go.iret rfl rfl hE.2 (by decide +kernel) (St.fIP h)
  · rw [if_neg c2] at h
    refine Go.iload_n (k := 3) (i := 3) 0 (by decide +kernel) rfl rfl ?_
    exact Go.iret rfl rfl hE.2 (by decide +kernel) (St.fIP h)
theorem t_j_Yr_spread_24 {G : GX} (hG : GOK G) {E : EV} (hE : E0 E) (d : Nat) (hd : 7 ≤ d) {Q : QT} (x1 : Int32) (x2 : Int32) (s1 : Int32) (P : PM) (h : St E rIP (j_Yr_spread_24 x1 x2 s1 P) Q) : Go G c_Yr_spread "YawnRoute" 4 (some .int) false d nOb nOb Q 24 [(0, .ref (ad E 0)), (1, .int x1), (2, .int x2)] [.int s1, .ref (ad E 0)] P E := by
  rw [j_Yr_spread_24] at h
  refine Go.iconst (n := 0) (0 : Int32) (by decide +kernel) rfl ?_
  exact t_j_Yr_spread_25 hG hE d hd x1 x2 s1 (0 : Int32) P h
theorem t_f_Yr_spread {G : GX} (hG : GOK G) {E : EV} (hE : E0 E) (d : Nat) (hd : 7 ≤ d) {Q : QT} (a1 : Int32) (a2 : Int32) (P : PM) (h : St E rIP (f_Yr_spread a1 a2 P) Q) : Go G c_Yr_spread "YawnRoute" 4 (some .int) false d nOb nOb Q 0 [(0, .ref (ad E 0)), (1, .int a1), (2, .int a2)] [] P E := by
  rw [f_Yr_spread] at h
  refine Go.aload_n (k := 0) (i := 0) 0 (by decide +kernel) rfl rfl ?_
  refine Go.aload_n (k := 0) (i := 0) 0 (by decide +kernel) rfl rfl ?_
  refine Go.get 0 2 (.ref (ad E 14)) (by decide) (by decide) sh0 (ltO hE sh0) (vlR hE rfl rfl) lk392 (by decide +kernel) ?_
  refine Go.iload_n (k := 1) (i := 1) 1 (by decide +kernel) rfl rfl ?_
  refine Go.cV_i (P1 := P) (v := (f_Ne_isStation 14 a1 P)) (d - 1) 14 [.int a1] sh14 hE w_Ne_isStation (e_Ne_isStation hG hE (d - 1) (by omega) 14 sh14 a1 P ⟨rfl, rfl, rfl⟩) lk726 rfl (by omega) (Nat.le_of_ble_eq_true rfl) (by decide +kernel) _ rfl ?_
  refine Go.iload_n (k := 2) (i := 2) 2 (by decide +kernel) rfl rfl ?_
  refine Go.if_lt (off := 14) 24 (by decide +kernel) (by decide) (fun c1 => ?_) (fun c1 => ?_)
  · rw [if_pos c1] at h
    exact t_j_Yr_spread_24 hG hE d hd a1 a2 (f_Ne_isStation 14 a1 P) P h
  · rw [if_neg c1] at h
    refine Go.iload_n (k := 2) (i := 2) 2 (by decide +kernel) rfl rfl ?_
    refine Go.sipush (n := 999) (999 : Int32) (by decide +kernel) (by decide) ?_
    refine Go.icmp_gt (off := 7) 24 (by decide +kernel) (by decide) (fun c2 => ?_) (fun c2 => ?_)
    · rw [if_pos c2] at h
      exact t_j_Yr_spread_24 hG hE d hd a1 a2 (f_Ne_isStation 14 a1 P) P h
    · rw [if_neg c2] at h
      refine Go.iconst (n := 1) (1 : Int32) (by decide +kernel) rfl ?_
      refine Go.goto (off := 4) 25 (by decide +kernel) (by decide) ?_
      exact t_j_Yr_spread_25 hG hE d hd a1 a2 (f_Ne_isStation 14 a1 P) (1 : Int32) P h
theorem e_Yr_spread {G : GX} (hG : GOK G) {E : EV} (hE : E0 E) (d : Nat) (hd : 7 ≤ d) (a1 : Int32) (a2 : Int32) (P : PM) {Q : QT} (h : St E rIP (f_Yr_spread a1 a2 P) Q) : Con G y_Yr_spread cw_Yr_spread d nOb nOb [.ref (ad E 0), .int a1, .int a2] P E Q :=
  Con.of hG (by decide +kernel) rfl (fun h => by cases h) hE.2 (Nat.le_of_ble_eq_true rfl) (t_f_Yr_spread hG hE d hd a1 a2 P h)
abbrev c_Yr_rounds : ByteArray := prog_1_method_25_code
abbrev y_Yr_rounds : MethodName := ⟨"YawnRoute", "rounds", "()I"⟩
abbrev cw_Yr_rounds : Cond := .code y_Yr_rounds c_Yr_rounds 2 (some .int)
theorem w_Yr_rounds : VW 11 y_Yr_rounds c_Yr_rounds 2 (some .int) 0 := ⟨by decide, lk1109, lk1110, lk1, lk1111, ⟨by decide, by decide, by decide +kernel⟩, by decide⟩
noncomputable def f_Yr_rounds (P : PM) : Option (Int32 × PM) := lb (f_Yr_refusal (1 : Int32) (1 : Int32) P) (fun y1 => if y1 = (0 : Int32) then (bd2 (f_Sp_run (999 : Int32) P) (fun v3 P4 => some (v3, P4))) else (some (y1, P)))
theorem t_f_Yr_rounds {G : GX} (hG : GOK G) {E : EV} (hE : E0 E) (d : Nat) (hd : 7 ≤ d) {Q : QT} (P : PM) (h : St E rIP (f_Yr_rounds P) Q) : Go G c_Yr_rounds "YawnRoute" 2 (some .int) false d nOb nOb Q 0 [(0, .ref (ad E 0))] [] P E := by
  rw [f_Yr_rounds] at h
  refine Go.aload_n (k := 0) (i := 0) 0 (by decide +kernel) rfl rfl ?_
  refine Go.iconst (n := 1) (1 : Int32) (by decide +kernel) rfl ?_
  refine Go.iconst (n := 1) (1 : Int32) (by decide +kernel) rfl ?_
  refine Go.cV_i (P1 := P) (v := (f_Yr_refusal (1 : Int32) (1 : Int32) P)) (d - 1) 0 [.int (1 : Int32), .int (1 : Int32)] sh0 hE w_Yr_refusal (e_Yr_refusal hG hE (d - 1) (by omega) (1 : Int32) (1 : Int32) P ⟨rfl, rfl, rfl⟩) lk912 rfl (by omega) (Nat.le_of_ble_eq_true rfl) (by decide +kernel) _ rfl ?_
  obtain ⟨y1, hy1, h⟩ := St.lb h
  refine Go.eqi y1 hy1 ?_
  refine Go.istore_n (k := 1) (i := 1) [(1, .int y1), (0, .ref (ad E 0))] (by decide +kernel) rfl (by decide) rfl ?_
  refine Go.iload_n (k := 1) (i := 1) 0 (by decide +kernel) rfl rfl ?_
  refine Go.if_eq (off := 7) 15 (by decide +kernel) (by decide) (fun c2 => ?_) (fun c2 => ?_)
  · rw [if_pos c2] at h
    refine Go.aload_n (k := 0) (i := 0) 1 (by decide +kernel) rfl rfl ?_
    refine Go.get 0 8 (.ref (ad E 65)) (by decide) (by decide) sh0 (ltO hE sh0) (vlR hE rfl rfl) lk398 (by decide +kernel) ?_
    refine Go.sipush (n := 999) (999 : Int32) (by decide +kernel) (by decide) ?_
    obtain ⟨v3, P4, hv3, h⟩ := St.bd2 h
    refine Go.cV_i (P1 := P4) (v := v3) (d - 1) 65 [.int (999 : Int32)] sh65 hE w_Sp_run (e_Sp_run hG hE (d - 1) (by omega) (999 : Int32) P ⟨_, hv3, rfl, rfl, rfl⟩) lk1083 rfl (by omega) (Nat.le_of_ble_eq_true rfl) (by decide +kernel) _ rfl ?_
    exact Go.iret rfl rfl hE.2 (by decide +kernel) (St.fIP h)
  · rw [if_neg c2] at h
    refine Go.iload_n (k := 1) (i := 1) 0 (by decide +kernel) rfl rfl ?_
    refine Go.goto (off := 13) 25 (by decide +kernel) (by decide) ?_
    exact Go.iret rfl rfl hE.2 (by decide +kernel) (St.fIP h)
theorem e_Yr_rounds {G : GX} (hG : GOK G) {E : EV} (hE : E0 E) (d : Nat) (hd : 7 ≤ d) (P : PM) {Q : QT} (h : St E rIP (f_Yr_rounds P) Q) : Con G y_Yr_rounds cw_Yr_rounds d nOb nOb [.ref (ad E 0)] P E Q :=
  Con.of hG (by decide +kernel) rfl (fun h => by cases h) hE.2 (Nat.le_of_ble_eq_true rfl) (t_f_Yr_rounds hG hE d hd P h)
abbrev c_Sp_holders : ByteArray := prog_8_method_5_code
abbrev y_Sp_holders : MethodName := ⟨"YawnRoute$Spreading", "holders", "()I"⟩
abbrev cw_Sp_holders : Cond := .code y_Sp_holders c_Sp_holders 3 (some .int)
theorem w_Sp_holders : VW 6 y_Sp_holders c_Sp_holders 3 (some .int) 0 := ⟨by decide, lk1117, lk1118, lk12, lk1119, ⟨by decide, by decide, by decide +kernel⟩, by decide⟩
noncomputable def j_Sp_holders_27 (k4 : Int32 → Int32 → Option Int32) (x2 : Int32) (s0 : Int32) (s1 : Int32) (P : PM) : Option Int32 := lb (s0 ||| s1) (fun y1 => k4 y1 (x2 + (1 : Int32)))
noncomputable def l_Sp_holders_4 : Nat → Int32 → Int32 → PM → Option Int32
  | 0, _, _, _ => none
  | n + 1, x1, x2, P => if (7 : Int32) ≤ x2 then (some x1) else (ck (inb x2 7) (if (P.1 66 x2.toNatClampNeg) ≤ (0 : Int32) then (j_Sp_holders_27 (fun z0 z1 => l_Sp_holders_4 n z0 z1 P) x2 x1 (0 : Int32) P) else (j_Sp_holders_27 (fun z0 z1 => l_Sp_holders_4 n z0 z1 P) x2 x1 ((1 : Int32) <<< (x2 &&& 31)) P)))
noncomputable def f_Sp_holders (P : PM) : Option Int32 := l_Sp_holders_4 FU (0 : Int32) (0 : Int32) P
theorem t_j_Sp_holders_27 {G : GX} (hG : GOK G) {E : EV} (hE : E0 E) (d : Nat) (hd : 1 ≤ d) {P : PM} {Q : QT} (k4 : Int32 → Int32 → Option Int32) (hk4 : ∀ (x1 : Int32) (x2 : Int32), St E (rI P) (k4 x1 x2) Q → Go G c_Sp_holders "YawnRoute$Spreading" 3 (some .int) false d nOb nOb Q 4 [(0, .ref (ad E 65)), (1, .int x1), (2, .int x2)] [] P E) (x2 : Int32) (s0 : Int32) (s1 : Int32) (h : St E (rI P) (j_Sp_holders_27 k4 x2 s0 s1 P) Q) : Go G c_Sp_holders "YawnRoute$Spreading" 3 (some .int) false d nOb nOb Q 27 [(0, .ref (ad E 65)), (2, .int x2)] [.int s1, .int s0] P E := by
  rw [j_Sp_holders_27] at h
  refine Go.ior (by decide +kernel) ?_
  obtain ⟨y1, hy1, h⟩ := St.lb h
  refine Go.eqi y1 hy1 ?_
  refine Go.istore_n (k := 1) (i := 1) [(1, .int y1), (0, .ref (ad E 65)), (2, .int x2)] (by decide +kernel) rfl (by decide) rfl ?_
  refine Go.iinc (i := 2) (n := 1) 2 (x2 + (1 : Int32)) [(2, .int (x2 + (1 : Int32))), (1, .int y1), (0, .ref (ad E 65))] (by decide +kernel) rfl rfl (by decide) rfl ?_
  refine Go.goto (off := -28) 4 (by decide +kernel) (by decide) ?_
  refine Go.sub [2, 1, 0] [(0, .ref (ad E 65)), (1, .int y1), (2, .int (x2 + (1 : Int32)))] rfl ?_
  exact hk4 y1 (x2 + (1 : Int32)) h
theorem t_l_Sp_holders_4 {G : GX} (hG : GOK G) {E : EV} (hE : E0 E) (d : Nat) (hd : 1 ≤ d) {P : PM} {Q : QT} : ∀ (n : Nat) (x1 : Int32) (x2 : Int32), St E (rI P) (l_Sp_holders_4 n x1 x2 P) Q → Go G c_Sp_holders "YawnRoute$Spreading" 3 (some .int) false d nOb nOb Q 4 [(0, .ref (ad E 65)), (1, .int x1), (2, .int x2)] [] P E := by
  intro n
  induction n with
  | zero =>
    intro x1 x2 h
    rw [l_Sp_holders_4] at h
    exact St.none_ h
  | succ n ih =>
    intro x1 x2 h
    rw [l_Sp_holders_4] at h
    refine Go.iload_n (k := 2) (i := 2) 2 (by decide +kernel) rfl rfl ?_
    refine Go.bipush (n := 7) (7 : Int32) (by decide +kernel) (by decide) ?_
    refine Go.icmp_ge (off := 28) 35 (by decide +kernel) (by decide) (fun c1 => ?_) (fun c1 => ?_)
    · rw [if_pos c1] at h
      refine Go.iload_n (k := 1) (i := 1) 1 (by decide +kernel) rfl rfl ?_
      exact Go.iret rfl rfl hE.2 (by decide +kernel) (St.fI h)
    · rw [if_neg c1] at h
      refine Go.iload_n (k := 1) (i := 1) 1 (by decide +kernel) rfl rfl ?_
      refine Go.aload_n (k := 0) (i := 0) 0 (by decide +kernel) rfl rfl ?_
      refine Go.get 65 3 (.ref (ad E 66)) (by decide) (by decide) sh65 (ltO hE sh65) (vlR hE rfl rfl) lk346 (by decide +kernel) ?_
      refine Go.iload_n (k := 2) (i := 2) 2 (by decide +kernel) rfl rfl ?_
      obtain ⟨b2, h⟩ := St.ck h
      refine Go.iaload 66 7 sh66 (ltA hE sh66 (by decide)) (inb_in b2) (by decide +kernel) ?_
      refine Go.if_le (off := 9) 26 (by decide +kernel) (by decide) (fun c3 => ?_) (fun c3 => ?_)
      · rw [if_pos c3] at h
        refine Go.iconst (n := 0) (0 : Int32) (by decide +kernel) rfl ?_
        refine Go.sub [0, 2] [(0, .ref (ad E 65)), (2, .int x2)] rfl ?_
        exact t_j_Sp_holders_27 hG hE d hd (fun z0 z1 => l_Sp_holders_4 n z0 z1 P) (fun z0 z1 q => ih z0 z1 q) x2 x1 (0 : Int32) h
      · rw [if_neg c3] at h
        refine Go.iconst (n := 1) (1 : Int32) (by decide +kernel) rfl ?_
        refine Go.iload_n (k := 2) (i := 2) 2 (by decide +kernel) rfl rfl ?_
        refine Go.ishl (by decide +kernel) ?_
        refine Go.goto (off := 4) 27 (by decide +kernel) (by decide) ?_
        refine Go.sub [0, 2] [(0, .ref (ad E 65)), (2, .int x2)] rfl ?_
        exact t_j_Sp_holders_27 hG hE d hd (fun z0 z1 => l_Sp_holders_4 n z0 z1 P) (fun z0 z1 q => ih z0 z1 q) x2 x1 ((1 : Int32) <<< (x2 &&& 31)) h
theorem t_f_Sp_holders {G : GX} (hG : GOK G) {E : EV} (hE : E0 E) (d : Nat) (hd : 1 ≤ d) {P : PM} {Q : QT} (h : St E (rI P) (f_Sp_holders P) Q) : Go G c_Sp_holders "YawnRoute$Spreading" 3 (some .int) false d nOb nOb Q 0 [(0, .ref (ad E 65))] [] P E := by
  rw [f_Sp_holders] at h
  refine Go.iconst (n := 0) (0 : Int32) (by decide +kernel) rfl ?_
  refine Go.istore_n (k := 1) (i := 1) [(1, .int (0 : Int32)), (0, .ref (ad E 65))] (by decide +kernel) rfl (by decide) rfl ?_
  refine Go.iconst (n := 0) (0 : Int32) (by decide +kernel) rfl ?_
  refine Go.istore_n (k := 2) (i := 2) [(2, .int (0 : Int32)), (1, .int (0 : Int32)), (0, .ref (ad E 65))] (by decide +kernel) rfl (by decide) rfl ?_
  refine Go.sub [2, 1, 0] [(0, .ref (ad E 65)), (1, .int (0 : Int32)), (2, .int (0 : Int32))] rfl ?_
  exact t_l_Sp_holders_4 hG hE d hd FU (0 : Int32) (0 : Int32) h
theorem e_Sp_holders {G : GX} (hG : GOK G) {E : EV} (hE : E0 E) (d : Nat) (hd : 1 ≤ d) (P : PM) {Q : QT} (h : St E (rI P) (f_Sp_holders P) Q) : Con G y_Sp_holders cw_Sp_holders d nOb nOb [.ref (ad E 65)] P E Q :=
  Con.of hG (by decide +kernel) rfl (fun h => by cases h) hE.2 (Nat.le_of_ble_eq_true rfl) (t_f_Sp_holders hG hE d hd h)
abbrev c_Yr_crowd : ByteArray := prog_1_method_26_code
abbrev y_Yr_crowd : MethodName := ⟨"YawnRoute", "crowd", "()I"⟩
abbrev cw_Yr_crowd : Cond := .code y_Yr_crowd c_Yr_crowd 2 (some .int)
theorem w_Yr_crowd : VW 11 y_Yr_crowd c_Yr_crowd 2 (some .int) 0 := ⟨by decide, lk1113, lk1114, lk1, lk1115, ⟨by decide, by decide, by decide +kernel⟩, by decide⟩
noncomputable def f_Yr_crowd (P : PM) : Option (Int32 × PM) := lb (f_Yr_refusal (1 : Int32) (1 : Int32) P) (fun y1 => if y1 = (0 : Int32) then (bd2 (f_Sp_run (999 : Int32) P) (fun v3 P4 => (f_Sp_holders P4).bind (fun v5 => some (v5, P4)))) else (some (y1, P)))
theorem t_f_Yr_crowd {G : GX} (hG : GOK G) {E : EV} (hE : E0 E) (d : Nat) (hd : 7 ≤ d) {Q : QT} (P : PM) (h : St E rIP (f_Yr_crowd P) Q) : Go G c_Yr_crowd "YawnRoute" 2 (some .int) false d nOb nOb Q 0 [(0, .ref (ad E 0))] [] P E := by
  rw [f_Yr_crowd] at h
  refine Go.aload_n (k := 0) (i := 0) 0 (by decide +kernel) rfl rfl ?_
  refine Go.iconst (n := 1) (1 : Int32) (by decide +kernel) rfl ?_
  refine Go.iconst (n := 1) (1 : Int32) (by decide +kernel) rfl ?_
  refine Go.cV_i (P1 := P) (v := (f_Yr_refusal (1 : Int32) (1 : Int32) P)) (d - 1) 0 [.int (1 : Int32), .int (1 : Int32)] sh0 hE w_Yr_refusal (e_Yr_refusal hG hE (d - 1) (by omega) (1 : Int32) (1 : Int32) P ⟨rfl, rfl, rfl⟩) lk912 rfl (by omega) (Nat.le_of_ble_eq_true rfl) (by decide +kernel) _ rfl ?_
  obtain ⟨y1, hy1, h⟩ := St.lb h
  refine Go.eqi y1 hy1 ?_
  refine Go.istore_n (k := 1) (i := 1) [(1, .int y1), (0, .ref (ad E 0))] (by decide +kernel) rfl (by decide) rfl ?_
  refine Go.iload_n (k := 1) (i := 1) 0 (by decide +kernel) rfl rfl ?_
  refine Go.if_eq (off := 5) 13 (by decide +kernel) (by decide) (fun c2 => ?_) (fun c2 => ?_)
  · rw [if_pos c2] at h
    refine Go.aload_n (k := 0) (i := 0) 1 (by decide +kernel) rfl rfl ?_
    refine Go.get 0 8 (.ref (ad E 65)) (by decide) (by decide) sh0 (ltO hE sh0) (vlR hE rfl rfl) lk398 (by decide +kernel) ?_
    refine Go.sipush (n := 999) (999 : Int32) (by decide +kernel) (by decide) ?_
    obtain ⟨v3, P4, hv3, h⟩ := St.bd2 h
    refine Go.cV_i (P1 := P4) (v := v3) (d - 1) 65 [.int (999 : Int32)] sh65 hE w_Sp_run (e_Sp_run hG hE (d - 1) (by omega) (999 : Int32) P ⟨_, hv3, rfl, rfl, rfl⟩) lk1083 rfl (by omega) (Nat.le_of_ble_eq_true rfl) (by decide +kernel) _ rfl ?_
    refine Go.pop (by decide +kernel) rfl ?_
    refine Go.aload_n (k := 0) (i := 0) 1 (by decide +kernel) rfl rfl ?_
    refine Go.get 0 8 (.ref (ad E 65)) (by decide) (by decide) sh0 (ltO hE sh0) (vlR hE rfl rfl) lk398 (by decide +kernel) ?_
    obtain ⟨v5, hv5, h⟩ := St.bind h
    refine Go.cV_i (P1 := P4) (v := v5) (d - 1) 65 [] sh65 hE w_Sp_holders (e_Sp_holders hG hE (d - 1) (by omega) P4 ⟨_, hv5, rfl, rfl, rfl⟩) lk1116 rfl (by omega) (Nat.le_of_ble_eq_true rfl) (by decide +kernel) _ rfl ?_
    exact Go.iret rfl rfl hE.2 (by decide +kernel) (St.fIP h)
  · rw [if_neg c2] at h
    refine Go.iload_n (k := 1) (i := 1) 0 (by decide +kernel) rfl rfl ?_
    exact Go.iret rfl rfl hE.2 (by decide +kernel) (St.fIP h)
theorem e_Yr_crowd {G : GX} (hG : GOK G) {E : EV} (hE : E0 E) (d : Nat) (hd : 7 ≤ d) (P : PM) {Q : QT} (h : St E rIP (f_Yr_crowd P) Q) : Con G y_Yr_crowd cw_Yr_crowd d nOb nOb [.ref (ad E 0)] P E Q :=
  Con.of hG (by decide +kernel) rfl (fun h => by cases h) hE.2 (Nat.le_of_ble_eq_true rfl) (t_f_Yr_crowd hG hE d hd P h)
abbrev c_Sp_bestStopper : ByteArray := prog_8_method_6_code
abbrev y_Sp_bestStopper : MethodName := ⟨"YawnRoute$Spreading", "bestStopper", "()I"⟩
abbrev cw_Sp_bestStopper : Cond := .code y_Sp_bestStopper c_Sp_bestStopper 5 (some .int)
theorem w_Sp_bestStopper : VW 6 y_Sp_bestStopper c_Sp_bestStopper 5 (some .int) 0 := ⟨by decide, lk1125, lk1126, lk12, lk1127, ⟨by decide, by decide, by decide +kernel⟩, by decide⟩
noncomputable def j_Sp_bestStopper_108 (k28 : Int32 → Int32 → Int32 → PM → Option (Int32 × PM)) (x1 : Int32) (x2 : Int32) (x3 : Int32) (P : PM) : Option (Int32 × PM) := k28 x1 x2 (x3 + (1 : Int32)) P
noncomputable def j_Sp_bestStopper_100 (k28 : Int32 → Int32 → Int32 → PM → Option (Int32 × PM)) (x2 : Int32) (x3 : Int32) (x4 : Int32) (s0 : Int32) (P : PM) : Option (Int32 × PM) := lb (mn x2 x4) (fun y1 => j_Sp_bestStopper_108 k28 s0 y1 x3 P)
noncomputable def l_Sp_bestStopper_28 : Nat → Int32 → Int32 → Int32 → PM → Option (Int32 × PM)
  | 0, _, _, _, _ => none
  | n + 1, x1, x2, x3, P => if (P.1 14 0) ≤ x3 then (some (x1, P)) else (if x3 = (P.1 21 0) then (j_Sp_bestStopper_108 (fun z0 z1 z2 Pz => l_Sp_bestStopper_28 n z0 z1 z2 Pz) x1 x2 x3 P) else (if (f_Sa_isAsleep 21 x3 P) = (0 : Int32) then (bd2 (f_Sp_runWith ((P.1 21 3) ||| ((1 : Int32) <<< (x3 &&& 31))) (999 : Int32) P) (fun v4 P5 => (f_Sp_holders P5).bind (fun v6 => lb (f_Ji_bitCount v6 P5) (fun y7 => if x2 ≤ y7 then (j_Sp_bestStopper_100 (fun z0 z1 z2 Pz => l_Sp_bestStopper_28 n z0 z1 z2 Pz) x2 x3 y7 x1 P5) else (j_Sp_bestStopper_100 (fun z0 z1 z2 Pz => l_Sp_bestStopper_28 n z0 z1 z2 Pz) x2 x3 y7 x3 P5))))) else (j_Sp_bestStopper_108 (fun z0 z1 z2 Pz => l_Sp_bestStopper_28 n z0 z1 z2 Pz) x1 x2 x3 P)))
noncomputable def f_Sp_bestStopper (P : PM) : Option (Int32 × PM) := (f_Pa_explore (f_Sa_place 21 P) (P.1 21 3) P).bind (fun P1 => l_Sp_bestStopper_28 FU (-1 : Int32) (8 : Int32) (0 : Int32) P1)
theorem t_j_Sp_bestStopper_108 {G : GX} (hG : GOK G) {E : EV} (hE : E0 E) (d : Nat) (hd : 6 ≤ d) {Q : QT} (k28 : Int32 → Int32 → Int32 → PM → Option (Int32 × PM)) (hk28 : ∀ (x1 : Int32) (x2 : Int32) (x3 : Int32) (P : PM), St E rIP (k28 x1 x2 x3 P) Q → Go G c_Sp_bestStopper "YawnRoute$Spreading" 5 (some .int) false d nOb nOb Q 28 [(0, .ref (ad E 65)), (1, .int x1), (2, .int x2), (3, .int x3)] [] P E) (x1 : Int32) (x2 : Int32) (x3 : Int32) (P : PM) (h : St E rIP (j_Sp_bestStopper_108 k28 x1 x2 x3 P) Q) : Go G c_Sp_bestStopper "YawnRoute$Spreading" 5 (some .int) false d nOb nOb Q 108 [(0, .ref (ad E 65)), (1, .int x1), (2, .int x2), (3, .int x3)] [] P E := by
  rw [j_Sp_bestStopper_108] at h
  refine Go.iinc (i := 3) (n := 1) 3 (x3 + (1 : Int32)) [(3, .int (x3 + (1 : Int32))), (0, .ref (ad E 65)), (1, .int x1), (2, .int x2)] (by decide +kernel) rfl rfl (by decide) rfl ?_
  refine Go.goto (off := -83) 28 (by decide +kernel) (by decide) ?_
  refine Go.sub [1, 2, 3, 0] [(0, .ref (ad E 65)), (1, .int x1), (2, .int x2), (3, .int (x3 + (1 : Int32)))] rfl ?_
  exact hk28 x1 x2 (x3 + (1 : Int32)) P h
theorem t_j_Sp_bestStopper_100 {G : GX} (hG : GOK G) {E : EV} (hE : E0 E) (d : Nat) (hd : 6 ≤ d) {Q : QT} (k28 : Int32 → Int32 → Int32 → PM → Option (Int32 × PM)) (hk28 : ∀ (x1 : Int32) (x2 : Int32) (x3 : Int32) (P : PM), St E rIP (k28 x1 x2 x3 P) Q → Go G c_Sp_bestStopper "YawnRoute$Spreading" 5 (some .int) false d nOb nOb Q 28 [(0, .ref (ad E 65)), (1, .int x1), (2, .int x2), (3, .int x3)] [] P E) (x2 : Int32) (x3 : Int32) (x4 : Int32) (s0 : Int32) (P : PM) (h : St E rIP (j_Sp_bestStopper_100 k28 x2 x3 x4 s0 P) Q) : Go G c_Sp_bestStopper "YawnRoute$Spreading" 5 (some .int) false d nOb nOb Q 100 [(0, .ref (ad E 65)), (2, .int x2), (3, .int x3), (4, .int x4)] [.int s0] P E := by
  rw [j_Sp_bestStopper_100] at h
  refine Go.istore_n (k := 1) (i := 1) [(1, .int s0), (0, .ref (ad E 65)), (2, .int x2), (3, .int x3), (4, .int x4)] (by decide +kernel) rfl (by decide) rfl ?_
  refine Go.iload_n (k := 2) (i := 2) 2 (by decide +kernel) rfl rfl ?_
  refine Go.iload (i := 4) 4 (by decide +kernel) rfl ?_
  refine Go.mmin lk1131 (Nat.le_of_eq hE.2) (by omega) (Nat.le_of_ble_eq_true rfl) (by decide +kernel) ?_
  obtain ⟨y1, hy1, h⟩ := St.lb h
  refine Go.eqi y1 hy1 ?_
  refine Go.istore_n (k := 2) (i := 2) [(2, .int y1), (1, .int s0), (0, .ref (ad E 65)), (3, .int x3), (4, .int x4)] (by decide +kernel) rfl (by decide) rfl ?_
  refine Go.sub [2, 1, 0, 3] [(0, .ref (ad E 65)), (1, .int s0), (2, .int y1), (3, .int x3)] rfl ?_
  exact t_j_Sp_bestStopper_108 hG hE d hd k28 hk28 s0 y1 x3 P h
theorem t_l_Sp_bestStopper_28 {G : GX} (hG : GOK G) {E : EV} (hE : E0 E) (d : Nat) (hd : 6 ≤ d) {Q : QT} : ∀ (n : Nat) (x1 : Int32) (x2 : Int32) (x3 : Int32) (P : PM), St E rIP (l_Sp_bestStopper_28 n x1 x2 x3 P) Q → Go G c_Sp_bestStopper "YawnRoute$Spreading" 5 (some .int) false d nOb nOb Q 28 [(0, .ref (ad E 65)), (1, .int x1), (2, .int x2), (3, .int x3)] [] P E := by
  intro n
  induction n with
  | zero =>
    intro x1 x2 x3 P h
    rw [l_Sp_bestStopper_28] at h
    exact St.none_ h
  | succ n ih =>
    intro x1 x2 x3 P h
    rw [l_Sp_bestStopper_28] at h
    refine Go.iload_n (k := 3) (i := 3) 3 (by decide +kernel) rfl rfl ?_
    refine Go.aload_n (k := 0) (i := 0) 0 (by decide +kernel) rfl rfl ?_
    refine Go.get 65 0 (.ref (ad E 14)) (by decide) (by decide) sh65 (ltO hE sh65) (vlR hE rfl rfl) lk343 (by decide +kernel) ?_
    refine Go.get 14 0 (.int (P.1 14 0)) (by decide) (by decide) sh14 (ltO hE sh14) rfl lk90 (by decide +kernel) ?_
    refine Go.icmp_ge (off := 78) 114 (by decide +kernel) (by decide) (fun c1 => ?_) (fun c1 => ?_)
    · rw [if_pos c1] at h
      refine Go.iload_n (k := 1) (i := 1) 1 (by decide +kernel) rfl rfl ?_
      exact Go.iret rfl rfl hE.2 (by decide +kernel) (St.fIP h)
    · rw [if_neg c1] at h
      refine Go.iload_n (k := 3) (i := 3) 3 (by decide +kernel) rfl rfl ?_
      refine Go.aload_n (k := 0) (i := 0) 0 (by decide +kernel) rfl rfl ?_
      refine Go.get 65 1 (.ref (ad E 21)) (by decide) (by decide) sh65 (ltO hE sh65) (vlR hE rfl rfl) lk344 (by decide +kernel) ?_
      refine Go.get 21 0 (.int (P.1 21 0)) (by decide) (by decide) sh21 (ltO hE sh21) rfl lk150 (by decide +kernel) ?_
      refine Go.icmp_eq (off := 61) 108 (by decide +kernel) (by decide) (fun c2 => ?_) (fun c2 => ?_)
      · rw [if_pos c2] at h
        exact t_j_Sp_bestStopper_108 hG hE d hd (fun z0 z1 z2 Pz => l_Sp_bestStopper_28 n z0 z1 z2 Pz) (fun z0 z1 z2 Pz q => ih z0 z1 z2 Pz q) x1 x2 x3 P h
      · rw [if_neg c2] at h
        refine Go.aload_n (k := 0) (i := 0) 0 (by decide +kernel) rfl rfl ?_
        refine Go.get 65 1 (.ref (ad E 21)) (by decide) (by decide) sh65 (ltO hE sh65) (vlR hE rfl rfl) lk344 (by decide +kernel) ?_
        refine Go.iload_n (k := 3) (i := 3) 3 (by decide +kernel) rfl rfl ?_
        refine Go.cV_i (P1 := P) (v := (f_Sa_isAsleep 21 x3 P)) (d - 1) 21 [.int x3] sh21 hE w_Sa_isAsleep (e_Sa_isAsleep hG hE (d - 1) (by omega) 21 sh21 x3 P ⟨rfl, rfl, rfl⟩) lk1128 rfl (by omega) (Nat.le_of_ble_eq_true rfl) (by decide +kernel) _ rfl ?_
        refine Go.if_ne (off := 50) 108 (by decide +kernel) (by decide) (fun c3 => ?_) (fun c3 => ?_)
        · rw [if_neg c3] at h
          exact t_j_Sp_bestStopper_108 hG hE d hd (fun z0 z1 z2 Pz => l_Sp_bestStopper_28 n z0 z1 z2 Pz) (fun z0 z1 z2 Pz q => ih z0 z1 z2 Pz q) x1 x2 x3 P h
        · rw [if_pos c3] at h
          refine Go.aload_n (k := 0) (i := 0) 0 (by decide +kernel) rfl rfl ?_
          refine Go.aload_n (k := 0) (i := 0) 0 (by decide +kernel) rfl rfl ?_
          refine Go.get 65 1 (.ref (ad E 21)) (by decide) (by decide) sh65 (ltO hE sh65) (vlR hE rfl rfl) lk344 (by decide +kernel) ?_
          refine Go.get 21 3 (.int (P.1 21 3)) (by decide) (by decide) sh21 (ltO hE sh21) rfl lk163 (by decide +kernel) ?_
          refine Go.iconst (n := 1) (1 : Int32) (by decide +kernel) rfl ?_
          refine Go.iload_n (k := 3) (i := 3) 3 (by decide +kernel) rfl rfl ?_
          refine Go.ishl (by decide +kernel) ?_
          refine Go.ior (by decide +kernel) ?_
          refine Go.sipush (n := 999) (999 : Int32) (by decide +kernel) (by decide) ?_
          obtain ⟨v4, P5, hv4, h⟩ := St.bd2 h
          refine Go.cV_i (P1 := P5) (v := v4) (d - 1) 65 [.int ((P.1 21 3) ||| ((1 : Int32) <<< (x3 &&& 31))), .int (999 : Int32)] sh65 hE w_Sp_runWith (e_Sp_runWith hG hE (d - 1) (by omega) ((P.1 21 3) ||| ((1 : Int32) <<< (x3 &&& 31))) (999 : Int32) P ⟨_, hv4, rfl, rfl, rfl⟩) lk1089 rfl (by omega) (Nat.le_of_ble_eq_true rfl) (by decide +kernel) _ rfl ?_
          refine Go.pop (by decide +kernel) rfl ?_
          refine Go.aload_n (k := 0) (i := 0) 0 (by decide +kernel) rfl rfl ?_
          obtain ⟨v6, hv6, h⟩ := St.bind h
          refine Go.cV_i (P1 := P5) (v := v6) (d - 1) 65 [] sh65 hE w_Sp_holders (e_Sp_holders hG hE (d - 1) (by omega) P5 ⟨_, hv6, rfl, rfl, rfl⟩) lk1129 rfl (by omega) (Nat.le_of_ble_eq_true rfl) (by decide +kernel) _ rfl ?_
          refine Go.cS_i (P1 := P5) (v := (f_Ji_bitCount v6 P5)) (d - 1) [.int v6] hE w_Ji_bitCount (e_Ji_bitCount hG hE (d - 1) (by omega) v6 P5 ⟨rfl, rfl, rfl⟩) lk1130 rfl (by omega) (Nat.le_of_ble_eq_true rfl) (by decide +kernel) _ rfl ?_
          obtain ⟨y7, hy7, h⟩ := St.lb h
          refine Go.eqi y7 hy7 ?_
          refine Go.istore (i := 4) [(4, .int y7), (0, .ref (ad E 65)), (1, .int x1), (2, .int x2), (3, .int x3)] (by decide +kernel) (by decide) rfl ?_
          refine Go.iload (i := 4) 0 (by decide +kernel) rfl ?_
          refine Go.iload_n (k := 2) (i := 2) 3 (by decide +kernel) rfl rfl ?_
          refine Go.icmp_ge (off := 7) 99 (by decide +kernel) (by decide) (fun c8 => ?_) (fun c8 => ?_)
          · rw [if_pos c8] at h
            refine Go.iload_n (k := 1) (i := 1) 2 (by decide +kernel) rfl rfl ?_
            refine Go.sub [1, 3, 4, 0] [(0, .ref (ad E 65)), (2, .int x2), (3, .int x3), (4, .int y7)] rfl ?_
            exact t_j_Sp_bestStopper_100 hG hE d hd (fun z0 z1 z2 Pz => l_Sp_bestStopper_28 n z0 z1 z2 Pz) (fun z0 z1 z2 Pz q => ih z0 z1 z2 Pz q) x2 x3 y7 x1 P5 h
          · rw [if_neg c8] at h
            refine Go.iload_n (k := 3) (i := 3) 4 (by decide +kernel) rfl rfl ?_
            refine Go.goto (off := 4) 100 (by decide +kernel) (by decide) ?_
            refine Go.sub [1, 3, 4, 0] [(0, .ref (ad E 65)), (2, .int x2), (3, .int x3), (4, .int y7)] rfl ?_
            exact t_j_Sp_bestStopper_100 hG hE d hd (fun z0 z1 z2 Pz => l_Sp_bestStopper_28 n z0 z1 z2 Pz) (fun z0 z1 z2 Pz q => ih z0 z1 z2 Pz q) x2 x3 y7 x3 P5 h
theorem t_f_Sp_bestStopper {G : GX} (hG : GOK G) {E : EV} (hE : E0 E) (d : Nat) (hd : 6 ≤ d) {Q : QT} (P : PM) (h : St E rIP (f_Sp_bestStopper P) Q) : Go G c_Sp_bestStopper "YawnRoute$Spreading" 5 (some .int) false d nOb nOb Q 0 [(0, .ref (ad E 65))] [] P E := by
  rw [f_Sp_bestStopper] at h
  refine Go.iconst (n := -1) (-1 : Int32) (by decide +kernel) rfl ?_
  refine Go.istore_n (k := 1) (i := 1) [(1, .int (-1 : Int32)), (0, .ref (ad E 65))] (by decide +kernel) rfl (by decide) rfl ?_
  refine Go.bipush (n := 8) (8 : Int32) (by decide +kernel) (by decide) ?_
  refine Go.istore_n (k := 2) (i := 2) [(2, .int (8 : Int32)), (1, .int (-1 : Int32)), (0, .ref (ad E 65))] (by decide +kernel) rfl (by decide) rfl ?_
  refine Go.aload_n (k := 0) (i := 0) 2 (by decide +kernel) rfl rfl ?_
  refine Go.get 65 2 (.ref (ad E 58)) (by decide) (by decide) sh65 (ltO hE sh65) (vlR hE rfl rfl) lk345 (by decide +kernel) ?_
  refine Go.aload_n (k := 0) (i := 0) 2 (by decide +kernel) rfl rfl ?_
  refine Go.get 65 1 (.ref (ad E 21)) (by decide) (by decide) sh65 (ltO hE sh65) (vlR hE rfl rfl) lk344 (by decide +kernel) ?_
  refine Go.cV_i (P1 := P) (v := (f_Sa_place 21 P)) (d - 1) 21 [] sh21 hE w_Sa_place (e_Sa_place hG hE (d - 1) (by omega) 21 sh21 P ⟨rfl, rfl, rfl⟩) lk1087 rfl (by omega) (Nat.le_of_ble_eq_true rfl) (by decide +kernel) _ rfl ?_
  refine Go.aload_n (k := 0) (i := 0) 2 (by decide +kernel) rfl rfl ?_
  refine Go.get 65 1 (.ref (ad E 21)) (by decide) (by decide) sh65 (ltO hE sh65) (vlR hE rfl rfl) lk344 (by decide +kernel) ?_
  refine Go.get 21 3 (.int (P.1 21 3)) (by decide) (by decide) sh21 (ltO hE sh21) rfl lk163 (by decide +kernel) ?_
  obtain ⟨P1, hP1, h⟩ := St.bind h
  refine Go.cV_v (P1 := P1) (d - 1) 58 [.int (f_Sa_place 21 P), .int (P.1 21 3)] sh58 hE w_Pa_explore (e_Pa_explore hG hE (d - 1) (by omega) (f_Sa_place 21 P) (P.1 21 3) P ⟨_, hP1, rfl, rfl, rfl⟩) lk1088 rfl (by omega) (Nat.le_of_ble_eq_true rfl) (by decide +kernel) _ rfl ?_
  refine Go.iconst (n := 0) (0 : Int32) (by decide +kernel) rfl ?_
  refine Go.istore_n (k := 3) (i := 3) [(3, .int (0 : Int32)), (2, .int (8 : Int32)), (1, .int (-1 : Int32)), (0, .ref (ad E 65))] (by decide +kernel) rfl (by decide) rfl ?_
  refine Go.sub [3, 2, 1, 0] [(0, .ref (ad E 65)), (1, .int (-1 : Int32)), (2, .int (8 : Int32)), (3, .int (0 : Int32))] rfl ?_
  exact t_l_Sp_bestStopper_28 hG hE d hd FU (-1 : Int32) (8 : Int32) (0 : Int32) P1 h
theorem e_Sp_bestStopper {G : GX} (hG : GOK G) {E : EV} (hE : E0 E) (d : Nat) (hd : 6 ≤ d) (P : PM) {Q : QT} (h : St E rIP (f_Sp_bestStopper P) Q) : Con G y_Sp_bestStopper cw_Sp_bestStopper d nOb nOb [.ref (ad E 65)] P E Q :=
  Con.of hG (by decide +kernel) rfl (fun h => by cases h) hE.2 (Nat.le_of_ble_eq_true rfl) (t_f_Sp_bestStopper hG hE d hd P h)
abbrev c_Yr_stopper : ByteArray := prog_1_method_27_code
abbrev y_Yr_stopper : MethodName := ⟨"YawnRoute", "stopper", "()I"⟩
abbrev cw_Yr_stopper : Cond := .code y_Yr_stopper c_Yr_stopper 2 (some .int)
theorem w_Yr_stopper : VW 11 y_Yr_stopper c_Yr_stopper 2 (some .int) 0 := ⟨by decide, lk1121, lk1122, lk1, lk1123, ⟨by decide, by decide, by decide +kernel⟩, by decide⟩
noncomputable def f_Yr_stopper (P : PM) : Option (Int32 × PM) := lb (f_Yr_refusal (1 : Int32) (1 : Int32) P) (fun y1 => if y1 = (0 : Int32) then (bd2 (f_Sp_bestStopper P) (fun v3 P4 => some (v3, P4))) else (some (y1, P)))
theorem t_f_Yr_stopper {G : GX} (hG : GOK G) {E : EV} (hE : E0 E) (d : Nat) (hd : 7 ≤ d) {Q : QT} (P : PM) (h : St E rIP (f_Yr_stopper P) Q) : Go G c_Yr_stopper "YawnRoute" 2 (some .int) false d nOb nOb Q 0 [(0, .ref (ad E 0))] [] P E := by
  rw [f_Yr_stopper] at h
  refine Go.aload_n (k := 0) (i := 0) 0 (by decide +kernel) rfl rfl ?_
  refine Go.iconst (n := 1) (1 : Int32) (by decide +kernel) rfl ?_
  refine Go.iconst (n := 1) (1 : Int32) (by decide +kernel) rfl ?_
  refine Go.cV_i (P1 := P) (v := (f_Yr_refusal (1 : Int32) (1 : Int32) P)) (d - 1) 0 [.int (1 : Int32), .int (1 : Int32)] sh0 hE w_Yr_refusal (e_Yr_refusal hG hE (d - 1) (by omega) (1 : Int32) (1 : Int32) P ⟨rfl, rfl, rfl⟩) lk912 rfl (by omega) (Nat.le_of_ble_eq_true rfl) (by decide +kernel) _ rfl ?_
  obtain ⟨y1, hy1, h⟩ := St.lb h
  refine Go.eqi y1 hy1 ?_
  refine Go.istore_n (k := 1) (i := 1) [(1, .int y1), (0, .ref (ad E 0))] (by decide +kernel) rfl (by decide) rfl ?_
  refine Go.iload_n (k := 1) (i := 1) 0 (by decide +kernel) rfl rfl ?_
  refine Go.if_eq (off := 7) 15 (by decide +kernel) (by decide) (fun c2 => ?_) (fun c2 => ?_)
  · rw [if_pos c2] at h
    refine Go.aload_n (k := 0) (i := 0) 1 (by decide +kernel) rfl rfl ?_
    refine Go.get 0 8 (.ref (ad E 65)) (by decide) (by decide) sh0 (ltO hE sh0) (vlR hE rfl rfl) lk398 (by decide +kernel) ?_
    obtain ⟨v3, P4, hv3, h⟩ := St.bd2 h
    refine Go.cV_i (P1 := P4) (v := v3) (d - 1) 65 [] sh65 hE w_Sp_bestStopper (e_Sp_bestStopper hG hE (d - 1) (by omega) P ⟨_, hv3, rfl, rfl, rfl⟩) lk1124 rfl (by omega) (Nat.le_of_ble_eq_true rfl) (by decide +kernel) _ rfl ?_
    exact Go.iret rfl rfl hE.2 (by decide +kernel) (St.fIP h)
  · rw [if_neg c2] at h
    refine Go.iload_n (k := 1) (i := 1) 0 (by decide +kernel) rfl rfl ?_
    refine Go.goto (off := 10) 22 (by decide +kernel) (by decide) ?_
    exact Go.iret rfl rfl hE.2 (by decide +kernel) (St.fIP h)
theorem e_Yr_stopper {G : GX} (hG : GOK G) {E : EV} (hE : E0 E) (d : Nat) (hd : 7 ≤ d) (P : PM) {Q : QT} (h : St E rIP (f_Yr_stopper P) Q) : Con G y_Yr_stopper cw_Yr_stopper d nOb nOb [.ref (ad E 0)] P E Q :=
  Con.of hG (by decide +kernel) rfl (fun h => by cases h) hE.2 (Nat.le_of_ble_eq_true rfl) (t_f_Yr_stopper hG hE d hd P h)
abbrev c_Sp_isMet : ByteArray := prog_8_method_8_code
abbrev y_Sp_isMet : MethodName := ⟨"YawnRoute$Spreading", "isMet", "()Z"⟩
abbrev cw_Sp_isMet : Cond := .code y_Sp_isMet c_Sp_isMet 2 (some .boolean)
theorem w_Sp_isMet : VW 6 y_Sp_isMet c_Sp_isMet 2 (some .boolean) 0 := ⟨by decide, lk1142, lp38_, lk12, lk1143, ⟨by decide, by decide, by decide +kernel⟩, by decide⟩
noncomputable def j_Sp_isMet_28 (k2 : Int32 → Option Int32) (x1 : Int32) (P : PM) : Option Int32 := k2 (x1 + (1 : Int32))
noncomputable def l_Sp_isMet_2 : Nat → Int32 → PM → Option Int32
  | 0, _, _ => none
  | n + 1, x1, P => if (7 : Int32) ≤ x1 then (some (0 : Int32)) else (ck (inb x1 7) (if (P.1 66 x1.toNatClampNeg) ≤ (0 : Int32) then (j_Sp_isMet_28 (fun z0 => l_Sp_isMet_2 n z0 P) x1 P) else (ck (inb x1 7) (if (P.1 67 x1.toNatClampNeg) ≤ (0 : Int32) then (j_Sp_isMet_28 (fun z0 => l_Sp_isMet_2 n z0 P) x1 P) else (some (1 : Int32))))))
noncomputable def f_Sp_isMet (P : PM) : Option Int32 := l_Sp_isMet_2 FU (0 : Int32) P
theorem t_j_Sp_isMet_28 {G : GX} (hG : GOK G) {E : EV} (hE : E0 E) (d : Nat) (hd : 1 ≤ d) {P : PM} {Q : QT} (k2 : Int32 → Option Int32) (hk2 : ∀ (x1 : Int32), St E (rI P) (k2 x1) Q → Go G c_Sp_isMet "YawnRoute$Spreading" 2 (some .boolean) false d nOb nOb Q 2 [(0, .ref (ad E 65)), (1, .int x1)] [] P E) (x1 : Int32) (h : St E (rI P) (j_Sp_isMet_28 k2 x1 P) Q) : Go G c_Sp_isMet "YawnRoute$Spreading" 2 (some .boolean) false d nOb nOb Q 28 [(0, .ref (ad E 65)), (1, .int x1)] [] P E := by
  rw [j_Sp_isMet_28] at h
  refine Go.iinc (i := 1) (n := 1) 1 (x1 + (1 : Int32)) [(1, .int (x1 + (1 : Int32))), (0, .ref (ad E 65))] (by decide +kernel) rfl rfl (by decide) rfl ?_
  refine Go.goto (off := -29) 2 (by decide +kernel) (by decide) ?_
  refine Go.sub [1, 0] [(0, .ref (ad E 65)), (1, .int (x1 + (1 : Int32)))] rfl ?_
  exact hk2 (x1 + (1 : Int32)) h
theorem t_l_Sp_isMet_2 {G : GX} (hG : GOK G) {E : EV} (hE : E0 E) (d : Nat) (hd : 1 ≤ d) {P : PM} {Q : QT} : ∀ (n : Nat) (x1 : Int32), St E (rI P) (l_Sp_isMet_2 n x1 P) Q → Go G c_Sp_isMet "YawnRoute$Spreading" 2 (some .boolean) false d nOb nOb Q 2 [(0, .ref (ad E 65)), (1, .int x1)] [] P E := by
  intro n
  induction n with
  | zero =>
    intro x1 h
    rw [l_Sp_isMet_2] at h
    exact St.none_ h
  | succ n ih =>
    intro x1 h
    rw [l_Sp_isMet_2] at h
    refine Go.iload_n (k := 1) (i := 1) 1 (by decide +kernel) rfl rfl ?_
    refine Go.bipush (n := 7) (7 : Int32) (by decide +kernel) (by decide) ?_
    refine Go.icmp_ge (off := 29) 34 (by decide +kernel) (by decide) (fun c1 => ?_) (fun c1 => ?_)
    · rw [if_pos c1] at h
      refine Go.iconst (n := 0) (0 : Int32) (by decide +kernel) rfl ?_
      exact Go.iret rfl rfl hE.2 (by decide +kernel) (St.fI h)
    · rw [if_neg c1] at h
      refine Go.aload_n (k := 0) (i := 0) 0 (by decide +kernel) rfl rfl ?_
      refine Go.get 65 3 (.ref (ad E 66)) (by decide) (by decide) sh65 (ltO hE sh65) (vlR hE rfl rfl) lk346 (by decide +kernel) ?_
      refine Go.iload_n (k := 1) (i := 1) 1 (by decide +kernel) rfl rfl ?_
      obtain ⟨b2, h⟩ := St.ck h
      refine Go.iaload 66 7 sh66 (ltA hE sh66 (by decide)) (inb_in b2) (by decide +kernel) ?_
      refine Go.if_le (off := 14) 28 (by decide +kernel) (by decide) (fun c3 => ?_) (fun c3 => ?_)
      · rw [if_pos c3] at h
        exact t_j_Sp_isMet_28 hG hE d hd (fun z0 => l_Sp_isMet_2 n z0 P) (fun z0 q => ih z0 q) x1 h
      · rw [if_neg c3] at h
        refine Go.aload_n (k := 0) (i := 0) 0 (by decide +kernel) rfl rfl ?_
        refine Go.get 65 4 (.ref (ad E 67)) (by decide) (by decide) sh65 (ltO hE sh65) (vlR hE rfl rfl) lk347 (by decide +kernel) ?_
        refine Go.iload_n (k := 1) (i := 1) 1 (by decide +kernel) rfl rfl ?_
        obtain ⟨b4, h⟩ := St.ck h
        refine Go.iaload 67 7 sh67 (ltA hE sh67 (by decide)) (inb_in b4) (by decide +kernel) ?_
        refine Go.if_le (off := 5) 28 (by decide +kernel) (by decide) (fun c5 => ?_) (fun c5 => ?_)
        · rw [if_pos c5] at h
          exact t_j_Sp_isMet_28 hG hE d hd (fun z0 => l_Sp_isMet_2 n z0 P) (fun z0 q => ih z0 q) x1 h
        · rw [if_neg c5] at h
          refine Go.iconst (n := 1) (1 : Int32) (by decide +kernel) rfl ?_
          exact Go.iret rfl rfl hE.2 (by decide +kernel) (St.fI h)
theorem t_f_Sp_isMet {G : GX} (hG : GOK G) {E : EV} (hE : E0 E) (d : Nat) (hd : 1 ≤ d) {P : PM} {Q : QT} (h : St E (rI P) (f_Sp_isMet P) Q) : Go G c_Sp_isMet "YawnRoute$Spreading" 2 (some .boolean) false d nOb nOb Q 0 [(0, .ref (ad E 65))] [] P E := by
  rw [f_Sp_isMet] at h
  refine Go.iconst (n := 0) (0 : Int32) (by decide +kernel) rfl ?_
  refine Go.istore_n (k := 1) (i := 1) [(1, .int (0 : Int32)), (0, .ref (ad E 65))] (by decide +kernel) rfl (by decide) rfl ?_
  refine Go.sub [1, 0] [(0, .ref (ad E 65)), (1, .int (0 : Int32))] rfl ?_
  exact t_l_Sp_isMet_2 hG hE d hd FU (0 : Int32) h
theorem e_Sp_isMet {G : GX} (hG : GOK G) {E : EV} (hE : E0 E) (d : Nat) (hd : 1 ≤ d) (P : PM) {Q : QT} (h : St E (rI P) (f_Sp_isMet P) Q) : Con G y_Sp_isMet cw_Sp_isMet d nOb nOb [.ref (ad E 65)] P E Q :=
  Con.of hG (by decide +kernel) rfl (fun h => by cases h) hE.2 (Nat.le_of_ble_eq_true rfl) (t_f_Sp_isMet hG hE d hd h)
