/-! methods as functions, by program: Yr_sleep De_tryDull Yr_dull Jm_floorMod De_takeBack Yr_undo De_tryDeed Tr_isTray Tr_lengthOf Tr_numberAt De_tryAll De_tryOut Tr_isMissing -/
abbrev c_Yr_sleep : ByteArray := prog_1_method_10_code
abbrev y_Yr_sleep : MethodName := ⟨"YawnRoute", "sleep", "(I)I"⟩
abbrev cw_Yr_sleep : Cond := .code y_Yr_sleep c_Yr_sleep 3 (some .int)
theorem w_Yr_sleep : VW 11 y_Yr_sleep c_Yr_sleep 3 (some .int) 1 := ⟨by decide, lk819, lk820, lk1, lk821, ⟨by decide, by decide, by decide +kernel⟩, by decide⟩
noncomputable def f_Yr_sleep (a1 : Int32) (P : PM) : Option (Int32 × PM) := (f_De_note P).bind (fun P1 => bd2 (f_De_trySleep 21 a1 P1) (fun v2 P3 => if (f_Sa_isAsleep 21 a1 P3) = (0 : Int32) then (bd2 (f_Yr_answered v2 (0 : Int32) P3) (fun v5 P6 => some (v5, P6))) else (bd2 (f_Yr_answered v2 (1 : Int32) P3) (fun v7 P8 => some (v7, P8)))))
theorem t_f_Yr_sleep {G : GX} (hG : GOK G) {E : EV} (hE : E0 E) (d : Nat) (hd : 3 ≤ d) {Q : QT} (a1 : Int32) (P : PM) (h : St E rIP (f_Yr_sleep a1 P) Q) : Go G c_Yr_sleep "YawnRoute" 3 (some .int) false d nOb nOb Q 0 [(0, .ref (ad E 0)), (1, .int a1)] [] P E := by
  rw [f_Yr_sleep] at h
  refine Go.aload_n (k := 0) (i := 0) 0 (by decide +kernel) rfl rfl ?_
  refine Go.get 0 5 (.ref (ad E 31)) (by decide) (by decide) sh0 (ltO hE sh0) (vlR hE rfl rfl) lk395 (by decide +kernel) ?_
  obtain ⟨P1, hP1, h⟩ := St.bind h
  refine Go.cV_v (P1 := P1) (d - 1) 31 [] sh31 hE w_De_note (e_De_note hG hE (d - 1) (by omega) P ⟨_, hP1, rfl, rfl, rfl⟩) lk787 rfl (by omega) (Nat.le_of_ble_eq_true rfl) (by decide +kernel) _ rfl ?_
  refine Go.aload_n (k := 0) (i := 0) 0 (by decide +kernel) rfl rfl ?_
  refine Go.get 0 5 (.ref (ad E 31)) (by decide) (by decide) sh0 (ltO hE sh0) (vlR hE rfl rfl) lk395 (by decide +kernel) ?_
  refine Go.aload_n (k := 0) (i := 0) 0 (by decide +kernel) rfl rfl ?_
  refine Go.get 0 3 (.ref (ad E 21)) (by decide) (by decide) sh0 (ltO hE sh0) (vlR hE rfl rfl) lk393 (by decide +kernel) ?_
  refine Go.iload_n (k := 1) (i := 1) 1 (by decide +kernel) rfl rfl ?_
  obtain ⟨v2, P3, hv2, h⟩ := St.bd2 h
  refine Go.cV_i (P1 := P3) (v := v2) (d - 1) 31 [.ref (ad E 21), .int a1] sh31 hE w_De_trySleep (e_De_trySleep hG hE (d - 1) (by omega) 21 sh21 a1 P1 ⟨_, hv2, rfl, rfl, rfl⟩) lk822 rfl (by omega) (Nat.le_of_ble_eq_true rfl) (by decide +kernel) _ rfl ?_
  refine Go.istore_n (k := 2) (i := 2) [(2, .int v2), (0, .ref (ad E 0)), (1, .int a1)] (by decide +kernel) rfl (by decide) rfl ?_
  refine Go.aload_n (k := 0) (i := 0) 1 (by decide +kernel) rfl rfl ?_
  refine Go.iload_n (k := 2) (i := 2) 0 (by decide +kernel) rfl rfl ?_
  refine Go.aload_n (k := 0) (i := 0) 1 (by decide +kernel) rfl rfl ?_
  refine Go.get 0 3 (.ref (ad E 21)) (by decide) (by decide) sh0 (ltO hE sh0) (vlR hE rfl rfl) lk393 (by decide +kernel) ?_
  refine Go.iload_n (k := 1) (i := 1) 2 (by decide +kernel) rfl rfl ?_
  refine Go.cV_i (P1 := P3) (v := (f_Sa_isAsleep 21 a1 P3)) (d - 1) 21 [.int a1] sh21 hE w_Sa_isAsleep (e_Sa_isAsleep hG hE (d - 1) (by omega) 21 sh21 a1 P3 ⟨rfl, rfl, rfl⟩) lk731 rfl (by omega) (Nat.le_of_ble_eq_true rfl) (by decide +kernel) _ rfl ?_
  refine Go.if_eq (off := 7) 37 (by decide +kernel) (by decide) (fun c4 => ?_) (fun c4 => ?_)
  · rw [if_pos c4] at h
    refine Go.iconst (n := 0) (0 : Int32) (by decide +kernel) rfl ?_
    obtain ⟨v5, P6, hv5, h⟩ := St.bd2 h
    refine Go.cV_i (P1 := P6) (v := v5) (d - 1) 0 [.int v2, .int (0 : Int32)] sh0 hE w_Yr_answered (e_Yr_answered hG hE (d - 1) (by omega) v2 (0 : Int32) P3 ⟨_, hv5, rfl, rfl, rfl⟩) lk798 rfl (by omega) (Nat.le_of_ble_eq_true rfl) (by decide +kernel) _ rfl ?_
    exact Go.iret rfl rfl hE.2 (by decide +kernel) (St.fIP h)
  · rw [if_neg c4] at h
    refine Go.iconst (n := 1) (1 : Int32) (by decide +kernel) rfl ?_
    refine Go.goto (off := 4) 38 (by decide +kernel) (by decide) ?_
    obtain ⟨v7, P8, hv7, h⟩ := St.bd2 h
    refine Go.cV_i (P1 := P8) (v := v7) (d - 1) 0 [.int v2, .int (1 : Int32)] sh0 hE w_Yr_answered (e_Yr_answered hG hE (d - 1) (by omega) v2 (1 : Int32) P3 ⟨_, hv7, rfl, rfl, rfl⟩) lk798 rfl (by omega) (Nat.le_of_ble_eq_true rfl) (by decide +kernel) _ rfl ?_
    exact Go.iret rfl rfl hE.2 (by decide +kernel) (St.fIP h)
theorem e_Yr_sleep {G : GX} (hG : GOK G) {E : EV} (hE : E0 E) (d : Nat) (hd : 3 ≤ d) (a1 : Int32) (P : PM) {Q : QT} (h : St E rIP (f_Yr_sleep a1 P) Q) : Con G y_Yr_sleep cw_Yr_sleep d nOb nOb [.ref (ad E 0), .int a1] P E Q :=
  Con.of hG (by decide +kernel) rfl (fun h => by cases h) hE.2 (Nat.le_of_ble_eq_true rfl) (t_f_Yr_sleep hG hE d hd a1 P h)
abbrev c_De_tryDull : ByteArray := prog_2_method_10_code
abbrev y_De_tryDull : MethodName := ⟨"YawnRoute$Deeds", "tryDull", "(LYawnRoute$State;II)I"⟩
abbrev cw_De_tryDull : Cond := .code y_De_tryDull c_De_tryDull 4 (some .int)
theorem w_De_tryDull : VW 0 y_De_tryDull c_De_tryDull 4 (some .int) 3 := ⟨by decide, lk831, lk832, lk8, lk833, ⟨by decide, by decide, by decide +kernel⟩, by decide⟩
noncomputable def f_De_tryDull (a1 : Nat) (a2 : Int32) (a3 : Int32) (P : PM) : Option (Int32 × PM) := if (f_Ne_isStation 14 a2 P) = (0 : Int32) then (some ((1 : Int32), P)) else (if a3 < (0 : Int32) then (some ((1 : Int32), P)) else (if a3 < (10 : Int32) then ((f_Sa_setDull a1 a2 a3 P).bind (fun P4 => some ((0 : Int32), P4))) else (some ((1 : Int32), P))))
theorem t_f_De_tryDull {G : GX} (hG : GOK G) {E : EV} (hE : E0 E) (d : Nat) (hd : 2 ≤ d) {Q : QT} (a1 : Nat) (ha1 : sh a1 = .inl 7) (a2 : Int32) (a3 : Int32) (P : PM) (h : St E rIP (f_De_tryDull a1 a2 a3 P) Q) : Go G c_De_tryDull "YawnRoute$Deeds" 4 (some .int) false d nOb nOb Q 0 [(0, .ref (ad E 31)), (1, .ref (ad E a1)), (2, .int a2), (3, .int a3)] [] P E := by
  rw [f_De_tryDull] at h
  refine Go.aload_n (k := 0) (i := 0) 0 (by decide +kernel) rfl rfl ?_
  refine Go.get 31 0 (.ref (ad E 14)) (by decide) (by decide) sh31 (ltO hE sh31) (vlR hE rfl rfl) lk242 (by decide +kernel) ?_
  refine Go.iload_n (k := 2) (i := 2) 2 (by decide +kernel) rfl rfl ?_
  refine Go.cV_i (P1 := P) (v := (f_Ne_isStation 14 a2 P)) (d - 1) 14 [.int a2] sh14 hE w_Ne_isStation (e_Ne_isStation hG hE (d - 1) (by omega) 14 sh14 a2 P ⟨rfl, rfl, rfl⟩) lk796 rfl (by omega) (Nat.le_of_ble_eq_true rfl) (by decide +kernel) _ rfl ?_
  refine Go.if_eq (off := 13) 21 (by decide +kernel) (by decide) (fun c1 => ?_) (fun c1 => ?_)
  · rw [if_pos c1] at h
    refine Go.iconst (n := 1) (1 : Int32) (by decide +kernel) rfl ?_
    exact Go.iret rfl rfl hE.2 (by decide +kernel) (St.fIP h)
  · rw [if_neg c1] at h
    refine Go.iload_n (k := 3) (i := 3) 3 (by decide +kernel) rfl rfl ?_
    refine Go.if_lt (off := 9) 21 (by decide +kernel) (by decide) (fun c2 => ?_) (fun c2 => ?_)
    · rw [if_pos c2] at h
      refine Go.iconst (n := 1) (1 : Int32) (by decide +kernel) rfl ?_
      exact Go.iret rfl rfl hE.2 (by decide +kernel) (St.fIP h)
    · rw [if_neg c2] at h
      refine Go.iload_n (k := 3) (i := 3) 3 (by decide +kernel) rfl rfl ?_
      refine Go.bipush (n := 10) (10 : Int32) (by decide +kernel) (by decide) ?_
      refine Go.icmp_lt (off := 5) 23 (by decide +kernel) (by decide) (fun c3 => ?_) (fun c3 => ?_)
      · rw [if_pos c3] at h
        refine Go.aload_n (k := 1) (i := 1) 1 (by decide +kernel) rfl rfl ?_
        refine Go.iload_n (k := 2) (i := 2) 2 (by decide +kernel) rfl rfl ?_
        refine Go.iload_n (k := 3) (i := 3) 3 (by decide +kernel) rfl rfl ?_
        obtain ⟨P4, hP4, h⟩ := St.bind h
        refine Go.cV_v (P1 := P4) (d - 1) a1 [.int a2, .int a3] ha1 hE w_Sa_setDull (e_Sa_setDull hG hE (d - 1) (by omega) a1 ha1 a2 a3 P ⟨_, hP4, rfl, rfl, rfl⟩) lk834 rfl (by omega) (Nat.le_of_ble_eq_true rfl) (by decide +kernel) _ rfl ?_
        refine Go.iconst (n := 0) (0 : Int32) (by decide +kernel) rfl ?_
        exact Go.iret rfl rfl hE.2 (by decide +kernel) (St.fIP h)
      · rw [if_neg c3] at h
        refine Go.iconst (n := 1) (1 : Int32) (by decide +kernel) rfl ?_
        exact Go.iret rfl rfl hE.2 (by decide +kernel) (St.fIP h)
theorem e_De_tryDull {G : GX} (hG : GOK G) {E : EV} (hE : E0 E) (d : Nat) (hd : 2 ≤ d) (a1 : Nat) (ha1 : sh a1 = .inl 7) (a2 : Int32) (a3 : Int32) (P : PM) {Q : QT} (h : St E rIP (f_De_tryDull a1 a2 a3 P) Q) : Con G y_De_tryDull cw_De_tryDull d nOb nOb [.ref (ad E 31), .ref (ad E a1), .int a2, .int a3] P E Q :=
  Con.of hG (by decide +kernel) rfl (fun h => by cases h) hE.2 (Nat.le_of_ble_eq_true rfl) (t_f_De_tryDull hG hE d hd a1 ha1 a2 a3 P h)
abbrev c_Yr_dull : ByteArray := prog_1_method_11_code
abbrev y_Yr_dull : MethodName := ⟨"YawnRoute", "dull", "(II)I"⟩
abbrev cw_Yr_dull : Cond := .code y_Yr_dull c_Yr_dull 5 (some .int)
theorem w_Yr_dull : VW 11 y_Yr_dull c_Yr_dull 5 (some .int) 2 := ⟨by decide, lk827, lk828, lk1, lk829, ⟨by decide, by decide, by decide +kernel⟩, by decide⟩
noncomputable def f_Yr_dull (a1 : Int32) (a2 : Int32) (P : PM) : Option (Int32 × PM) := (f_De_note P).bind (fun P1 => (f_Sa_dullOf 21 a1 P1).bind (fun v2 => bd2 (f_De_tryDull 21 a1 a2 P1) (fun v3 P4 => bd2 (f_Yr_answered v3 v2 P4) (fun v5 P6 => some (v5, P6)))))
theorem t_f_Yr_dull {G : GX} (hG : GOK G) {E : EV} (hE : E0 E) (d : Nat) (hd : 3 ≤ d) {Q : QT} (a1 : Int32) (a2 : Int32) (P : PM) (h : St E rIP (f_Yr_dull a1 a2 P) Q) : Go G c_Yr_dull "YawnRoute" 5 (some .int) false d nOb nOb Q 0 [(0, .ref (ad E 0)), (1, .int a1), (2, .int a2)] [] P E := by
  rw [f_Yr_dull] at h
  refine Go.aload_n (k := 0) (i := 0) 0 (by decide +kernel) rfl rfl ?_
  refine Go.get 0 5 (.ref (ad E 31)) (by decide) (by decide) sh0 (ltO hE sh0) (vlR hE rfl rfl) lk395 (by decide +kernel) ?_
  obtain ⟨P1, hP1, h⟩ := St.bind h
  refine Go.cV_v (P1 := P1) (d - 1) 31 [] sh31 hE w_De_note (e_De_note hG hE (d - 1) (by omega) P ⟨_, hP1, rfl, rfl, rfl⟩) lk787 rfl (by omega) (Nat.le_of_ble_eq_true rfl) (by decide +kernel) _ rfl ?_
  refine Go.aload_n (k := 0) (i := 0) 0 (by decide +kernel) rfl rfl ?_
  refine Go.get 0 3 (.ref (ad E 21)) (by decide) (by decide) sh0 (ltO hE sh0) (vlR hE rfl rfl) lk393 (by decide +kernel) ?_
  refine Go.iload_n (k := 1) (i := 1) 1 (by decide +kernel) rfl rfl ?_
  obtain ⟨v2, hv2, h⟩ := St.bind h
  refine Go.cV_i (P1 := P1) (v := v2) (d - 1) 21 [.int a1] sh21 hE w_Sa_dullOf (e_Sa_dullOf hG hE (d - 1) (by omega) 21 sh21 a1 P1 ⟨_, hv2, rfl, rfl, rfl⟩) lk727 rfl (by omega) (Nat.le_of_ble_eq_true rfl) (by decide +kernel) _ rfl ?_
  refine Go.istore_n (k := 3) (i := 3) [(3, .int v2), (0, .ref (ad E 0)), (1, .int a1), (2, .int a2)] (by decide +kernel) rfl (by decide) rfl ?_
  refine Go.aload_n (k := 0) (i := 0) 1 (by decide +kernel) rfl rfl ?_
  refine Go.get 0 5 (.ref (ad E 31)) (by decide) (by decide) sh0 (ltO hE sh0) (vlR hE rfl rfl) lk395 (by decide +kernel) ?_
  refine Go.aload_n (k := 0) (i := 0) 1 (by decide +kernel) rfl rfl ?_
  refine Go.get 0 3 (.ref (ad E 21)) (by decide) (by decide) sh0 (ltO hE sh0) (vlR hE rfl rfl) lk393 (by decide +kernel) ?_
  refine Go.iload_n (k := 1) (i := 1) 2 (by decide +kernel) rfl rfl ?_
  refine Go.iload_n (k := 2) (i := 2) 3 (by decide +kernel) rfl rfl ?_
  obtain ⟨v3, P4, hv3, h⟩ := St.bd2 h
  refine Go.cV_i (P1 := P4) (v := v3) (d - 1) 31 [.ref (ad E 21), .int a1, .int a2] sh31 hE w_De_tryDull (e_De_tryDull hG hE (d - 1) (by omega) 21 sh21 a1 a2 P1 ⟨_, hv3, rfl, rfl, rfl⟩) lk830 rfl (by omega) (Nat.le_of_ble_eq_true rfl) (by decide +kernel) _ rfl ?_
  refine Go.istore (i := 4) [(4, .int v3), (3, .int v2), (0, .ref (ad E 0)), (1, .int a1), (2, .int a2)] (by decide +kernel) (by decide) rfl ?_
  refine Go.aload_n (k := 0) (i := 0) 2 (by decide +kernel) rfl rfl ?_
  refine Go.iload (i := 4) 0 (by decide +kernel) rfl ?_
  refine Go.iload_n (k := 3) (i := 3) 1 (by decide +kernel) rfl rfl ?_
  obtain ⟨v5, P6, hv5, h⟩ := St.bd2 h
  refine Go.cV_i (P1 := P6) (v := v5) (d - 1) 0 [.int v3, .int v2] sh0 hE w_Yr_answered (e_Yr_answered hG hE (d - 1) (by omega) v3 v2 P4 ⟨_, hv5, rfl, rfl, rfl⟩) lk798 rfl (by omega) (Nat.le_of_ble_eq_true rfl) (by decide +kernel) _ rfl ?_
  exact Go.iret rfl rfl hE.2 (by decide +kernel) (St.fIP h)
theorem e_Yr_dull {G : GX} (hG : GOK G) {E : EV} (hE : E0 E) (d : Nat) (hd : 3 ≤ d) (a1 : Int32) (a2 : Int32) (P : PM) {Q : QT} (h : St E rIP (f_Yr_dull a1 a2 P) Q) : Con G y_Yr_dull cw_Yr_dull d nOb nOb [.ref (ad E 0), .int a1, .int a2] P E Q :=
  Con.of hG (by decide +kernel) rfl (fun h => by cases h) hE.2 (Nat.le_of_ble_eq_true rfl) (t_f_Yr_dull hG hE d hd a1 a2 P h)
abbrev c_Jm_floorMod : ByteArray := prog_17_method_50_code
abbrev y_Jm_floorMod : MethodName := ⟨"java/lang/Math", "floorMod", "(II)I"⟩
abbrev cw_Jm_floorMod : Cond := .code y_Jm_floorMod c_Jm_floorMod 3 (some .int)
theorem w_Jm_floorMod : SW y_Jm_floorMod c_Jm_floorMod 3 (some .int) 2 := ⟨lk844, lk15, lk845, ⟨by decide, by decide, by decide +kernel⟩, by decide⟩
noncomputable def f_Jm_floorMod (a0 : Int32) (a1 : Int32) (P : PM) : Option Int32 := ck (decide (¬ a1 = 0)) (lb (a0 - a0 / a1 * a1) (fun y2 => if (0 : Int32) ≤ (a0 ^^^ a1) then (some y2) else (if y2 = (0 : Int32) then (some y2) else (some (y2 + a1)))))
theorem t_f_Jm_floorMod {G : GX} (hG : GOK G) {E : EV} (hE : E0 E) (d : Nat) (hd : 1 ≤ d) {P : PM} {Q : QT} (a0 : Int32) (a1 : Int32) (h : St E (rI P) (f_Jm_floorMod a0 a1 P) Q) : Go G c_Jm_floorMod "java/lang/Math" 3 (some .int) false d nOb nOb Q 0 [(0, .int a0), (1, .int a1)] [] P E := by
  rw [f_Jm_floorMod] at h
  refine Go.iload_n (k := 0) (i := 0) 0 (by decide +kernel) rfl rfl ?_
  refine Go.iload_n (k := 1) (i := 1) 1 (by decide +kernel) rfl rfl ?_
  obtain ⟨b1, h⟩ := St.ck h
  refine Go.irem (by decide +kernel) (of_decide_eq_true b1) ?_
  obtain ⟨y2, hy2, h⟩ := St.lb h
  refine Go.eqi y2 hy2 ?_
  refine Go.istore_n (k := 2) (i := 2) [(2, .int y2), (0, .int a0), (1, .int a1)] (by decide +kernel) rfl (by decide) rfl ?_
  refine Go.iload_n (k := 0) (i := 0) 1 (by decide +kernel) rfl rfl ?_
  refine Go.iload_n (k := 1) (i := 1) 2 (by decide +kernel) rfl rfl ?_
  refine Go.ixor (by decide +kernel) ?_
  refine Go.if_ge (off := 11) 18 (by decide +kernel) (by decide) (fun c3 => ?_) (fun c3 => ?_)
  · rw [if_pos c3] at h
    refine Go.iload_n (k := 2) (i := 2) 0 (by decide +kernel) rfl rfl ?_
    exact Go.iret rfl rfl hE.2 (by decide +kernel) (St.fI h)
  · rw [if_neg c3] at h
    refine Go.iload_n (k := 2) (i := 2) 0 (by decide +kernel) rfl rfl ?_
    refine Go.if_eq (off := 7) 18 (by decide +kernel) (by decide) (fun c4 => ?_) (fun c4 => ?_)
    · rw [if_pos c4] at h
      refine Go.iload_n (k := 2) (i := 2) 0 (by decide +kernel) rfl rfl ?_
      exact Go.iret rfl rfl hE.2 (by decide +kernel) (St.fI h)
    · rw [if_neg c4] at h
      refine Go.iload_n (k := 2) (i := 2) 0 (by decide +kernel) rfl rfl ?_
      refine Go.iload_n (k := 1) (i := 1) 2 (by decide +kernel) rfl rfl ?_
      refine Go.iadd (by decide +kernel) ?_
      exact Go.iret rfl rfl hE.2 (by decide +kernel) (St.fI h)
theorem e_Jm_floorMod {G : GX} (hG : GOK G) {E : EV} (hE : E0 E) (d : Nat) (hd : 1 ≤ d) (a0 : Int32) (a1 : Int32) (P : PM) {Q : QT} (h : St E (rI P) (f_Jm_floorMod a0 a1 P) Q) : Con G y_Jm_floorMod cw_Jm_floorMod d nOb nOb [.int a0, .int a1] P E Q :=
  Con.of hG (by decide +kernel) rfl (fun h => by cases h) hE.2 (Nat.le_of_ble_eq_true rfl) (t_f_Jm_floorMod hG hE d hd a0 a1 h)
abbrev c_De_takeBack : ByteArray := prog_2_method_4_code
abbrev y_De_takeBack : MethodName := ⟨"YawnRoute$Deeds", "takeBack", "(I)V"⟩
abbrev cw_De_takeBack : Cond := .code y_De_takeBack c_De_takeBack 2 none
theorem w_De_takeBack : VW 0 y_De_takeBack c_De_takeBack 2 none 1 := ⟨by decide, lk840, lk841, lk8, lk842, ⟨by decide, by decide, by decide +kernel⟩, by decide⟩
noncomputable def f_De_takeBack (a1 : Int32) (P : PM) : Option PM := (f_Jm_floorMod ((P.1 31 7) - a1) (11 : Int32) P).bind (fun v1 => ck (inb ((u1 (u1 P 31 7 v1) 31 5 (((u1 P 31 7 v1).1 31 5) - a1)).1 31 7) 11) ((f_Sa_copy 21 (36 + 2 * ((u1 (u1 P 31 7 v1) 31 5 (((u1 P 31 7 v1).1 31 5) - a1)).1 31 7).toNatClampNeg) (u1 (u1 P 31 7 v1) 31 5 (((u1 P 31 7 v1).1 31 5) - a1))).bind (fun P3 => some P3)))
theorem t_f_De_takeBack {G : GX} (hG : GOK G) {E : EV} (hE : E0 E) (d : Nat) (hd : 2 ≤ d) {Q : QT} (a1 : Int32) (P : PM) (h : St E rP (f_De_takeBack a1 P) Q) : Go G c_De_takeBack "YawnRoute$Deeds" 2 none false d nOb nOb Q 0 [(0, .ref (ad E 31)), (1, .int a1)] [] P E := by
  rw [f_De_takeBack] at h
  refine Go.aload_n (k := 0) (i := 0) 0 (by decide +kernel) rfl rfl ?_
  refine Go.aload_n (k := 0) (i := 0) 0 (by decide +kernel) rfl rfl ?_
  refine Go.get 31 7 (.int (P.1 31 7)) (by decide) (by decide) sh31 (ltO hE sh31) rfl lk252 (by decide +kernel) ?_
  refine Go.iload_n (k := 1) (i := 1) 1 (by decide +kernel) rfl rfl ?_
  refine Go.isub (by decide +kernel) ?_
  refine Go.bipush (n := 11) (11 : Int32) (by decide +kernel) (by decide) ?_
  obtain ⟨v1, hv1, h⟩ := St.bind h
  refine Go.cS_i (P1 := P) (v := v1) (d - 1) [.int ((P.1 31 7) - a1), .int (11 : Int32)] hE w_Jm_floorMod (e_Jm_floorMod hG hE (d - 1) (by omega) ((P.1 31 7) - a1) (11 : Int32) P ⟨_, hv1, rfl, rfl, rfl⟩) lk843 rfl (by omega) (Nat.le_of_ble_eq_true rfl) (by decide +kernel) _ rfl ?_
  refine Go.put 31 7 (by decide) (by decide) sh31 (ltO hE sh31) (Or.inl rfl) rfl rfl rfl lk252 (by decide +kernel) ?_
  refine Go.aload_n (k := 0) (i := 0) 0 (by decide +kernel) rfl rfl ?_
  refine Go.dup (by decide +kernel) rfl ?_
  refine Go.get 31 5 (.int ((u1 P 31 7 v1).1 31 5)) (by decide) (by decide) sh31 (ltO hE sh31) rfl lk249 (by decide +kernel) ?_
  refine Go.iload_n (k := 1) (i := 1) 1 (by decide +kernel) rfl rfl ?_
  refine Go.isub (by decide +kernel) ?_
  refine Go.put 31 5 (by decide) (by decide) sh31 (ltO hE sh31) (Or.inl rfl) rfl rfl rfl lk249 (by decide +kernel) ?_
  refine Go.aload_n (k := 0) (i := 0) 0 (by decide +kernel) rfl rfl ?_
  refine Go.get 31 1 (.ref (ad E 21)) (by decide) (by decide) sh31 (ltO hE sh31) (vlR hE rfl rfl) lk243 (by decide +kernel) ?_
  refine Go.aload_n (k := 0) (i := 0) 0 (by decide +kernel) rfl rfl ?_
  refine Go.get 31 6 (.ref (ad E 34)) (by decide) (by decide) sh31 (ltO hE sh31) (vlR hE rfl rfl) lk251 (by decide +kernel) ?_
  refine Go.aload_n (k := 0) (i := 0) 0 (by decide +kernel) rfl rfl ?_
  refine Go.get 31 7 (.int ((u1 (u1 P 31 7 v1) 31 5 (((u1 P 31 7 v1).1 31 5) - a1)).1 31 7)) (by decide) (by decide) sh31 (ltO hE sh31) rfl lk252 (by decide +kernel) ?_
  obtain ⟨b2, h⟩ := St.ck h
  refine Go.aaload 34 4 11 (36 + 2 * ((u1 (u1 P 31 7 v1) 31 5 (((u1 P 31 7 v1).1 31 5) - a1)).1 31 7).toNatClampNeg) sh34 (by decide) (ltA hE sh34 (by decide)) (inb_in b2) (by rw [hE.1]; exact raR34 b2) (by decide +kernel) ?_
  obtain ⟨P3, hP3, h⟩ := St.bind h
  refine Go.cV_v (P1 := P3) (d - 1) 21 [.ref (ad E (36 + 2 * ((u1 (u1 P 31 7 v1) 31 5 (((u1 P 31 7 v1).1 31 5) - a1)).1 31 7).toNatClampNeg))] sh21 hE w_Sa_copy (e_Sa_copy hG hE (d - 1) (by omega) 21 sh21 (36 + 2 * ((u1 (u1 P 31 7 v1) 31 5 (((u1 P 31 7 v1).1 31 5) - a1)).1 31 7).toNatClampNeg) (raS34 b2) (u1 (u1 P 31 7 v1) 31 5 (((u1 P 31 7 v1).1 31 5) - a1)) ⟨_, hP3, rfl, rfl, rfl⟩) lk791 rfl (by omega) (Nat.le_of_ble_eq_true rfl) (by decide +kernel) _ rfl ?_
  exact Go.vret rfl hE.2 (by decide +kernel) (St.fP h)
theorem e_De_takeBack {G : GX} (hG : GOK G) {E : EV} (hE : E0 E) (d : Nat) (hd : 2 ≤ d) (a1 : Int32) (P : PM) {Q : QT} (h : St E rP (f_De_takeBack a1 P) Q) : Con G y_De_takeBack cw_De_takeBack d nOb nOb [.ref (ad E 31), .int a1] P E Q :=
  Con.of hG (by decide +kernel) rfl (fun h => by cases h) hE.2 (Nat.le_of_ble_eq_true rfl) (t_f_De_takeBack hG hE d hd a1 P h)
abbrev c_Yr_undo : ByteArray := prog_1_method_12_code
abbrev y_Yr_undo : MethodName := ⟨"YawnRoute", "undo", "(I)I"⟩
abbrev cw_Yr_undo : Cond := .code y_Yr_undo c_Yr_undo 2 (some .int)
theorem w_Yr_undo : VW 11 y_Yr_undo c_Yr_undo 2 (some .int) 1 := ⟨by decide, lk836, lk837, lk1, lk838, ⟨by decide, by decide, by decide +kernel⟩, by decide⟩
noncomputable def f_Yr_undo (a1 : Int32) (P : PM) : Option (Int32 × PM) := if a1 < (1 : Int32) then (some ((-3 : Int32), P)) else (if a1 ≤ (P.1 31 5) then ((f_De_takeBack a1 P).bind (fun P3 => some ((P3.1 31 5), P3))) else (some ((-3 : Int32), P)))
theorem t_f_Yr_undo {G : GX} (hG : GOK G) {E : EV} (hE : E0 E) (d : Nat) (hd : 3 ≤ d) {Q : QT} (a1 : Int32) (P : PM) (h : St E rIP (f_Yr_undo a1 P) Q) : Go G c_Yr_undo "YawnRoute" 2 (some .int) false d nOb nOb Q 0 [(0, .ref (ad E 0)), (1, .int a1)] [] P E := by
  rw [f_Yr_undo] at h
  refine Go.iload_n (k := 1) (i := 1) 1 (by decide +kernel) rfl rfl ?_
  refine Go.iconst (n := 1) (1 : Int32) (by decide +kernel) rfl ?_
  refine Go.icmp_lt (off := 14) 16 (by decide +kernel) (by decide) (fun c1 => ?_) (fun c1 => ?_)
  · rw [if_pos c1] at h
    refine Go.bipush (n := -3) (-3 : Int32) (by decide +kernel) (by decide) ?_
    exact Go.iret rfl rfl hE.2 (by decide +kernel) (St.fIP h)
  · rw [if_neg c1] at h
    refine Go.iload_n (k := 1) (i := 1) 1 (by decide +kernel) rfl rfl ?_
    refine Go.aload_n (k := 0) (i := 0) 0 (by decide +kernel) rfl rfl ?_
    refine Go.get 0 5 (.ref (ad E 31)) (by decide) (by decide) sh0 (ltO hE sh0) (vlR hE rfl rfl) lk395 (by decide +kernel) ?_
    refine Go.get 31 5 (.int (P.1 31 5)) (by decide) (by decide) sh31 (ltO hE sh31) rfl lk250 (by decide +kernel) ?_
    refine Go.icmp_le (off := 6) 19 (by decide +kernel) (by decide) (fun c2 => ?_) (fun c2 => ?_)
    · rw [if_pos c2] at h
      refine Go.aload_n (k := 0) (i := 0) 0 (by decide +kernel) rfl rfl ?_
      refine Go.get 0 5 (.ref (ad E 31)) (by decide) (by decide) sh0 (ltO hE sh0) (vlR hE rfl rfl) lk395 (by decide +kernel) ?_
      refine Go.iload_n (k := 1) (i := 1) 1 (by decide +kernel) rfl rfl ?_
      obtain ⟨P3, hP3, h⟩ := St.bind h
      refine Go.cV_v (P1 := P3) (d - 1) 31 [.int a1] sh31 hE w_De_takeBack (e_De_takeBack hG hE (d - 1) (by omega) a1 P ⟨_, hP3, rfl, rfl, rfl⟩) lk839 rfl (by omega) (Nat.le_of_ble_eq_true rfl) (by decide +kernel) _ rfl ?_
      refine Go.aload_n (k := 0) (i := 0) 0 (by decide +kernel) rfl rfl ?_
      refine Go.get 0 5 (.ref (ad E 31)) (by decide) (by decide) sh0 (ltO hE sh0) (vlR hE rfl rfl) lk395 (by decide +kernel) ?_
      refine Go.get 31 5 (.int (P3.1 31 5)) (by decide) (by decide) sh31 (ltO hE sh31) rfl lk250 (by decide +kernel) ?_
      exact Go.iret rfl rfl hE.2 (by decide +kernel) (St.fIP h)
    · rw [if_neg c2] at h
      refine Go.bipush (n := -3) (-3 : Int32) (by decide +kernel) (by decide) ?_
      exact Go.iret rfl rfl hE.2 (by decide +kernel) (St.fIP h)
theorem e_Yr_undo {G : GX} (hG : GOK G) {E : EV} (hE : E0 E) (d : Nat) (hd : 3 ≤ d) (a1 : Int32) (P : PM) {Q : QT} (h : St E rIP (f_Yr_undo a1 P) Q) : Con G y_Yr_undo cw_Yr_undo d nOb nOb [.ref (ad E 0), .int a1] P E Q :=
  Con.of hG (by decide +kernel) rfl (fun h => by cases h) hE.2 (Nat.le_of_ble_eq_true rfl) (t_f_Yr_undo hG hE d hd a1 P h)
abbrev c_De_tryDeed : ByteArray := prog_2_method_13_code
abbrev y_De_tryDeed : MethodName := ⟨"YawnRoute$Deeds", "tryDeed", "(LYawnRoute$State;J)I"⟩
abbrev cw_De_tryDeed : Cond := .code y_De_tryDeed c_De_tryDeed 5 (some .int)
theorem w_De_tryDeed : VW 0 y_De_tryDeed c_De_tryDeed 5 (some .int) 2 := ⟨by decide, lk877, lp22_, lk8, lk878, ⟨by decide, by decide, by decide +kernel⟩, by decide⟩
noncomputable def f_De_tryDeed (a1 : Nat) (a2 : Int64) (P : PM) : Option (Int32 × PM) := if (lg_cmp a2 (0 : Int64)) < (0 : Int32) then (some ((1 : Int32), P)) else (if (lg_cmp a2 (1999 : Int64)) ≤ (0 : Int32) then (lb (a2.toInt32) (fun y3 => if (10 : Int32) ≤ y3 then (if (20 : Int32) ≤ y3 then (if y3 < (1000 : Int32) then (if y3 < (100 : Int32) then (some ((1 : Int32), P)) else (if (200 : Int32) ≤ y3 then (some ((1 : Int32), P)) else (bd2 (f_De_tryDull a1 ((y3 - (100 : Int32)) / (10 : Int32)) (y3 - y3 / (10 : Int32) * (10 : Int32)) P) (fun v9 P10 => some (v9, P10))))) else (bd2 (f_De_tryOff a1 ((y3 - (1000 : Int32)) / (100 : Int32)) (y3 - y3 / (100 : Int32) * (100 : Int32)) P) (fun v11 P12 => some (v11, P12)))) else (bd2 (f_De_trySleep a1 (y3 - (10 : Int32)) P) (fun v13 P14 => some (v13, P14)))) else (bd2 (f_De_tryPass a1 y3 P) (fun v15 P16 => some (v15, P16))))) else (some ((1 : Int32), P)))
theorem t_f_De_tryDeed {G : GX} (hG : GOK G) {E : EV} (hE : E0 E) (d : Nat) (hd : 5 ≤ d) {Q : QT} (a1 : Nat) (ha1 : sh a1 = .inl 7) (a2 : Int64) (P : PM) (h : St E rIP (f_De_tryDeed a1 a2 P) Q) : Go G c_De_tryDeed "YawnRoute$Deeds" 5 (some .int) false d nOb nOb Q 0 [(0, .ref (ad E 31)), (1, .ref (ad E a1)), (2, .long a2)] [] P E := by
  rw [f_De_tryDeed] at h
  refine Go.lload_n (k := 2) (i := 2) 2 (by decide +kernel) rfl rfl ?_
  refine Go.lconst (n := 0) (0 : Int64) (by decide +kernel) rfl ?_
  refine Go.lcmp (by decide +kernel) ?_
  refine Go.if_lt (off := 11) 14 (by decide +kernel) (by decide) (fun c1 => ?_) (fun c1 => ?_)
  · rw [if_pos c1] at h
    refine Go.iconst (n := 1) (1 : Int32) (by decide +kernel) rfl ?_
    exact Go.iret rfl rfl hE.2 (by decide +kernel) (St.fIP h)
  · rw [if_neg c1] at h
    refine Go.lload_n (k := 2) (i := 2) 2 (by decide +kernel) rfl rfl ?_
    refine Go.ldc2 (1999 : Int64) lk879 (by decide +kernel) ?_
    refine Go.lcmp (by decide +kernel) ?_
    refine Go.if_le (off := 5) 16 (by decide +kernel) (by decide) (fun c2 => ?_) (fun c2 => ?_)
    · rw [if_pos c2] at h
      refine Go.lload_n (k := 2) (i := 2) 2 (by decide +kernel) rfl rfl ?_
      refine Go.l2i (by decide +kernel) ?_
      obtain ⟨y3, hy3, h⟩ := St.lb h
      refine Go.eqi y3 hy3 ?_
      refine Go.istore (i := 4) [(4, .int y3), (0, .ref (ad E 31)), (1, .ref (ad E a1)), (2, .long a2)] (by decide +kernel) (by decide) rfl ?_
      refine Go.iload (i := 4) 0 (by decide +kernel) rfl ?_
      refine Go.bipush (n := 10) (10 : Int32) (by decide +kernel) (by decide) ?_
      refine Go.icmp_ge (off := 11) 35 (by decide +kernel) (by decide) (fun c4 => ?_) (fun c4 => ?_)
      · rw [if_pos c4] at h
        refine Go.iload (i := 4) 0 (by decide +kernel) rfl ?_
        refine Go.bipush (n := 20) (20 : Int32) (by decide +kernel) (by decide) ?_
        refine Go.icmp_ge (off := 14) 53 (by decide +kernel) (by decide) (fun c5 => ?_) (fun c5 => ?_)
        · rw [if_pos c5] at h
          refine Go.iload (i := 4) 0 (by decide +kernel) rfl ?_
          refine Go.sipush (n := 1000) (1000 : Int32) (by decide +kernel) (by decide) ?_
          refine Go.icmp_lt (off := 23) 81 (by decide +kernel) (by decide) (fun c6 => ?_) (fun c6 => ?_)
          · rw [if_pos c6] at h
            refine Go.iload (i := 4) 0 (by decide +kernel) rfl ?_
            refine Go.bipush (n := 100) (100 : Int32) (by decide +kernel) (by decide) ?_
            refine Go.icmp_lt (off := 30) 115 (by decide +kernel) (by decide) (fun c7 => ?_) (fun c7 => ?_)
            · rw [if_pos c7] at h
              refine Go.iconst (n := 1) (1 : Int32) (by decide +kernel) rfl ?_
              exact Go.iret rfl rfl hE.2 (by decide +kernel) (St.fIP h)
            · rw [if_neg c7] at h
              refine Go.iload (i := 4) 0 (by decide +kernel) rfl ?_
              refine Go.sipush (n := 200) (200 : Int32) (by decide +kernel) (by decide) ?_
              refine Go.icmp_ge (off := 22) 115 (by decide +kernel) (by decide) (fun c8 => ?_) (fun c8 => ?_)
              · rw [if_pos c8] at h
                refine Go.iconst (n := 1) (1 : Int32) (by decide +kernel) rfl ?_
                exact Go.iret rfl rfl hE.2 (by decide +kernel) (St.fIP h)
              · rw [if_neg c8] at h
                refine Go.aload_n (k := 0) (i := 0) 1 (by decide +kernel) rfl rfl ?_
                refine Go.aload_n (k := 1) (i := 1) 2 (by decide +kernel) rfl rfl ?_
                refine Go.iload (i := 4) 0 (by decide +kernel) rfl ?_
                refine Go.bipush (n := 100) (100 : Int32) (by decide +kernel) (by decide) ?_
                refine Go.isub (by decide +kernel) ?_
                refine Go.bipush (n := 10) (10 : Int32) (by decide +kernel) (by decide) ?_
                refine Go.idiv (by decide +kernel) (by decide) ?_
                refine Go.iload (i := 4) 0 (by decide +kernel) rfl ?_
                refine Go.bipush (n := 10) (10 : Int32) (by decide +kernel) (by decide) ?_
                refine Go.irem (by decide +kernel) (by decide) ?_
                obtain ⟨v9, P10, hv9, h⟩ := St.bd2 h
                refine Go.cV_i (P1 := P10) (v := v9) (d - 1) 31 [.ref (ad E a1), .int ((y3 - (100 : Int32)) / (10 : Int32)), .int (y3 - y3 / (10 : Int32) * (10 : Int32))] sh31 hE w_De_tryDull (e_De_tryDull hG hE (d - 1) (by omega) a1 ha1 ((y3 - (100 : Int32)) / (10 : Int32)) (y3 - y3 / (10 : Int32) * (10 : Int32)) P ⟨_, hv9, rfl, rfl, rfl⟩) lk883 rfl (by omega) (Nat.le_of_ble_eq_true rfl) (by decide +kernel) _ rfl ?_
                exact Go.iret rfl rfl hE.2 (by decide +kernel) (St.fIP h)
          · rw [if_neg c6] at h
            refine Go.aload_n (k := 0) (i := 0) 1 (by decide +kernel) rfl rfl ?_
            refine Go.aload_n (k := 1) (i := 1) 2 (by decide +kernel) rfl rfl ?_
            refine Go.iload (i := 4) 0 (by decide +kernel) rfl ?_
            refine Go.sipush (n := 1000) (1000 : Int32) (by decide +kernel) (by decide) ?_
            refine Go.isub (by decide +kernel) ?_
            refine Go.bipush (n := 100) (100 : Int32) (by decide +kernel) (by decide) ?_
            refine Go.idiv (by decide +kernel) (by decide) ?_
            refine Go.iload (i := 4) 0 (by decide +kernel) rfl ?_
            refine Go.bipush (n := 100) (100 : Int32) (by decide +kernel) (by decide) ?_
            refine Go.irem (by decide +kernel) (by decide) ?_
            obtain ⟨v11, P12, hv11, h⟩ := St.bd2 h
            refine Go.cV_i (P1 := P12) (v := v11) (d - 1) 31 [.ref (ad E a1), .int ((y3 - (1000 : Int32)) / (100 : Int32)), .int (y3 - y3 / (100 : Int32) * (100 : Int32))] sh31 hE w_De_tryOff (e_De_tryOff hG hE (d - 1) (by omega) a1 ha1 ((y3 - (1000 : Int32)) / (100 : Int32)) (y3 - y3 / (100 : Int32) * (100 : Int32)) P ⟨_, hv11, rfl, rfl, rfl⟩) lk882 rfl (by omega) (Nat.le_of_ble_eq_true rfl) (by decide +kernel) _ rfl ?_
            exact Go.iret rfl rfl hE.2 (by decide +kernel) (St.fIP h)
        · rw [if_neg c5] at h
          refine Go.aload_n (k := 0) (i := 0) 1 (by decide +kernel) rfl rfl ?_
          refine Go.aload_n (k := 1) (i := 1) 2 (by decide +kernel) rfl rfl ?_
          refine Go.iload (i := 4) 0 (by decide +kernel) rfl ?_
          refine Go.bipush (n := 10) (10 : Int32) (by decide +kernel) (by decide) ?_
          refine Go.isub (by decide +kernel) ?_
          obtain ⟨v13, P14, hv13, h⟩ := St.bd2 h
          refine Go.cV_i (P1 := P14) (v := v13) (d - 1) 31 [.ref (ad E a1), .int (y3 - (10 : Int32))] sh31 hE w_De_trySleep (e_De_trySleep hG hE (d - 1) (by omega) a1 ha1 (y3 - (10 : Int32)) P ⟨_, hv13, rfl, rfl, rfl⟩) lk881 rfl (by omega) (Nat.le_of_ble_eq_true rfl) (by decide +kernel) _ rfl ?_
          exact Go.iret rfl rfl hE.2 (by decide +kernel) (St.fIP h)
      · rw [if_neg c4] at h
        refine Go.aload_n (k := 0) (i := 0) 1 (by decide +kernel) rfl rfl ?_
        refine Go.aload_n (k := 1) (i := 1) 2 (by decide +kernel) rfl rfl ?_
        refine Go.iload (i := 4) 0 (by decide +kernel) rfl ?_
        obtain ⟨v15, P16, hv15, h⟩ := St.bd2 h
        refine Go.cV_i (P1 := P16) (v := v15) (d - 1) 31 [.ref (ad E a1), .int y3] sh31 hE w_De_tryPass (e_De_tryPass hG hE (d - 1) (by omega) a1 ha1 y3 P ⟨_, hv15, rfl, rfl, rfl⟩) lk880 rfl (by omega) (Nat.le_of_ble_eq_true rfl) (by decide +kernel) _ rfl ?_
        exact Go.iret rfl rfl hE.2 (by decide +kernel) (St.fIP h)
    · rw [if_neg c2] at h
      refine Go.iconst (n := 1) (1 : Int32) (by decide +kernel) rfl ?_
      exact Go.iret rfl rfl hE.2 (by decide +kernel) (St.fIP h)
theorem e_De_tryDeed {G : GX} (hG : GOK G) {E : EV} (hE : E0 E) (d : Nat) (hd : 5 ≤ d) (a1 : Nat) (ha1 : sh a1 = .inl 7) (a2 : Int64) (P : PM) {Q : QT} (h : St E rIP (f_De_tryDeed a1 a2 P) Q) : Con G y_De_tryDeed cw_De_tryDeed d nOb nOb [.ref (ad E 31), .ref (ad E a1), .long a2] P E Q :=
  Con.of hG (by decide +kernel) rfl (fun h => by cases h) hE.2 (Nat.le_of_ble_eq_true rfl) (t_f_De_tryDeed hG hE d hd a1 ha1 a2 P h)
abbrev c_Tr_isTray : ByteArray := prog_12_method_2_code
abbrev y_Tr_isTray : MethodName := ⟨"YawnRoute$Trays", "isTray", "(I)Z"⟩
abbrev cw_Tr_isTray : Cond := .code y_Tr_isTray c_Tr_isTray 2 (some .boolean)
theorem w_Tr_isTray : VW 10 y_Tr_isTray c_Tr_isTray 2 (some .boolean) 1 := ⟨by decide, lk851, lk852, lk7, lk853, ⟨by decide, by decide, by decide +kernel⟩, by decide⟩
noncomputable def j_Tr_isTray_13 (P : PM) : Int32 := (0 : Int32)
noncomputable def f_Tr_isTray (a1 : Int32) (P : PM) : Int32 := if a1 < (0 : Int32) then (j_Tr_isTray_13 P) else (if (4 : Int32) ≤ a1 then (j_Tr_isTray_13 P) else ((1 : Int32)))
theorem t_j_Tr_isTray_13 {G : GX} (hG : GOK G) {E : EV} (hE : E0 E) (d : Nat) (hd : 1 ≤ d) {P : PM} {Q : QT} (h : Q (some (.int (j_Tr_isTray_13 P))) P E) : Go G c_Tr_isTray "YawnRoute$Trays" 2 (some .boolean) false d nOb nOb Q 13 [] [] P E := by
  rw [j_Tr_isTray_13] at h
  refine Go.iconst (n := 0) (0 : Int32) (by decide +kernel) rfl ?_
  exact Go.iret rfl rfl hE.2 (by decide +kernel) h
theorem t_f_Tr_isTray {G : GX} (hG : GOK G) {E : EV} (hE : E0 E) (d : Nat) (hd : 1 ≤ d) {P : PM} {Q : QT} (a1 : Int32) (h : Q (some (.int (f_Tr_isTray a1 P))) P E) : Go G c_Tr_isTray "YawnRoute$Trays" 2 (some .boolean) false d nOb nOb Q 0 [(0, .ref (ad E 23)), (1, .int a1)] [] P E := by
  rw [f_Tr_isTray] at h
  refine Go.iload_n (k := 1) (i := 1) 1 (by decide +kernel) rfl rfl ?_
  refine Go.if_lt (off := 12) 13 (by decide +kernel) (by decide) (fun c1 => ?_) (fun c1 => ?_)
  · rw [if_pos c1] at h
    refine Go.sub [] [] rfl ?_
    exact t_j_Tr_isTray_13 hG hE d hd h
  · rw [if_neg c1] at h
    refine Go.iload_n (k := 1) (i := 1) 1 (by decide +kernel) rfl rfl ?_
    refine Go.iconst (n := 4) (4 : Int32) (by decide +kernel) rfl ?_
    refine Go.icmp_ge (off := 7) 13 (by decide +kernel) (by decide) (fun c2 => ?_) (fun c2 => ?_)
    · rw [if_pos c2] at h
      refine Go.sub [] [] rfl ?_
      exact t_j_Tr_isTray_13 hG hE d hd h
    · rw [if_neg c2] at h
      refine Go.iconst (n := 1) (1 : Int32) (by decide +kernel) rfl ?_
      refine Go.goto (off := 4) 14 (by decide +kernel) (by decide) ?_
      exact Go.iret rfl rfl hE.2 (by decide +kernel) h
theorem e_Tr_isTray {G : GX} (hG : GOK G) {E : EV} (hE : E0 E) (d : Nat) (hd : 1 ≤ d) (a1 : Int32) (P : PM) {Q : QT} (h : Q (some (.int (f_Tr_isTray a1 P))) P E) : Con G y_Tr_isTray cw_Tr_isTray d nOb nOb [.ref (ad E 23), .int a1] P E Q :=
  Con.of hG (by decide +kernel) rfl (fun h => by cases h) hE.2 (Nat.le_of_ble_eq_true rfl) (t_f_Tr_isTray hG hE d hd a1 h)
abbrev c_Tr_lengthOf : ByteArray := prog_12_method_4_code
abbrev y_Tr_lengthOf : MethodName := ⟨"YawnRoute$Trays", "lengthOf", "(I)I"⟩
abbrev cw_Tr_lengthOf : Cond := .code y_Tr_lengthOf c_Tr_lengthOf 2 (some .int)
theorem w_Tr_lengthOf : VW 10 y_Tr_lengthOf c_Tr_lengthOf 2 (some .int) 1 := ⟨by decide, lk868, lk869, lk7, lk870, ⟨by decide, by decide, by decide +kernel⟩, by decide⟩
noncomputable def f_Tr_lengthOf (a1 : Int32) (P : PM) : Option Int32 := if (f_Tr_isTray a1 P) = (0 : Int32) then (some (0 : Int32)) else (ck (inb a1 4) (some (P.1 30 a1.toNatClampNeg)))
theorem t_f_Tr_lengthOf {G : GX} (hG : GOK G) {E : EV} (hE : E0 E) (d : Nat) (hd : 2 ≤ d) {P : PM} {Q : QT} (a1 : Int32) (h : St E (rI P) (f_Tr_lengthOf a1 P) Q) : Go G c_Tr_lengthOf "YawnRoute$Trays" 2 (some .int) false d nOb nOb Q 0 [(0, .ref (ad E 23)), (1, .int a1)] [] P E := by
  rw [f_Tr_lengthOf] at h
  refine Go.aload_n (k := 0) (i := 0) 0 (by decide +kernel) rfl rfl ?_
  refine Go.iload_n (k := 1) (i := 1) 1 (by decide +kernel) rfl rfl ?_
  refine Go.cV_i (P1 := P) (v := (f_Tr_isTray a1 P)) (d - 1) 23 [.int a1] sh23 hE w_Tr_isTray (e_Tr_isTray hG hE (d - 1) (by omega) a1 P ⟨rfl, rfl, rfl⟩) lk858 rfl (by omega) (Nat.le_of_ble_eq_true rfl) (by decide +kernel) _ rfl ?_
  refine Go.if_eq (off := 12) 17 (by decide +kernel) (by decide) (fun c1 => ?_) (fun c1 => ?_)
  · rw [if_pos c1] at h
    refine Go.iconst (n := 0) (0 : Int32) (by decide +kernel) rfl ?_
    exact Go.iret rfl rfl hE.2 (by decide +kernel) (St.fI h)
  · rw [if_neg c1] at h
    refine Go.aload_n (k := 0) (i := 0) 0 (by decide +kernel) rfl rfl ?_
    refine Go.get 23 2 (.ref (ad E 30)) (by decide) (by decide) sh23 (ltO hE sh23) (vlR hE rfl rfl) lk224 (by decide +kernel) ?_
    refine Go.iload_n (k := 1) (i := 1) 1 (by decide +kernel) rfl rfl ?_
    obtain ⟨b2, h⟩ := St.ck h
    refine Go.iaload 30 4 sh30 (ltA hE sh30 (by decide)) (inb_in b2) (by decide +kernel) ?_
    refine Go.goto (off := 4) 18 (by decide +kernel) (by decide) ?_
    exact Go.iret rfl rfl hE.2 (by decide +kernel) (St.fI h)
theorem e_Tr_lengthOf {G : GX} (hG : GOK G) {E : EV} (hE : E0 E) (d : Nat) (hd : 2 ≤ d) (a1 : Int32) (P : PM) {Q : QT} (h : St E (rI P) (f_Tr_lengthOf a1 P) Q) : Con G y_Tr_lengthOf cw_Tr_lengthOf d nOb nOb [.ref (ad E 23), .int a1] P E Q :=
  Con.of hG (by decide +kernel) rfl (fun h => by cases h) hE.2 (Nat.le_of_ble_eq_true rfl) (t_f_Tr_lengthOf hG hE d hd a1 h)
abbrev c_Tr_numberAt : ByteArray := prog_12_method_7_code
abbrev y_Tr_numberAt : MethodName := ⟨"YawnRoute$Trays", "numberAt", "(II)J"⟩
abbrev cw_Tr_numberAt : Cond := .code y_Tr_numberAt c_Tr_numberAt 3 (some .long)
theorem w_Tr_numberAt : VW 10 y_Tr_numberAt c_Tr_numberAt 3 (some .long) 2 := ⟨by decide, lk872, lk873, lk7, lk874, ⟨by decide, by decide, by decide +kernel⟩, by decide⟩
noncomputable def j_Tr_numberAt_29 (P : PM) : Option Int64 := some (0 : Int64)
noncomputable def f_Tr_numberAt (a1 : Int32) (a2 : Int32) (P : PM) : Option Int64 := if (f_Tr_isTray a1 P) = (0 : Int32) then (j_Tr_numberAt_29 P) else (if a2 < (0 : Int32) then (j_Tr_numberAt_29 P) else (if (40 : Int32) ≤ a2 then (j_Tr_numberAt_29 P) else (ck (inb a1 4) (ck (inb a2 40) (some (P.2 (25 + a1.toNatClampNeg) a2.toNatClampNeg))))))
theorem t_j_Tr_numberAt_29 {G : GX} (hG : GOK G) {E : EV} (hE : E0 E) (d : Nat) (hd : 2 ≤ d) {P : PM} {Q : QT} (h : St E (rL P) (j_Tr_numberAt_29 P) Q) : Go G c_Tr_numberAt "YawnRoute$Trays" 3 (some .long) false d nOb nOb Q 29 [] [] P E := by
  rw [j_Tr_numberAt_29] at h
  refine Go.lconst (n := 0) (0 : Int64) (by decide +kernel) rfl ?_
  exact Go.lret rfl hE.2 (by decide +kernel) (St.fL h)
theorem t_f_Tr_numberAt {G : GX} (hG : GOK G) {E : EV} (hE : E0 E) (d : Nat) (hd : 2 ≤ d) {P : PM} {Q : QT} (a1 : Int32) (a2 : Int32) (h : St E (rL P) (f_Tr_numberAt a1 a2 P) Q) : Go G c_Tr_numberAt "YawnRoute$Trays" 3 (some .long) false d nOb nOb Q 0 [(0, .ref (ad E 23)), (1, .int a1), (2, .int a2)] [] P E := by
  rw [f_Tr_numberAt] at h
  refine Go.aload_n (k := 0) (i := 0) 0 (by decide +kernel) rfl rfl ?_
  refine Go.iload_n (k := 1) (i := 1) 1 (by decide +kernel) rfl rfl ?_
  refine Go.cV_i (P1 := P) (v := (f_Tr_isTray a1 P)) (d - 1) 23 [.int a1] sh23 hE w_Tr_isTray (e_Tr_isTray hG hE (d - 1) (by omega) a1 P ⟨rfl, rfl, rfl⟩) lk858 rfl (by omega) (Nat.le_of_ble_eq_true rfl) (by decide +kernel) _ rfl ?_
  refine Go.if_eq (off := 24) 29 (by decide +kernel) (by decide) (fun c1 => ?_) (fun c1 => ?_)
  · rw [if_pos c1] at h
    refine Go.sub [] [] rfl ?_
    exact t_j_Tr_numberAt_29 hG hE d hd h
  · rw [if_neg c1] at h
    refine Go.iload_n (k := 2) (i := 2) 2 (by decide +kernel) rfl rfl ?_
    refine Go.if_lt (off := 20) 29 (by decide +kernel) (by decide) (fun c2 => ?_) (fun c2 => ?_)
    · rw [if_pos c2] at h
      refine Go.sub [] [] rfl ?_
      exact t_j_Tr_numberAt_29 hG hE d hd h
    · rw [if_neg c2] at h
      refine Go.iload_n (k := 2) (i := 2) 2 (by decide +kernel) rfl rfl ?_
      refine Go.bipush (n := 40) (40 : Int32) (by decide +kernel) (by decide) ?_
      refine Go.icmp_ge (off := 14) 29 (by decide +kernel) (by decide) (fun c3 => ?_) (fun c3 => ?_)
      · rw [if_pos c3] at h
        refine Go.sub [] [] rfl ?_
        exact t_j_Tr_numberAt_29 hG hE d hd h
      · rw [if_neg c3] at h
        refine Go.aload_n (k := 0) (i := 0) 0 (by decide +kernel) rfl rfl ?_
        refine Go.get 23 0 (.ref (ad E 24)) (by decide) (by decide) sh23 (ltO hE sh23) (vlR hE rfl rfl) lk222 (by decide +kernel) ?_
        refine Go.iload_n (k := 1) (i := 1) 1 (by decide +kernel) rfl rfl ?_
        obtain ⟨b4, h⟩ := St.ck h
        refine Go.aaload 24 7 4 (25 + a1.toNatClampNeg) sh24 (by decide) (ltA hE sh24 (by decide)) (inb_in b4) (by rw [hE.1]; exact raR24 b4) (by decide +kernel) ?_
        refine Go.iload_n (k := 2) (i := 2) 2 (by decide +kernel) rfl rfl ?_
        obtain ⟨b5, h⟩ := St.ck h
        refine Go.laload (25 + a1.toNatClampNeg) 40 (raS24 b4) (ltA hE (raS24 b4) (by decide)) (inb_in b5) (by decide +kernel) ?_
        refine Go.goto (off := 4) 30 (by decide +kernel) (by decide) ?_
        exact Go.lret rfl hE.2 (by decide +kernel) (St.fL h)
theorem e_Tr_numberAt {G : GX} (hG : GOK G) {E : EV} (hE : E0 E) (d : Nat) (hd : 2 ≤ d) (a1 : Int32) (a2 : Int32) (P : PM) {Q : QT} (h : St E (rL P) (f_Tr_numberAt a1 a2 P) Q) : Con G y_Tr_numberAt cw_Tr_numberAt d nOb nOb [.ref (ad E 23), .int a1, .int a2] P E Q :=
  Con.of hG (by decide +kernel) rfl (fun h => by cases h) hE.2 (Nat.le_of_ble_eq_true rfl) (t_f_Tr_numberAt hG hE d hd a1 a2 h)
abbrev c_De_tryAll : ByteArray := prog_2_method_11_code
abbrev y_De_tryAll : MethodName := ⟨"YawnRoute$Deeds", "tryAll", "(LYawnRoute$State;I)I"⟩
abbrev cw_De_tryAll : Cond := .code y_De_tryAll c_De_tryAll 6 (some .int)
theorem w_De_tryAll : VW 0 y_De_tryAll c_De_tryAll 6 (some .int) 2 := ⟨by decide, lk864, lk865, lk8, lk866, ⟨by decide, by decide, by decide +kernel⟩, by decide⟩
noncomputable def j_De_tryAll_66 (a1 : Nat) (k20 : Int32 → Int32 → Int32 → Int32 → PM → Option (Int32 × PM)) (x2 : Int32) (x3 : Int32) (x5 : Int32) (s0 : Int32) (s1 : Int32) (P : PM) : Option (Int32 × PM) := lb (s0 + s1) (fun y1 => k20 x2 x3 y1 (x5 + (1 : Int32)) P)
noncomputable def l_De_tryAll_20 (a1 : Nat) : Nat → Int32 → Int32 → Int32 → Int32 → PM → Option (Int32 × PM)
  | 0, _, _, _, _, _ => none
  | n + 1, x2, x3, x4, x5, P => if x3 ≤ x5 then (some (x4, P)) else (if (P.1 31 4) = (0 : Int32) then ((f_Tr_numberAt x2 x5 P).bind (fun v3 => bd2 (f_De_tryDeed a1 v3 P) (fun v4 P5 => if ((u1 P5 31 4 v4).1 31 4) = (0 : Int32) then (j_De_tryAll_66 a1 (fun z0 z1 z2 z3 Pz => l_De_tryAll_20 a1 n z0 z1 z2 z3 Pz) x2 x3 x5 x4 (1 : Int32) (u1 P5 31 4 v4)) else (j_De_tryAll_66 a1 (fun z0 z1 z2 z3 Pz => l_De_tryAll_20 a1 n z0 z1 z2 z3 Pz) x2 x3 x5 x4 (0 : Int32) (u1 P5 31 4 v4))))) else (some (x4, P)))
noncomputable def f_De_tryAll (a1 : Nat) (a2 : Int32) (P : PM) : Option (Int32 × PM) := (f_Tr_lengthOf a2 P).bind (fun v1 => l_De_tryAll_20 a1 FU a2 v1 (0 : Int32) (0 : Int32) (u1 P 31 4 (0 : Int32)))
theorem t_j_De_tryAll_66 {G : GX} (hG : GOK G) {E : EV} (hE : E0 E) (d : Nat) (hd : 6 ≤ d) {Q : QT} (a1 : Nat) (ha1 : sh a1 = .inl 7) (k20 : Int32 → Int32 → Int32 → Int32 → PM → Option (Int32 × PM)) (hk20 : ∀ (x2 : Int32) (x3 : Int32) (x4 : Int32) (x5 : Int32) (P : PM), St E rIP (k20 x2 x3 x4 x5 P) Q → Go G c_De_tryAll "YawnRoute$Deeds" 6 (some .int) false d nOb nOb Q 20 [(0, .ref (ad E 31)), (1, .ref (ad E a1)), (2, .int x2), (3, .int x3), (4, .int x4), (5, .int x5)] [] P E) (x2 : Int32) (x3 : Int32) (x5 : Int32) (s0 : Int32) (s1 : Int32) (P : PM) (h : St E rIP (j_De_tryAll_66 a1 k20 x2 x3 x5 s0 s1 P) Q) : Go G c_De_tryAll "YawnRoute$Deeds" 6 (some .int) false d nOb nOb Q 66 [(0, .ref (ad E 31)), (1, .ref (ad E a1)), (2, .int x2), (3, .int x3), (5, .int x5)] [.int s1, .int s0] P E := by
  rw [j_De_tryAll_66] at h
  refine Go.iadd (by decide +kernel) ?_
  obtain ⟨y1, hy1, h⟩ := St.lb h
  refine Go.eqi y1 hy1 ?_
  refine Go.istore (i := 4) [(4, .int y1), (0, .ref (ad E 31)), (1, .ref (ad E a1)), (2, .int x2), (3, .int x3), (5, .int x5)] (by decide +kernel) (by decide) rfl ?_
  refine Go.iinc (i := 5) (n := 1) 5 (x5 + (1 : Int32)) [(5, .int (x5 + (1 : Int32))), (4, .int y1), (0, .ref (ad E 31)), (1, .ref (ad E a1)), (2, .int x2), (3, .int x3)] (by decide +kernel) rfl rfl (by decide) rfl ?_
  refine Go.goto (off := -52) 20 (by decide +kernel) (by decide) ?_
  refine Go.sub [2, 3, 4, 5, 1, 0] [(0, .ref (ad E 31)), (1, .ref (ad E a1)), (2, .int x2), (3, .int x3), (4, .int y1), (5, .int (x5 + (1 : Int32)))] rfl ?_
  exact hk20 x2 x3 y1 (x5 + (1 : Int32)) P h
theorem t_l_De_tryAll_20 {G : GX} (hG : GOK G) {E : EV} (hE : E0 E) (d : Nat) (hd : 6 ≤ d) {Q : QT} (a1 : Nat) (ha1 : sh a1 = .inl 7) : ∀ (n : Nat) (x2 : Int32) (x3 : Int32) (x4 : Int32) (x5 : Int32) (P : PM), St E rIP (l_De_tryAll_20 a1 n x2 x3 x4 x5 P) Q → Go G c_De_tryAll "YawnRoute$Deeds" 6 (some .int) false d nOb nOb Q 20 [(0, .ref (ad E 31)), (1, .ref (ad E a1)), (2, .int x2), (3, .int x3), (4, .int x4), (5, .int x5)] [] P E := by
  intro n
  induction n with
  | zero =>
    intro x2 x3 x4 x5 P h
    rw [l_De_tryAll_20] at h
    exact St.none_ h
  | succ n ih =>
    intro x2 x3 x4 x5 P h
    rw [l_De_tryAll_20] at h
    refine Go.iload (i := 5) 5 (by decide +kernel) rfl ?_
    refine Go.iload_n (k := 3) (i := 3) 3 (by decide +kernel) rfl rfl ?_
    refine Go.icmp_ge (off := 52) 75 (by decide +kernel) (by decide) (fun c1 => ?_) (fun c1 => ?_)
    · rw [if_pos c1] at h
      refine Go.iload (i := 4) 4 (by decide +kernel) rfl ?_
      exact Go.iret rfl rfl hE.2 (by decide +kernel) (St.fIP h)
    · rw [if_neg c1] at h
      refine Go.aload_n (k := 0) (i := 0) 0 (by decide +kernel) rfl rfl ?_
      refine Go.get 31 4 (.int (P.1 31 4)) (by decide) (by decide) sh31 (ltO hE sh31) rfl lk247 (by decide +kernel) ?_
      refine Go.if_ne (off := 45) 75 (by decide +kernel) (by decide) (fun c2 => ?_) (fun c2 => ?_)
      · rw [if_neg c2] at h
        refine Go.iload (i := 4) 4 (by decide +kernel) rfl ?_
        exact Go.iret rfl rfl hE.2 (by decide +kernel) (St.fIP h)
      · rw [if_pos c2] at h
        refine Go.aload_n (k := 0) (i := 0) 0 (by decide +kernel) rfl rfl ?_
        refine Go.aload_n (k := 0) (i := 0) 0 (by decide +kernel) rfl rfl ?_
        refine Go.aload_n (k := 1) (i := 1) 1 (by decide +kernel) rfl rfl ?_
        refine Go.aload_n (k := 0) (i := 0) 0 (by decide +kernel) rfl rfl ?_
        refine Go.get 31 2 (.ref (ad E 23)) (by decide) (by decide) sh31 (ltO hE sh31) (vlR hE rfl rfl) lk244 (by decide +kernel) ?_
        refine Go.iload_n (k := 2) (i := 2) 2 (by decide +kernel) rfl rfl ?_
        refine Go.iload (i := 5) 5 (by decide +kernel) rfl ?_
        obtain ⟨v3, hv3, h⟩ := St.bind h
        refine Go.cV_l (P1 := P) (v := v3) (d - 1) 23 [.int x2, .int x5] sh23 hE w_Tr_numberAt (e_Tr_numberAt hG hE (d - 1) (by omega) x2 x5 P ⟨_, hv3, rfl, rfl, rfl⟩) lk871 rfl (by omega) (Nat.le_of_ble_eq_true rfl) (by decide +kernel) _ rfl ?_
        obtain ⟨v4, P5, hv4, h⟩ := St.bd2 h
        refine Go.cV_i (P1 := P5) (v := v4) (d - 1) 31 [.ref (ad E a1), .long v3] sh31 hE w_De_tryDeed (e_De_tryDeed hG hE (d - 1) (by omega) a1 ha1 v3 P ⟨_, hv4, rfl, rfl, rfl⟩) lk875 rfl (by omega) (Nat.le_of_ble_eq_true rfl) (by decide +kernel) _ rfl ?_
        refine Go.put 31 4 (by decide) (by decide) sh31 (ltO hE sh31) (Or.inl rfl) rfl rfl rfl lk247 (by decide +kernel) ?_
        refine Go.iload (i := 4) 4 (by decide +kernel) rfl ?_
        refine Go.aload_n (k := 0) (i := 0) 0 (by decide +kernel) rfl rfl ?_
        refine Go.get 31 4 (.int ((u1 P5 31 4 v4).1 31 4)) (by decide) (by decide) sh31 (ltO hE sh31) rfl lk247 (by decide +kernel) ?_
        refine Go.if_ne (off := 7) 65 (by decide +kernel) (by decide) (fun c6 => ?_) (fun c6 => ?_)
        · rw [if_neg c6] at h
          refine Go.iconst (n := 0) (0 : Int32) (by decide +kernel) rfl ?_
          refine Go.sub [0, 1, 2, 3, 5] [(0, .ref (ad E 31)), (1, .ref (ad E a1)), (2, .int x2), (3, .int x3), (5, .int x5)] rfl ?_
          exact t_j_De_tryAll_66 hG hE d hd a1 ha1 (fun z0 z1 z2 z3 Pz => l_De_tryAll_20 a1 n z0 z1 z2 z3 Pz) (fun z0 z1 z2 z3 Pz q => ih z0 z1 z2 z3 Pz q) x2 x3 x5 x4 (0 : Int32) (u1 P5 31 4 v4) h
        · rw [if_pos c6] at h
          refine Go.iconst (n := 1) (1 : Int32) (by decide +kernel) rfl ?_
          refine Go.goto (off := 4) 66 (by decide +kernel) (by decide) ?_
          refine Go.sub [0, 1, 2, 3, 5] [(0, .ref (ad E 31)), (1, .ref (ad E a1)), (2, .int x2), (3, .int x3), (5, .int x5)] rfl ?_
          exact t_j_De_tryAll_66 hG hE d hd a1 ha1 (fun z0 z1 z2 z3 Pz => l_De_tryAll_20 a1 n z0 z1 z2 z3 Pz) (fun z0 z1 z2 z3 Pz q => ih z0 z1 z2 z3 Pz q) x2 x3 x5 x4 (1 : Int32) (u1 P5 31 4 v4) h
theorem t_f_De_tryAll {G : GX} (hG : GOK G) {E : EV} (hE : E0 E) (d : Nat) (hd : 6 ≤ d) {Q : QT} (a1 : Nat) (ha1 : sh a1 = .inl 7) (a2 : Int32) (P : PM) (h : St E rIP (f_De_tryAll a1 a2 P) Q) : Go G c_De_tryAll "YawnRoute$Deeds" 6 (some .int) false d nOb nOb Q 0 [(0, .ref (ad E 31)), (1, .ref (ad E a1)), (2, .int a2)] [] P E := by
  rw [f_De_tryAll] at h
  refine Go.aload_n (k := 0) (i := 0) 0 (by decide +kernel) rfl rfl ?_
  refine Go.get 31 2 (.ref (ad E 23)) (by decide) (by decide) sh31 (ltO hE sh31) (vlR hE rfl rfl) lk244 (by decide +kernel) ?_
  refine Go.iload_n (k := 2) (i := 2) 2 (by decide +kernel) rfl rfl ?_
  obtain ⟨v1, hv1, h⟩ := St.bind h
  refine Go.cV_i (P1 := P) (v := v1) (d - 1) 23 [.int a2] sh23 hE w_Tr_lengthOf (e_Tr_lengthOf hG hE (d - 1) (by omega) a2 P ⟨_, hv1, rfl, rfl, rfl⟩) lk867 rfl (by omega) (Nat.le_of_ble_eq_true rfl) (by decide +kernel) _ rfl ?_
  refine Go.istore_n (k := 3) (i := 3) [(3, .int v1), (0, .ref (ad E 31)), (1, .ref (ad E a1)), (2, .int a2)] (by decide +kernel) rfl (by decide) rfl ?_
  refine Go.iconst (n := 0) (0 : Int32) (by decide +kernel) rfl ?_
  refine Go.istore (i := 4) [(4, .int (0 : Int32)), (3, .int v1), (0, .ref (ad E 31)), (1, .ref (ad E a1)), (2, .int a2)] (by decide +kernel) (by decide) rfl ?_
  refine Go.aload_n (k := 0) (i := 0) 2 (by decide +kernel) rfl rfl ?_
  refine Go.iconst (n := 0) (0 : Int32) (by decide +kernel) rfl ?_
  refine Go.put 31 4 (by decide) (by decide) sh31 (ltO hE sh31) (Or.inl rfl) rfl rfl rfl lk247 (by decide +kernel) ?_
  refine Go.iconst (n := 0) (0 : Int32) (by decide +kernel) rfl ?_
  refine Go.istore (i := 5) [(5, .int (0 : Int32)), (4, .int (0 : Int32)), (3, .int v1), (0, .ref (ad E 31)), (1, .ref (ad E a1)), (2, .int a2)] (by decide +kernel) (by decide) rfl ?_
  refine Go.sub [3, 4, 5, 2, 1, 0] [(0, .ref (ad E 31)), (1, .ref (ad E a1)), (2, .int a2), (3, .int v1), (4, .int (0 : Int32)), (5, .int (0 : Int32))] rfl ?_
  exact t_l_De_tryAll_20 hG hE d hd a1 ha1 FU a2 v1 (0 : Int32) (0 : Int32) (u1 P 31 4 (0 : Int32)) h
theorem e_De_tryAll {G : GX} (hG : GOK G) {E : EV} (hE : E0 E) (d : Nat) (hd : 6 ≤ d) (a1 : Nat) (ha1 : sh a1 = .inl 7) (a2 : Int32) (P : PM) {Q : QT} (h : St E rIP (f_De_tryAll a1 a2 P) Q) : Con G y_De_tryAll cw_De_tryAll d nOb nOb [.ref (ad E 31), .ref (ad E a1), .int a2] P E Q :=
  Con.of hG (by decide +kernel) rfl (fun h => by cases h) hE.2 (Nat.le_of_ble_eq_true rfl) (t_f_De_tryAll hG hE d hd a1 ha1 a2 P h)
abbrev c_De_tryOut : ByteArray := prog_2_method_12_code
abbrev y_De_tryOut : MethodName := ⟨"YawnRoute$Deeds", "tryOut", "(I)I"⟩
abbrev cw_De_tryOut : Cond := .code y_De_tryOut c_De_tryOut 2 (some .int)
theorem w_De_tryOut : VW 0 y_De_tryOut c_De_tryOut 2 (some .int) 1 := ⟨by decide, lk860, lk861, lk8, lk862, ⟨by decide, by decide, by decide +kernel⟩, by decide⟩
noncomputable def f_De_tryOut (a1 : Int32) (P : PM) : Option (Int32 × PM) := (f_Sa_copy 32 21 P).bind (fun P1 => bd2 (f_De_tryAll 32 a1 P1) (fun v2 P3 => some (v2, P3)))
theorem t_f_De_tryOut {G : GX} (hG : GOK G) {E : EV} (hE : E0 E) (d : Nat) (hd : 7 ≤ d) {Q : QT} (a1 : Int32) (P : PM) (h : St E rIP (f_De_tryOut a1 P) Q) : Go G c_De_tryOut "YawnRoute$Deeds" 2 (some .int) false d nOb nOb Q 0 [(0, .ref (ad E 31)), (1, .int a1)] [] P E := by
  rw [f_De_tryOut] at h
  refine Go.aload_n (k := 0) (i := 0) 0 (by decide +kernel) rfl rfl ?_
  refine Go.get 31 3 (.ref (ad E 32)) (by decide) (by decide) sh31 (ltO hE sh31) (vlR hE rfl rfl) lk245 (by decide +kernel) ?_
  refine Go.aload_n (k := 0) (i := 0) 0 (by decide +kernel) rfl rfl ?_
  refine Go.get 31 1 (.ref (ad E 21)) (by decide) (by decide) sh31 (ltO hE sh31) (vlR hE rfl rfl) lk243 (by decide +kernel) ?_
  obtain ⟨P1, hP1, h⟩ := St.bind h
  refine Go.cV_v (P1 := P1) (d - 1) 32 [.ref (ad E 21)] sh32 hE w_Sa_copy (e_Sa_copy hG hE (d - 1) (by omega) 32 sh32 21 sh21 P ⟨_, hP1, rfl, rfl, rfl⟩) lk791 rfl (by omega) (Nat.le_of_ble_eq_true rfl) (by decide +kernel) _ rfl ?_
  refine Go.aload_n (k := 0) (i := 0) 0 (by decide +kernel) rfl rfl ?_
  refine Go.aload_n (k := 0) (i := 0) 0 (by decide +kernel) rfl rfl ?_
  refine Go.get 31 3 (.ref (ad E 32)) (by decide) (by decide) sh31 (ltO hE sh31) (vlR hE rfl rfl) lk245 (by decide +kernel) ?_
  refine Go.iload_n (k := 1) (i := 1) 1 (by decide +kernel) rfl rfl ?_
  obtain ⟨v2, P3, hv2, h⟩ := St.bd2 h
  refine Go.cV_i (P1 := P3) (v := v2) (d - 1) 31 [.ref (ad E 32), .int a1] sh31 hE w_De_tryAll (e_De_tryAll hG hE (d - 1) (by omega) 32 sh32 a1 P1 ⟨_, hv2, rfl, rfl, rfl⟩) lk863 rfl (by omega) (Nat.le_of_ble_eq_true rfl) (by decide +kernel) _ rfl ?_
  exact Go.iret rfl rfl hE.2 (by decide +kernel) (St.fIP h)
theorem e_De_tryOut {G : GX} (hG : GOK G) {E : EV} (hE : E0 E) (d : Nat) (hd : 7 ≤ d) (a1 : Int32) (P : PM) {Q : QT} (h : St E rIP (f_De_tryOut a1 P) Q) : Con G y_De_tryOut cw_De_tryOut d nOb nOb [.ref (ad E 31), .int a1] P E Q :=
  Con.of hG (by decide +kernel) rfl (fun h => by cases h) hE.2 (Nat.le_of_ble_eq_true rfl) (t_f_De_tryOut hG hE d hd a1 P h)
abbrev c_Tr_isMissing : ByteArray := prog_12_method_3_code
abbrev y_Tr_isMissing : MethodName := ⟨"YawnRoute$Trays", "isMissing", "(I)Z"⟩
abbrev cw_Tr_isMissing : Cond := .code y_Tr_isMissing c_Tr_isMissing 2 (some .boolean)
theorem w_Tr_isMissing : VW 10 y_Tr_isMissing c_Tr_isMissing 2 (some .boolean) 1 := ⟨by decide, lk855, lk856, lk7, lk857, ⟨by decide, by decide, by decide +kernel⟩, by decide⟩
noncomputable def j_Tr_isMissing_18 (P : PM) : Option Int32 := some (1 : Int32)
noncomputable def f_Tr_isMissing (a1 : Int32) (P : PM) : Option Int32 := if (f_Tr_isTray a1 P) = (0 : Int32) then (j_Tr_isMissing_18 P) else (ck (inb a1 4) (if (P.1 29 a1.toNatClampNeg) = (-1 : Int32) then (j_Tr_isMissing_18 P) else (some (0 : Int32))))
theorem t_j_Tr_isMissing_18 {G : GX} (hG : GOK G) {E : EV} (hE : E0 E) (d : Nat) (hd : 2 ≤ d) {P : PM} {Q : QT} (h : St E (rI P) (j_Tr_isMissing_18 P) Q) : Go G c_Tr_isMissing "YawnRoute$Trays" 2 (some .boolean) false d nOb nOb Q 18 [] [] P E := by
  rw [j_Tr_isMissing_18] at h
  refine Go.iconst (n := 1) (1 : Int32) (by decide +kernel) rfl ?_
  refine Go.goto (off := 4) 23 (by decide +kernel) (by decide) ?_
  exact Go.iret rfl rfl hE.2 (by decide +kernel) (St.fI h)
theorem t_f_Tr_isMissing {G : GX} (hG : GOK G) {E : EV} (hE : E0 E) (d : Nat) (hd : 2 ≤ d) {P : PM} {Q : QT} (a1 : Int32) (h : St E (rI P) (f_Tr_isMissing a1 P) Q) : Go G c_Tr_isMissing "YawnRoute$Trays" 2 (some .boolean) false d nOb nOb Q 0 [(0, .ref (ad E 23)), (1, .int a1)] [] P E := by
  rw [f_Tr_isMissing] at h
  refine Go.aload_n (k := 0) (i := 0) 0 (by decide +kernel) rfl rfl ?_
  refine Go.iload_n (k := 1) (i := 1) 1 (by decide +kernel) rfl rfl ?_
  refine Go.cV_i (P1 := P) (v := (f_Tr_isTray a1 P)) (d - 1) 23 [.int a1] sh23 hE w_Tr_isTray (e_Tr_isTray hG hE (d - 1) (by omega) a1 P ⟨rfl, rfl, rfl⟩) lk858 rfl (by omega) (Nat.le_of_ble_eq_true rfl) (by decide +kernel) _ rfl ?_
  refine Go.if_eq (off := 13) 18 (by decide +kernel) (by decide) (fun c1 => ?_) (fun c1 => ?_)
  · rw [if_pos c1] at h
    refine Go.sub [] [] rfl ?_
    exact t_j_Tr_isMissing_18 hG hE d hd h
  · rw [if_neg c1] at h
    refine Go.aload_n (k := 0) (i := 0) 0 (by decide +kernel) rfl rfl ?_
    refine Go.get 23 1 (.ref (ad E 29)) (by decide) (by decide) sh23 (ltO hE sh23) (vlR hE rfl rfl) lk223 (by decide +kernel) ?_
    refine Go.iload_n (k := 1) (i := 1) 1 (by decide +kernel) rfl rfl ?_
    obtain ⟨b2, h⟩ := St.ck h
    refine Go.iaload 29 4 sh29 (ltA hE sh29 (by decide)) (inb_in b2) (by decide +kernel) ?_
    refine Go.iconst (n := -1) (-1 : Int32) (by decide +kernel) rfl ?_
    refine Go.icmp_ne (off := 7) 22 (by decide +kernel) (by decide) (fun c3 => ?_) (fun c3 => ?_)
    · rw [if_neg c3] at h
      refine Go.iconst (n := 0) (0 : Int32) (by decide +kernel) rfl ?_
      exact Go.iret rfl rfl hE.2 (by decide +kernel) (St.fI h)
    · rw [if_pos c3] at h
      refine Go.sub [] [] rfl ?_
      exact t_j_Tr_isMissing_18 hG hE d hd h
theorem e_Tr_isMissing {G : GX} (hG : GOK G) {E : EV} (hE : E0 E) (d : Nat) (hd : 2 ≤ d) (a1 : Int32) (P : PM) {Q : QT} (h : St E (rI P) (f_Tr_isMissing a1 P) Q) : Con G y_Tr_isMissing cw_Tr_isMissing d nOb nOb [.ref (ad E 23), .int a1] P E Q :=
  Con.of hG (by decide +kernel) rfl (fun h => by cases h) hE.2 (Nat.le_of_ble_eq_true rfl) (t_f_Tr_isMissing hG hE d hd a1 h)
