/-! methods as functions, by program: Yr_judge Yr_perform De_draw De_tryDrawn De_trySeason Yr_season Yr_isPlace Ro_costOf Yr_placeOf Sa_place Ro_hoursNeeded Yr_sizeIn Yr_stationIn Pa_find Ja_rangeCheck -/
abbrev c_Yr_judge : ByteArray := prog_1_method_13_code
abbrev y_Yr_judge : MethodName := ⟨"YawnRoute", "judge", "(II)I"⟩
abbrev cw_Yr_judge : Cond := .code y_Yr_judge c_Yr_judge 4 (some .int)
theorem w_Yr_judge : VW 11 y_Yr_judge c_Yr_judge 4 (some .int) 2 := ⟨by decide, lk847, lk848, lk1, lk849, ⟨by decide, by decide, by decide +kernel⟩, by decide⟩
noncomputable def f_Yr_judge (a1 : Int32) (a2 : Int32) (P : PM) : Option (Int32 × PM) := if (f_Tr_isTray a1 P) = (0 : Int32) then (some ((-2 : Int32), P)) else (if a2 < (0 : Int32) then (some ((-2 : Int32), P)) else (if a2 ≤ (3 : Int32) then ((f_Tr_isMissing a1 P).bind (fun v4 => if v4 = (0 : Int32) then (bd2 (f_De_tryOut a1 P) (fun v6 P7 => if a2 = (0 : Int32) then ((f_Tr_lengthOf a1 P7).bind (fun v9 => if v9 ≤ v6 then (some ((-1 : Int32), P7)) else (some (v6, P7)))) else (if a2 = (1 : Int32) then (some ((P7.1 31 4), P7)) else (if a2 = (2 : Int32) then (some ((P7.1 32 0), P7)) else (some ((P7.1 32 1), P7)))))) else (some ((-6 : Int32), P)))) else (some ((-2 : Int32), P))))
theorem t_f_Yr_judge {G : GX} (hG : GOK G) {E : EV} (hE : E0 E) (d : Nat) (hd : 8 ≤ d) {Q : QT} (a1 : Int32) (a2 : Int32) (P : PM) (h : St E rIP (f_Yr_judge a1 a2 P) Q) : Go G c_Yr_judge "YawnRoute" 4 (some .int) false d nOb nOb Q 0 [(0, .ref (ad E 0)), (1, .int a1), (2, .int a2)] [] P E := by
  rw [f_Yr_judge] at h
  refine Go.aload_n (k := 0) (i := 0) 0 (by decide +kernel) rfl rfl ?_
  refine Go.get 0 4 (.ref (ad E 23)) (by decide) (by decide) sh0 (ltO hE sh0) (vlR hE rfl rfl) lk394 (by decide +kernel) ?_
  refine Go.iload_n (k := 1) (i := 1) 1 (by decide +kernel) rfl rfl ?_
  refine Go.cV_i (P1 := P) (v := (f_Tr_isTray a1 P)) (d - 1) 23 [.int a1] sh23 hE w_Tr_isTray (e_Tr_isTray hG hE (d - 1) (by omega) a1 P ⟨rfl, rfl, rfl⟩) lk850 rfl (by omega) (Nat.le_of_ble_eq_true rfl) (by decide +kernel) _ rfl ?_
  refine Go.if_eq (off := 12) 20 (by decide +kernel) (by decide) (fun c1 => ?_) (fun c1 => ?_)
  · rw [if_pos c1] at h
    refine Go.bipush (n := -2) (-2 : Int32) (by decide +kernel) (by decide) ?_
    exact Go.iret rfl rfl hE.2 (by decide +kernel) (St.fIP h)
  · rw [if_neg c1] at h
    refine Go.iload_n (k := 2) (i := 2) 2 (by decide +kernel) rfl rfl ?_
    refine Go.if_lt (off := 8) 20 (by decide +kernel) (by decide) (fun c2 => ?_) (fun c2 => ?_)
    · rw [if_pos c2] at h
      refine Go.bipush (n := -2) (-2 : Int32) (by decide +kernel) (by decide) ?_
      exact Go.iret rfl rfl hE.2 (by decide +kernel) (St.fIP h)
    · rw [if_neg c2] at h
      refine Go.iload_n (k := 2) (i := 2) 2 (by decide +kernel) rfl rfl ?_
      refine Go.iconst (n := 3) (3 : Int32) (by decide +kernel) rfl ?_
      refine Go.icmp_le (off := 6) 23 (by decide +kernel) (by decide) (fun c3 => ?_) (fun c3 => ?_)
      · rw [if_pos c3] at h
        refine Go.aload_n (k := 0) (i := 0) 0 (by decide +kernel) rfl rfl ?_
        refine Go.get 0 4 (.ref (ad E 23)) (by decide) (by decide) sh0 (ltO hE sh0) (vlR hE rfl rfl) lk394 (by decide +kernel) ?_
        refine Go.iload_n (k := 1) (i := 1) 1 (by decide +kernel) rfl rfl ?_
        obtain ⟨v4, hv4, h⟩ := St.bind h
        refine Go.cV_i (P1 := P) (v := v4) (d - 1) 23 [.int a1] sh23 hE w_Tr_isMissing (e_Tr_isMissing hG hE (d - 1) (by omega) a1 P ⟨_, hv4, rfl, rfl, rfl⟩) lk854 rfl (by omega) (Nat.le_of_ble_eq_true rfl) (by decide +kernel) _ rfl ?_
        refine Go.if_eq (off := 6) 37 (by decide +kernel) (by decide) (fun c5 => ?_) (fun c5 => ?_)
        · rw [if_pos c5] at h
          refine Go.aload_n (k := 0) (i := 0) 0 (by decide +kernel) rfl rfl ?_
          refine Go.get 0 5 (.ref (ad E 31)) (by decide) (by decide) sh0 (ltO hE sh0) (vlR hE rfl rfl) lk395 (by decide +kernel) ?_
          refine Go.iload_n (k := 1) (i := 1) 1 (by decide +kernel) rfl rfl ?_
          obtain ⟨v6, P7, hv6, h⟩ := St.bd2 h
          refine Go.cV_i (P1 := P7) (v := v6) (d - 1) 31 [.int a1] sh31 hE w_De_tryOut (e_De_tryOut hG hE (d - 1) (by omega) a1 P ⟨_, hv6, rfl, rfl, rfl⟩) lk859 rfl (by omega) (Nat.le_of_ble_eq_true rfl) (by decide +kernel) _ rfl ?_
          refine Go.istore_n (k := 3) (i := 3) [(3, .int v6), (0, .ref (ad E 0)), (1, .int a1), (2, .int a2)] (by decide +kernel) rfl (by decide) rfl ?_
          refine Go.iload_n (k := 2) (i := 2) 3 (by decide +kernel) rfl rfl ?_
          by_cases c8 : a2 = (0 : Int32)
          · rw [if_pos c8] at h
            refine Go.tabIn (dflt := 62) (lo := 0) (hi := 2) (offs := #[25, 43, 51]) (len := 25) (off := 25) 72 (by decide +kernel) (by rw [c8]; decide) (by rw [c8]; decide) (by rw [c8]; rfl) (by decide) ?_
            refine Go.iload_n (k := 3) (i := 3) 0 (by decide +kernel) rfl rfl ?_
            refine Go.aload_n (k := 0) (i := 0) 1 (by decide +kernel) rfl rfl ?_
            refine Go.get 0 4 (.ref (ad E 23)) (by decide) (by decide) sh0 (ltO hE sh0) (vlR hE rfl rfl) lk394 (by decide +kernel) ?_
            refine Go.iload_n (k := 1) (i := 1) 2 (by decide +kernel) rfl rfl ?_
            obtain ⟨v9, hv9, h⟩ := St.bind h
            refine Go.cV_i (P1 := P7) (v := v9) (d - 1) 23 [.int a1] sh23 hE w_Tr_lengthOf (e_Tr_lengthOf hG hE (d - 1) (by omega) a1 P7 ⟨_, hv9, rfl, rfl, rfl⟩) lk884 rfl (by omega) (Nat.le_of_ble_eq_true rfl) (by decide +kernel) _ rfl ?_
            refine Go.icmp_ge (off := 7) 88 (by decide +kernel) (by decide) (fun c10 => ?_) (fun c10 => ?_)
            · rw [if_pos c10] at h
              refine Go.iconst (n := -1) (-1 : Int32) (by decide +kernel) rfl ?_
              exact Go.iret rfl rfl hE.2 (by decide +kernel) (St.fIP h)
            · rw [if_neg c10] at h
              refine Go.iload_n (k := 3) (i := 3) 0 (by decide +kernel) rfl rfl ?_
              refine Go.goto (off := 4) 89 (by decide +kernel) (by decide) ?_
              exact Go.iret rfl rfl hE.2 (by decide +kernel) (St.fIP h)
          · rw [if_neg c8] at h
            by_cases c11 : a2 = (1 : Int32)
            · rw [if_pos c11] at h
              refine Go.tabIn (dflt := 62) (lo := 0) (hi := 2) (offs := #[25, 43, 51]) (len := 25) (off := 43) 90 (by decide +kernel) (by rw [c11]; decide) (by rw [c11]; decide) (by rw [c11]; rfl) (by decide) ?_
              refine Go.aload_n (k := 0) (i := 0) 1 (by decide +kernel) rfl rfl ?_
              refine Go.get 0 5 (.ref (ad E 31)) (by decide) (by decide) sh0 (ltO hE sh0) (vlR hE rfl rfl) lk395 (by decide +kernel) ?_
              refine Go.get 31 4 (.int (P7.1 31 4)) (by decide) (by decide) sh31 (ltO hE sh31) rfl lk248 (by decide +kernel) ?_
              exact Go.iret rfl rfl hE.2 (by decide +kernel) (St.fIP h)
            · rw [if_neg c11] at h
              by_cases c12 : a2 = (2 : Int32)
              · rw [if_pos c12] at h
                refine Go.tabIn (dflt := 62) (lo := 0) (hi := 2) (offs := #[25, 43, 51]) (len := 25) (off := 51) 98 (by decide +kernel) (by rw [c12]; decide) (by rw [c12]; decide) (by rw [c12]; rfl) (by decide) ?_
                refine Go.aload_n (k := 0) (i := 0) 1 (by decide +kernel) rfl rfl ?_
                refine Go.get 0 5 (.ref (ad E 31)) (by decide) (by decide) sh0 (ltO hE sh0) (vlR hE rfl rfl) lk395 (by decide +kernel) ?_
                refine Go.get 31 3 (.ref (ad E 32)) (by decide) (by decide) sh31 (ltO hE sh31) (vlR hE rfl rfl) lk246 (by decide +kernel) ?_
                refine Go.get 32 0 (.int (P7.1 32 0)) (by decide) (by decide) sh32 (ltO hE sh32) rfl lk151 (by decide +kernel) ?_
                exact Go.iret rfl rfl hE.2 (by decide +kernel) (St.fIP h)
              · rw [if_neg c12] at h
                have qc8 := lv_neT (k := (0 : Int32)) (a := 0) c8 (by decide)
                have qc11 := lv_neT (k := (1 : Int32)) (a := 1) c11 (by decide)
                have qc12 := lv_neT (k := (2 : Int32)) (a := 2) c12 (by decide)
                refine Go.tabOut (dflt := 62) (lo := 0) (hi := 2) (offs := #[25, 43, 51]) (len := 25) 109 (by decide +kernel) (by omega) (by decide) ?_
                refine Go.aload_n (k := 0) (i := 0) 1 (by decide +kernel) rfl rfl ?_
                refine Go.get 0 5 (.ref (ad E 31)) (by decide) (by decide) sh0 (ltO hE sh0) (vlR hE rfl rfl) lk395 (by decide +kernel) ?_
                refine Go.get 31 3 (.ref (ad E 32)) (by decide) (by decide) sh31 (ltO hE sh31) (vlR hE rfl rfl) lk246 (by decide +kernel) ?_
                refine Go.get 32 1 (.int (P7.1 32 1)) (by decide) (by decide) sh32 (ltO hE sh32) rfl lk159 (by decide +kernel) ?_
                exact Go.iret rfl rfl hE.2 (by decide +kernel) (St.fIP h)
        · rw [if_neg c5] at h
          refine Go.bipush (n := -6) (-6 : Int32) (by decide +kernel) (by decide) ?_
          exact Go.iret rfl rfl hE.2 (by decide +kernel) (St.fIP h)
      · rw [if_neg c3] at h
        refine Go.bipush (n := -2) (-2 : Int32) (by decide +kernel) (by decide) ?_
        exact Go.iret rfl rfl hE.2 (by decide +kernel) (St.fIP h)
theorem e_Yr_judge {G : GX} (hG : GOK G) {E : EV} (hE : E0 E) (d : Nat) (hd : 8 ≤ d) (a1 : Int32) (a2 : Int32) (P : PM) {Q : QT} (h : St E rIP (f_Yr_judge a1 a2 P) Q) : Con G y_Yr_judge cw_Yr_judge d nOb nOb [.ref (ad E 0), .int a1, .int a2] P E Q :=
  Con.of hG (by decide +kernel) rfl (fun h => by cases h) hE.2 (Nat.le_of_ble_eq_true rfl) (t_f_Yr_judge hG hE d hd a1 a2 P h)
abbrev c_Yr_perform : ByteArray := prog_1_method_14_code
abbrev y_Yr_perform : MethodName := ⟨"YawnRoute", "perform", "(I)I"⟩
abbrev cw_Yr_perform : Cond := .code y_Yr_perform c_Yr_perform 3 (some .int)
theorem w_Yr_perform : VW 11 y_Yr_perform c_Yr_perform 3 (some .int) 1 := ⟨by decide, lk886, lk887, lk1, lk888, ⟨by decide, by decide, by decide +kernel⟩, by decide⟩
noncomputable def f_Yr_perform (a1 : Int32) (P : PM) : Option (Int32 × PM) := if (f_Tr_isTray a1 P) = (0 : Int32) then (some ((-2 : Int32), P)) else ((f_Tr_isMissing a1 P).bind (fun v2 => if v2 = (0 : Int32) then ((f_De_note P).bind (fun P4 => bd2 (f_De_tryAll 21 a1 P4) (fun v5 P6 => if v5 ≤ (0 : Int32) then (some (v5, P6)) else ((f_De_keep P6).bind (fun P8 => some (v5, P8)))))) else (some ((-6 : Int32), P))))
theorem t_f_Yr_perform {G : GX} (hG : GOK G) {E : EV} (hE : E0 E) (d : Nat) (hd : 7 ≤ d) {Q : QT} (a1 : Int32) (P : PM) (h : St E rIP (f_Yr_perform a1 P) Q) : Go G c_Yr_perform "YawnRoute" 3 (some .int) false d nOb nOb Q 0 [(0, .ref (ad E 0)), (1, .int a1)] [] P E := by
  rw [f_Yr_perform] at h
  refine Go.aload_n (k := 0) (i := 0) 0 (by decide +kernel) rfl rfl ?_
  refine Go.get 0 4 (.ref (ad E 23)) (by decide) (by decide) sh0 (ltO hE sh0) (vlR hE rfl rfl) lk394 (by decide +kernel) ?_
  refine Go.iload_n (k := 1) (i := 1) 1 (by decide +kernel) rfl rfl ?_
  refine Go.cV_i (P1 := P) (v := (f_Tr_isTray a1 P)) (d - 1) 23 [.int a1] sh23 hE w_Tr_isTray (e_Tr_isTray hG hE (d - 1) (by omega) a1 P ⟨rfl, rfl, rfl⟩) lk850 rfl (by omega) (Nat.le_of_ble_eq_true rfl) (by decide +kernel) _ rfl ?_
  refine Go.if_ne (off := 6) 14 (by decide +kernel) (by decide) (fun c1 => ?_) (fun c1 => ?_)
  · rw [if_neg c1] at h
    refine Go.aload_n (k := 0) (i := 0) 0 (by decide +kernel) rfl rfl ?_
    refine Go.get 0 4 (.ref (ad E 23)) (by decide) (by decide) sh0 (ltO hE sh0) (vlR hE rfl rfl) lk394 (by decide +kernel) ?_
    refine Go.iload_n (k := 1) (i := 1) 1 (by decide +kernel) rfl rfl ?_
    obtain ⟨v2, hv2, h⟩ := St.bind h
    refine Go.cV_i (P1 := P) (v := v2) (d - 1) 23 [.int a1] sh23 hE w_Tr_isMissing (e_Tr_isMissing hG hE (d - 1) (by omega) a1 P ⟨_, hv2, rfl, rfl, rfl⟩) lk854 rfl (by omega) (Nat.le_of_ble_eq_true rfl) (by decide +kernel) _ rfl ?_
    refine Go.if_eq (off := 6) 28 (by decide +kernel) (by decide) (fun c3 => ?_) (fun c3 => ?_)
    · rw [if_pos c3] at h
      refine Go.aload_n (k := 0) (i := 0) 0 (by decide +kernel) rfl rfl ?_
      refine Go.get 0 5 (.ref (ad E 31)) (by decide) (by decide) sh0 (ltO hE sh0) (vlR hE rfl rfl) lk395 (by decide +kernel) ?_
      obtain ⟨P4, hP4, h⟩ := St.bind h
      refine Go.cV_v (P1 := P4) (d - 1) 31 [] sh31 hE w_De_note (e_De_note hG hE (d - 1) (by omega) P ⟨_, hP4, rfl, rfl, rfl⟩) lk787 rfl (by omega) (Nat.le_of_ble_eq_true rfl) (by decide +kernel) _ rfl ?_
      refine Go.aload_n (k := 0) (i := 0) 0 (by decide +kernel) rfl rfl ?_
      refine Go.get 0 5 (.ref (ad E 31)) (by decide) (by decide) sh0 (ltO hE sh0) (vlR hE rfl rfl) lk395 (by decide +kernel) ?_
      refine Go.aload_n (k := 0) (i := 0) 0 (by decide +kernel) rfl rfl ?_
      refine Go.get 0 3 (.ref (ad E 21)) (by decide) (by decide) sh0 (ltO hE sh0) (vlR hE rfl rfl) lk393 (by decide +kernel) ?_
      refine Go.iload_n (k := 1) (i := 1) 1 (by decide +kernel) rfl rfl ?_
      obtain ⟨v5, P6, hv5, h⟩ := St.bd2 h
      refine Go.cV_i (P1 := P6) (v := v5) (d - 1) 31 [.ref (ad E 21), .int a1] sh31 hE w_De_tryAll (e_De_tryAll hG hE (d - 1) (by omega) 21 sh21 a1 P4 ⟨_, hv5, rfl, rfl, rfl⟩) lk889 rfl (by omega) (Nat.le_of_ble_eq_true rfl) (by decide +kernel) _ rfl ?_
      refine Go.istore_n (k := 2) (i := 2) [(2, .int v5), (0, .ref (ad E 0)), (1, .int a1)] (by decide +kernel) rfl (by decide) rfl ?_
      refine Go.iload_n (k := 2) (i := 2) 0 (by decide +kernel) rfl rfl ?_
      refine Go.if_le (off := 10) 59 (by decide +kernel) (by decide) (fun c7 => ?_) (fun c7 => ?_)
      · rw [if_pos c7] at h
        refine Go.iload_n (k := 2) (i := 2) 0 (by decide +kernel) rfl rfl ?_
        exact Go.iret rfl rfl hE.2 (by decide +kernel) (St.fIP h)
      · rw [if_neg c7] at h
        refine Go.aload_n (k := 0) (i := 0) 1 (by decide +kernel) rfl rfl ?_
        refine Go.get 0 5 (.ref (ad E 31)) (by decide) (by decide) sh0 (ltO hE sh0) (vlR hE rfl rfl) lk395 (by decide +kernel) ?_
        obtain ⟨P8, hP8, h⟩ := St.bind h
        refine Go.cV_v (P1 := P8) (d - 1) 31 [] sh31 hE w_De_keep (e_De_keep hG hE (d - 1) (by omega) P6 ⟨_, hP8, rfl, rfl, rfl⟩) lk802 rfl (by omega) (Nat.le_of_ble_eq_true rfl) (by decide +kernel) _ rfl ?_
        refine Go.iload_n (k := 2) (i := 2) 0 (by decide +kernel) rfl rfl ?_
        exact Go.iret rfl rfl hE.2 (by decide +kernel) (St.fIP h)
    · rw [if_neg c3] at h
      refine Go.bipush (n := -6) (-6 : Int32) (by decide +kernel) (by decide) ?_
      exact Go.iret rfl rfl hE.2 (by decide +kernel) (St.fIP h)
  · rw [if_pos c1] at h
    refine Go.bipush (n := -2) (-2 : Int32) (by decide +kernel) (by decide) ?_
    exact Go.iret rfl rfl hE.2 (by decide +kernel) (St.fIP h)
theorem e_Yr_perform {G : GX} (hG : GOK G) {E : EV} (hE : E0 E) (d : Nat) (hd : 7 ≤ d) (a1 : Int32) (P : PM) {Q : QT} (h : St E rIP (f_Yr_perform a1 P) Q) : Con G y_Yr_perform cw_Yr_perform d nOb nOb [.ref (ad E 0), .int a1] P E Q :=
  Con.of hG (by decide +kernel) rfl (fun h => by cases h) hE.2 (Nat.le_of_ble_eq_true rfl) (t_f_Yr_perform hG hE d hd a1 P h)
abbrev c_De_draw : ByteArray := prog_2_method_16_code
abbrev y_De_draw : MethodName := ⟨"YawnRoute$Deeds", "draw", "()I"⟩
abbrev cw_De_draw : Cond := .code y_De_draw c_De_draw 1 (some .int)
theorem w_De_draw : VW 0 y_De_draw c_De_draw 1 (some .int) 0 := ⟨by decide, lk904, lp24_, lk8, lk905, ⟨by decide, by decide, by decide +kernel⟩, by decide⟩
noncomputable def f_De_draw (P : PM) : Option (Int32 × PM) := some (((((u1 P 31 8 (((1103515245 : Int32) * (P.1 31 8)) + (12345 : Int32))).1 31 8).toUInt32 >>> ((16 : Int32).toUInt32 &&& Int32.toUInt32 31)).toInt32), (u1 P 31 8 (((1103515245 : Int32) * (P.1 31 8)) + (12345 : Int32))))
theorem t_f_De_draw {G : GX} (hG : GOK G) {E : EV} (hE : E0 E) (d : Nat) (hd : 1 ≤ d) {Q : QT} (P : PM) (h : St E rIP (f_De_draw P) Q) : Go G c_De_draw "YawnRoute$Deeds" 1 (some .int) false d nOb nOb Q 0 [(0, .ref (ad E 31))] [] P E := by
  rw [f_De_draw] at h
  refine Go.aload_n (k := 0) (i := 0) 0 (by decide +kernel) rfl rfl ?_
  refine Go.ldc (1103515245 : Int32) lk906 (by decide +kernel) ?_
  refine Go.aload_n (k := 0) (i := 0) 0 (by decide +kernel) rfl rfl ?_
  refine Go.get 31 8 (.int (P.1 31 8)) (by decide) (by decide) sh31 (ltO hE sh31) rfl lk253 (by decide +kernel) ?_
  refine Go.imul (by decide +kernel) ?_
  refine Go.sipush (n := 12345) (12345 : Int32) (by decide +kernel) (by decide) ?_
  refine Go.iadd (by decide +kernel) ?_
  refine Go.put 31 8 (by decide) (by decide) sh31 (ltO hE sh31) (Or.inl rfl) rfl rfl rfl lk253 (by decide +kernel) ?_
  refine Go.aload_n (k := 0) (i := 0) 0 (by decide +kernel) rfl rfl ?_
  refine Go.get 31 8 (.int ((u1 P 31 8 (((1103515245 : Int32) * (P.1 31 8)) + (12345 : Int32))).1 31 8)) (by decide) (by decide) sh31 (ltO hE sh31) rfl lk253 (by decide +kernel) ?_
  refine Go.bipush (n := 16) (16 : Int32) (by decide +kernel) (by decide) ?_
  refine Go.iushr (by decide +kernel) ?_
  exact Go.iret rfl rfl hE.2 (by decide +kernel) (St.fIP h)
theorem e_De_draw {G : GX} (hG : GOK G) {E : EV} (hE : E0 E) (d : Nat) (hd : 1 ≤ d) (P : PM) {Q : QT} (h : St E rIP (f_De_draw P) Q) : Con G y_De_draw cw_De_draw d nOb nOb [.ref (ad E 31)] P E Q :=
  Con.of hG (by decide +kernel) rfl (fun h => by cases h) hE.2 (Nat.le_of_ble_eq_true rfl) (t_f_De_draw hG hE d hd P h)
abbrev c_De_tryDrawn : ByteArray := prog_2_method_15_code
abbrev y_De_tryDrawn : MethodName := ⟨"YawnRoute$Deeds", "tryDrawn", "()I"⟩
abbrev cw_De_tryDrawn : Cond := .code y_De_tryDrawn c_De_tryDrawn 3 (some .int)
theorem w_De_tryDrawn : VW 0 y_De_tryDrawn c_De_tryDrawn 3 (some .int) 0 := ⟨by decide, lk900, lp23_, lk8, lk901, ⟨by decide, by decide, by decide +kernel⟩, by decide⟩
noncomputable def f_De_tryDrawn (P : PM) : Option (Int32 × PM) := bd2 (f_De_draw P) (fun v1 P2 => lb (v1 - v1 / (6 : Int32) * (6 : Int32)) (fun y3 => bd2 (f_De_draw P2) (fun v4 P5 => lb (v4 - v4 / (7 : Int32) * (7 : Int32)) (fun y6 => if (3 : Int32) ≤ y3 then (if y3 = (3 : Int32) then (bd2 (f_De_trySleep 21 y6 P5) (fun v18 P19 => some (v18, P19))) else (if y3 = (4 : Int32) then (bd2 (f_De_draw P5) (fun v14 P15 => bd2 (f_De_tryDull 21 y6 (v14 - v14 / (10 : Int32) * (10 : Int32)) P15) (fun v16 P17 => some (v16, P17)))) else (bd2 (f_De_draw P5) (fun v10 P11 => bd2 (f_De_tryOff 21 y6 ((1 : Int32) + (v10 - v10 / (9 : Int32) * (9 : Int32))) P11) (fun v12 P13 => some (v12, P13)))))) else (bd2 (f_De_tryPass 21 y6 P5) (fun v20 P21 => some (v20, P21)))))))
theorem t_f_De_tryDrawn {G : GX} (hG : GOK G) {E : EV} (hE : E0 E) (d : Nat) (hd : 5 ≤ d) {Q : QT} (P : PM) (h : St E rIP (f_De_tryDrawn P) Q) : Go G c_De_tryDrawn "YawnRoute$Deeds" 3 (some .int) false d nOb nOb Q 0 [(0, .ref (ad E 31))] [] P E := by
  rw [f_De_tryDrawn] at h
  refine Go.aload_n (k := 0) (i := 0) 0 (by decide +kernel) rfl rfl ?_
  obtain ⟨v1, P2, hv1, h⟩ := St.bd2 h
  refine Go.cV_i (P1 := P2) (v := v1) (d - 1) 31 [] sh31 hE w_De_draw (e_De_draw hG hE (d - 1) (by omega) P ⟨_, hv1, rfl, rfl, rfl⟩) lk902 rfl (by omega) (Nat.le_of_ble_eq_true rfl) (by decide +kernel) _ rfl ?_
  refine Go.bipush (n := 6) (6 : Int32) (by decide +kernel) (by decide) ?_
  refine Go.irem (by decide +kernel) (by decide) ?_
  obtain ⟨y3, hy3, h⟩ := St.lb h
  refine Go.eqi y3 hy3 ?_
  refine Go.istore_n (k := 1) (i := 1) [(1, .int y3), (0, .ref (ad E 31))] (by decide +kernel) rfl (by decide) rfl ?_
  refine Go.aload_n (k := 0) (i := 0) 1 (by decide +kernel) rfl rfl ?_
  obtain ⟨v4, P5, hv4, h⟩ := St.bd2 h
  refine Go.cV_i (P1 := P5) (v := v4) (d - 1) 31 [] sh31 hE w_De_draw (e_De_draw hG hE (d - 1) (by omega) P2 ⟨_, hv4, rfl, rfl, rfl⟩) lk902 rfl (by omega) (Nat.le_of_ble_eq_true rfl) (by decide +kernel) _ rfl ?_
  refine Go.bipush (n := 7) (7 : Int32) (by decide +kernel) (by decide) ?_
  refine Go.irem (by decide +kernel) (by decide) ?_
  obtain ⟨y6, hy6, h⟩ := St.lb h
  refine Go.eqi y6 hy6 ?_
  refine Go.istore_n (k := 2) (i := 2) [(2, .int y6), (1, .int y3), (0, .ref (ad E 31))] (by decide +kernel) rfl (by decide) rfl ?_
  refine Go.iload_n (k := 1) (i := 1) 1 (by decide +kernel) rfl rfl ?_
  refine Go.iconst (n := 3) (3 : Int32) (by decide +kernel) rfl ?_
  refine Go.icmp_ge (off := 13) 31 (by decide +kernel) (by decide) (fun c7 => ?_) (fun c7 => ?_)
  · rw [if_pos c7] at h
    refine Go.iload_n (k := 1) (i := 1) 1 (by decide +kernel) rfl rfl ?_
    refine Go.iconst (n := 3) (3 : Int32) (by decide +kernel) rfl ?_
    refine Go.icmp_ne (off := 13) 46 (by decide +kernel) (by decide) (fun c8 => ?_) (fun c8 => ?_)
    · rw [if_neg c8] at h
      refine Go.iload_n (k := 1) (i := 1) 1 (by decide +kernel) rfl rfl ?_
      refine Go.iconst (n := 4) (4 : Int32) (by decide +kernel) rfl ?_
      refine Go.icmp_ne (off := 20) 68 (by decide +kernel) (by decide) (fun c9 => ?_) (fun c9 => ?_)
      · rw [if_neg c9] at h
        refine Go.aload_n (k := 0) (i := 0) 2 (by decide +kernel) rfl rfl ?_
        refine Go.aload_n (k := 0) (i := 0) 2 (by decide +kernel) rfl rfl ?_
        refine Go.get 31 1 (.ref (ad E 21)) (by decide) (by decide) sh31 (ltO hE sh31) (vlR hE rfl rfl) lk243 (by decide +kernel) ?_
        refine Go.iload_n (k := 2) (i := 2) 0 (by decide +kernel) rfl rfl ?_
        refine Go.iconst (n := 1) (1 : Int32) (by decide +kernel) rfl ?_
        refine Go.aload_n (k := 0) (i := 0) 2 (by decide +kernel) rfl rfl ?_
        obtain ⟨v10, P11, hv10, h⟩ := St.bd2 h
        refine Go.cV_i (P1 := P11) (v := v10) (d - 1) 31 [] sh31 hE w_De_draw (e_De_draw hG hE (d - 1) (by omega) P5 ⟨_, hv10, rfl, rfl, rfl⟩) lk902 rfl (by omega) (Nat.le_of_ble_eq_true rfl) (by decide +kernel) _ rfl ?_
        refine Go.bipush (n := 9) (9 : Int32) (by decide +kernel) (by decide) ?_
        refine Go.irem (by decide +kernel) (by decide) ?_
        refine Go.iadd (by decide +kernel) ?_
        obtain ⟨v12, P13, hv12, h⟩ := St.bd2 h
        refine Go.cV_i (P1 := P13) (v := v12) (d - 1) 31 [.ref (ad E 21), .int y6, .int ((1 : Int32) + (v10 - v10 / (9 : Int32) * (9 : Int32)))] sh31 hE w_De_tryOff (e_De_tryOff hG hE (d - 1) (by omega) 21 sh21 y6 ((1 : Int32) + (v10 - v10 / (9 : Int32) * (9 : Int32))) P11 ⟨_, hv12, rfl, rfl, rfl⟩) lk882 rfl (by omega) (Nat.le_of_ble_eq_true rfl) (by decide +kernel) _ rfl ?_
        exact Go.iret rfl rfl hE.2 (by decide +kernel) (St.fIP h)
      · rw [if_pos c9] at h
        refine Go.aload_n (k := 0) (i := 0) 2 (by decide +kernel) rfl rfl ?_
        refine Go.aload_n (k := 0) (i := 0) 2 (by decide +kernel) rfl rfl ?_
        refine Go.get 31 1 (.ref (ad E 21)) (by decide) (by decide) sh31 (ltO hE sh31) (vlR hE rfl rfl) lk243 (by decide +kernel) ?_
        refine Go.iload_n (k := 2) (i := 2) 0 (by decide +kernel) rfl rfl ?_
        refine Go.aload_n (k := 0) (i := 0) 2 (by decide +kernel) rfl rfl ?_
        obtain ⟨v14, P15, hv14, h⟩ := St.bd2 h
        refine Go.cV_i (P1 := P15) (v := v14) (d - 1) 31 [] sh31 hE w_De_draw (e_De_draw hG hE (d - 1) (by omega) P5 ⟨_, hv14, rfl, rfl, rfl⟩) lk902 rfl (by omega) (Nat.le_of_ble_eq_true rfl) (by decide +kernel) _ rfl ?_
        refine Go.bipush (n := 10) (10 : Int32) (by decide +kernel) (by decide) ?_
        refine Go.irem (by decide +kernel) (by decide) ?_
        obtain ⟨v16, P17, hv16, h⟩ := St.bd2 h
        refine Go.cV_i (P1 := P17) (v := v16) (d - 1) 31 [.ref (ad E 21), .int y6, .int (v14 - v14 / (10 : Int32) * (10 : Int32))] sh31 hE w_De_tryDull (e_De_tryDull hG hE (d - 1) (by omega) 21 sh21 y6 (v14 - v14 / (10 : Int32) * (10 : Int32)) P15 ⟨_, hv16, rfl, rfl, rfl⟩) lk883 rfl (by omega) (Nat.le_of_ble_eq_true rfl) (by decide +kernel) _ rfl ?_
        exact Go.iret rfl rfl hE.2 (by decide +kernel) (St.fIP h)
    · rw [if_pos c8] at h
      refine Go.aload_n (k := 0) (i := 0) 2 (by decide +kernel) rfl rfl ?_
      refine Go.aload_n (k := 0) (i := 0) 2 (by decide +kernel) rfl rfl ?_
      refine Go.get 31 1 (.ref (ad E 21)) (by decide) (by decide) sh31 (ltO hE sh31) (vlR hE rfl rfl) lk243 (by decide +kernel) ?_
      refine Go.iload_n (k := 2) (i := 2) 0 (by decide +kernel) rfl rfl ?_
      obtain ⟨v18, P19, hv18, h⟩ := St.bd2 h
      refine Go.cV_i (P1 := P19) (v := v18) (d - 1) 31 [.ref (ad E 21), .int y6] sh31 hE w_De_trySleep (e_De_trySleep hG hE (d - 1) (by omega) 21 sh21 y6 P5 ⟨_, hv18, rfl, rfl, rfl⟩) lk881 rfl (by omega) (Nat.le_of_ble_eq_true rfl) (by decide +kernel) _ rfl ?_
      exact Go.iret rfl rfl hE.2 (by decide +kernel) (St.fIP h)
  · rw [if_neg c7] at h
    refine Go.aload_n (k := 0) (i := 0) 2 (by decide +kernel) rfl rfl ?_
    refine Go.aload_n (k := 0) (i := 0) 2 (by decide +kernel) rfl rfl ?_
    refine Go.get 31 1 (.ref (ad E 21)) (by decide) (by decide) sh31 (ltO hE sh31) (vlR hE rfl rfl) lk243 (by decide +kernel) ?_
    refine Go.iload_n (k := 2) (i := 2) 0 (by decide +kernel) rfl rfl ?_
    obtain ⟨v20, P21, hv20, h⟩ := St.bd2 h
    refine Go.cV_i (P1 := P21) (v := v20) (d - 1) 31 [.ref (ad E 21), .int y6] sh31 hE w_De_tryPass (e_De_tryPass hG hE (d - 1) (by omega) 21 sh21 y6 P5 ⟨_, hv20, rfl, rfl, rfl⟩) lk880 rfl (by omega) (Nat.le_of_ble_eq_true rfl) (by decide +kernel) _ rfl ?_
    exact Go.iret rfl rfl hE.2 (by decide +kernel) (St.fIP h)
theorem e_De_tryDrawn {G : GX} (hG : GOK G) {E : EV} (hE : E0 E) (d : Nat) (hd : 5 ≤ d) (P : PM) {Q : QT} (h : St E rIP (f_De_tryDrawn P) Q) : Con G y_De_tryDrawn cw_De_tryDrawn d nOb nOb [.ref (ad E 31)] P E Q :=
  Con.of hG (by decide +kernel) rfl (fun h => by cases h) hE.2 (Nat.le_of_ble_eq_true rfl) (t_f_De_tryDrawn hG hE d hd P h)
abbrev c_De_trySeason : ByteArray := prog_2_method_14_code
abbrev y_De_trySeason : MethodName := ⟨"YawnRoute$Deeds", "trySeason", "(II)I"⟩
abbrev cw_De_trySeason : Cond := .code y_De_trySeason c_De_trySeason 5 (some .int)
theorem w_De_trySeason : VW 0 y_De_trySeason c_De_trySeason 5 (some .int) 2 := ⟨by decide, lk895, lk896, lk8, lk897, ⟨by decide, by decide, by decide +kernel⟩, by decide⟩
noncomputable def j_De_trySeason_29 (k10 : Int32 → Int32 → Int32 → PM → Option (Int32 × PM)) (x2 : Int32) (x4 : Int32) (s0 : Int32) (s1 : Int32) (P : PM) : Option (Int32 × PM) := lb (s0 + s1) (fun y1 => k10 x2 y1 (x4 + (1 : Int32)) P)
noncomputable def l_De_trySeason_10 : Nat → Int32 → Int32 → Int32 → PM → Option (Int32 × PM)
  | 0, _, _, _, _ => none
  | n + 1, x2, x3, x4, P => if x2 ≤ x4 then (some (x3, P)) else (bd2 (f_De_tryDrawn P) (fun v2 P3 => if v2 = (0 : Int32) then (j_De_trySeason_29 (fun z0 z1 z2 Pz => l_De_trySeason_10 n z0 z1 z2 Pz) x2 x4 x3 (1 : Int32) P3) else (j_De_trySeason_29 (fun z0 z1 z2 Pz => l_De_trySeason_10 n z0 z1 z2 Pz) x2 x4 x3 (0 : Int32) P3)))
noncomputable def f_De_trySeason (a1 : Int32) (a2 : Int32) (P : PM) : Option (Int32 × PM) := l_De_trySeason_10 FU a2 (0 : Int32) (0 : Int32) (u1 P 31 8 a1)
theorem t_j_De_trySeason_29 {G : GX} (hG : GOK G) {E : EV} (hE : E0 E) (d : Nat) (hd : 6 ≤ d) {Q : QT} (k10 : Int32 → Int32 → Int32 → PM → Option (Int32 × PM)) (hk10 : ∀ (x2 : Int32) (x3 : Int32) (x4 : Int32) (P : PM), St E rIP (k10 x2 x3 x4 P) Q → Go G c_De_trySeason "YawnRoute$Deeds" 5 (some .int) false d nOb nOb Q 10 [(0, .ref (ad E 31)), (2, .int x2), (3, .int x3), (4, .int x4)] [] P E) (x2 : Int32) (x4 : Int32) (s0 : Int32) (s1 : Int32) (P : PM) (h : St E rIP (j_De_trySeason_29 k10 x2 x4 s0 s1 P) Q) : Go G c_De_trySeason "YawnRoute$Deeds" 5 (some .int) false d nOb nOb Q 29 [(0, .ref (ad E 31)), (2, .int x2), (4, .int x4)] [.int s1, .int s0] P E := by
  rw [j_De_trySeason_29] at h
  refine Go.iadd (by decide +kernel) ?_
  obtain ⟨y1, hy1, h⟩ := St.lb h
  refine Go.eqi y1 hy1 ?_
  refine Go.istore_n (k := 3) (i := 3) [(3, .int y1), (0, .ref (ad E 31)), (2, .int x2), (4, .int x4)] (by decide +kernel) rfl (by decide) rfl ?_
  refine Go.iinc (i := 4) (n := 1) 3 (x4 + (1 : Int32)) [(4, .int (x4 + (1 : Int32))), (3, .int y1), (0, .ref (ad E 31)), (2, .int x2)] (by decide +kernel) rfl rfl (by decide) rfl ?_
  refine Go.goto (off := -24) 10 (by decide +kernel) (by decide) ?_
  refine Go.sub [2, 3, 1, 0] [(0, .ref (ad E 31)), (2, .int x2), (3, .int y1), (4, .int (x4 + (1 : Int32)))] rfl ?_
  exact hk10 x2 y1 (x4 + (1 : Int32)) P h
theorem t_l_De_trySeason_10 {G : GX} (hG : GOK G) {E : EV} (hE : E0 E) (d : Nat) (hd : 6 ≤ d) {Q : QT} : ∀ (n : Nat) (x2 : Int32) (x3 : Int32) (x4 : Int32) (P : PM), St E rIP (l_De_trySeason_10 n x2 x3 x4 P) Q → Go G c_De_trySeason "YawnRoute$Deeds" 5 (some .int) false d nOb nOb Q 10 [(0, .ref (ad E 31)), (2, .int x2), (3, .int x3), (4, .int x4)] [] P E := by
  intro n
  induction n with
  | zero =>
    intro x2 x3 x4 P h
    rw [l_De_trySeason_10] at h
    exact St.none_ h
  | succ n ih =>
    intro x2 x3 x4 P h
    rw [l_De_trySeason_10] at h
    refine Go.iload (i := 4) 3 (by decide +kernel) rfl ?_
    refine Go.iload_n (k := 2) (i := 2) 1 (by decide +kernel) rfl rfl ?_
    refine Go.icmp_ge (off := 24) 37 (by decide +kernel) (by decide) (fun c1 => ?_) (fun c1 => ?_)
    · rw [if_pos c1] at h
      refine Go.iload_n (k := 3) (i := 3) 2 (by decide +kernel) rfl rfl ?_
      exact Go.iret rfl rfl hE.2 (by decide +kernel) (St.fIP h)
    · rw [if_neg c1] at h
      refine Go.iload_n (k := 3) (i := 3) 2 (by decide +kernel) rfl rfl ?_
      refine Go.aload_n (k := 0) (i := 0) 0 (by decide +kernel) rfl rfl ?_
      obtain ⟨v2, P3, hv2, h⟩ := St.bd2 h
      refine Go.cV_i (P1 := P3) (v := v2) (d - 1) 31 [] sh31 hE w_De_tryDrawn (e_De_tryDrawn hG hE (d - 1) (by omega) P ⟨_, hv2, rfl, rfl, rfl⟩) lk898 rfl (by omega) (Nat.le_of_ble_eq_true rfl) (by decide +kernel) _ rfl ?_
      refine Go.if_ne (off := 7) 28 (by decide +kernel) (by decide) (fun c4 => ?_) (fun c4 => ?_)
      · rw [if_neg c4] at h
        refine Go.iconst (n := 0) (0 : Int32) (by decide +kernel) rfl ?_
        refine Go.sub [0, 1, 3] [(0, .ref (ad E 31)), (2, .int x2), (4, .int x4)] rfl ?_
        exact t_j_De_trySeason_29 hG hE d hd (fun z0 z1 z2 Pz => l_De_trySeason_10 n z0 z1 z2 Pz) (fun z0 z1 z2 Pz q => ih z0 z1 z2 Pz q) x2 x4 x3 (0 : Int32) P3 h
      · rw [if_pos c4] at h
        refine Go.iconst (n := 1) (1 : Int32) (by decide +kernel) rfl ?_
        refine Go.goto (off := 4) 29 (by decide +kernel) (by decide) ?_
        refine Go.sub [0, 1, 3] [(0, .ref (ad E 31)), (2, .int x2), (4, .int x4)] rfl ?_
        exact t_j_De_trySeason_29 hG hE d hd (fun z0 z1 z2 Pz => l_De_trySeason_10 n z0 z1 z2 Pz) (fun z0 z1 z2 Pz q => ih z0 z1 z2 Pz q) x2 x4 x3 (1 : Int32) P3 h
theorem t_f_De_trySeason {G : GX} (hG : GOK G) {E : EV} (hE : E0 E) (d : Nat) (hd : 6 ≤ d) {Q : QT} (a1 : Int32) (a2 : Int32) (P : PM) (h : St E rIP (f_De_trySeason a1 a2 P) Q) : Go G c_De_trySeason "YawnRoute$Deeds" 5 (some .int) false d nOb nOb Q 0 [(0, .ref (ad E 31)), (1, .int a1), (2, .int a2)] [] P E := by
  rw [f_De_trySeason] at h
  refine Go.iconst (n := 0) (0 : Int32) (by decide +kernel) rfl ?_
  refine Go.istore_n (k := 3) (i := 3) [(3, .int (0 : Int32)), (0, .ref (ad E 31)), (1, .int a1), (2, .int a2)] (by decide +kernel) rfl (by decide) rfl ?_
  refine Go.aload_n (k := 0) (i := 0) 1 (by decide +kernel) rfl rfl ?_
  refine Go.iload_n (k := 1) (i := 1) 2 (by decide +kernel) rfl rfl ?_
  refine Go.put 31 8 (by decide) (by decide) sh31 (ltO hE sh31) (Or.inl rfl) rfl rfl rfl lk253 (by decide +kernel) ?_
  refine Go.iconst (n := 0) (0 : Int32) (by decide +kernel) rfl ?_
  refine Go.istore (i := 4) [(4, .int (0 : Int32)), (3, .int (0 : Int32)), (0, .ref (ad E 31)), (1, .int a1), (2, .int a2)] (by decide +kernel) (by decide) rfl ?_
  refine Go.sub [2, 4, 1, 0] [(0, .ref (ad E 31)), (2, .int a2), (3, .int (0 : Int32)), (4, .int (0 : Int32))] rfl ?_
  exact t_l_De_trySeason_10 hG hE d hd FU a2 (0 : Int32) (0 : Int32) (u1 P 31 8 a1) h
theorem e_De_trySeason {G : GX} (hG : GOK G) {E : EV} (hE : E0 E) (d : Nat) (hd : 6 ≤ d) (a1 : Int32) (a2 : Int32) (P : PM) {Q : QT} (h : St E rIP (f_De_trySeason a1 a2 P) Q) : Con G y_De_trySeason cw_De_trySeason d nOb nOb [.ref (ad E 31), .int a1, .int a2] P E Q :=
  Con.of hG (by decide +kernel) rfl (fun h => by cases h) hE.2 (Nat.le_of_ble_eq_true rfl) (t_f_De_trySeason hG hE d hd a1 a2 P h)
abbrev c_Yr_season : ByteArray := prog_1_method_15_code
abbrev y_Yr_season : MethodName := ⟨"YawnRoute", "season", "(II)I"⟩
abbrev cw_Yr_season : Cond := .code y_Yr_season c_Yr_season 4 (some .int)
theorem w_Yr_season : VW 11 y_Yr_season c_Yr_season 4 (some .int) 2 := ⟨by decide, lk891, lk892, lk1, lk893, ⟨by decide, by decide, by decide +kernel⟩, by decide⟩
noncomputable def f_Yr_season (a1 : Int32) (a2 : Int32) (P : PM) : Option (Int32 × PM) := if a2 < (1 : Int32) then (some ((-3 : Int32), P)) else (if a2 ≤ (40 : Int32) then ((f_De_note P).bind (fun P3 => bd2 (f_De_trySeason a1 a2 P3) (fun v4 P5 => if v4 ≤ (0 : Int32) then (some (v4, P5)) else ((f_De_keep P5).bind (fun P7 => some (v4, P7)))))) else (some ((-3 : Int32), P)))
theorem t_f_Yr_season {G : GX} (hG : GOK G) {E : EV} (hE : E0 E) (d : Nat) (hd : 7 ≤ d) {Q : QT} (a1 : Int32) (a2 : Int32) (P : PM) (h : St E rIP (f_Yr_season a1 a2 P) Q) : Go G c_Yr_season "YawnRoute" 4 (some .int) false d nOb nOb Q 0 [(0, .ref (ad E 0)), (1, .int a1), (2, .int a2)] [] P E := by
  rw [f_Yr_season] at h
  refine Go.iload_n (k := 2) (i := 2) 2 (by decide +kernel) rfl rfl ?_
  refine Go.iconst (n := 1) (1 : Int32) (by decide +kernel) rfl ?_
  refine Go.icmp_lt (off := 9) 11 (by decide +kernel) (by decide) (fun c1 => ?_) (fun c1 => ?_)
  · rw [if_pos c1] at h
    refine Go.bipush (n := -3) (-3 : Int32) (by decide +kernel) (by decide) ?_
    exact Go.iret rfl rfl hE.2 (by decide +kernel) (St.fIP h)
  · rw [if_neg c1] at h
    refine Go.iload_n (k := 2) (i := 2) 2 (by decide +kernel) rfl rfl ?_
    refine Go.bipush (n := 40) (40 : Int32) (by decide +kernel) (by decide) ?_
    refine Go.icmp_le (off := 6) 14 (by decide +kernel) (by decide) (fun c2 => ?_) (fun c2 => ?_)
    · rw [if_pos c2] at h
      refine Go.aload_n (k := 0) (i := 0) 0 (by decide +kernel) rfl rfl ?_
      refine Go.get 0 5 (.ref (ad E 31)) (by decide) (by decide) sh0 (ltO hE sh0) (vlR hE rfl rfl) lk395 (by decide +kernel) ?_
      obtain ⟨P3, hP3, h⟩ := St.bind h
      refine Go.cV_v (P1 := P3) (d - 1) 31 [] sh31 hE w_De_note (e_De_note hG hE (d - 1) (by omega) P ⟨_, hP3, rfl, rfl, rfl⟩) lk787 rfl (by omega) (Nat.le_of_ble_eq_true rfl) (by decide +kernel) _ rfl ?_
      refine Go.aload_n (k := 0) (i := 0) 0 (by decide +kernel) rfl rfl ?_
      refine Go.get 0 5 (.ref (ad E 31)) (by decide) (by decide) sh0 (ltO hE sh0) (vlR hE rfl rfl) lk395 (by decide +kernel) ?_
      refine Go.iload_n (k := 1) (i := 1) 1 (by decide +kernel) rfl rfl ?_
      refine Go.iload_n (k := 2) (i := 2) 2 (by decide +kernel) rfl rfl ?_
      obtain ⟨v4, P5, hv4, h⟩ := St.bd2 h
      refine Go.cV_i (P1 := P5) (v := v4) (d - 1) 31 [.int a1, .int a2] sh31 hE w_De_trySeason (e_De_trySeason hG hE (d - 1) (by omega) a1 a2 P3 ⟨_, hv4, rfl, rfl, rfl⟩) lk894 rfl (by omega) (Nat.le_of_ble_eq_true rfl) (by decide +kernel) _ rfl ?_
      refine Go.istore_n (k := 3) (i := 3) [(3, .int v4), (0, .ref (ad E 0)), (1, .int a1), (2, .int a2)] (by decide +kernel) rfl (by decide) rfl ?_
      refine Go.iload_n (k := 3) (i := 3) 0 (by decide +kernel) rfl rfl ?_
      refine Go.if_le (off := 10) 42 (by decide +kernel) (by decide) (fun c6 => ?_) (fun c6 => ?_)
      · rw [if_pos c6] at h
        refine Go.iload_n (k := 3) (i := 3) 0 (by decide +kernel) rfl rfl ?_
        exact Go.iret rfl rfl hE.2 (by decide +kernel) (St.fIP h)
      · rw [if_neg c6] at h
        refine Go.aload_n (k := 0) (i := 0) 1 (by decide +kernel) rfl rfl ?_
        refine Go.get 0 5 (.ref (ad E 31)) (by decide) (by decide) sh0 (ltO hE sh0) (vlR hE rfl rfl) lk395 (by decide +kernel) ?_
        obtain ⟨P7, hP7, h⟩ := St.bind h
        refine Go.cV_v (P1 := P7) (d - 1) 31 [] sh31 hE w_De_keep (e_De_keep hG hE (d - 1) (by omega) P5 ⟨_, hP7, rfl, rfl, rfl⟩) lk802 rfl (by omega) (Nat.le_of_ble_eq_true rfl) (by decide +kernel) _ rfl ?_
        refine Go.iload_n (k := 3) (i := 3) 0 (by decide +kernel) rfl rfl ?_
        exact Go.iret rfl rfl hE.2 (by decide +kernel) (St.fIP h)
    · rw [if_neg c2] at h
      refine Go.bipush (n := -3) (-3 : Int32) (by decide +kernel) (by decide) ?_
      exact Go.iret rfl rfl hE.2 (by decide +kernel) (St.fIP h)
theorem e_Yr_season {G : GX} (hG : GOK G) {E : EV} (hE : E0 E) (d : Nat) (hd : 7 ≤ d) (a1 : Int32) (a2 : Int32) (P : PM) {Q : QT} (h : St E rIP (f_Yr_season a1 a2 P) Q) : Con G y_Yr_season cw_Yr_season d nOb nOb [.ref (ad E 0), .int a1, .int a2] P E Q :=
  Con.of hG (by decide +kernel) rfl (fun h => by cases h) hE.2 (Nat.le_of_ble_eq_true rfl) (t_f_Yr_season hG hE d hd a1 a2 P h)
abbrev c_Yr_isPlace : ByteArray := prog_1_method_56_code
abbrev y_Yr_isPlace : MethodName := ⟨"YawnRoute", "isPlace", "(I)Z"⟩
abbrev cw_Yr_isPlace : Cond := .code y_Yr_isPlace c_Yr_isPlace 1 (some .boolean)
theorem w_Yr_isPlace : SW y_Yr_isPlace c_Yr_isPlace 1 (some .boolean) 1 := ⟨lk950, lk1, lk951, ⟨by decide, by decide, by decide +kernel⟩, by decide⟩
noncomputable def j_Yr_isPlace_15 (P : PM) : Int32 := (0 : Int32)
noncomputable def f_Yr_isPlace (a0 : Int32) (P : PM) : Int32 := if a0 < (0 : Int32) then (j_Yr_isPlace_15 P) else (if (280 : Int32) ≤ a0 then (j_Yr_isPlace_15 P) else ((1 : Int32)))
theorem t_j_Yr_isPlace_15 {G : GX} (hG : GOK G) {E : EV} (hE : E0 E) (d : Nat) (hd : 1 ≤ d) {P : PM} {Q : QT} (h : Q (some (.int (j_Yr_isPlace_15 P))) P E) : Go G c_Yr_isPlace "YawnRoute" 1 (some .boolean) false d nOb nOb Q 15 [] [] P E := by
  rw [j_Yr_isPlace_15] at h
  refine Go.iconst (n := 0) (0 : Int32) (by decide +kernel) rfl ?_
  exact Go.iret rfl rfl hE.2 (by decide +kernel) h
theorem t_f_Yr_isPlace {G : GX} (hG : GOK G) {E : EV} (hE : E0 E) (d : Nat) (hd : 1 ≤ d) {P : PM} {Q : QT} (a0 : Int32) (h : Q (some (.int (f_Yr_isPlace a0 P))) P E) : Go G c_Yr_isPlace "YawnRoute" 1 (some .boolean) false d nOb nOb Q 0 [(0, .int a0)] [] P E := by
  rw [f_Yr_isPlace] at h
  refine Go.iload_n (k := 0) (i := 0) 0 (by decide +kernel) rfl rfl ?_
  refine Go.if_lt (off := 14) 15 (by decide +kernel) (by decide) (fun c1 => ?_) (fun c1 => ?_)
  · rw [if_pos c1] at h
    refine Go.sub [] [] rfl ?_
    exact t_j_Yr_isPlace_15 hG hE d hd h
  · rw [if_neg c1] at h
    refine Go.iload_n (k := 0) (i := 0) 0 (by decide +kernel) rfl rfl ?_
    refine Go.sipush (n := 280) (280 : Int32) (by decide +kernel) (by decide) ?_
    refine Go.icmp_ge (off := 7) 15 (by decide +kernel) (by decide) (fun c2 => ?_) (fun c2 => ?_)
    · rw [if_pos c2] at h
      refine Go.sub [] [] rfl ?_
      exact t_j_Yr_isPlace_15 hG hE d hd h
    · rw [if_neg c2] at h
      refine Go.iconst (n := 1) (1 : Int32) (by decide +kernel) rfl ?_
      refine Go.goto (off := 4) 16 (by decide +kernel) (by decide) ?_
      exact Go.iret rfl rfl hE.2 (by decide +kernel) h
theorem e_Yr_isPlace {G : GX} (hG : GOK G) {E : EV} (hE : E0 E) (d : Nat) (hd : 1 ≤ d) (a0 : Int32) (P : PM) {Q : QT} (h : Q (some (.int (f_Yr_isPlace a0 P))) P E) : Con G y_Yr_isPlace cw_Yr_isPlace d nOb nOb [.int a0] P E Q :=
  Con.of hG (by decide +kernel) rfl (fun h => by cases h) hE.2 (Nat.le_of_ble_eq_true rfl) (t_f_Yr_isPlace hG hE d hd a0 h)
abbrev c_Ro_costOf : ByteArray := prog_7_method_9_code
abbrev y_Ro_costOf : MethodName := ⟨"YawnRoute$Routes", "costOf", "(I)I"⟩
abbrev cw_Ro_costOf : Cond := .code y_Ro_costOf c_Ro_costOf 2 (some .int)
theorem w_Ro_costOf : VW 5 y_Ro_costOf c_Ro_costOf 2 (some .int) 1 := ⟨by decide, lk988, lp31_, lk11, lk989, ⟨by decide, by decide, by decide +kernel⟩, by decide⟩
noncomputable def f_Ro_costOf (a1 : Int32) (P : PM) : Option Int32 := if (f_Yr_isPlace a1 P) = (0 : Int32) then (some (1000000000 : Int32)) else (ck (inb a1 280) (some (P.1 64 a1.toNatClampNeg)))
theorem t_f_Ro_costOf {G : GX} (hG : GOK G) {E : EV} (hE : E0 E) (d : Nat) (hd : 2 ≤ d) {P : PM} {Q : QT} (a1 : Int32) (h : St E (rI P) (f_Ro_costOf a1 P) Q) : Go G c_Ro_costOf "YawnRoute$Routes" 2 (some .int) false d nOb nOb Q 0 [(0, .ref (ad E 63)), (1, .int a1)] [] P E := by
  rw [f_Ro_costOf] at h
  refine Go.iload_n (k := 1) (i := 1) 1 (by decide +kernel) rfl rfl ?_
  refine Go.cSN_i (P1 := P) (v := (f_Yr_isPlace a1 P)) (d - 1) [.int a1] hE w_Yr_isPlace (e_Yr_isPlace hG hE (d - 1) (by omega) a1 P ⟨rfl, rfl, rfl⟩) nw19 rfl (by omega) (Nat.le_of_ble_eq_true rfl) (by decide +kernel) _ rfl ?_
  refine Go.if_eq (off := 12) 16 (by decide +kernel) (by decide) (fun c1 => ?_) (fun c1 => ?_)
  · rw [if_pos c1] at h
    refine Go.ldc (1000000000 : Int32) lk967 (by decide +kernel) ?_
    exact Go.iret rfl rfl hE.2 (by decide +kernel) (St.fI h)
  · rw [if_neg c1] at h
    refine Go.aload_n (k := 0) (i := 0) 0 (by decide +kernel) rfl rfl ?_
    refine Go.get 63 3 (.ref (ad E 64)) (by decide) (by decide) sh63 (ltO hE sh63) (vlR hE rfl rfl) lk324 (by decide +kernel) ?_
    refine Go.iload_n (k := 1) (i := 1) 1 (by decide +kernel) rfl rfl ?_
    obtain ⟨b2, h⟩ := St.ck h
    refine Go.iaload 64 280 sh64 (ltA hE sh64 (by decide)) (inb_in b2) (by decide +kernel) ?_
    refine Go.goto (off := 5) 18 (by decide +kernel) (by decide) ?_
    exact Go.iret rfl rfl hE.2 (by decide +kernel) (St.fI h)
theorem e_Ro_costOf {G : GX} (hG : GOK G) {E : EV} (hE : E0 E) (d : Nat) (hd : 2 ≤ d) (a1 : Int32) (P : PM) {Q : QT} (h : St E (rI P) (f_Ro_costOf a1 P) Q) : Con G y_Ro_costOf cw_Ro_costOf d nOb nOb [.ref (ad E 63), .int a1] P E Q :=
  Con.of hG (by decide +kernel) rfl (fun h => by cases h) hE.2 (Nat.le_of_ble_eq_true rfl) (t_f_Ro_costOf hG hE d hd a1 h)
abbrev c_Yr_placeOf : ByteArray := prog_1_method_53_code
abbrev y_Yr_placeOf : MethodName := ⟨"YawnRoute", "placeOf", "(II)I"⟩
abbrev cw_Yr_placeOf : Cond := .code y_Yr_placeOf c_Yr_placeOf 2 (some .int)
theorem w_Yr_placeOf : SW y_Yr_placeOf c_Yr_placeOf 2 (some .int) 2 := ⟨lk925, lk1, lk926, ⟨by decide, by decide, by decide +kernel⟩, by decide⟩
noncomputable def f_Yr_placeOf (a0 : Int32) (a1 : Int32) (P : PM) : Int32 := (((a0 * (40 : Int32)) + a1) - (1 : Int32))
theorem t_f_Yr_placeOf {G : GX} (hG : GOK G) {E : EV} (hE : E0 E) (d : Nat) (hd : 1 ≤ d) {P : PM} {Q : QT} (a0 : Int32) (a1 : Int32) (h : Q (some (.int (f_Yr_placeOf a0 a1 P))) P E) : Go G c_Yr_placeOf "YawnRoute" 2 (some .int) false d nOb nOb Q 0 [(0, .int a0), (1, .int a1)] [] P E := by
  rw [f_Yr_placeOf] at h
  refine Go.iload_n (k := 0) (i := 0) 0 (by decide +kernel) rfl rfl ?_
  refine Go.bipush (n := 40) (40 : Int32) (by decide +kernel) (by decide) ?_
  refine Go.imul (by decide +kernel) ?_
  refine Go.iload_n (k := 1) (i := 1) 1 (by decide +kernel) rfl rfl ?_
  refine Go.iadd (by decide +kernel) ?_
  refine Go.iconst (n := 1) (1 : Int32) (by decide +kernel) rfl ?_
  refine Go.isub (by decide +kernel) ?_
  exact Go.iret rfl rfl hE.2 (by decide +kernel) h
theorem e_Yr_placeOf {G : GX} (hG : GOK G) {E : EV} (hE : E0 E) (d : Nat) (hd : 1 ≤ d) (a0 : Int32) (a1 : Int32) (P : PM) {Q : QT} (h : Q (some (.int (f_Yr_placeOf a0 a1 P))) P E) : Con G y_Yr_placeOf cw_Yr_placeOf d nOb nOb [.int a0, .int a1] P E Q :=
  Con.of hG (by decide +kernel) rfl (fun h => by cases h) hE.2 (Nat.le_of_ble_eq_true rfl) (t_f_Yr_placeOf hG hE d hd a0 a1 h)
abbrev c_Sa_place : ByteArray := prog_9_method_7_code
abbrev y_Sa_place : MethodName := ⟨"YawnRoute$State", "place", "()I"⟩
abbrev cw_Sa_place : Cond := .code y_Sa_place c_Sa_place 1 (some .int)
theorem w_Sa_place : VW 7 y_Sa_place c_Sa_place 1 (some .int) 0 := ⟨by decide, lk921, lk922, lk5, lk923, ⟨by decide, by decide, by decide +kernel⟩, by decide⟩
noncomputable def f_Sa_place (this : Nat) (P : PM) : Int32 := if (P.1 this 0) = (-1 : Int32) then ((-1 : Int32)) else ((f_Yr_placeOf (P.1 this 0) (P.1 this 1) P))
theorem t_f_Sa_place {G : GX} (hG : GOK G) {E : EV} (hE : E0 E) (d : Nat) (hd : 2 ≤ d) {P : PM} {Q : QT} (this : Nat) (hthis : sh this = .inl 7) (h : Q (some (.int (f_Sa_place this P))) P E) : Go G c_Sa_place "YawnRoute$State" 1 (some .int) false d nOb nOb Q 0 [(0, .ref (ad E this))] [] P E := by
  rw [f_Sa_place] at h
  refine Go.aload_n (k := 0) (i := 0) 0 (by decide +kernel) rfl rfl ?_
  refine Go.get this 0 (.int (P.1 this 0)) (by decide) (by decide) hthis (ltO hE hthis) rfl lk149 (by decide +kernel) ?_
  refine Go.iconst (n := -1) (-1 : Int32) (by decide +kernel) rfl ?_
  refine Go.icmp_ne (off := 7) 12 (by decide +kernel) (by decide) (fun c1 => ?_) (fun c1 => ?_)
  · rw [if_neg c1] at h
    refine Go.aload_n (k := 0) (i := 0) 0 (by decide +kernel) rfl rfl ?_
    refine Go.get this 0 (.int (P.1 this 0)) (by decide) (by decide) hthis (ltO hE hthis) rfl lk149 (by decide +kernel) ?_
    refine Go.aload_n (k := 0) (i := 0) 0 (by decide +kernel) rfl rfl ?_
    refine Go.get this 1 (.int (P.1 this 1)) (by decide) (by decide) hthis (ltO hE hthis) rfl lk155 (by decide +kernel) ?_
    refine Go.cSN_i (P1 := P) (v := (f_Yr_placeOf (P.1 this 0) (P.1 this 1) P)) (d - 1) [.int (P.1 this 0), .int (P.1 this 1)] hE w_Yr_placeOf (e_Yr_placeOf hG hE (d - 1) (by omega) (P.1 this 0) (P.1 this 1) P ⟨rfl, rfl, rfl⟩) nw11 rfl (by omega) (Nat.le_of_ble_eq_true rfl) (by decide +kernel) _ rfl ?_
    exact Go.iret rfl rfl hE.2 (by decide +kernel) h
  · rw [if_pos c1] at h
    refine Go.iconst (n := -1) (-1 : Int32) (by decide +kernel) rfl ?_
    refine Go.goto (off := 14) 23 (by decide +kernel) (by decide) ?_
    exact Go.iret rfl rfl hE.2 (by decide +kernel) h
theorem e_Sa_place {G : GX} (hG : GOK G) {E : EV} (hE : E0 E) (d : Nat) (hd : 2 ≤ d) (this : Nat) (hthis : sh this = .inl 7) (P : PM) {Q : QT} (h : Q (some (.int (f_Sa_place this P))) P E) : Con G y_Sa_place cw_Sa_place d nOb nOb [.ref (ad E this)] P E Q :=
  Con.of hG (by decide +kernel) rfl (fun h => by cases h) hE.2 (Nat.le_of_ble_eq_true rfl) (t_f_Sa_place hG hE d hd this hthis h)
abbrev c_Ro_hoursNeeded : ByteArray := prog_7_method_3_code
abbrev y_Ro_hoursNeeded : MethodName := ⟨"YawnRoute$Routes", "hoursNeeded", "()I"⟩
abbrev cw_Ro_hoursNeeded : Cond := .code y_Ro_hoursNeeded c_Ro_hoursNeeded 1 (some .int)
theorem w_Ro_hoursNeeded : VW 5 y_Ro_hoursNeeded c_Ro_hoursNeeded 1 (some .int) 0 := ⟨by decide, lk993, lk994, lk11, lk995, ⟨by decide, by decide, by decide +kernel⟩, by decide⟩
noncomputable def f_Ro_hoursNeeded (P : PM) : Option Int32 := (f_Ro_costOf (f_Sa_place 21 P) P).bind (fun v1 => some (v1 / (1000 : Int32)))
theorem t_f_Ro_hoursNeeded {G : GX} (hG : GOK G) {E : EV} (hE : E0 E) (d : Nat) (hd : 3 ≤ d) {P : PM} {Q : QT} (h : St E (rI P) (f_Ro_hoursNeeded P) Q) : Go G c_Ro_hoursNeeded "YawnRoute$Routes" 1 (some .int) false d nOb nOb Q 0 [(0, .ref (ad E 63))] [] P E := by
  rw [f_Ro_hoursNeeded] at h
  refine Go.aload_n (k := 0) (i := 0) 0 (by decide +kernel) rfl rfl ?_
  refine Go.aload_n (k := 0) (i := 0) 0 (by decide +kernel) rfl rfl ?_
  refine Go.get 63 1 (.ref (ad E 21)) (by decide) (by decide) sh63 (ltO hE sh63) (vlR hE rfl rfl) lk322 (by decide +kernel) ?_
  refine Go.cV_i (P1 := P) (v := (f_Sa_place 21 P)) (d - 1) 21 [] sh21 hE w_Sa_place (e_Sa_place hG hE (d - 1) (by omega) 21 sh21 P ⟨rfl, rfl, rfl⟩) lk920 rfl (by omega) (Nat.le_of_ble_eq_true rfl) (by decide +kernel) _ rfl ?_
  obtain ⟨v1, hv1, h⟩ := St.bind h
  refine Go.cV_i (P1 := P) (v := v1) (d - 1) 63 [.int (f_Sa_place 21 P)] sh63 hE w_Ro_costOf (e_Ro_costOf hG hE (d - 1) (by omega) (f_Sa_place 21 P) P ⟨_, hv1, rfl, rfl, rfl⟩) lk986 rfl (by omega) (Nat.le_of_ble_eq_true rfl) (by decide +kernel) _ rfl ?_
  refine Go.sipush (n := 1000) (1000 : Int32) (by decide +kernel) (by decide) ?_
  refine Go.idiv (by decide +kernel) (by decide) ?_
  exact Go.iret rfl rfl hE.2 (by decide +kernel) (St.fI h)
theorem e_Ro_hoursNeeded {G : GX} (hG : GOK G) {E : EV} (hE : E0 E) (d : Nat) (hd : 3 ≤ d) (P : PM) {Q : QT} (h : St E (rI P) (f_Ro_hoursNeeded P) Q) : Con G y_Ro_hoursNeeded cw_Ro_hoursNeeded d nOb nOb [.ref (ad E 63)] P E Q :=
  Con.of hG (by decide +kernel) rfl (fun h => by cases h) hE.2 (Nat.le_of_ble_eq_true rfl) (t_f_Ro_hoursNeeded hG hE d hd h)
abbrev c_Yr_sizeIn : ByteArray := prog_1_method_55_code
abbrev y_Yr_sizeIn : MethodName := ⟨"YawnRoute", "sizeIn", "(I)I"⟩
abbrev cw_Yr_sizeIn : Cond := .code y_Yr_sizeIn c_Yr_sizeIn 1 (some .int)
theorem w_Yr_sizeIn : SW y_Yr_sizeIn c_Yr_sizeIn 1 (some .int) 1 := ⟨lk956, lk1, lk957, ⟨by decide, by decide, by decide +kernel⟩, by decide⟩
noncomputable def f_Yr_sizeIn (a0 : Int32) (P : PM) : Int32 := ((a0 - a0 / (40 : Int32) * (40 : Int32)) + (1 : Int32))
theorem t_f_Yr_sizeIn {G : GX} (hG : GOK G) {E : EV} (hE : E0 E) (d : Nat) (hd : 1 ≤ d) {P : PM} {Q : QT} (a0 : Int32) (h : Q (some (.int (f_Yr_sizeIn a0 P))) P E) : Go G c_Yr_sizeIn "YawnRoute" 1 (some .int) false d nOb nOb Q 0 [(0, .int a0)] [] P E := by
  rw [f_Yr_sizeIn] at h
  refine Go.iload_n (k := 0) (i := 0) 0 (by decide +kernel) rfl rfl ?_
  refine Go.bipush (n := 40) (40 : Int32) (by decide +kernel) (by decide) ?_
  refine Go.irem (by decide +kernel) (by decide) ?_
  refine Go.iconst (n := 1) (1 : Int32) (by decide +kernel) rfl ?_
  refine Go.iadd (by decide +kernel) ?_
  exact Go.iret rfl rfl hE.2 (by decide +kernel) h
theorem e_Yr_sizeIn {G : GX} (hG : GOK G) {E : EV} (hE : E0 E) (d : Nat) (hd : 1 ≤ d) (a0 : Int32) (P : PM) {Q : QT} (h : Q (some (.int (f_Yr_sizeIn a0 P))) P E) : Con G y_Yr_sizeIn cw_Yr_sizeIn d nOb nOb [.int a0] P E Q :=
  Con.of hG (by decide +kernel) rfl (fun h => by cases h) hE.2 (Nat.le_of_ble_eq_true rfl) (t_f_Yr_sizeIn hG hE d hd a0 h)
abbrev c_Yr_stationIn : ByteArray := prog_1_method_54_code
abbrev y_Yr_stationIn : MethodName := ⟨"YawnRoute", "stationIn", "(I)I"⟩
abbrev cw_Yr_stationIn : Cond := .code y_Yr_stationIn c_Yr_stationIn 1 (some .int)
theorem w_Yr_stationIn : SW y_Yr_stationIn c_Yr_stationIn 1 (some .int) 1 := ⟨lk953, lk1, lk954, ⟨by decide, by decide, by decide +kernel⟩, by decide⟩
noncomputable def f_Yr_stationIn (a0 : Int32) (P : PM) : Int32 := (a0 / (40 : Int32))
theorem t_f_Yr_stationIn {G : GX} (hG : GOK G) {E : EV} (hE : E0 E) (d : Nat) (hd : 1 ≤ d) {P : PM} {Q : QT} (a0 : Int32) (h : Q (some (.int (f_Yr_stationIn a0 P))) P E) : Go G c_Yr_stationIn "YawnRoute" 1 (some .int) false d nOb nOb Q 0 [(0, .int a0)] [] P E := by
  rw [f_Yr_stationIn] at h
  refine Go.iload_n (k := 0) (i := 0) 0 (by decide +kernel) rfl rfl ?_
  refine Go.bipush (n := 40) (40 : Int32) (by decide +kernel) (by decide) ?_
  refine Go.idiv (by decide +kernel) (by decide) ?_
  exact Go.iret rfl rfl hE.2 (by decide +kernel) h
theorem e_Yr_stationIn {G : GX} (hG : GOK G) {E : EV} (hE : E0 E) (d : Nat) (hd : 1 ≤ d) (a0 : Int32) (P : PM) {Q : QT} (h : Q (some (.int (f_Yr_stationIn a0 P))) P E) : Con G y_Yr_stationIn cw_Yr_stationIn d nOb nOb [.int a0] P E Q :=
  Con.of hG (by decide +kernel) rfl (fun h => by cases h) hE.2 (Nat.le_of_ble_eq_true rfl) (t_f_Yr_stationIn hG hE d hd a0 h)
abbrev c_Pa_find : ByteArray := prog_6_method_6_code
abbrev y_Pa_find : MethodName := ⟨"YawnRoute$Passings", "find", "(I)V"⟩
abbrev cw_Pa_find : Cond := .code y_Pa_find c_Pa_find 5 none
theorem w_Pa_find : VW 4 y_Pa_find c_Pa_find 5 none 1 := ⟨by decide, lk947, lp27_, lk9, lk948, ⟨by decide, by decide, by decide +kernel⟩, by decide⟩
noncomputable def f_Pa_find (a1 : Int32) (P : PM) : Option PM := if (f_Yr_isPlace a1 P) = (0 : Int32) then (some P) else (if (P.1 58 6) < (280 : Int32) then (lb (f_Yr_stationIn a1 P) (fun y3 => lb ((1 : Int64) <<< ((f_Yr_sizeIn a1 P).toInt64 &&& 63)) (fun y4 => ck (inb y3 7) (if (lg_cmp ((P.2 61 y3.toNatClampNeg) &&& y4) (0 : Int64)) = (0 : Int32) then (ck (inb y3 7) (ck (inb y3 7) (ck (inb ((u2 P 61 y3.toNatClampNeg ((P.2 61 y3.toNatClampNeg) ||| y4)).1 58 6) 280) (some (u1 (u1 (u2 P 61 y3.toNatClampNeg ((P.2 61 y3.toNatClampNeg) ||| y4)) 62 ((u2 P 61 y3.toNatClampNeg ((P.2 61 y3.toNatClampNeg) ||| y4)).1 58 6).toNatClampNeg a1) 58 6 (((u1 (u2 P 61 y3.toNatClampNeg ((P.2 61 y3.toNatClampNeg) ||| y4)) 62 ((u2 P 61 y3.toNatClampNeg ((P.2 61 y3.toNatClampNeg) ||| y4)).1 58 6).toNatClampNeg a1).1 58 6) + (1 : Int32))))))) else (some P))))) else (some P))
theorem t_f_Pa_find {G : GX} (hG : GOK G) {E : EV} (hE : E0 E) (d : Nat) (hd : 2 ≤ d) {Q : QT} (a1 : Int32) (P : PM) (h : St E rP (f_Pa_find a1 P) Q) : Go G c_Pa_find "YawnRoute$Passings" 5 none false d nOb nOb Q 0 [(0, .ref (ad E 58)), (1, .int a1)] [] P E := by
  rw [f_Pa_find] at h
  refine Go.iload_n (k := 1) (i := 1) 1 (by decide +kernel) rfl rfl ?_
  refine Go.cSN_i (P1 := P) (v := (f_Yr_isPlace a1 P)) (d - 1) [.int a1] hE w_Yr_isPlace (e_Yr_isPlace hG hE (d - 1) (by omega) a1 P ⟨rfl, rfl, rfl⟩) nw12 rfl (by omega) (Nat.le_of_ble_eq_true rfl) (by decide +kernel) _ rfl ?_
  refine Go.if_eq (off := 13) 17 (by decide +kernel) (by decide) (fun c1 => ?_) (fun c1 => ?_)
  · rw [if_pos c1] at h
    exact Go.vret rfl hE.2 (by decide +kernel) (St.fP h)
  · rw [if_neg c1] at h
    refine Go.aload_n (k := 0) (i := 0) 0 (by decide +kernel) rfl rfl ?_
    refine Go.get 58 6 (.int (P.1 58 6)) (by decide) (by decide) sh58 (ltO hE sh58) rfl lk298 (by decide +kernel) ?_
    refine Go.sipush (n := 280) (280 : Int32) (by decide +kernel) (by decide) ?_
    refine Go.icmp_lt (off := 4) 18 (by decide +kernel) (by decide) (fun c2 => ?_) (fun c2 => ?_)
    · rw [if_pos c2] at h
      refine Go.iload_n (k := 1) (i := 1) 1 (by decide +kernel) rfl rfl ?_
      refine Go.cSN_i (P1 := P) (v := (f_Yr_stationIn a1 P)) (d - 1) [.int a1] hE w_Yr_stationIn (e_Yr_stationIn hG hE (d - 1) (by omega) a1 P ⟨rfl, rfl, rfl⟩) nw13 rfl (by omega) (Nat.le_of_ble_eq_true rfl) (by decide +kernel) _ rfl ?_
      obtain ⟨y3, hy3, h⟩ := St.lb h
      refine Go.eqi y3 hy3 ?_
      refine Go.istore_n (k := 2) (i := 2) [(2, .int y3), (0, .ref (ad E 58)), (1, .int a1)] (by decide +kernel) rfl (by decide) rfl ?_
      refine Go.lconst (n := 1) (1 : Int64) (by decide +kernel) rfl ?_
      refine Go.iload_n (k := 1) (i := 1) 2 (by decide +kernel) rfl rfl ?_
      refine Go.cSN_i (P1 := P) (v := (f_Yr_sizeIn a1 P)) (d - 1) [.int a1] hE w_Yr_sizeIn (e_Yr_sizeIn hG hE (d - 1) (by omega) a1 P ⟨rfl, rfl, rfl⟩) nw14 rfl (by omega) (Nat.le_of_ble_eq_true rfl) (by decide +kernel) _ rfl ?_
      refine Go.lshl (by decide +kernel) ?_
      obtain ⟨y4, hy4, h⟩ := St.lb h
      refine Go.eql y4 hy4 ?_
      refine Go.lstore_n (k := 3) (i := 3) [(3, .long y4), (2, .int y3), (0, .ref (ad E 58)), (1, .int a1)] (by decide +kernel) rfl (by decide) rfl ?_
      refine Go.aload_n (k := 0) (i := 0) 2 (by decide +kernel) rfl rfl ?_
      refine Go.get 58 4 (.ref (ad E 61)) (by decide) (by decide) sh58 (ltO hE sh58) (vlR hE rfl rfl) lk293 (by decide +kernel) ?_
      refine Go.iload_n (k := 2) (i := 2) 1 (by decide +kernel) rfl rfl ?_
      obtain ⟨b5, h⟩ := St.ck h
      refine Go.laload 61 7 sh61 (ltA hE sh61 (by decide)) (inb_in b5) (by decide +kernel) ?_
      refine Go.lload_n (k := 3) (i := 3) 0 (by decide +kernel) rfl rfl ?_
      refine Go.land (by decide +kernel) ?_
      refine Go.lconst (n := 0) (0 : Int64) (by decide +kernel) rfl ?_
      refine Go.lcmp (by decide +kernel) ?_
      refine Go.if_ne (off := 33) 73 (by decide +kernel) (by decide) (fun c6 => ?_) (fun c6 => ?_)
      · rw [if_neg c6] at h
        exact Go.vret rfl hE.2 (by decide +kernel) (St.fP h)
      · rw [if_pos c6] at h
        refine Go.aload_n (k := 0) (i := 0) 2 (by decide +kernel) rfl rfl ?_
        refine Go.get 58 4 (.ref (ad E 61)) (by decide) (by decide) sh58 (ltO hE sh58) (vlR hE rfl rfl) lk293 (by decide +kernel) ?_
        refine Go.iload_n (k := 2) (i := 2) 1 (by decide +kernel) rfl rfl ?_
        refine Go.dup2 (by decide +kernel) rfl rfl ?_
        obtain ⟨b7, h⟩ := St.ck h
        refine Go.laload 61 7 sh61 (ltA hE sh61 (by decide)) (inb_in b7) (by decide +kernel) ?_
        refine Go.lload_n (k := 3) (i := 3) 0 (by decide +kernel) rfl rfl ?_
        refine Go.lor (by decide +kernel) ?_
        obtain ⟨b8, h⟩ := St.ck h
        refine Go.lastore 61 7 sh61 (ltA hE sh61 (by decide)) (inb_in b8) (by decide +kernel) ?_
        refine Go.aload_n (k := 0) (i := 0) 2 (by decide +kernel) rfl rfl ?_
        refine Go.get 58 5 (.ref (ad E 62)) (by decide) (by decide) sh58 (ltO hE sh58) (vlR hE rfl rfl) lk294 (by decide +kernel) ?_
        refine Go.aload_n (k := 0) (i := 0) 2 (by decide +kernel) rfl rfl ?_
        refine Go.get 58 6 (.int ((u2 P 61 y3.toNatClampNeg ((P.2 61 y3.toNatClampNeg) ||| y4)).1 58 6)) (by decide) (by decide) sh58 (ltO hE sh58) rfl lk298 (by decide +kernel) ?_
        refine Go.iload_n (k := 1) (i := 1) 3 (by decide +kernel) rfl rfl ?_
        obtain ⟨b9, h⟩ := St.ck h
        refine Go.iastore 62 280 sh62 (ltA hE sh62 (by decide)) (inb_in b9) (by decide +kernel) ?_
        refine Go.aload_n (k := 0) (i := 0) 2 (by decide +kernel) rfl rfl ?_
        refine Go.dup (by decide +kernel) rfl ?_
        refine Go.get 58 6 (.int ((u1 (u2 P 61 y3.toNatClampNeg ((P.2 61 y3.toNatClampNeg) ||| y4)) 62 ((u2 P 61 y3.toNatClampNeg ((P.2 61 y3.toNatClampNeg) ||| y4)).1 58 6).toNatClampNeg a1).1 58 6)) (by decide) (by decide) sh58 (ltO hE sh58) rfl lk298 (by decide +kernel) ?_
        refine Go.iconst (n := 1) (1 : Int32) (by decide +kernel) rfl ?_
        refine Go.iadd (by decide +kernel) ?_
        refine Go.put 58 6 (by decide) (by decide) sh58 (ltO hE sh58) (Or.inl rfl) rfl rfl rfl lk298 (by decide +kernel) ?_
        exact Go.vret rfl hE.2 (by decide +kernel) (St.fP h)
    · rw [if_neg c2] at h
      exact Go.vret rfl hE.2 (by decide +kernel) (St.fP h)
theorem e_Pa_find {G : GX} (hG : GOK G) {E : EV} (hE : E0 E) (d : Nat) (hd : 2 ≤ d) (a1 : Int32) (P : PM) {Q : QT} (h : St E rP (f_Pa_find a1 P) Q) : Con G y_Pa_find cw_Pa_find d nOb nOb [.ref (ad E 58), .int a1] P E Q :=
  Con.of hG (by decide +kernel) rfl (fun h => by cases h) hE.2 (Nat.le_of_ble_eq_true rfl) (t_f_Pa_find hG hE d hd a1 P h)
abbrev c_Ja_rangeCheck : ByteArray := prog_22_method_30_code
abbrev y_Ja_rangeCheck : MethodName := ⟨"java/util/Arrays", "rangeCheck", "(III)V"⟩
abbrev cw_Ja_rangeCheck : Cond := .code y_Ja_rangeCheck c_Ja_rangeCheck 3 none
theorem w_Ja_rangeCheck : SW y_Ja_rangeCheck c_Ja_rangeCheck 3 none 3 := ⟨lk940, lk10, lk941, ⟨by decide, by decide, by decide +kernel⟩, by decide⟩
noncomputable def f_Ja_rangeCheck (a0 : Int32) (a1 : Int32) (a2 : Int32) (P : PM) : Option PM := if a1 ≤ a2 then (if (0 : Int32) ≤ a1 then (if a2 ≤ a0 then (some P) else (none)) else (none)) else (none)
theorem t_f_Ja_rangeCheck {G : GX} (hG : GOK G) {E : EV} (hE : E0 E) (d : Nat) (hd : 1 ≤ d) {Q : QT} (a0 : Int32) (a1 : Int32) (a2 : Int32) (P : PM) (h : St E rP (f_Ja_rangeCheck a0 a1 a2 P) Q) : Go G c_Ja_rangeCheck "java/util/Arrays" 3 none false d nOb nOb Q 0 [(0, .int a0), (1, .int a1), (2, .int a2)] [] P E := by
  rw [f_Ja_rangeCheck] at h
  refine Go.iload_n (k := 1) (i := 1) 1 (by decide +kernel) rfl rfl ?_
  refine Go.iload_n (k := 2) (i := 2) 2 (by decide +kernel) rfl rfl ?_
  refine Go.icmp_le (off := 44) 46 (by decide +kernel) (by decide) (fun c1 => ?_) (fun c1 => ?_)
  · rw [if_pos c1] at h
    refine Go.iload_n (k := 1) (i := 1) 1 (by decide +kernel) rfl rfl ?_
    refine Go.if_ge (off := 12) 59 (by decide +kernel) (by decide) (fun c2 => ?_) (fun c2 => ?_)
    · rw [if_pos c2] at h
      refine Go.iload_n (k := 2) (i := 2) 2 (by decide +kernel) rfl rfl ?_
      refine Go.iload_n (k := 0) (i := 0) 0 (by decide +kernel) rfl rfl ?_
      refine Go.icmp_le (off := 12) 73 (by decide +kernel) (by decide) (fun c3 => ?_) (fun c3 => ?_)
      · rw [if_pos c3] at h
        exact Go.vret rfl hE.2 (by decide +kernel) (St.fP h)
      · rw [if_neg c3] at h
        exact St.none_ h
    · rw [if_neg c2] at h
      exact St.none_ h
  · rw [if_neg c1] at h
    exact St.none_ h
theorem e_Ja_rangeCheck {G : GX} (hG : GOK G) {E : EV} (hE : E0 E) (d : Nat) (hd : 1 ≤ d) (a0 : Int32) (a1 : Int32) (a2 : Int32) (P : PM) {Q : QT} (h : St E rP (f_Ja_rangeCheck a0 a1 a2 P) Q) : Con G y_Ja_rangeCheck cw_Ja_rangeCheck d nOb nOb [.int a0, .int a1, .int a2] P E Q :=
  Con.of hG (by decide +kernel) rfl (fun h => by cases h) hE.2 (Nat.le_of_ble_eq_true rfl) (t_f_Ja_rangeCheck hG hE d hd a0 a1 a2 P h)
