/-! methods as functions, by program: Mo_way Mo_whyPass Mo_brings Mo_keeps Mo_isAgain Mo_notes Mo_goes Mo_letsOff Mo_pass Mo_off Mo_sleep -/
abbrev c_Mo_way : ByteArray := prog_14_method_44_code
abbrev y_Mo_way : MethodName := ⟨"YawnRouteModel", "way", "(III)I"⟩
abbrev cw_Mo_way : Cond := .code y_Mo_way c_Mo_way 4 (some .int)
theorem w_Mo_way : VW 12 y_Mo_way c_Mo_way 4 (some .int) 3 := ⟨by decide, lk1564, lk1565, lk14, lk1566, ⟨by decide, by decide, by decide +kernel⟩, by decide⟩
noncomputable def f_Mo_way (a1 : Int32) (a2 : Int32) (a3 : Int32) (P : PM) : Option (Int32 × PM) := (f_Mo_isStation (a1.toInt64) (u1 P 109 0 (0 : Int32))).bind (fun v1 => if v1 = (0 : Int32) then (some ((-2 : Int32), (u1 P 109 0 (0 : Int32)))) else ((f_Mo_isStation (a2.toInt64) (u1 P 109 0 (0 : Int32))).bind (fun v3 => if v3 = (0 : Int32) then (some ((-2 : Int32), (u1 P 109 0 (0 : Int32)))) else (if a1 = a2 then (some ((-2 : Int32), (u1 P 109 0 (0 : Int32)))) else (if (f_Mo_within (a3.toInt64) (0 : Int64) (1 : Int64) (u1 P 109 0 (0 : Int32))) = (0 : Int32) then (some ((-2 : Int32), (u1 P 109 0 (0 : Int32)))) else ((f_Mo_hoursOf a1 a2 (u1 P 109 0 (0 : Int32))).bind (fun v7 => if v7 = (0 : Int32) then (some ((-1 : Int32), (u1 P 109 0 (0 : Int32)))) else (if a3 = (0 : Int32) then ((f_Mo_hoursOf a1 a2 (u1 P 109 0 (0 : Int32))).bind (fun v11 => some (v11, (u1 P 109 0 (0 : Int32))))) else (ck (inb (((64 : Int32) + ((7 : Int32) * a1)) + a2) 3408) (some (((u1 P 109 0 (0 : Int32)).1 110 (((64 : Int32) + ((7 : Int32) * a1)) + a2).toNatClampNeg), (u1 P 109 0 (0 : Int32)))))))))))))
theorem t_f_Mo_way {G : GX} (hG : GOK G) {E : EV} (hE : E0 E) (d : Nat) (hd : 3 ≤ d) {Q : QT} (a1 : Int32) (a2 : Int32) (a3 : Int32) (P : PM) (h : St E rIP (f_Mo_way a1 a2 a3 P) Q) : Go G c_Mo_way "YawnRouteModel" 4 (some .int) false d nOb nOb Q 0 [(0, .ref (ad E 109)), (1, .int a1), (2, .int a2), (3, .int a3)] [] P E := by
  rw [f_Mo_way] at h
  refine Go.aload_n (k := 0) (i := 0) 0 (by decide +kernel) rfl rfl ?_
  refine Go.iconst (n := 0) (0 : Int32) (by decide +kernel) rfl ?_
  refine Go.put 109 0 (by decide) (by decide) sh109 (ltO hE sh109) (Or.inl rfl) rfl rfl rfl lk1330 (by decide +kernel) ?_
  refine Go.aload_n (k := 0) (i := 0) 0 (by decide +kernel) rfl rfl ?_
  refine Go.iload_n (k := 1) (i := 1) 1 (by decide +kernel) rfl rfl ?_
  refine Go.i2l (by decide +kernel) ?_
  obtain ⟨v1, hv1, h⟩ := St.bind h
  refine Go.cV_i (P1 := (u1 P 109 0 (0 : Int32))) (v := v1) (d - 1) 109 [.long (a1.toInt64)] sh109 hE w_Mo_isStation (e_Mo_isStation hG hE (d - 1) (by omega) (a1.toInt64) (u1 P 109 0 (0 : Int32)) ⟨_, hv1, rfl, rfl, rfl⟩) lk1555 rfl (by omega) (Nat.le_of_ble_eq_true rfl) (by decide +kernel) _ rfl ?_
  refine Go.if_eq (off := 27) 38 (by decide +kernel) (by decide) (fun c2 => ?_) (fun c2 => ?_)
  · rw [if_pos c2] at h
    refine Go.bipush (n := -2) (-2 : Int32) (by decide +kernel) (by decide) ?_
    exact Go.iret rfl rfl hE.2 (by decide +kernel) (St.fIP h)
  · rw [if_neg c2] at h
    refine Go.aload_n (k := 0) (i := 0) 0 (by decide +kernel) rfl rfl ?_
    refine Go.iload_n (k := 2) (i := 2) 2 (by decide +kernel) rfl rfl ?_
    refine Go.i2l (by decide +kernel) ?_
    obtain ⟨v3, hv3, h⟩ := St.bind h
    refine Go.cV_i (P1 := (u1 P 109 0 (0 : Int32))) (v := v3) (d - 1) 109 [.long (a2.toInt64)] sh109 hE w_Mo_isStation (e_Mo_isStation hG hE (d - 1) (by omega) (a2.toInt64) (u1 P 109 0 (0 : Int32)) ⟨_, hv3, rfl, rfl, rfl⟩) lk1555 rfl (by omega) (Nat.le_of_ble_eq_true rfl) (by decide +kernel) _ rfl ?_
    refine Go.if_eq (off := 18) 38 (by decide +kernel) (by decide) (fun c4 => ?_) (fun c4 => ?_)
    · rw [if_pos c4] at h
      refine Go.bipush (n := -2) (-2 : Int32) (by decide +kernel) (by decide) ?_
      exact Go.iret rfl rfl hE.2 (by decide +kernel) (St.fIP h)
    · rw [if_neg c4] at h
      refine Go.iload_n (k := 1) (i := 1) 1 (by decide +kernel) rfl rfl ?_
      refine Go.iload_n (k := 2) (i := 2) 2 (by decide +kernel) rfl rfl ?_
      refine Go.icmp_eq (off := 13) 38 (by decide +kernel) (by decide) (fun c5 => ?_) (fun c5 => ?_)
      · rw [if_pos c5] at h
        refine Go.bipush (n := -2) (-2 : Int32) (by decide +kernel) (by decide) ?_
        exact Go.iret rfl rfl hE.2 (by decide +kernel) (St.fIP h)
      · rw [if_neg c5] at h
        refine Go.iload_n (k := 3) (i := 3) 3 (by decide +kernel) rfl rfl ?_
        refine Go.i2l (by decide +kernel) ?_
        refine Go.lconst (n := 0) (0 : Int64) (by decide +kernel) rfl ?_
        refine Go.lconst (n := 1) (1 : Int64) (by decide +kernel) rfl ?_
        refine Go.cS_i (P1 := (u1 P 109 0 (0 : Int32))) (v := (f_Mo_within (a3.toInt64) (0 : Int64) (1 : Int64) (u1 P 109 0 (0 : Int32)))) (d - 1) [.long (a3.toInt64), .long (0 : Int64), .long (1 : Int64)] hE w_Mo_within (e_Mo_within hG hE (d - 1) (by omega) (a3.toInt64) (0 : Int64) (1 : Int64) (u1 P 109 0 (0 : Int32)) ⟨rfl, rfl, rfl⟩) lk1438 rfl (by omega) (Nat.le_of_ble_eq_true rfl) (by decide +kernel) _ rfl ?_
        refine Go.if_ne (off := 6) 41 (by decide +kernel) (by decide) (fun c6 => ?_) (fun c6 => ?_)
        · rw [if_neg c6] at h
          refine Go.aload_n (k := 0) (i := 0) 0 (by decide +kernel) rfl rfl ?_
          refine Go.iload_n (k := 1) (i := 1) 1 (by decide +kernel) rfl rfl ?_
          refine Go.iload_n (k := 2) (i := 2) 2 (by decide +kernel) rfl rfl ?_
          obtain ⟨v7, hv7, h⟩ := St.bind h
          refine Go.cV_i (P1 := (u1 P 109 0 (0 : Int32))) (v := v7) (d - 1) 109 [.int a1, .int a2] sh109 hE w_Mo_hoursOf (e_Mo_hoursOf hG hE (d - 1) (by omega) a1 a2 (u1 P 109 0 (0 : Int32)) ⟨_, hv7, rfl, rfl, rfl⟩) lk1559 rfl (by omega) (Nat.le_of_ble_eq_true rfl) (by decide +kernel) _ rfl ?_
          refine Go.if_ne (off := 7) 54 (by decide +kernel) (by decide) (fun c8 => ?_) (fun c8 => ?_)
          · rw [if_neg c8] at h
            refine Go.iload_n (k := 3) (i := 3) 3 (by decide +kernel) rfl rfl ?_
            refine Go.if_ne (off := 12) 67 (by decide +kernel) (by decide) (fun c9 => ?_) (fun c9 => ?_)
            · rw [if_neg c9] at h
              refine Go.aload_n (k := 0) (i := 0) 0 (by decide +kernel) rfl rfl ?_
              refine Go.get 109 1 (.ref (ad E 110)) (by decide) (by decide) sh109 (ltO hE sh109) (vlR hE rfl rfl) lk1331 (by decide +kernel) ?_
              refine Go.bipush (n := 64) (64 : Int32) (by decide +kernel) (by decide) ?_
              refine Go.bipush (n := 7) (7 : Int32) (by decide +kernel) (by decide) ?_
              refine Go.iload_n (k := 1) (i := 1) 1 (by decide +kernel) rfl rfl ?_
              refine Go.imul (by decide +kernel) ?_
              refine Go.iadd (by decide +kernel) ?_
              refine Go.iload_n (k := 2) (i := 2) 2 (by decide +kernel) rfl rfl ?_
              refine Go.iadd (by decide +kernel) ?_
              obtain ⟨b10, h⟩ := St.ck h
              refine Go.iaload 110 3408 sh110 (ltA hE sh110 (by decide)) (inb_in b10) (by decide +kernel) ?_
              exact Go.iret rfl rfl hE.2 (by decide +kernel) (St.fIP h)
            · rw [if_pos c9] at h
              refine Go.aload_n (k := 0) (i := 0) 0 (by decide +kernel) rfl rfl ?_
              refine Go.iload_n (k := 1) (i := 1) 1 (by decide +kernel) rfl rfl ?_
              refine Go.iload_n (k := 2) (i := 2) 2 (by decide +kernel) rfl rfl ?_
              obtain ⟨v11, hv11, h⟩ := St.bind h
              refine Go.cV_i (P1 := (u1 P 109 0 (0 : Int32))) (v := v11) (d - 1) 109 [.int a1, .int a2] sh109 hE w_Mo_hoursOf (e_Mo_hoursOf hG hE (d - 1) (by omega) a1 a2 (u1 P 109 0 (0 : Int32)) ⟨_, hv11, rfl, rfl, rfl⟩) lk1559 rfl (by omega) (Nat.le_of_ble_eq_true rfl) (by decide +kernel) _ rfl ?_
              refine Go.goto (off := 17) 81 (by decide +kernel) (by decide) ?_
              exact Go.iret rfl rfl hE.2 (by decide +kernel) (St.fIP h)
          · rw [if_pos c8] at h
            refine Go.iconst (n := -1) (-1 : Int32) (by decide +kernel) rfl ?_
            refine Go.goto (off := 30) 81 (by decide +kernel) (by decide) ?_
            exact Go.iret rfl rfl hE.2 (by decide +kernel) (St.fIP h)
        · rw [if_pos c6] at h
          refine Go.bipush (n := -2) (-2 : Int32) (by decide +kernel) (by decide) ?_
          exact Go.iret rfl rfl hE.2 (by decide +kernel) (St.fIP h)
theorem e_Mo_way {G : GX} (hG : GOK G) {E : EV} (hE : E0 E) (d : Nat) (hd : 3 ≤ d) (a1 : Int32) (a2 : Int32) (a3 : Int32) (P : PM) {Q : QT} (h : St E rIP (f_Mo_way a1 a2 a3 P) Q) : Con G y_Mo_way cw_Mo_way d nOb nOb [.ref (ad E 109), .int a1, .int a2, .int a3] P E Q :=
  Con.of hG (by decide +kernel) rfl (fun h => by cases h) hE.2 (Nat.le_of_ble_eq_true rfl) (t_f_Mo_way hG hE d hd a1 a2 a3 P h)
abbrev c_Mo_whyPass : ByteArray := prog_14_method_45_code
abbrev y_Mo_whyPass : MethodName := ⟨"YawnRouteModel", "whyPass", "(J)I"⟩
abbrev cw_Mo_whyPass : Cond := .code y_Mo_whyPass c_Mo_whyPass 3 (some .int)
theorem w_Mo_whyPass : VW 12 y_Mo_whyPass c_Mo_whyPass 3 (some .int) 1 := ⟨by decide, lk1573, lp72_, lk14, lk1574, ⟨by decide, by decide, by decide +kernel⟩, by decide⟩
noncomputable def f_Mo_whyPass (a1 : Int64) (P : PM) : Option (Int32 × PM) := (f_Mo_isStation a1 P).bind (fun v1 => if v1 = (0 : Int32) then (some ((1 : Int32), P)) else (if (P.1 110 (113 : Int32).toNatClampNeg) = (-1 : Int32) then (some ((2 : Int32), P)) else (bd2 (f_Mo_whyBy (P.1 110 (113 : Int32).toNatClampNeg) (P.1 110 (114 : Int32).toNatClampNeg) (a1.toInt32) (P.1 110 (116 : Int32).toNatClampNeg) P) (fun v4 P5 => some (v4, P5)))))
theorem t_f_Mo_whyPass {G : GX} (hG : GOK G) {E : EV} (hE : E0 E) (d : Nat) (hd : 4 ≤ d) {Q : QT} (a1 : Int64) (P : PM) (h : St E rIP (f_Mo_whyPass a1 P) Q) : Go G c_Mo_whyPass "YawnRouteModel" 3 (some .int) false d nOb nOb Q 0 [(0, .ref (ad E 109)), (1, .long a1)] [] P E := by
  rw [f_Mo_whyPass] at h
  refine Go.aload_n (k := 0) (i := 0) 0 (by decide +kernel) rfl rfl ?_
  refine Go.lload_n (k := 1) (i := 1) 1 (by decide +kernel) rfl rfl ?_
  obtain ⟨v1, hv1, h⟩ := St.bind h
  refine Go.cV_i (P1 := P) (v := v1) (d - 1) 109 [.long a1] sh109 hE w_Mo_isStation (e_Mo_isStation hG hE (d - 1) (by omega) a1 P ⟨_, hv1, rfl, rfl, rfl⟩) lk1555 rfl (by omega) (Nat.le_of_ble_eq_true rfl) (by decide +kernel) _ rfl ?_
  refine Go.if_ne (off := 7) 12 (by decide +kernel) (by decide) (fun c2 => ?_) (fun c2 => ?_)
  · rw [if_neg c2] at h
    refine Go.aload_n (k := 0) (i := 0) 0 (by decide +kernel) rfl rfl ?_
    refine Go.get 109 1 (.ref (ad E 110)) (by decide) (by decide) sh109 (ltO hE sh109) (vlR hE rfl rfl) lk1331 (by decide +kernel) ?_
    refine Go.bipush (n := 113) (113 : Int32) (by decide +kernel) (by decide) ?_
    refine Go.iaload 110 3408 sh110 (ltA hE sh110 (by decide)) (vp_in_iff.mpr (by decide)) (by decide +kernel) ?_
    refine Go.iconst (n := -1) (-1 : Int32) (by decide +kernel) rfl ?_
    refine Go.icmp_ne (off := 7) 27 (by decide +kernel) (by decide) (fun c3 => ?_) (fun c3 => ?_)
    · rw [if_neg c3] at h
      refine Go.aload_n (k := 0) (i := 0) 0 (by decide +kernel) rfl rfl ?_
      refine Go.aload_n (k := 0) (i := 0) 0 (by decide +kernel) rfl rfl ?_
      refine Go.get 109 1 (.ref (ad E 110)) (by decide) (by decide) sh109 (ltO hE sh109) (vlR hE rfl rfl) lk1331 (by decide +kernel) ?_
      refine Go.bipush (n := 113) (113 : Int32) (by decide +kernel) (by decide) ?_
      refine Go.iaload 110 3408 sh110 (ltA hE sh110 (by decide)) (vp_in_iff.mpr (by decide)) (by decide +kernel) ?_
      refine Go.aload_n (k := 0) (i := 0) 0 (by decide +kernel) rfl rfl ?_
      refine Go.get 109 1 (.ref (ad E 110)) (by decide) (by decide) sh109 (ltO hE sh109) (vlR hE rfl rfl) lk1331 (by decide +kernel) ?_
      refine Go.bipush (n := 114) (114 : Int32) (by decide +kernel) (by decide) ?_
      refine Go.iaload 110 3408 sh110 (ltA hE sh110 (by decide)) (vp_in_iff.mpr (by decide)) (by decide +kernel) ?_
      refine Go.lload_n (k := 1) (i := 1) 1 (by decide +kernel) rfl rfl ?_
      refine Go.l2i (by decide +kernel) ?_
      refine Go.aload_n (k := 0) (i := 0) 0 (by decide +kernel) rfl rfl ?_
      refine Go.get 109 1 (.ref (ad E 110)) (by decide) (by decide) sh109 (ltO hE sh109) (vlR hE rfl rfl) lk1331 (by decide +kernel) ?_
      refine Go.bipush (n := 116) (116 : Int32) (by decide +kernel) (by decide) ?_
      refine Go.iaload 110 3408 sh110 (ltA hE sh110 (by decide)) (vp_in_iff.mpr (by decide)) (by decide +kernel) ?_
      obtain ⟨v4, P5, hv4, h⟩ := St.bd2 h
      refine Go.cV_i (P1 := P5) (v := v4) (d - 1) 109 [.int (P.1 110 (113 : Int32).toNatClampNeg), .int (P.1 110 (114 : Int32).toNatClampNeg), .int (a1.toInt32), .int (P.1 110 (116 : Int32).toNatClampNeg)] sh109 hE w_Mo_whyBy (e_Mo_whyBy hG hE (d - 1) (by omega) (P.1 110 (113 : Int32).toNatClampNeg) (P.1 110 (114 : Int32).toNatClampNeg) (a1.toInt32) (P.1 110 (116 : Int32).toNatClampNeg) P ⟨_, hv4, rfl, rfl, rfl⟩) lk1575 rfl (by omega) (Nat.le_of_ble_eq_true rfl) (by decide +kernel) _ rfl ?_
      exact Go.iret rfl rfl hE.2 (by decide +kernel) (St.fIP h)
    · rw [if_pos c3] at h
      refine Go.iconst (n := 2) (2 : Int32) (by decide +kernel) rfl ?_
      refine Go.goto (off := 30) 54 (by decide +kernel) (by decide) ?_
      exact Go.iret rfl rfl hE.2 (by decide +kernel) (St.fIP h)
  · rw [if_pos c2] at h
    refine Go.iconst (n := 1) (1 : Int32) (by decide +kernel) rfl ?_
    refine Go.goto (off := 45) 54 (by decide +kernel) (by decide) ?_
    exact Go.iret rfl rfl hE.2 (by decide +kernel) (St.fIP h)
theorem e_Mo_whyPass {G : GX} (hG : GOK G) {E : EV} (hE : E0 E) (d : Nat) (hd : 4 ≤ d) (a1 : Int64) (P : PM) {Q : QT} (h : St E rIP (f_Mo_whyPass a1 P) Q) : Con G y_Mo_whyPass cw_Mo_whyPass d nOb nOb [.ref (ad E 109), .long a1] P E Q :=
  Con.of hG (by decide +kernel) rfl (fun h => by cases h) hE.2 (Nat.le_of_ble_eq_true rfl) (t_f_Mo_whyPass hG hE d hd a1 P h)
abbrev c_Mo_brings : ByteArray := prog_14_method_46_code
abbrev y_Mo_brings : MethodName := ⟨"YawnRouteModel", "brings", "(I)I"⟩
abbrev cw_Mo_brings : Cond := .code y_Mo_brings c_Mo_brings 2 (some .int)
theorem w_Mo_brings : VW 12 y_Mo_brings c_Mo_brings 2 (some .int) 1 := ⟨by decide, lk1568, lk1569, lk14, lk1570, ⟨by decide, by decide, by decide +kernel⟩, by decide⟩
noncomputable def f_Mo_brings (a1 : Int32) (P : PM) : Option (Int32 × PM) := (f_Mo_isStation (a1.toInt64) (u1 P 109 0 (0 : Int32))).bind (fun v1 => if v1 = (0 : Int32) then (some ((-2 : Int32), (u1 P 109 0 (0 : Int32)))) else (bd2 (f_Mo_whyPass (a1.toInt64) (u1 P 109 0 (0 : Int32))) (fun v3 P4 => if v3 = (0 : Int32) then (bd2 (f_Mo_passedTo (P4.1 110 (113 : Int32).toNatClampNeg) (P4.1 110 (114 : Int32).toNatClampNeg) a1 P4) (fun v6 P7 => some (v6, P7))) else (some ((-5 : Int32), P4)))))
theorem t_f_Mo_brings {G : GX} (hG : GOK G) {E : EV} (hE : E0 E) (d : Nat) (hd : 5 ≤ d) {Q : QT} (a1 : Int32) (P : PM) (h : St E rIP (f_Mo_brings a1 P) Q) : Go G c_Mo_brings "YawnRouteModel" 2 (some .int) false d nOb nOb Q 0 [(0, .ref (ad E 109)), (1, .int a1)] [] P E := by
  rw [f_Mo_brings] at h
  refine Go.aload_n (k := 0) (i := 0) 0 (by decide +kernel) rfl rfl ?_
  refine Go.iconst (n := 0) (0 : Int32) (by decide +kernel) rfl ?_
  refine Go.put 109 0 (by decide) (by decide) sh109 (ltO hE sh109) (Or.inl rfl) rfl rfl rfl lk1330 (by decide +kernel) ?_
  refine Go.aload_n (k := 0) (i := 0) 0 (by decide +kernel) rfl rfl ?_
  refine Go.iload_n (k := 1) (i := 1) 1 (by decide +kernel) rfl rfl ?_
  refine Go.i2l (by decide +kernel) ?_
  obtain ⟨v1, hv1, h⟩ := St.bind h
  refine Go.cV_i (P1 := (u1 P 109 0 (0 : Int32))) (v := v1) (d - 1) 109 [.long (a1.toInt64)] sh109 hE w_Mo_isStation (e_Mo_isStation hG hE (d - 1) (by omega) (a1.toInt64) (u1 P 109 0 (0 : Int32)) ⟨_, hv1, rfl, rfl, rfl⟩) lk1555 rfl (by omega) (Nat.le_of_ble_eq_true rfl) (by decide +kernel) _ rfl ?_
  refine Go.if_ne (off := 6) 17 (by decide +kernel) (by decide) (fun c2 => ?_) (fun c2 => ?_)
  · rw [if_neg c2] at h
    refine Go.aload_n (k := 0) (i := 0) 0 (by decide +kernel) rfl rfl ?_
    refine Go.iload_n (k := 1) (i := 1) 1 (by decide +kernel) rfl rfl ?_
    refine Go.i2l (by decide +kernel) ?_
    obtain ⟨v3, P4, hv3, h⟩ := St.bd2 h
    refine Go.cV_i (P1 := P4) (v := v3) (d - 1) 109 [.long (a1.toInt64)] sh109 hE w_Mo_whyPass (e_Mo_whyPass hG hE (d - 1) (by omega) (a1.toInt64) (u1 P 109 0 (0 : Int32)) ⟨_, hv3, rfl, rfl, rfl⟩) lk1571 rfl (by omega) (Nat.le_of_ble_eq_true rfl) (by decide +kernel) _ rfl ?_
    refine Go.if_ne (off := 25) 48 (by decide +kernel) (by decide) (fun c5 => ?_) (fun c5 => ?_)
    · rw [if_neg c5] at h
      refine Go.bipush (n := -5) (-5 : Int32) (by decide +kernel) (by decide) ?_
      exact Go.iret rfl rfl hE.2 (by decide +kernel) (St.fIP h)
    · rw [if_pos c5] at h
      refine Go.aload_n (k := 0) (i := 0) 0 (by decide +kernel) rfl rfl ?_
      refine Go.aload_n (k := 0) (i := 0) 0 (by decide +kernel) rfl rfl ?_
      refine Go.get 109 1 (.ref (ad E 110)) (by decide) (by decide) sh109 (ltO hE sh109) (vlR hE rfl rfl) lk1331 (by decide +kernel) ?_
      refine Go.bipush (n := 113) (113 : Int32) (by decide +kernel) (by decide) ?_
      refine Go.iaload 110 3408 sh110 (ltA hE sh110 (by decide)) (vp_in_iff.mpr (by decide)) (by decide +kernel) ?_
      refine Go.aload_n (k := 0) (i := 0) 0 (by decide +kernel) rfl rfl ?_
      refine Go.get 109 1 (.ref (ad E 110)) (by decide) (by decide) sh109 (ltO hE sh109) (vlR hE rfl rfl) lk1331 (by decide +kernel) ?_
      refine Go.bipush (n := 114) (114 : Int32) (by decide +kernel) (by decide) ?_
      refine Go.iaload 110 3408 sh110 (ltA hE sh110 (by decide)) (vp_in_iff.mpr (by decide)) (by decide +kernel) ?_
      refine Go.iload_n (k := 1) (i := 1) 1 (by decide +kernel) rfl rfl ?_
      obtain ⟨v6, P7, hv6, h⟩ := St.bd2 h
      refine Go.cV_i (P1 := P7) (v := v6) (d - 1) 109 [.int (P4.1 110 (113 : Int32).toNatClampNeg), .int (P4.1 110 (114 : Int32).toNatClampNeg), .int a1] sh109 hE w_Mo_passedTo (e_Mo_passedTo hG hE (d - 1) (by omega) (P4.1 110 (113 : Int32).toNatClampNeg) (P4.1 110 (114 : Int32).toNatClampNeg) a1 P4 ⟨_, hv6, rfl, rfl, rfl⟩) lk1591 rfl (by omega) (Nat.le_of_ble_eq_true rfl) (by decide +kernel) _ rfl ?_
      refine Go.goto (off := 5) 50 (by decide +kernel) (by decide) ?_
      exact Go.iret rfl rfl hE.2 (by decide +kernel) (St.fIP h)
  · rw [if_pos c2] at h
    refine Go.bipush (n := -2) (-2 : Int32) (by decide +kernel) (by decide) ?_
    exact Go.iret rfl rfl hE.2 (by decide +kernel) (St.fIP h)
theorem e_Mo_brings {G : GX} (hG : GOK G) {E : EV} (hE : E0 E) (d : Nat) (hd : 5 ≤ d) (a1 : Int32) (P : PM) {Q : QT} (h : St E rIP (f_Mo_brings a1 P) Q) : Con G y_Mo_brings cw_Mo_brings d nOb nOb [.ref (ad E 109), .int a1] P E Q :=
  Con.of hG (by decide +kernel) rfl (fun h => by cases h) hE.2 (Nat.le_of_ble_eq_true rfl) (t_f_Mo_brings hG hE d hd a1 P h)
abbrev c_Mo_keeps : ByteArray := prog_14_method_47_code
abbrev y_Mo_keeps : MethodName := ⟨"YawnRouteModel", "keeps", "()V"⟩
abbrev cw_Mo_keeps : Cond := .code y_Mo_keeps c_Mo_keeps 2 none
theorem w_Mo_keeps : VW 12 y_Mo_keeps c_Mo_keeps 2 none 0 := ⟨by decide, lk1601, lp76_, lk14, lk1602, ⟨by decide, by decide, by decide +kernel⟩, by decide⟩
noncomputable def l_Mo_keeps_2 : Nat → Int32 → PM → Option PM
  | 0, _, _ => none
  | n + 1, x1, P => if (11 : Int32) ≤ x1 then (some P) else (ck (inb ((113 : Int32) + x1) 3408) (ck (inb x1 11) (l_Mo_keeps_2 n (x1 + (1 : Int32)) (u1 P 116 x1.toNatClampNeg (P.1 110 ((113 : Int32) + x1).toNatClampNeg)))))
noncomputable def f_Mo_keeps (P : PM) : Option PM := l_Mo_keeps_2 FU (0 : Int32) P
theorem t_l_Mo_keeps_2 {G : GX} (hG : GOK G) {E : EV} (hE : E0 E) (d : Nat) (hd : 1 ≤ d) {Q : QT} : ∀ (n : Nat) (x1 : Int32) (P : PM), St E rP (l_Mo_keeps_2 n x1 P) Q → Go G c_Mo_keeps "YawnRouteModel" 2 none false d nOb nOb Q 2 [(0, .ref (ad E 109)), (1, .int x1)] [] P E := by
  intro n
  induction n with
  | zero =>
    intro x1 P h
    rw [l_Mo_keeps_2] at h
    exact St.none_ h
  | succ n ih =>
    intro x1 P h
    rw [l_Mo_keeps_2] at h
    refine Go.iload_n (k := 1) (i := 1) 1 (by decide +kernel) rfl rfl ?_
    refine Go.bipush (n := 11) (11 : Int32) (by decide +kernel) (by decide) ?_
    refine Go.icmp_ge (off := 24) 29 (by decide +kernel) (by decide) (fun c1 => ?_) (fun c1 => ?_)
    · rw [if_pos c1] at h
      exact Go.vret rfl hE.2 (by decide +kernel) (St.fP h)
    · rw [if_neg c1] at h
      refine Go.aload_n (k := 0) (i := 0) 0 (by decide +kernel) rfl rfl ?_
      refine Go.get 109 17 (.ref (ad E 116)) (by decide) (by decide) sh109 (ltO hE sh109) (vlR hE rfl rfl) lk1347 (by decide +kernel) ?_
      refine Go.iload_n (k := 1) (i := 1) 1 (by decide +kernel) rfl rfl ?_
      refine Go.aload_n (k := 0) (i := 0) 0 (by decide +kernel) rfl rfl ?_
      refine Go.get 109 1 (.ref (ad E 110)) (by decide) (by decide) sh109 (ltO hE sh109) (vlR hE rfl rfl) lk1331 (by decide +kernel) ?_
      refine Go.bipush (n := 113) (113 : Int32) (by decide +kernel) (by decide) ?_
      refine Go.iload_n (k := 1) (i := 1) 1 (by decide +kernel) rfl rfl ?_
      refine Go.iadd (by decide +kernel) ?_
      obtain ⟨b2, h⟩ := St.ck h
      refine Go.iaload 110 3408 sh110 (ltA hE sh110 (by decide)) (inb_in b2) (by decide +kernel) ?_
      obtain ⟨b3, h⟩ := St.ck h
      refine Go.iastore 116 11 sh116 (ltA hE sh116 (by decide)) (inb_in b3) (by decide +kernel) ?_
      refine Go.iinc (i := 1) (n := 1) 1 (x1 + (1 : Int32)) [(1, .int (x1 + (1 : Int32))), (0, .ref (ad E 109))] (by decide +kernel) rfl rfl (by decide) rfl ?_
      refine Go.goto (off := -24) 2 (by decide +kernel) (by decide) ?_
      refine Go.sub [1, 0] [(0, .ref (ad E 109)), (1, .int (x1 + (1 : Int32)))] rfl ?_
      exact ih (x1 + (1 : Int32)) (u1 P 116 x1.toNatClampNeg (P.1 110 ((113 : Int32) + x1).toNatClampNeg)) h
theorem t_f_Mo_keeps {G : GX} (hG : GOK G) {E : EV} (hE : E0 E) (d : Nat) (hd : 1 ≤ d) {Q : QT} (P : PM) (h : St E rP (f_Mo_keeps P) Q) : Go G c_Mo_keeps "YawnRouteModel" 2 none false d nOb nOb Q 0 [(0, .ref (ad E 109))] [] P E := by
  rw [f_Mo_keeps] at h
  refine Go.iconst (n := 0) (0 : Int32) (by decide +kernel) rfl ?_
  refine Go.istore_n (k := 1) (i := 1) [(1, .int (0 : Int32)), (0, .ref (ad E 109))] (by decide +kernel) rfl (by decide) rfl ?_
  refine Go.sub [1, 0] [(0, .ref (ad E 109)), (1, .int (0 : Int32))] rfl ?_
  exact t_l_Mo_keeps_2 hG hE d hd FU (0 : Int32) P h
theorem e_Mo_keeps {G : GX} (hG : GOK G) {E : EV} (hE : E0 E) (d : Nat) (hd : 1 ≤ d) (P : PM) {Q : QT} (h : St E rP (f_Mo_keeps P) Q) : Con G y_Mo_keeps cw_Mo_keeps d nOb nOb [.ref (ad E 109)] P E Q :=
  Con.of hG (by decide +kernel) rfl (fun h => by cases h) hE.2 (Nat.le_of_ble_eq_true rfl) (t_f_Mo_keeps hG hE d hd P h)
abbrev c_Mo_isAgain : ByteArray := prog_14_method_48_code
abbrev y_Mo_isAgain : MethodName := ⟨"YawnRouteModel", "isAgain", "()V"⟩
abbrev cw_Mo_isAgain : Cond := .code y_Mo_isAgain c_Mo_isAgain 2 none
theorem w_Mo_isAgain : VW 12 y_Mo_isAgain c_Mo_isAgain 2 none 0 := ⟨by decide, lk1665, lp84_, lk14, lk1666, ⟨by decide, by decide, by decide +kernel⟩, by decide⟩
noncomputable def l_Mo_isAgain_2 : Nat → Int32 → PM → Option PM
  | 0, _, _ => none
  | n + 1, x1, P => if (11 : Int32) ≤ x1 then (some P) else (ck (inb x1 11) (ck (inb ((113 : Int32) + x1) 3408) (l_Mo_isAgain_2 n (x1 + (1 : Int32)) (u1 P 110 ((113 : Int32) + x1).toNatClampNeg (P.1 116 x1.toNatClampNeg)))))
noncomputable def f_Mo_isAgain (P : PM) : Option PM := l_Mo_isAgain_2 FU (0 : Int32) P
theorem t_l_Mo_isAgain_2 {G : GX} (hG : GOK G) {E : EV} (hE : E0 E) (d : Nat) (hd : 1 ≤ d) {Q : QT} : ∀ (n : Nat) (x1 : Int32) (P : PM), St E rP (l_Mo_isAgain_2 n x1 P) Q → Go G c_Mo_isAgain "YawnRouteModel" 2 none false d nOb nOb Q 2 [(0, .ref (ad E 109)), (1, .int x1)] [] P E := by
  intro n
  induction n with
  | zero =>
    intro x1 P h
    rw [l_Mo_isAgain_2] at h
    exact St.none_ h
  | succ n ih =>
    intro x1 P h
    rw [l_Mo_isAgain_2] at h
    refine Go.iload_n (k := 1) (i := 1) 1 (by decide +kernel) rfl rfl ?_
    refine Go.bipush (n := 11) (11 : Int32) (by decide +kernel) (by decide) ?_
    refine Go.icmp_ge (off := 24) 29 (by decide +kernel) (by decide) (fun c1 => ?_) (fun c1 => ?_)
    · rw [if_pos c1] at h
      exact Go.vret rfl hE.2 (by decide +kernel) (St.fP h)
    · rw [if_neg c1] at h
      refine Go.aload_n (k := 0) (i := 0) 0 (by decide +kernel) rfl rfl ?_
      refine Go.get 109 1 (.ref (ad E 110)) (by decide) (by decide) sh109 (ltO hE sh109) (vlR hE rfl rfl) lk1331 (by decide +kernel) ?_
      refine Go.bipush (n := 113) (113 : Int32) (by decide +kernel) (by decide) ?_
      refine Go.iload_n (k := 1) (i := 1) 1 (by decide +kernel) rfl rfl ?_
      refine Go.iadd (by decide +kernel) ?_
      refine Go.aload_n (k := 0) (i := 0) 0 (by decide +kernel) rfl rfl ?_
      refine Go.get 109 17 (.ref (ad E 116)) (by decide) (by decide) sh109 (ltO hE sh109) (vlR hE rfl rfl) lk1347 (by decide +kernel) ?_
      refine Go.iload_n (k := 1) (i := 1) 1 (by decide +kernel) rfl rfl ?_
      obtain ⟨b2, h⟩ := St.ck h
      refine Go.iaload 116 11 sh116 (ltA hE sh116 (by decide)) (inb_in b2) (by decide +kernel) ?_
      obtain ⟨b3, h⟩ := St.ck h
      refine Go.iastore 110 3408 sh110 (ltA hE sh110 (by decide)) (inb_in b3) (by decide +kernel) ?_
      refine Go.iinc (i := 1) (n := 1) 1 (x1 + (1 : Int32)) [(1, .int (x1 + (1 : Int32))), (0, .ref (ad E 109))] (by decide +kernel) rfl rfl (by decide) rfl ?_
      refine Go.goto (off := -24) 2 (by decide +kernel) (by decide) ?_
      refine Go.sub [1, 0] [(0, .ref (ad E 109)), (1, .int (x1 + (1 : Int32)))] rfl ?_
      exact ih (x1 + (1 : Int32)) (u1 P 110 ((113 : Int32) + x1).toNatClampNeg (P.1 116 x1.toNatClampNeg)) h
theorem t_f_Mo_isAgain {G : GX} (hG : GOK G) {E : EV} (hE : E0 E) (d : Nat) (hd : 1 ≤ d) {Q : QT} (P : PM) (h : St E rP (f_Mo_isAgain P) Q) : Go G c_Mo_isAgain "YawnRouteModel" 2 none false d nOb nOb Q 0 [(0, .ref (ad E 109))] [] P E := by
  rw [f_Mo_isAgain] at h
  refine Go.iconst (n := 0) (0 : Int32) (by decide +kernel) rfl ?_
  refine Go.istore_n (k := 1) (i := 1) [(1, .int (0 : Int32)), (0, .ref (ad E 109))] (by decide +kernel) rfl (by decide) rfl ?_
  refine Go.sub [1, 0] [(0, .ref (ad E 109)), (1, .int (0 : Int32))] rfl ?_
  exact t_l_Mo_isAgain_2 hG hE d hd FU (0 : Int32) P h
theorem e_Mo_isAgain {G : GX} (hG : GOK G) {E : EV} (hE : E0 E) (d : Nat) (hd : 1 ≤ d) (P : PM) {Q : QT} (h : St E rP (f_Mo_isAgain P) Q) : Con G y_Mo_isAgain cw_Mo_isAgain d nOb nOb [.ref (ad E 109)] P E Q :=
  Con.of hG (by decide +kernel) rfl (fun h => by cases h) hE.2 (Nat.le_of_ble_eq_true rfl) (t_f_Mo_isAgain hG hE d hd P h)
abbrev c_Mo_notes : ByteArray := prog_14_method_49_code
abbrev y_Mo_notes : MethodName := ⟨"YawnRouteModel", "notes", "()V"⟩
abbrev cw_Mo_notes : Cond := .code y_Mo_notes c_Mo_notes 2 none
theorem w_Mo_notes : VW 12 y_Mo_notes c_Mo_notes 2 none 0 := ⟨by decide, lk1609, lp78_, lk14, lk1610, ⟨by decide, by decide, by decide +kernel⟩, by decide⟩
noncomputable def l_Mo_notes_58 : Nat → Int32 → PM → Option PM
  | 0, _, _ => none
  | n + 1, x1, P => if (11 : Int32) ≤ x1 then (some (u1 P 110 (124 : Int32).toNatClampNeg ((P.1 110 (124 : Int32).toNatClampNeg) + (1 : Int32)))) else (ck (inb x1 11) (ck (inb (((125 : Int32) + ((11 : Int32) * (P.1 110 (124 : Int32).toNatClampNeg))) + x1) 3408) (l_Mo_notes_58 n (x1 + (1 : Int32)) (u1 P 110 (((125 : Int32) + ((11 : Int32) * (P.1 110 (124 : Int32).toNatClampNeg))) + x1).toNatClampNeg (P.1 116 x1.toNatClampNeg)))))
noncomputable def j_Mo_notes_56 (P : PM) : Option PM := l_Mo_notes_58 FU (0 : Int32) P
noncomputable def l_Mo_notes_14 : Nat → Int32 → PM → Option PM
  | 0, _, _ => none
  | n + 1, x1, P => if (99 : Int32) ≤ x1 then (j_Mo_notes_56 (u1 P 110 (124 : Int32).toNatClampNeg ((P.1 110 (124 : Int32).toNatClampNeg) - (1 : Int32)))) else (ck (inb ((136 : Int32) + x1) 3408) (ck (inb ((125 : Int32) + x1) 3408) (l_Mo_notes_14 n (x1 + (1 : Int32)) (u1 P 110 ((125 : Int32) + x1).toNatClampNeg (P.1 110 ((136 : Int32) + x1).toNatClampNeg)))))
noncomputable def f_Mo_notes (P : PM) : Option PM := if (P.1 110 (124 : Int32).toNatClampNeg) = (10 : Int32) then (l_Mo_notes_14 FU (0 : Int32) P) else (j_Mo_notes_56 P)
theorem t_l_Mo_notes_58 {G : GX} (hG : GOK G) {E : EV} (hE : E0 E) (d : Nat) (hd : 1 ≤ d) {Q : QT} : ∀ (n : Nat) (x1 : Int32) (P : PM), St E rP (l_Mo_notes_58 n x1 P) Q → Go G c_Mo_notes "YawnRouteModel" 2 none false d nOb nOb Q 58 [(0, .ref (ad E 109)), (1, .int x1)] [] P E := by
  intro n
  induction n with
  | zero =>
    intro x1 P h
    rw [l_Mo_notes_58] at h
    exact St.none_ h
  | succ n ih =>
    intro x1 P h
    rw [l_Mo_notes_58] at h
    refine Go.iload_n (k := 1) (i := 1) 1 (by decide +kernel) rfl rfl ?_
    refine Go.bipush (n := 11) (11 : Int32) (by decide +kernel) (by decide) ?_
    refine Go.icmp_ge (off := 35) 96 (by decide +kernel) (by decide) (fun c1 => ?_) (fun c1 => ?_)
    · rw [if_pos c1] at h
      refine Go.aload_n (k := 0) (i := 0) 0 (by decide +kernel) rfl rfl ?_
      refine Go.get 109 1 (.ref (ad E 110)) (by decide) (by decide) sh109 (ltO hE sh109) (vlR hE rfl rfl) lk1331 (by decide +kernel) ?_
      refine Go.bipush (n := 124) (124 : Int32) (by decide +kernel) (by decide) ?_
      refine Go.dup2 (by decide +kernel) rfl rfl ?_
      refine Go.iaload 110 3408 sh110 (ltA hE sh110 (by decide)) (vp_in_iff.mpr (by decide)) (by decide +kernel) ?_
      refine Go.iconst (n := 1) (1 : Int32) (by decide +kernel) rfl ?_
      refine Go.iadd (by decide +kernel) ?_
      refine Go.iastore 110 3408 sh110 (ltA hE sh110 (by decide)) (vp_in_iff.mpr (by decide)) (by decide +kernel) ?_
      exact Go.vret rfl hE.2 (by decide +kernel) (St.fP h)
    · rw [if_neg c1] at h
      refine Go.aload_n (k := 0) (i := 0) 0 (by decide +kernel) rfl rfl ?_
      refine Go.get 109 1 (.ref (ad E 110)) (by decide) (by decide) sh109 (ltO hE sh109) (vlR hE rfl rfl) lk1331 (by decide +kernel) ?_
      refine Go.bipush (n := 125) (125 : Int32) (by decide +kernel) (by decide) ?_
      refine Go.bipush (n := 11) (11 : Int32) (by decide +kernel) (by decide) ?_
      refine Go.aload_n (k := 0) (i := 0) 0 (by decide +kernel) rfl rfl ?_
      refine Go.get 109 1 (.ref (ad E 110)) (by decide) (by decide) sh109 (ltO hE sh109) (vlR hE rfl rfl) lk1331 (by decide +kernel) ?_
      refine Go.bipush (n := 124) (124 : Int32) (by decide +kernel) (by decide) ?_
      refine Go.iaload 110 3408 sh110 (ltA hE sh110 (by decide)) (vp_in_iff.mpr (by decide)) (by decide +kernel) ?_
      refine Go.imul (by decide +kernel) ?_
      refine Go.iadd (by decide +kernel) ?_
      refine Go.iload_n (k := 1) (i := 1) 1 (by decide +kernel) rfl rfl ?_
      refine Go.iadd (by decide +kernel) ?_
      refine Go.aload_n (k := 0) (i := 0) 0 (by decide +kernel) rfl rfl ?_
      refine Go.get 109 17 (.ref (ad E 116)) (by decide) (by decide) sh109 (ltO hE sh109) (vlR hE rfl rfl) lk1347 (by decide +kernel) ?_
      refine Go.iload_n (k := 1) (i := 1) 1 (by decide +kernel) rfl rfl ?_
      obtain ⟨b2, h⟩ := St.ck h
      refine Go.iaload 116 11 sh116 (ltA hE sh116 (by decide)) (inb_in b2) (by decide +kernel) ?_
      obtain ⟨b3, h⟩ := St.ck h
      refine Go.iastore 110 3408 sh110 (ltA hE sh110 (by decide)) (inb_in b3) (by decide +kernel) ?_
      refine Go.iinc (i := 1) (n := 1) 1 (x1 + (1 : Int32)) [(1, .int (x1 + (1 : Int32))), (0, .ref (ad E 109))] (by decide +kernel) rfl rfl (by decide) rfl ?_
      refine Go.goto (off := -35) 58 (by decide +kernel) (by decide) ?_
      refine Go.sub [1, 0] [(0, .ref (ad E 109)), (1, .int (x1 + (1 : Int32)))] rfl ?_
      exact ih (x1 + (1 : Int32)) (u1 P 110 (((125 : Int32) + ((11 : Int32) * (P.1 110 (124 : Int32).toNatClampNeg))) + x1).toNatClampNeg (P.1 116 x1.toNatClampNeg)) h
theorem t_j_Mo_notes_56 {G : GX} (hG : GOK G) {E : EV} (hE : E0 E) (d : Nat) (hd : 1 ≤ d) {Q : QT} (P : PM) (h : St E rP (j_Mo_notes_56 P) Q) : Go G c_Mo_notes "YawnRouteModel" 2 none false d nOb nOb Q 56 [(0, .ref (ad E 109))] [] P E := by
  rw [j_Mo_notes_56] at h
  refine Go.iconst (n := 0) (0 : Int32) (by decide +kernel) rfl ?_
  refine Go.istore_n (k := 1) (i := 1) [(1, .int (0 : Int32)), (0, .ref (ad E 109))] (by decide +kernel) rfl (by decide) rfl ?_
  refine Go.sub [1, 0] [(0, .ref (ad E 109)), (1, .int (0 : Int32))] rfl ?_
  exact t_l_Mo_notes_58 hG hE d hd FU (0 : Int32) P h
theorem t_l_Mo_notes_14 {G : GX} (hG : GOK G) {E : EV} (hE : E0 E) (d : Nat) (hd : 1 ≤ d) {Q : QT} : ∀ (n : Nat) (x1 : Int32) (P : PM), St E rP (l_Mo_notes_14 n x1 P) Q → Go G c_Mo_notes "YawnRouteModel" 2 none false d nOb nOb Q 14 [(0, .ref (ad E 109)), (1, .int x1)] [] P E := by
  intro n
  induction n with
  | zero =>
    intro x1 P h
    rw [l_Mo_notes_14] at h
    exact St.none_ h
  | succ n ih =>
    intro x1 P h
    rw [l_Mo_notes_14] at h
    refine Go.iload_n (k := 1) (i := 1) 1 (by decide +kernel) rfl rfl ?_
    refine Go.bipush (n := 99) (99 : Int32) (by decide +kernel) (by decide) ?_
    refine Go.icmp_ge (off := 28) 45 (by decide +kernel) (by decide) (fun c1 => ?_) (fun c1 => ?_)
    · rw [if_pos c1] at h
      refine Go.aload_n (k := 0) (i := 0) 0 (by decide +kernel) rfl rfl ?_
      refine Go.get 109 1 (.ref (ad E 110)) (by decide) (by decide) sh109 (ltO hE sh109) (vlR hE rfl rfl) lk1331 (by decide +kernel) ?_
      refine Go.bipush (n := 124) (124 : Int32) (by decide +kernel) (by decide) ?_
      refine Go.dup2 (by decide +kernel) rfl rfl ?_
      refine Go.iaload 110 3408 sh110 (ltA hE sh110 (by decide)) (vp_in_iff.mpr (by decide)) (by decide +kernel) ?_
      refine Go.iconst (n := 1) (1 : Int32) (by decide +kernel) rfl ?_
      refine Go.isub (by decide +kernel) ?_
      refine Go.iastore 110 3408 sh110 (ltA hE sh110 (by decide)) (vp_in_iff.mpr (by decide)) (by decide +kernel) ?_
      refine Go.sub [0] [(0, .ref (ad E 109))] rfl ?_
      exact t_j_Mo_notes_56 hG hE d hd (u1 P 110 (124 : Int32).toNatClampNeg ((P.1 110 (124 : Int32).toNatClampNeg) - (1 : Int32))) h
    · rw [if_neg c1] at h
      refine Go.aload_n (k := 0) (i := 0) 0 (by decide +kernel) rfl rfl ?_
      refine Go.get 109 1 (.ref (ad E 110)) (by decide) (by decide) sh109 (ltO hE sh109) (vlR hE rfl rfl) lk1331 (by decide +kernel) ?_
      refine Go.bipush (n := 125) (125 : Int32) (by decide +kernel) (by decide) ?_
      refine Go.iload_n (k := 1) (i := 1) 1 (by decide +kernel) rfl rfl ?_
      refine Go.iadd (by decide +kernel) ?_
      refine Go.aload_n (k := 0) (i := 0) 0 (by decide +kernel) rfl rfl ?_
      refine Go.get 109 1 (.ref (ad E 110)) (by decide) (by decide) sh109 (ltO hE sh109) (vlR hE rfl rfl) lk1331 (by decide +kernel) ?_
      refine Go.sipush (n := 136) (136 : Int32) (by decide +kernel) (by decide) ?_
      refine Go.iload_n (k := 1) (i := 1) 1 (by decide +kernel) rfl rfl ?_
      refine Go.iadd (by decide +kernel) ?_
      obtain ⟨b2, h⟩ := St.ck h
      refine Go.iaload 110 3408 sh110 (ltA hE sh110 (by decide)) (inb_in b2) (by decide +kernel) ?_
      obtain ⟨b3, h⟩ := St.ck h
      refine Go.iastore 110 3408 sh110 (ltA hE sh110 (by decide)) (inb_in b3) (by decide +kernel) ?_
      refine Go.iinc (i := 1) (n := 1) 1 (x1 + (1 : Int32)) [(1, .int (x1 + (1 : Int32))), (0, .ref (ad E 109))] (by decide +kernel) rfl rfl (by decide) rfl ?_
      refine Go.goto (off := -28) 14 (by decide +kernel) (by decide) ?_
      refine Go.sub [1, 0] [(0, .ref (ad E 109)), (1, .int (x1 + (1 : Int32)))] rfl ?_
      exact ih (x1 + (1 : Int32)) (u1 P 110 ((125 : Int32) + x1).toNatClampNeg (P.1 110 ((136 : Int32) + x1).toNatClampNeg)) h
theorem t_f_Mo_notes {G : GX} (hG : GOK G) {E : EV} (hE : E0 E) (d : Nat) (hd : 1 ≤ d) {Q : QT} (P : PM) (h : St E rP (f_Mo_notes P) Q) : Go G c_Mo_notes "YawnRouteModel" 2 none false d nOb nOb Q 0 [(0, .ref (ad E 109))] [] P E := by
  rw [f_Mo_notes] at h
  refine Go.aload_n (k := 0) (i := 0) 0 (by decide +kernel) rfl rfl ?_
  refine Go.get 109 1 (.ref (ad E 110)) (by decide) (by decide) sh109 (ltO hE sh109) (vlR hE rfl rfl) lk1331 (by decide +kernel) ?_
  refine Go.bipush (n := 124) (124 : Int32) (by decide +kernel) (by decide) ?_
  refine Go.iaload 110 3408 sh110 (ltA hE sh110 (by decide)) (vp_in_iff.mpr (by decide)) (by decide +kernel) ?_
  refine Go.bipush (n := 10) (10 : Int32) (by decide +kernel) (by decide) ?_
  refine Go.icmp_ne (off := 47) 56 (by decide +kernel) (by decide) (fun c1 => ?_) (fun c1 => ?_)
  · rw [if_neg c1] at h
    exact t_j_Mo_notes_56 hG hE d hd P h
  · rw [if_pos c1] at h
    refine Go.iconst (n := 0) (0 : Int32) (by decide +kernel) rfl ?_
    refine Go.istore_n (k := 1) (i := 1) [(1, .int (0 : Int32)), (0, .ref (ad E 109))] (by decide +kernel) rfl (by decide) rfl ?_
    refine Go.sub [1, 0] [(0, .ref (ad E 109)), (1, .int (0 : Int32))] rfl ?_
    exact t_l_Mo_notes_14 hG hE d hd FU (0 : Int32) P h
theorem e_Mo_notes {G : GX} (hG : GOK G) {E : EV} (hE : E0 E) (d : Nat) (hd : 1 ≤ d) (P : PM) {Q : QT} (h : St E rP (f_Mo_notes P) Q) : Con G y_Mo_notes cw_Mo_notes d nOb nOb [.ref (ad E 109)] P E Q :=
  Con.of hG (by decide +kernel) rfl (fun h => by cases h) hE.2 (Nat.le_of_ble_eq_true rfl) (t_f_Mo_notes hG hE d hd P h)
abbrev c_Mo_goes : ByteArray := prog_14_method_50_code
abbrev y_Mo_goes : MethodName := ⟨"YawnRouteModel", "goes", "(I)V"⟩
abbrev cw_Mo_goes : Cond := .code y_Mo_goes c_Mo_goes 3 none
theorem w_Mo_goes : VW 12 y_Mo_goes c_Mo_goes 3 none 1 := ⟨by decide, lk1605, lp77_, lk14, lk1606, ⟨by decide, by decide, by decide +kernel⟩, by decide⟩
noncomputable def j_Mo_goes_57 (x2 : Int32) (s1 : Int32) (s2 : Int32) (P : PM) : Option PM := ck (inb s1 3408) (some (u1 (u1 P 110 s1.toNatClampNeg s2) 110 (114 : Int32).toNatClampNeg x2))
noncomputable def f_Mo_goes (a1 : Int32) (P : PM) : Option PM := bd2 (f_Mo_passedTo (P.1 110 (113 : Int32).toNatClampNeg) (P.1 110 (114 : Int32).toNatClampNeg) a1 P) (fun v1 P2 => (f_Mo_hoursOf (P2.1 110 (113 : Int32).toNatClampNeg) a1 P2).bind (fun v3 => if v1 = (0 : Int32) then (j_Mo_goes_57 v1 (113 : Int32) (-1 : Int32) (u1 P2 110 (115 : Int32).toNatClampNeg ((P2.1 110 (115 : Int32).toNatClampNeg) + v3))) else (j_Mo_goes_57 v1 (113 : Int32) a1 (u1 P2 110 (115 : Int32).toNatClampNeg ((P2.1 110 (115 : Int32).toNatClampNeg) + v3)))))
theorem t_j_Mo_goes_57 {G : GX} (hG : GOK G) {E : EV} (hE : E0 E) (d : Nat) (hd : 4 ≤ d) {Q : QT} (x2 : Int32) (s1 : Int32) (s2 : Int32) (P : PM) (h : St E rP (j_Mo_goes_57 x2 s1 s2 P) Q) : Go G c_Mo_goes "YawnRouteModel" 3 none false d nOb nOb Q 57 [(0, .ref (ad E 109)), (2, .int x2)] [.int s2, .int s1, .ref (ad E 110)] P E := by
  rw [j_Mo_goes_57] at h
  obtain ⟨b1, h⟩ := St.ck h
  refine Go.iastore 110 3408 sh110 (ltA hE sh110 (by decide)) (inb_in b1) (by decide +kernel) ?_
  refine Go.aload_n (k := 0) (i := 0) 0 (by decide +kernel) rfl rfl ?_
  refine Go.get 109 1 (.ref (ad E 110)) (by decide) (by decide) sh109 (ltO hE sh109) (vlR hE rfl rfl) lk1331 (by decide +kernel) ?_
  refine Go.bipush (n := 114) (114 : Int32) (by decide +kernel) (by decide) ?_
  refine Go.iload_n (k := 2) (i := 2) 1 (by decide +kernel) rfl rfl ?_
  refine Go.iastore 110 3408 sh110 (ltA hE sh110 (by decide)) (vp_in_iff.mpr (by decide)) (by decide +kernel) ?_
  exact Go.vret rfl hE.2 (by decide +kernel) (St.fP h)
theorem t_f_Mo_goes {G : GX} (hG : GOK G) {E : EV} (hE : E0 E) (d : Nat) (hd : 4 ≤ d) {Q : QT} (a1 : Int32) (P : PM) (h : St E rP (f_Mo_goes a1 P) Q) : Go G c_Mo_goes "YawnRouteModel" 3 none false d nOb nOb Q 0 [(0, .ref (ad E 109)), (1, .int a1)] [] P E := by
  rw [f_Mo_goes] at h
  refine Go.aload_n (k := 0) (i := 0) 0 (by decide +kernel) rfl rfl ?_
  refine Go.aload_n (k := 0) (i := 0) 0 (by decide +kernel) rfl rfl ?_
  refine Go.get 109 1 (.ref (ad E 110)) (by decide) (by decide) sh109 (ltO hE sh109) (vlR hE rfl rfl) lk1331 (by decide +kernel) ?_
  refine Go.bipush (n := 113) (113 : Int32) (by decide +kernel) (by decide) ?_
  refine Go.iaload 110 3408 sh110 (ltA hE sh110 (by decide)) (vp_in_iff.mpr (by decide)) (by decide +kernel) ?_
  refine Go.aload_n (k := 0) (i := 0) 0 (by decide +kernel) rfl rfl ?_
  refine Go.get 109 1 (.ref (ad E 110)) (by decide) (by decide) sh109 (ltO hE sh109) (vlR hE rfl rfl) lk1331 (by decide +kernel) ?_
  refine Go.bipush (n := 114) (114 : Int32) (by decide +kernel) (by decide) ?_
  refine Go.iaload 110 3408 sh110 (ltA hE sh110 (by decide)) (vp_in_iff.mpr (by decide)) (by decide +kernel) ?_
  refine Go.iload_n (k := 1) (i := 1) 1 (by decide +kernel) rfl rfl ?_
  obtain ⟨v1, P2, hv1, h⟩ := St.bd2 h
  refine Go.cV_i (P1 := P2) (v := v1) (d - 1) 109 [.int (P.1 110 (113 : Int32).toNatClampNeg), .int (P.1 110 (114 : Int32).toNatClampNeg), .int a1] sh109 hE w_Mo_passedTo (e_Mo_passedTo hG hE (d - 1) (by omega) (P.1 110 (113 : Int32).toNatClampNeg) (P.1 110 (114 : Int32).toNatClampNeg) a1 P ⟨_, hv1, rfl, rfl, rfl⟩) lk1591 rfl (by omega) (Nat.le_of_ble_eq_true rfl) (by decide +kernel) _ rfl ?_
  refine Go.istore_n (k := 2) (i := 2) [(2, .int v1), (0, .ref (ad E 109)), (1, .int a1)] (by decide +kernel) rfl (by decide) rfl ?_
  refine Go.aload_n (k := 0) (i := 0) 1 (by decide +kernel) rfl rfl ?_
  refine Go.get 109 1 (.ref (ad E 110)) (by decide) (by decide) sh109 (ltO hE sh109) (vlR hE rfl rfl) lk1331 (by decide +kernel) ?_
  refine Go.bipush (n := 115) (115 : Int32) (by decide +kernel) (by decide) ?_
  refine Go.dup2 (by decide +kernel) rfl rfl ?_
  refine Go.iaload 110 3408 sh110 (ltA hE sh110 (by decide)) (vp_in_iff.mpr (by decide)) (by decide +kernel) ?_
  refine Go.aload_n (k := 0) (i := 0) 1 (by decide +kernel) rfl rfl ?_
  refine Go.aload_n (k := 0) (i := 0) 1 (by decide +kernel) rfl rfl ?_
  refine Go.get 109 1 (.ref (ad E 110)) (by decide) (by decide) sh109 (ltO hE sh109) (vlR hE rfl rfl) lk1331 (by decide +kernel) ?_
  refine Go.bipush (n := 113) (113 : Int32) (by decide +kernel) (by decide) ?_
  refine Go.iaload 110 3408 sh110 (ltA hE sh110 (by decide)) (vp_in_iff.mpr (by decide)) (by decide +kernel) ?_
  refine Go.iload_n (k := 1) (i := 1) 2 (by decide +kernel) rfl rfl ?_
  obtain ⟨v3, hv3, h⟩ := St.bind h
  refine Go.cV_i (P1 := P2) (v := v3) (d - 1) 109 [.int (P2.1 110 (113 : Int32).toNatClampNeg), .int a1] sh109 hE w_Mo_hoursOf (e_Mo_hoursOf hG hE (d - 1) (by omega) (P2.1 110 (113 : Int32).toNatClampNeg) a1 P2 ⟨_, hv3, rfl, rfl, rfl⟩) lk1559 rfl (by omega) (Nat.le_of_ble_eq_true rfl) (by decide +kernel) _ rfl ?_
  refine Go.iadd (by decide +kernel) ?_
  refine Go.iastore 110 3408 sh110 (ltA hE sh110 (by decide)) (vp_in_iff.mpr (by decide)) (by decide +kernel) ?_
  refine Go.aload_n (k := 0) (i := 0) 1 (by decide +kernel) rfl rfl ?_
  refine Go.get 109 1 (.ref (ad E 110)) (by decide) (by decide) sh109 (ltO hE sh109) (vlR hE rfl rfl) lk1331 (by decide +kernel) ?_
  refine Go.bipush (n := 113) (113 : Int32) (by decide +kernel) (by decide) ?_
  refine Go.iload_n (k := 2) (i := 2) 0 (by decide +kernel) rfl rfl ?_
  refine Go.if_ne (off := 7) 56 (by decide +kernel) (by decide) (fun c4 => ?_) (fun c4 => ?_)
  · rw [if_neg c4] at h
    refine Go.iload_n (k := 1) (i := 1) 2 (by decide +kernel) rfl rfl ?_
    refine Go.sub [1, 0] [(0, .ref (ad E 109)), (2, .int v1)] rfl ?_
    exact t_j_Mo_goes_57 hG hE d hd v1 (113 : Int32) a1 (u1 P2 110 (115 : Int32).toNatClampNeg ((P2.1 110 (115 : Int32).toNatClampNeg) + v3)) h
  · rw [if_pos c4] at h
    refine Go.iconst (n := -1) (-1 : Int32) (by decide +kernel) rfl ?_
    refine Go.goto (off := 4) 57 (by decide +kernel) (by decide) ?_
    refine Go.sub [1, 0] [(0, .ref (ad E 109)), (2, .int v1)] rfl ?_
    exact t_j_Mo_goes_57 hG hE d hd v1 (113 : Int32) (-1 : Int32) (u1 P2 110 (115 : Int32).toNatClampNeg ((P2.1 110 (115 : Int32).toNatClampNeg) + v3)) h
theorem e_Mo_goes {G : GX} (hG : GOK G) {E : EV} (hE : E0 E) (d : Nat) (hd : 4 ≤ d) (a1 : Int32) (P : PM) {Q : QT} (h : St E rP (f_Mo_goes a1 P) Q) : Con G y_Mo_goes cw_Mo_goes d nOb nOb [.ref (ad E 109), .int a1] P E Q :=
  Con.of hG (by decide +kernel) rfl (fun h => by cases h) hE.2 (Nat.le_of_ble_eq_true rfl) (t_f_Mo_goes hG hE d hd a1 P h)
abbrev c_Mo_letsOff : ByteArray := prog_14_method_51_code
abbrev y_Mo_letsOff : MethodName := ⟨"YawnRouteModel", "letsOff", "(II)V"⟩
abbrev cw_Mo_letsOff : Cond := .code y_Mo_letsOff c_Mo_letsOff 3 none
theorem w_Mo_letsOff : VW 12 y_Mo_letsOff c_Mo_letsOff 3 none 2 := ⟨by decide, lk1621, lp79_, lk14, lk1622, ⟨by decide, by decide, by decide +kernel⟩, by decide⟩
noncomputable def f_Mo_letsOff (a1 : Int32) (a2 : Int32) (P : PM) : Option PM := some (u1 (u1 P 110 (113 : Int32).toNatClampNeg a1) 110 (114 : Int32).toNatClampNeg a2)
theorem t_f_Mo_letsOff {G : GX} (hG : GOK G) {E : EV} (hE : E0 E) (d : Nat) (hd : 1 ≤ d) {Q : QT} (a1 : Int32) (a2 : Int32) (P : PM) (h : St E rP (f_Mo_letsOff a1 a2 P) Q) : Go G c_Mo_letsOff "YawnRouteModel" 3 none false d nOb nOb Q 0 [(0, .ref (ad E 109)), (1, .int a1), (2, .int a2)] [] P E := by
  rw [f_Mo_letsOff] at h
  refine Go.aload_n (k := 0) (i := 0) 0 (by decide +kernel) rfl rfl ?_
  refine Go.get 109 1 (.ref (ad E 110)) (by decide) (by decide) sh109 (ltO hE sh109) (vlR hE rfl rfl) lk1331 (by decide +kernel) ?_
  refine Go.bipush (n := 113) (113 : Int32) (by decide +kernel) (by decide) ?_
  refine Go.iload_n (k := 1) (i := 1) 1 (by decide +kernel) rfl rfl ?_
  refine Go.iastore 110 3408 sh110 (ltA hE sh110 (by decide)) (vp_in_iff.mpr (by decide)) (by decide +kernel) ?_
  refine Go.aload_n (k := 0) (i := 0) 0 (by decide +kernel) rfl rfl ?_
  refine Go.get 109 1 (.ref (ad E 110)) (by decide) (by decide) sh109 (ltO hE sh109) (vlR hE rfl rfl) lk1331 (by decide +kernel) ?_
  refine Go.bipush (n := 114) (114 : Int32) (by decide +kernel) (by decide) ?_
  refine Go.iload_n (k := 2) (i := 2) 2 (by decide +kernel) rfl rfl ?_
  refine Go.iastore 110 3408 sh110 (ltA hE sh110 (by decide)) (vp_in_iff.mpr (by decide)) (by decide +kernel) ?_
  exact Go.vret rfl hE.2 (by decide +kernel) (St.fP h)
theorem e_Mo_letsOff {G : GX} (hG : GOK G) {E : EV} (hE : E0 E) (d : Nat) (hd : 1 ≤ d) (a1 : Int32) (a2 : Int32) (P : PM) {Q : QT} (h : St E rP (f_Mo_letsOff a1 a2 P) Q) : Con G y_Mo_letsOff cw_Mo_letsOff d nOb nOb [.ref (ad E 109), .int a1, .int a2] P E Q :=
  Con.of hG (by decide +kernel) rfl (fun h => by cases h) hE.2 (Nat.le_of_ble_eq_true rfl) (t_f_Mo_letsOff hG hE d hd a1 a2 P h)
abbrev c_Mo_pass : ByteArray := prog_14_method_52_code
abbrev y_Mo_pass : MethodName := ⟨"YawnRouteModel", "pass", "(I)I"⟩
abbrev cw_Mo_pass : Cond := .code y_Mo_pass c_Mo_pass 3 (some .int)
theorem w_Mo_pass : VW 12 y_Mo_pass c_Mo_pass 3 (some .int) 1 := ⟨by decide, lk1596, lk1597, lk14, lk1598, ⟨by decide, by decide, by decide +kernel⟩, by decide⟩
noncomputable def f_Mo_pass (a1 : Int32) (P : PM) : Option (Int32 × PM) := bd2 (f_Mo_whyPass (a1.toInt64) (u1 P 109 0 (0 : Int32))) (fun v1 P2 => if v1 = (0 : Int32) then ((f_Mo_keeps P2).bind (fun P4 => (f_Mo_goes a1 P4).bind (fun P5 => (f_Mo_notes P5).bind (fun P6 => some ((P6.1 110 (114 : Int32).toNatClampNeg), P6))))) else (some (((-10 : Int32) - v1), P2)))
theorem t_f_Mo_pass {G : GX} (hG : GOK G) {E : EV} (hE : E0 E) (d : Nat) (hd : 5 ≤ d) {Q : QT} (a1 : Int32) (P : PM) (h : St E rIP (f_Mo_pass a1 P) Q) : Go G c_Mo_pass "YawnRouteModel" 3 (some .int) false d nOb nOb Q 0 [(0, .ref (ad E 109)), (1, .int a1)] [] P E := by
  rw [f_Mo_pass] at h
  refine Go.aload_n (k := 0) (i := 0) 0 (by decide +kernel) rfl rfl ?_
  refine Go.iconst (n := 0) (0 : Int32) (by decide +kernel) rfl ?_
  refine Go.put 109 0 (by decide) (by decide) sh109 (ltO hE sh109) (Or.inl rfl) rfl rfl rfl lk1330 (by decide +kernel) ?_
  refine Go.aload_n (k := 0) (i := 0) 0 (by decide +kernel) rfl rfl ?_
  refine Go.iload_n (k := 1) (i := 1) 1 (by decide +kernel) rfl rfl ?_
  refine Go.i2l (by decide +kernel) ?_
  obtain ⟨v1, P2, hv1, h⟩ := St.bd2 h
  refine Go.cV_i (P1 := P2) (v := v1) (d - 1) 109 [.long (a1.toInt64)] sh109 hE w_Mo_whyPass (e_Mo_whyPass hG hE (d - 1) (by omega) (a1.toInt64) (u1 P 109 0 (0 : Int32)) ⟨_, hv1, rfl, rfl, rfl⟩) lk1571 rfl (by omega) (Nat.le_of_ble_eq_true rfl) (by decide +kernel) _ rfl ?_
  refine Go.istore_n (k := 2) (i := 2) [(2, .int v1), (0, .ref (ad E 109)), (1, .int a1)] (by decide +kernel) rfl (by decide) rfl ?_
  refine Go.iload_n (k := 2) (i := 2) 0 (by decide +kernel) rfl rfl ?_
  refine Go.if_eq (off := 8) 21 (by decide +kernel) (by decide) (fun c3 => ?_) (fun c3 => ?_)
  · rw [if_pos c3] at h
    refine Go.aload_n (k := 0) (i := 0) 1 (by decide +kernel) rfl rfl ?_
    obtain ⟨P4, hP4, h⟩ := St.bind h
    refine Go.cV_v (P1 := P4) (d - 1) 109 [] sh109 hE w_Mo_keeps (e_Mo_keeps hG hE (d - 1) (by omega) P2 ⟨_, hP4, rfl, rfl, rfl⟩) lk1599 rfl (by omega) (Nat.le_of_ble_eq_true rfl) (by decide +kernel) _ rfl ?_
    refine Go.aload_n (k := 0) (i := 0) 1 (by decide +kernel) rfl rfl ?_
    refine Go.iload_n (k := 1) (i := 1) 2 (by decide +kernel) rfl rfl ?_
    obtain ⟨P5, hP5, h⟩ := St.bind h
    refine Go.cV_v (P1 := P5) (d - 1) 109 [.int a1] sh109 hE w_Mo_goes (e_Mo_goes hG hE (d - 1) (by omega) a1 P4 ⟨_, hP5, rfl, rfl, rfl⟩) lk1603 rfl (by omega) (Nat.le_of_ble_eq_true rfl) (by decide +kernel) _ rfl ?_
    refine Go.aload_n (k := 0) (i := 0) 1 (by decide +kernel) rfl rfl ?_
    obtain ⟨P6, hP6, h⟩ := St.bind h
    refine Go.cV_v (P1 := P6) (d - 1) 109 [] sh109 hE w_Mo_notes (e_Mo_notes hG hE (d - 1) (by omega) P5 ⟨_, hP6, rfl, rfl, rfl⟩) lk1607 rfl (by omega) (Nat.le_of_ble_eq_true rfl) (by decide +kernel) _ rfl ?_
    refine Go.aload_n (k := 0) (i := 0) 1 (by decide +kernel) rfl rfl ?_
    refine Go.get 109 1 (.ref (ad E 110)) (by decide) (by decide) sh109 (ltO hE sh109) (vlR hE rfl rfl) lk1331 (by decide +kernel) ?_
    refine Go.bipush (n := 114) (114 : Int32) (by decide +kernel) (by decide) ?_
    refine Go.iaload 110 3408 sh110 (ltA hE sh110 (by decide)) (vp_in_iff.mpr (by decide)) (by decide +kernel) ?_
    exact Go.iret rfl rfl hE.2 (by decide +kernel) (St.fIP h)
  · rw [if_neg c3] at h
    refine Go.bipush (n := -10) (-10 : Int32) (by decide +kernel) (by decide) ?_
    refine Go.iload_n (k := 2) (i := 2) 0 (by decide +kernel) rfl rfl ?_
    refine Go.isub (by decide +kernel) ?_
    exact Go.iret rfl rfl hE.2 (by decide +kernel) (St.fIP h)
theorem e_Mo_pass {G : GX} (hG : GOK G) {E : EV} (hE : E0 E) (d : Nat) (hd : 5 ≤ d) (a1 : Int32) (P : PM) {Q : QT} (h : St E rIP (f_Mo_pass a1 P) Q) : Con G y_Mo_pass cw_Mo_pass d nOb nOb [.ref (ad E 109), .int a1] P E Q :=
  Con.of hG (by decide +kernel) rfl (fun h => by cases h) hE.2 (Nat.le_of_ble_eq_true rfl) (t_f_Mo_pass hG hE d hd a1 P h)
abbrev c_Mo_off : ByteArray := prog_14_method_53_code
abbrev y_Mo_off : MethodName := ⟨"YawnRouteModel", "off", "(II)I"⟩
abbrev cw_Mo_off : Cond := .code y_Mo_off c_Mo_off 3 (some .int)
theorem w_Mo_off : VW 12 y_Mo_off c_Mo_off 3 (some .int) 2 := ⟨by decide, lk1612, lk1613, lk14, lk1614, ⟨by decide, by decide, by decide +kernel⟩, by decide⟩
noncomputable def f_Mo_off (a1 : Int32) (a2 : Int32) (P : PM) : Option (Int32 × PM) := (f_Mo_isStation (a1.toInt64) (u1 P 109 0 (0 : Int32))).bind (fun v1 => if v1 = (0 : Int32) then (some ((-11 : Int32), (u1 P 109 0 (0 : Int32)))) else ((f_Mo_isSize (a2.toInt64) (u1 P 109 0 (0 : Int32))).bind (fun v3 => if v3 = (0 : Int32) then (some ((-11 : Int32), (u1 P 109 0 (0 : Int32)))) else ((f_Mo_keeps (u1 P 109 0 (0 : Int32))).bind (fun P5 => (f_Mo_letsOff a1 a2 P5).bind (fun P6 => (f_Mo_notes P6).bind (fun P7 => some ((P7.1 110 (115 : Int32).toNatClampNeg), P7))))))))
theorem t_f_Mo_off {G : GX} (hG : GOK G) {E : EV} (hE : E0 E) (d : Nat) (hd : 3 ≤ d) {Q : QT} (a1 : Int32) (a2 : Int32) (P : PM) (h : St E rIP (f_Mo_off a1 a2 P) Q) : Go G c_Mo_off "YawnRouteModel" 3 (some .int) false d nOb nOb Q 0 [(0, .ref (ad E 109)), (1, .int a1), (2, .int a2)] [] P E := by
  rw [f_Mo_off] at h
  refine Go.aload_n (k := 0) (i := 0) 0 (by decide +kernel) rfl rfl ?_
  refine Go.iconst (n := 0) (0 : Int32) (by decide +kernel) rfl ?_
  refine Go.put 109 0 (by decide) (by decide) sh109 (ltO hE sh109) (Or.inl rfl) rfl rfl rfl lk1330 (by decide +kernel) ?_
  refine Go.aload_n (k := 0) (i := 0) 0 (by decide +kernel) rfl rfl ?_
  refine Go.iload_n (k := 1) (i := 1) 1 (by decide +kernel) rfl rfl ?_
  refine Go.i2l (by decide +kernel) ?_
  obtain ⟨v1, hv1, h⟩ := St.bind h
  refine Go.cV_i (P1 := (u1 P 109 0 (0 : Int32))) (v := v1) (d - 1) 109 [.long (a1.toInt64)] sh109 hE w_Mo_isStation (e_Mo_isStation hG hE (d - 1) (by omega) (a1.toInt64) (u1 P 109 0 (0 : Int32)) ⟨_, hv1, rfl, rfl, rfl⟩) lk1555 rfl (by omega) (Nat.le_of_ble_eq_true rfl) (by decide +kernel) _ rfl ?_
  refine Go.if_eq (off := 11) 22 (by decide +kernel) (by decide) (fun c2 => ?_) (fun c2 => ?_)
  · rw [if_pos c2] at h
    refine Go.bipush (n := -11) (-11 : Int32) (by decide +kernel) (by decide) ?_
    exact Go.iret rfl rfl hE.2 (by decide +kernel) (St.fIP h)
  · rw [if_neg c2] at h
    refine Go.iload_n (k := 2) (i := 2) 2 (by decide +kernel) rfl rfl ?_
    refine Go.i2l (by decide +kernel) ?_
    obtain ⟨v3, hv3, h⟩ := St.bind h
    refine Go.cS_i (P1 := (u1 P 109 0 (0 : Int32))) (v := v3) (d - 1) [.long (a2.toInt64)] hE w_Mo_isSize (e_Mo_isSize hG hE (d - 1) (by omega) (a2.toInt64) (u1 P 109 0 (0 : Int32)) ⟨_, hv3, rfl, rfl, rfl⟩) lk1615 rfl (by omega) (Nat.le_of_ble_eq_true rfl) (by decide +kernel) _ rfl ?_
    refine Go.if_ne (off := 6) 25 (by decide +kernel) (by decide) (fun c4 => ?_) (fun c4 => ?_)
    · rw [if_neg c4] at h
      refine Go.aload_n (k := 0) (i := 0) 0 (by decide +kernel) rfl rfl ?_
      obtain ⟨P5, hP5, h⟩ := St.bind h
      refine Go.cV_v (P1 := P5) (d - 1) 109 [] sh109 hE w_Mo_keeps (e_Mo_keeps hG hE (d - 1) (by omega) (u1 P 109 0 (0 : Int32)) ⟨_, hP5, rfl, rfl, rfl⟩) lk1599 rfl (by omega) (Nat.le_of_ble_eq_true rfl) (by decide +kernel) _ rfl ?_
      refine Go.aload_n (k := 0) (i := 0) 0 (by decide +kernel) rfl rfl ?_
      refine Go.iload_n (k := 1) (i := 1) 1 (by decide +kernel) rfl rfl ?_
      refine Go.iload_n (k := 2) (i := 2) 2 (by decide +kernel) rfl rfl ?_
      obtain ⟨P6, hP6, h⟩ := St.bind h
      refine Go.cV_v (P1 := P6) (d - 1) 109 [.int a1, .int a2] sh109 hE w_Mo_letsOff (e_Mo_letsOff hG hE (d - 1) (by omega) a1 a2 P5 ⟨_, hP6, rfl, rfl, rfl⟩) lk1619 rfl (by omega) (Nat.le_of_ble_eq_true rfl) (by decide +kernel) _ rfl ?_
      refine Go.aload_n (k := 0) (i := 0) 0 (by decide +kernel) rfl rfl ?_
      obtain ⟨P7, hP7, h⟩ := St.bind h
      refine Go.cV_v (P1 := P7) (d - 1) 109 [] sh109 hE w_Mo_notes (e_Mo_notes hG hE (d - 1) (by omega) P6 ⟨_, hP7, rfl, rfl, rfl⟩) lk1607 rfl (by omega) (Nat.le_of_ble_eq_true rfl) (by decide +kernel) _ rfl ?_
      refine Go.aload_n (k := 0) (i := 0) 0 (by decide +kernel) rfl rfl ?_
      refine Go.get 109 1 (.ref (ad E 110)) (by decide) (by decide) sh109 (ltO hE sh109) (vlR hE rfl rfl) lk1331 (by decide +kernel) ?_
      refine Go.bipush (n := 115) (115 : Int32) (by decide +kernel) (by decide) ?_
      refine Go.iaload 110 3408 sh110 (ltA hE sh110 (by decide)) (vp_in_iff.mpr (by decide)) (by decide +kernel) ?_
      exact Go.iret rfl rfl hE.2 (by decide +kernel) (St.fIP h)
    · rw [if_pos c4] at h
      refine Go.bipush (n := -11) (-11 : Int32) (by decide +kernel) (by decide) ?_
      exact Go.iret rfl rfl hE.2 (by decide +kernel) (St.fIP h)
theorem e_Mo_off {G : GX} (hG : GOK G) {E : EV} (hE : E0 E) (d : Nat) (hd : 3 ≤ d) (a1 : Int32) (a2 : Int32) (P : PM) {Q : QT} (h : St E rIP (f_Mo_off a1 a2 P) Q) : Con G y_Mo_off cw_Mo_off d nOb nOb [.ref (ad E 109), .int a1, .int a2] P E Q :=
  Con.of hG (by decide +kernel) rfl (fun h => by cases h) hE.2 (Nat.le_of_ble_eq_true rfl) (t_f_Mo_off hG hE d hd a1 a2 P h)
abbrev c_Mo_sleep : ByteArray := prog_14_method_54_code
abbrev y_Mo_sleep : MethodName := ⟨"YawnRouteModel", "sleep", "(I)I"⟩
abbrev cw_Mo_sleep : Cond := .code y_Mo_sleep c_Mo_sleep 2 (some .int)
theorem w_Mo_sleep : VW 12 y_Mo_sleep c_Mo_sleep 2 (some .int) 1 := ⟨by decide, lk1624, lk1625, lk14, lk1626, ⟨by decide, by decide, by decide +kernel⟩, by decide⟩
noncomputable def f_Mo_sleep (a1 : Int32) (P : PM) : Option (Int32 × PM) := (f_Mo_isStation (a1.toInt64) (u1 P 109 0 (0 : Int32))).bind (fun v1 => if v1 = (0 : Int32) then (some ((-11 : Int32), (u1 P 109 0 (0 : Int32)))) else ((f_Mo_keeps (u1 P 109 0 (0 : Int32))).bind (fun P3 => (f_Mo_notes (u1 P3 110 (116 : Int32).toNatClampNeg ((P3.1 110 (116 : Int32).toNatClampNeg) ^^^ ((1 : Int32) <<< (a1 &&& 31))))).bind (fun P4 => some ((((P4.1 110 (116 : Int32).toNatClampNeg) >>> (a1 &&& 31)) &&& (1 : Int32)), P4)))))
theorem t_f_Mo_sleep {G : GX} (hG : GOK G) {E : EV} (hE : E0 E) (d : Nat) (hd : 3 ≤ d) {Q : QT} (a1 : Int32) (P : PM) (h : St E rIP (f_Mo_sleep a1 P) Q) : Go G c_Mo_sleep "YawnRouteModel" 2 (some .int) false d nOb nOb Q 0 [(0, .ref (ad E 109)), (1, .int a1)] [] P E := by
  rw [f_Mo_sleep] at h
  refine Go.aload_n (k := 0) (i := 0) 0 (by decide +kernel) rfl rfl ?_
  refine Go.iconst (n := 0) (0 : Int32) (by decide +kernel) rfl ?_
  refine Go.put 109 0 (by decide) (by decide) sh109 (ltO hE sh109) (Or.inl rfl) rfl rfl rfl lk1330 (by decide +kernel) ?_
  refine Go.aload_n (k := 0) (i := 0) 0 (by decide +kernel) rfl rfl ?_
  refine Go.iload_n (k := 1) (i := 1) 1 (by decide +kernel) rfl rfl ?_
  refine Go.i2l (by decide +kernel) ?_
  obtain ⟨v1, hv1, h⟩ := St.bind h
  refine Go.cV_i (P1 := (u1 P 109 0 (0 : Int32))) (v := v1) (d - 1) 109 [.long (a1.toInt64)] sh109 hE w_Mo_isStation (e_Mo_isStation hG hE (d - 1) (by omega) (a1.toInt64) (u1 P 109 0 (0 : Int32)) ⟨_, hv1, rfl, rfl, rfl⟩) lk1555 rfl (by omega) (Nat.le_of_ble_eq_true rfl) (by decide +kernel) _ rfl ?_
  refine Go.if_ne (off := 6) 17 (by decide +kernel) (by decide) (fun c2 => ?_) (fun c2 => ?_)
  · rw [if_neg c2] at h
    refine Go.aload_n (k := 0) (i := 0) 0 (by decide +kernel) rfl rfl ?_
    obtain ⟨P3, hP3, h⟩ := St.bind h
    refine Go.cV_v (P1 := P3) (d - 1) 109 [] sh109 hE w_Mo_keeps (e_Mo_keeps hG hE (d - 1) (by omega) (u1 P 109 0 (0 : Int32)) ⟨_, hP3, rfl, rfl, rfl⟩) lk1599 rfl (by omega) (Nat.le_of_ble_eq_true rfl) (by decide +kernel) _ rfl ?_
    refine Go.aload_n (k := 0) (i := 0) 0 (by decide +kernel) rfl rfl ?_
    refine Go.get 109 1 (.ref (ad E 110)) (by decide) (by decide) sh109 (ltO hE sh109) (vlR hE rfl rfl) lk1331 (by decide +kernel) ?_
    refine Go.bipush (n := 116) (116 : Int32) (by decide +kernel) (by decide) ?_
    refine Go.dup2 (by decide +kernel) rfl rfl ?_
    refine Go.iaload 110 3408 sh110 (ltA hE sh110 (by decide)) (vp_in_iff.mpr (by decide)) (by decide +kernel) ?_
    refine Go.iconst (n := 1) (1 : Int32) (by decide +kernel) rfl ?_
    refine Go.iload_n (k := 1) (i := 1) 1 (by decide +kernel) rfl rfl ?_
    refine Go.ishl (by decide +kernel) ?_
    refine Go.ixor (by decide +kernel) ?_
    refine Go.iastore 110 3408 sh110 (ltA hE sh110 (by decide)) (vp_in_iff.mpr (by decide)) (by decide +kernel) ?_
    refine Go.aload_n (k := 0) (i := 0) 0 (by decide +kernel) rfl rfl ?_
    obtain ⟨P4, hP4, h⟩ := St.bind h
    refine Go.cV_v (P1 := P4) (d - 1) 109 [] sh109 hE w_Mo_notes (e_Mo_notes hG hE (d - 1) (by omega) (u1 P3 110 (116 : Int32).toNatClampNeg ((P3.1 110 (116 : Int32).toNatClampNeg) ^^^ ((1 : Int32) <<< (a1 &&& 31)))) ⟨_, hP4, rfl, rfl, rfl⟩) lk1607 rfl (by omega) (Nat.le_of_ble_eq_true rfl) (by decide +kernel) _ rfl ?_
    refine Go.aload_n (k := 0) (i := 0) 0 (by decide +kernel) rfl rfl ?_
    refine Go.get 109 1 (.ref (ad E 110)) (by decide) (by decide) sh109 (ltO hE sh109) (vlR hE rfl rfl) lk1331 (by decide +kernel) ?_
    refine Go.bipush (n := 116) (116 : Int32) (by decide +kernel) (by decide) ?_
    refine Go.iaload 110 3408 sh110 (ltA hE sh110 (by decide)) (vp_in_iff.mpr (by decide)) (by decide +kernel) ?_
    refine Go.iload_n (k := 1) (i := 1) 1 (by decide +kernel) rfl rfl ?_
    refine Go.ishr (by decide +kernel) ?_
    refine Go.iconst (n := 1) (1 : Int32) (by decide +kernel) rfl ?_
    refine Go.iand (by decide +kernel) ?_
    exact Go.iret rfl rfl hE.2 (by decide +kernel) (St.fIP h)
  · rw [if_pos c2] at h
    refine Go.bipush (n := -11) (-11 : Int32) (by decide +kernel) (by decide) ?_
    exact Go.iret rfl rfl hE.2 (by decide +kernel) (St.fIP h)
theorem e_Mo_sleep {G : GX} (hG : GOK G) {E : EV} (hE : E0 E) (d : Nat) (hd : 3 ≤ d) (a1 : Int32) (P : PM) {Q : QT} (h : St E rIP (f_Mo_sleep a1 P) Q) : Con G y_Mo_sleep cw_Mo_sleep d nOb nOb [.ref (ad E 109), .int a1] P E Q :=
  Con.of hG (by decide +kernel) rfl (fun h => by cases h) hE.2 (Nat.le_of_ble_eq_true rfl) (t_f_Mo_sleep hG hE d hd a1 P h)
