/-! methods as functions, by program: Mo_dull Mo_undo Mo_whyNot Mo_does Mo_tells Mo_noTray Mo_judge Mo_perform Mo_draw -/
abbrev c_Mo_dull : ByteArray := prog_14_method_55_code
abbrev y_Mo_dull : MethodName := ⟨"YawnRouteModel", "dull", "(II)I"⟩
abbrev cw_Mo_dull : Cond := .code y_Mo_dull c_Mo_dull 3 (some .int)
theorem w_Mo_dull : VW 12 y_Mo_dull c_Mo_dull 3 (some .int) 2 := ⟨by decide, lk1628, lk1629, lk14, lk1630, ⟨by decide, by decide, by decide +kernel⟩, by decide⟩
noncomputable def f_Mo_dull (a1 : Int32) (a2 : Int32) (P : PM) : Option (Int32 × PM) := (f_Mo_isStation (a1.toInt64) (u1 P 109 0 (0 : Int32))).bind (fun v1 => if v1 = (0 : Int32) then (some ((-11 : Int32), (u1 P 109 0 (0 : Int32)))) else (if (f_Mo_within (a2.toInt64) (0 : Int64) (9 : Int64) (u1 P 109 0 (0 : Int32))) = (0 : Int32) then (some ((-11 : Int32), (u1 P 109 0 (0 : Int32)))) else ((f_Mo_keeps (u1 P 109 0 (0 : Int32))).bind (fun P4 => ck (inb ((117 : Int32) + a1) 3408) ((f_Mo_notes (u1 P4 110 ((117 : Int32) + a1).toNatClampNeg a2)).bind (fun P6 => ck (inb ((4 : Int32) + a1) 11) (some ((P6.1 116 ((4 : Int32) + a1).toNatClampNeg), P6))))))))
theorem t_f_Mo_dull {G : GX} (hG : GOK G) {E : EV} (hE : E0 E) (d : Nat) (hd : 3 ≤ d) {Q : QT} (a1 : Int32) (a2 : Int32) (P : PM) (h : St E rIP (f_Mo_dull a1 a2 P) Q) : Go G c_Mo_dull "YawnRouteModel" 3 (some .int) false d nOb nOb Q 0 [(0, .ref (ad E 109)), (1, .int a1), (2, .int a2)] [] P E := by
  rw [f_Mo_dull] at h
  refine Go.aload_n (k := 0) (i := 0) 0 (by decide +kernel) rfl rfl ?_
  refine Go.iconst (n := 0) (0 : Int32) (by decide +kernel) rfl ?_
  refine Go.put 109 0 (by decide) (by decide) sh109 (ltO hE sh109) (Or.inl rfl) rfl rfl rfl lk1330 (by decide +kernel) ?_
  refine Go.aload_n (k := 0) (i := 0) 0 (by decide +kernel) rfl rfl ?_
  refine Go.iload_n (k := 1) (i := 1) 1 (by decide +kernel) rfl rfl ?_
  refine Go.i2l (by decide +kernel) ?_
  obtain ⟨v1, hv1, h⟩ := St.bind h
  refine Go.cV_i (P1 := (u1 P 109 0 (0 : Int32))) (v := v1) (d - 1) 109 [.long (a1.toInt64)] sh109 hE w_Mo_isStation (e_Mo_isStation hG hE (d - 1) (by omega) (a1.toInt64) (u1 P 109 0 (0 : Int32)) ⟨_, hv1, rfl, rfl, rfl⟩) lk1555 rfl (by omega) (Nat.le_of_ble_eq_true rfl) (by decide +kernel) _ rfl ?_
  refine Go.if_eq (off := 15) 26 (by decide +kernel) (by decide) (fun c2 => ?_) (fun c2 => ?_)
  · rw [if_pos c2] at h
    refine Go.bipush (n := -11) (-11 : Int32) (by decide +kernel) (by decide) ?_
    exact Go.iret rfl rfl hE.2 (by decide +kernel) (St.fIP h)
  · rw [if_neg c2] at h
    refine Go.iload_n (k := 2) (i := 2) 2 (by decide +kernel) rfl rfl ?_
    refine Go.i2l (by decide +kernel) ?_
    refine Go.lconst (n := 0) (0 : Int64) (by decide +kernel) rfl ?_
    refine Go.ldc2 (9 : Int64) lk1631 (by decide +kernel) ?_
    refine Go.cS_i (P1 := (u1 P 109 0 (0 : Int32))) (v := (f_Mo_within (a2.toInt64) (0 : Int64) (9 : Int64) (u1 P 109 0 (0 : Int32)))) (d - 1) [.long (a2.toInt64), .long (0 : Int64), .long (9 : Int64)] hE w_Mo_within (e_Mo_within hG hE (d - 1) (by omega) (a2.toInt64) (0 : Int64) (9 : Int64) (u1 P 109 0 (0 : Int32)) ⟨rfl, rfl, rfl⟩) lk1438 rfl (by omega) (Nat.le_of_ble_eq_true rfl) (by decide +kernel) _ rfl ?_
    refine Go.if_ne (off := 6) 29 (by decide +kernel) (by decide) (fun c3 => ?_) (fun c3 => ?_)
    · rw [if_neg c3] at h
      refine Go.aload_n (k := 0) (i := 0) 0 (by decide +kernel) rfl rfl ?_
      obtain ⟨P4, hP4, h⟩ := St.bind h
      refine Go.cV_v (P1 := P4) (d - 1) 109 [] sh109 hE w_Mo_keeps (e_Mo_keeps hG hE (d - 1) (by omega) (u1 P 109 0 (0 : Int32)) ⟨_, hP4, rfl, rfl, rfl⟩) lk1599 rfl (by omega) (Nat.le_of_ble_eq_true rfl) (by decide +kernel) _ rfl ?_
      refine Go.aload_n (k := 0) (i := 0) 0 (by decide +kernel) rfl rfl ?_
      refine Go.get 109 1 (.ref (ad E 110)) (by decide) (by decide) sh109 (ltO hE sh109) (vlR hE rfl rfl) lk1331 (by decide +kernel) ?_
      refine Go.bipush (n := 117) (117 : Int32) (by decide +kernel) (by decide) ?_
      refine Go.iload_n (k := 1) (i := 1) 1 (by decide +kernel) rfl rfl ?_
      refine Go.iadd (by decide +kernel) ?_
      refine Go.iload_n (k := 2) (i := 2) 2 (by decide +kernel) rfl rfl ?_
      obtain ⟨b5, h⟩ := St.ck h
      refine Go.iastore 110 3408 sh110 (ltA hE sh110 (by decide)) (inb_in b5) (by decide +kernel) ?_
      refine Go.aload_n (k := 0) (i := 0) 0 (by decide +kernel) rfl rfl ?_
      obtain ⟨P6, hP6, h⟩ := St.bind h
      refine Go.cV_v (P1 := P6) (d - 1) 109 [] sh109 hE w_Mo_notes (e_Mo_notes hG hE (d - 1) (by omega) (u1 P4 110 ((117 : Int32) + a1).toNatClampNeg a2) ⟨_, hP6, rfl, rfl, rfl⟩) lk1607 rfl (by omega) (Nat.le_of_ble_eq_true rfl) (by decide +kernel) _ rfl ?_
      refine Go.aload_n (k := 0) (i := 0) 0 (by decide +kernel) rfl rfl ?_
      refine Go.get 109 17 (.ref (ad E 116)) (by decide) (by decide) sh109 (ltO hE sh109) (vlR hE rfl rfl) lk1347 (by decide +kernel) ?_
      refine Go.iconst (n := 4) (4 : Int32) (by decide +kernel) rfl ?_
      refine Go.iload_n (k := 1) (i := 1) 1 (by decide +kernel) rfl rfl ?_
      refine Go.iadd (by decide +kernel) ?_
      obtain ⟨b7, h⟩ := St.ck h
      refine Go.iaload 116 11 sh116 (ltA hE sh116 (by decide)) (inb_in b7) (by decide +kernel) ?_
      exact Go.iret rfl rfl hE.2 (by decide +kernel) (St.fIP h)
    · rw [if_pos c3] at h
      refine Go.bipush (n := -11) (-11 : Int32) (by decide +kernel) (by decide) ?_
      exact Go.iret rfl rfl hE.2 (by decide +kernel) (St.fIP h)
theorem e_Mo_dull {G : GX} (hG : GOK G) {E : EV} (hE : E0 E) (d : Nat) (hd : 3 ≤ d) (a1 : Int32) (a2 : Int32) (P : PM) {Q : QT} (h : St E rIP (f_Mo_dull a1 a2 P) Q) : Con G y_Mo_dull cw_Mo_dull d nOb nOb [.ref (ad E 109), .int a1, .int a2] P E Q :=
  Con.of hG (by decide +kernel) rfl (fun h => by cases h) hE.2 (Nat.le_of_ble_eq_true rfl) (t_f_Mo_dull hG hE d hd a1 a2 P h)
abbrev c_Mo_undo : ByteArray := prog_14_method_56_code
abbrev y_Mo_undo : MethodName := ⟨"YawnRouteModel", "undo", "(I)I"⟩
abbrev cw_Mo_undo : Cond := .code y_Mo_undo c_Mo_undo 3 (some .int)
theorem w_Mo_undo : VW 12 y_Mo_undo c_Mo_undo 3 (some .int) 1 := ⟨by decide, lk1633, lk1634, lk14, lk1635, ⟨by decide, by decide, by decide +kernel⟩, by decide⟩
noncomputable def l_Mo_undo_44 : Nat → Int32 → PM → Option (Int32 × PM)
  | 0, _, _ => none
  | n + 1, x2, P => if (11 : Int32) ≤ x2 then (some ((P.1 110 (124 : Int32).toNatClampNeg), P)) else (ck (inb (((125 : Int32) + ((11 : Int32) * (P.1 110 (124 : Int32).toNatClampNeg))) + x2) 3408) (ck (inb ((113 : Int32) + x2) 3408) (l_Mo_undo_44 n (x2 + (1 : Int32)) (u1 P 110 ((113 : Int32) + x2).toNatClampNeg (P.1 110 (((125 : Int32) + ((11 : Int32) * (P.1 110 (124 : Int32).toNatClampNeg))) + x2).toNatClampNeg)))))
noncomputable def f_Mo_undo (a1 : Int32) (P : PM) : Option (Int32 × PM) := if (f_Mo_within (a1.toInt64) (1 : Int64) (10 : Int64) (u1 P 109 0 (0 : Int32))) = (0 : Int32) then (some ((-3 : Int32), (u1 P 109 0 (0 : Int32)))) else (if a1 ≤ ((u1 P 109 0 (0 : Int32)).1 110 (124 : Int32).toNatClampNeg) then (l_Mo_undo_44 FU (0 : Int32) (u1 (u1 P 109 0 (0 : Int32)) 110 (124 : Int32).toNatClampNeg (((u1 P 109 0 (0 : Int32)).1 110 (124 : Int32).toNatClampNeg) - a1))) else (some ((-3 : Int32), (u1 P 109 0 (0 : Int32)))))
theorem t_l_Mo_undo_44 {G : GX} (hG : GOK G) {E : EV} (hE : E0 E) (d : Nat) (hd : 2 ≤ d) {Q : QT} : ∀ (n : Nat) (x2 : Int32) (P : PM), St E rIP (l_Mo_undo_44 n x2 P) Q → Go G c_Mo_undo "YawnRouteModel" 3 (some .int) false d nOb nOb Q 44 [(0, .ref (ad E 109)), (2, .int x2)] [] P E := by
  intro n
  induction n with
  | zero =>
    intro x2 P h
    rw [l_Mo_undo_44] at h
    exact St.none_ h
  | succ n ih =>
    intro x2 P h
    rw [l_Mo_undo_44] at h
    refine Go.iload_n (k := 2) (i := 2) 1 (by decide +kernel) rfl rfl ?_
    refine Go.bipush (n := 11) (11 : Int32) (by decide +kernel) (by decide) ?_
    refine Go.icmp_ge (off := 38) 85 (by decide +kernel) (by decide) (fun c1 => ?_) (fun c1 => ?_)
    · rw [if_pos c1] at h
      refine Go.aload_n (k := 0) (i := 0) 0 (by decide +kernel) rfl rfl ?_
      refine Go.get 109 1 (.ref (ad E 110)) (by decide) (by decide) sh109 (ltO hE sh109) (vlR hE rfl rfl) lk1331 (by decide +kernel) ?_
      refine Go.bipush (n := 124) (124 : Int32) (by decide +kernel) (by decide) ?_
      refine Go.iaload 110 3408 sh110 (ltA hE sh110 (by decide)) (vp_in_iff.mpr (by decide)) (by decide +kernel) ?_
      exact Go.iret rfl rfl hE.2 (by decide +kernel) (St.fIP h)
    · rw [if_neg c1] at h
      refine Go.aload_n (k := 0) (i := 0) 0 (by decide +kernel) rfl rfl ?_
      refine Go.get 109 1 (.ref (ad E 110)) (by decide) (by decide) sh109 (ltO hE sh109) (vlR hE rfl rfl) lk1331 (by decide +kernel) ?_
      refine Go.bipush (n := 113) (113 : Int32) (by decide +kernel) (by decide) ?_
      refine Go.iload_n (k := 2) (i := 2) 1 (by decide +kernel) rfl rfl ?_
      refine Go.iadd (by decide +kernel) ?_
      refine Go.aload_n (k := 0) (i := 0) 0 (by decide +kernel) rfl rfl ?_
      refine Go.get 109 1 (.ref (ad E 110)) (by decide) (by decide) sh109 (ltO hE sh109) (vlR hE rfl rfl) lk1331 (by decide +kernel) ?_
      refine Go.bipush (n := 125) (125 : Int32) (by decide +kernel) (by decide) ?_
      refine Go.bipush (n := 11) (11 : Int32) (by decide +kernel) (by decide) ?_
      refine Go.aload_n (k := 0) (i := 0) 0 (by decide +kernel) rfl rfl ?_
      refine Go.get 109 1 (.ref (ad E 110)) (by decide) (by decide) sh109 (ltO hE sh109) (vlR hE rfl rfl) lk1331 (by decide +kernel) ?_
      refine Go.bipush (n := 124) (124 : Int32) (by decide +kernel) (by decide) ?_
      refine Go.iaload 110 3408 sh110 (ltA hE sh110 (by decide)) (vp_in_iff.mpr (by decide)) (by decide +kernel) ?_
      refine Go.imul (by decide +kernel) ?_
      refine Go.iadd (by decide +kernel) ?_
      refine Go.iload_n (k := 2) (i := 2) 1 (by decide +kernel) rfl rfl ?_
      refine Go.iadd (by decide +kernel) ?_
      obtain ⟨b2, h⟩ := St.ck h
      refine Go.iaload 110 3408 sh110 (ltA hE sh110 (by decide)) (inb_in b2) (by decide +kernel) ?_
      obtain ⟨b3, h⟩ := St.ck h
      refine Go.iastore 110 3408 sh110 (ltA hE sh110 (by decide)) (inb_in b3) (by decide +kernel) ?_
      refine Go.iinc (i := 2) (n := 1) 1 (x2 + (1 : Int32)) [(2, .int (x2 + (1 : Int32))), (0, .ref (ad E 109))] (by decide +kernel) rfl rfl (by decide) rfl ?_
      refine Go.goto (off := -38) 44 (by decide +kernel) (by decide) ?_
      refine Go.sub [1, 0] [(0, .ref (ad E 109)), (2, .int (x2 + (1 : Int32)))] rfl ?_
      exact ih (x2 + (1 : Int32)) (u1 P 110 ((113 : Int32) + x2).toNatClampNeg (P.1 110 (((125 : Int32) + ((11 : Int32) * (P.1 110 (124 : Int32).toNatClampNeg))) + x2).toNatClampNeg)) h
theorem t_f_Mo_undo {G : GX} (hG : GOK G) {E : EV} (hE : E0 E) (d : Nat) (hd : 2 ≤ d) {Q : QT} (a1 : Int32) (P : PM) (h : St E rIP (f_Mo_undo a1 P) Q) : Go G c_Mo_undo "YawnRouteModel" 3 (some .int) false d nOb nOb Q 0 [(0, .ref (ad E 109)), (1, .int a1)] [] P E := by
  rw [f_Mo_undo] at h
  refine Go.aload_n (k := 0) (i := 0) 0 (by decide +kernel) rfl rfl ?_
  refine Go.iconst (n := 0) (0 : Int32) (by decide +kernel) rfl ?_
  refine Go.put 109 0 (by decide) (by decide) sh109 (ltO hE sh109) (Or.inl rfl) rfl rfl rfl lk1330 (by decide +kernel) ?_
  refine Go.iload_n (k := 1) (i := 1) 1 (by decide +kernel) rfl rfl ?_
  refine Go.i2l (by decide +kernel) ?_
  refine Go.lconst (n := 1) (1 : Int64) (by decide +kernel) rfl ?_
  refine Go.ldc2 (10 : Int64) lk1636 (by decide +kernel) ?_
  refine Go.cS_i (P1 := (u1 P 109 0 (0 : Int32))) (v := (f_Mo_within (a1.toInt64) (1 : Int64) (10 : Int64) (u1 P 109 0 (0 : Int32)))) (d - 1) [.long (a1.toInt64), .long (1 : Int64), .long (10 : Int64)] hE w_Mo_within (e_Mo_within hG hE (d - 1) (by omega) (a1.toInt64) (1 : Int64) (10 : Int64) (u1 P 109 0 (0 : Int32)) ⟨rfl, rfl, rfl⟩) lk1438 rfl (by omega) (Nat.le_of_ble_eq_true rfl) (by decide +kernel) _ rfl ?_
  refine Go.if_eq (off := 14) 28 (by decide +kernel) (by decide) (fun c1 => ?_) (fun c1 => ?_)
  · rw [if_pos c1] at h
    refine Go.bipush (n := -3) (-3 : Int32) (by decide +kernel) (by decide) ?_
    exact Go.iret rfl rfl hE.2 (by decide +kernel) (St.fIP h)
  · rw [if_neg c1] at h
    refine Go.iload_n (k := 1) (i := 1) 1 (by decide +kernel) rfl rfl ?_
    refine Go.aload_n (k := 0) (i := 0) 0 (by decide +kernel) rfl rfl ?_
    refine Go.get 109 1 (.ref (ad E 110)) (by decide) (by decide) sh109 (ltO hE sh109) (vlR hE rfl rfl) lk1331 (by decide +kernel) ?_
    refine Go.bipush (n := 124) (124 : Int32) (by decide +kernel) (by decide) ?_
    refine Go.iaload 110 3408 sh110 (ltA hE sh110 (by decide)) (vp_in_iff.mpr (by decide)) (by decide +kernel) ?_
    refine Go.icmp_le (off := 6) 31 (by decide +kernel) (by decide) (fun c2 => ?_) (fun c2 => ?_)
    · rw [if_pos c2] at h
      refine Go.aload_n (k := 0) (i := 0) 0 (by decide +kernel) rfl rfl ?_
      refine Go.get 109 1 (.ref (ad E 110)) (by decide) (by decide) sh109 (ltO hE sh109) (vlR hE rfl rfl) lk1331 (by decide +kernel) ?_
      refine Go.bipush (n := 124) (124 : Int32) (by decide +kernel) (by decide) ?_
      refine Go.dup2 (by decide +kernel) rfl rfl ?_
      refine Go.iaload 110 3408 sh110 (ltA hE sh110 (by decide)) (vp_in_iff.mpr (by decide)) (by decide +kernel) ?_
      refine Go.iload_n (k := 1) (i := 1) 1 (by decide +kernel) rfl rfl ?_
      refine Go.isub (by decide +kernel) ?_
      refine Go.iastore 110 3408 sh110 (ltA hE sh110 (by decide)) (vp_in_iff.mpr (by decide)) (by decide +kernel) ?_
      refine Go.iconst (n := 0) (0 : Int32) (by decide +kernel) rfl ?_
      refine Go.istore_n (k := 2) (i := 2) [(2, .int (0 : Int32)), (0, .ref (ad E 109)), (1, .int a1)] (by decide +kernel) rfl (by decide) rfl ?_
      refine Go.sub [1, 0] [(0, .ref (ad E 109)), (2, .int (0 : Int32))] rfl ?_
      exact t_l_Mo_undo_44 hG hE d hd FU (0 : Int32) (u1 (u1 P 109 0 (0 : Int32)) 110 (124 : Int32).toNatClampNeg (((u1 P 109 0 (0 : Int32)).1 110 (124 : Int32).toNatClampNeg) - a1)) h
    · rw [if_neg c2] at h
      refine Go.bipush (n := -3) (-3 : Int32) (by decide +kernel) (by decide) ?_
      exact Go.iret rfl rfl hE.2 (by decide +kernel) (St.fIP h)
theorem e_Mo_undo {G : GX} (hG : GOK G) {E : EV} (hE : E0 E) (d : Nat) (hd : 2 ≤ d) (a1 : Int32) (P : PM) {Q : QT} (h : St E rIP (f_Mo_undo a1 P) Q) : Con G y_Mo_undo cw_Mo_undo d nOb nOb [.ref (ad E 109), .int a1] P E Q :=
  Con.of hG (by decide +kernel) rfl (fun h => by cases h) hE.2 (Nat.le_of_ble_eq_true rfl) (t_f_Mo_undo hG hE d hd a1 P h)
abbrev c_Mo_whyNot : ByteArray := prog_14_method_57_code
abbrev y_Mo_whyNot : MethodName := ⟨"YawnRouteModel", "whyNot", "(J)I"⟩
abbrev cw_Mo_whyNot : Cond := .code y_Mo_whyNot c_Mo_whyNot 3 (some .int)
theorem w_Mo_whyNot : VW 12 y_Mo_whyNot c_Mo_whyNot 3 (some .int) 1 := ⟨by decide, lk1652, lp82_, lk14, lk1653, ⟨by decide, by decide, by decide +kernel⟩, by decide⟩
noncomputable def j_Mo_whyNot_127 (P : PM) : Option (Int32 × PM) := some ((1 : Int32), P)
noncomputable def f_Mo_whyNot (a1 : Int64) (P : PM) : Option (Int32 × PM) := if (f_Mo_within a1 (0 : Int64) (9 : Int64) P) = (0 : Int32) then (if (f_Mo_within a1 (10 : Int64) (19 : Int64) P) = (0 : Int32) then (if (f_Mo_within a1 (100 : Int64) (199 : Int64) P) = (0 : Int32) then (if (f_Mo_within a1 (1000 : Int64) (1999 : Int64) P) = (0 : Int32) then (j_Mo_whyNot_127 P) else ((f_Mo_isStation ((a1 - (1000 : Int64)) / (100 : Int64)) P).bind (fun v5 => if v5 = (0 : Int32) then (j_Mo_whyNot_127 P) else ((f_Mo_isSize (a1 - a1 / (100 : Int64) * (100 : Int64)) P).bind (fun v7 => if v7 = (0 : Int32) then (j_Mo_whyNot_127 P) else (some ((0 : Int32), P))))))) else ((f_Mo_isStation ((a1 - (100 : Int64)) / (10 : Int64)) P).bind (fun v9 => if v9 = (0 : Int32) then (some ((1 : Int32), P)) else (some ((0 : Int32), P))))) else ((f_Mo_isStation (a1 - (10 : Int64)) P).bind (fun v11 => if v11 = (0 : Int32) then (some ((1 : Int32), P)) else (some ((0 : Int32), P))))) else (bd2 (f_Mo_whyPass a1 P) (fun v13 P14 => some (v13, P14)))
theorem t_j_Mo_whyNot_127 {G : GX} (hG : GOK G) {E : EV} (hE : E0 E) (d : Nat) (hd : 5 ≤ d) {Q : QT} (P : PM) (h : St E rIP (j_Mo_whyNot_127 P) Q) : Go G c_Mo_whyNot "YawnRouteModel" 3 (some .int) false d nOb nOb Q 127 [] [] P E := by
  rw [j_Mo_whyNot_127] at h
  refine Go.iconst (n := 1) (1 : Int32) (by decide +kernel) rfl ?_
  exact Go.iret rfl rfl hE.2 (by decide +kernel) (St.fIP h)
theorem t_f_Mo_whyNot {G : GX} (hG : GOK G) {E : EV} (hE : E0 E) (d : Nat) (hd : 5 ≤ d) {Q : QT} (a1 : Int64) (P : PM) (h : St E rIP (f_Mo_whyNot a1 P) Q) : Go G c_Mo_whyNot "YawnRouteModel" 3 (some .int) false d nOb nOb Q 0 [(0, .ref (ad E 109)), (1, .long a1)] [] P E := by
  rw [f_Mo_whyNot] at h
  refine Go.lload_n (k := 1) (i := 1) 1 (by decide +kernel) rfl rfl ?_
  refine Go.lconst (n := 0) (0 : Int64) (by decide +kernel) rfl ?_
  refine Go.ldc2 (9 : Int64) lk1631 (by decide +kernel) ?_
  refine Go.cS_i (P1 := P) (v := (f_Mo_within a1 (0 : Int64) (9 : Int64) P)) (d - 1) [.long a1, .long (0 : Int64), .long (9 : Int64)] hE w_Mo_within (e_Mo_within hG hE (d - 1) (by omega) a1 (0 : Int64) (9 : Int64) P ⟨rfl, rfl, rfl⟩) lk1438 rfl (by omega) (Nat.le_of_ble_eq_true rfl) (by decide +kernel) _ rfl ?_
  refine Go.if_eq (off := 9) 17 (by decide +kernel) (by decide) (fun c1 => ?_) (fun c1 => ?_)
  · rw [if_pos c1] at h
    refine Go.lload_n (k := 1) (i := 1) 1 (by decide +kernel) rfl rfl ?_
    refine Go.ldc2 (10 : Int64) lk1636 (by decide +kernel) ?_
    refine Go.ldc2 (19 : Int64) lk1654 (by decide +kernel) ?_
    refine Go.cS_i (P1 := P) (v := (f_Mo_within a1 (10 : Int64) (19 : Int64) P)) (d - 1) [.long a1, .long (10 : Int64), .long (19 : Int64)] hE w_Mo_within (e_Mo_within hG hE (d - 1) (by omega) a1 (10 : Int64) (19 : Int64) P ⟨rfl, rfl, rfl⟩) lk1438 rfl (by omega) (Nat.le_of_ble_eq_true rfl) (by decide +kernel) _ rfl ?_
    refine Go.if_eq (off := 21) 48 (by decide +kernel) (by decide) (fun c2 => ?_) (fun c2 => ?_)
    · rw [if_pos c2] at h
      refine Go.lload_n (k := 1) (i := 1) 1 (by decide +kernel) rfl rfl ?_
      refine Go.ldc2 (100 : Int64) lk1655 (by decide +kernel) ?_
      refine Go.ldc2 (199 : Int64) lk1656 (by decide +kernel) ?_
      refine Go.cS_i (P1 := P) (v := (f_Mo_within a1 (100 : Int64) (199 : Int64) P)) (d - 1) [.long a1, .long (100 : Int64), .long (199 : Int64)] hE w_Mo_within (e_Mo_within hG hE (d - 1) (by omega) a1 (100 : Int64) (199 : Int64) P ⟨rfl, rfl, rfl⟩) lk1438 rfl (by omega) (Nat.le_of_ble_eq_true rfl) (by decide +kernel) _ rfl ?_
      refine Go.if_eq (off := 25) 83 (by decide +kernel) (by decide) (fun c3 => ?_) (fun c3 => ?_)
      · rw [if_pos c3] at h
        refine Go.lload_n (k := 1) (i := 1) 1 (by decide +kernel) rfl rfl ?_
        refine Go.ldc2 (1000 : Int64) lk1657 (by decide +kernel) ?_
        refine Go.ldc2 (1999 : Int64) lk1658 (by decide +kernel) ?_
        refine Go.cS_i (P1 := P) (v := (f_Mo_within a1 (1000 : Int64) (1999 : Int64) P)) (d - 1) [.long a1, .long (1000 : Int64), .long (1999 : Int64)] hE w_Mo_within (e_Mo_within hG hE (d - 1) (by omega) a1 (1000 : Int64) (1999 : Int64) P ⟨rfl, rfl, rfl⟩) lk1438 rfl (by omega) (Nat.le_of_ble_eq_true rfl) (by decide +kernel) _ rfl ?_
        refine Go.if_eq (off := 34) 127 (by decide +kernel) (by decide) (fun c4 => ?_) (fun c4 => ?_)
        · rw [if_pos c4] at h
          refine Go.sub [] [] rfl ?_
          exact t_j_Mo_whyNot_127 hG hE d hd P h
        · rw [if_neg c4] at h
          refine Go.aload_n (k := 0) (i := 0) 0 (by decide +kernel) rfl rfl ?_
          refine Go.lload_n (k := 1) (i := 1) 1 (by decide +kernel) rfl rfl ?_
          refine Go.ldc2 (1000 : Int64) lk1657 (by decide +kernel) ?_
          refine Go.lsub (by decide +kernel) ?_
          refine Go.ldc2 (100 : Int64) lk1655 (by decide +kernel) ?_
          refine Go.ldiv (by decide +kernel) (by decide) ?_
          obtain ⟨v5, hv5, h⟩ := St.bind h
          refine Go.cV_i (P1 := P) (v := v5) (d - 1) 109 [.long ((a1 - (1000 : Int64)) / (100 : Int64))] sh109 hE w_Mo_isStation (e_Mo_isStation hG hE (d - 1) (by omega) ((a1 - (1000 : Int64)) / (100 : Int64)) P ⟨_, hv5, rfl, rfl, rfl⟩) lk1555 rfl (by omega) (Nat.le_of_ble_eq_true rfl) (by decide +kernel) _ rfl ?_
          refine Go.if_eq (off := 18) 127 (by decide +kernel) (by decide) (fun c6 => ?_) (fun c6 => ?_)
          · rw [if_pos c6] at h
            refine Go.sub [] [] rfl ?_
            exact t_j_Mo_whyNot_127 hG hE d hd P h
          · rw [if_neg c6] at h
            refine Go.lload_n (k := 1) (i := 1) 1 (by decide +kernel) rfl rfl ?_
            refine Go.ldc2 (100 : Int64) lk1655 (by decide +kernel) ?_
            refine Go.lrem (by decide +kernel) (by decide) ?_
            obtain ⟨v7, hv7, h⟩ := St.bind h
            refine Go.cS_i (P1 := P) (v := v7) (d - 1) [.long (a1 - a1 / (100 : Int64) * (100 : Int64))] hE w_Mo_isSize (e_Mo_isSize hG hE (d - 1) (by omega) (a1 - a1 / (100 : Int64) * (100 : Int64)) P ⟨_, hv7, rfl, rfl, rfl⟩) lk1615 rfl (by omega) (Nat.le_of_ble_eq_true rfl) (by decide +kernel) _ rfl ?_
            refine Go.if_eq (off := 7) 127 (by decide +kernel) (by decide) (fun c8 => ?_) (fun c8 => ?_)
            · rw [if_pos c8] at h
              refine Go.sub [] [] rfl ?_
              exact t_j_Mo_whyNot_127 hG hE d hd P h
            · rw [if_neg c8] at h
              refine Go.iconst (n := 0) (0 : Int32) (by decide +kernel) rfl ?_
              refine Go.goto (off := 4) 128 (by decide +kernel) (by decide) ?_
              exact Go.iret rfl rfl hE.2 (by decide +kernel) (St.fIP h)
      · rw [if_neg c3] at h
        refine Go.aload_n (k := 0) (i := 0) 0 (by decide +kernel) rfl rfl ?_
        refine Go.lload_n (k := 1) (i := 1) 1 (by decide +kernel) rfl rfl ?_
        refine Go.ldc2 (100 : Int64) lk1655 (by decide +kernel) ?_
        refine Go.lsub (by decide +kernel) ?_
        refine Go.ldc2 (10 : Int64) lk1636 (by decide +kernel) ?_
        refine Go.ldiv (by decide +kernel) (by decide) ?_
        obtain ⟨v9, hv9, h⟩ := St.bind h
        refine Go.cV_i (P1 := P) (v := v9) (d - 1) 109 [.long ((a1 - (100 : Int64)) / (10 : Int64))] sh109 hE w_Mo_isStation (e_Mo_isStation hG hE (d - 1) (by omega) ((a1 - (100 : Int64)) / (10 : Int64)) P ⟨_, hv9, rfl, rfl, rfl⟩) lk1555 rfl (by omega) (Nat.le_of_ble_eq_true rfl) (by decide +kernel) _ rfl ?_
        refine Go.if_eq (off := 7) 81 (by decide +kernel) (by decide) (fun c10 => ?_) (fun c10 => ?_)
        · rw [if_pos c10] at h
          refine Go.iconst (n := 1) (1 : Int32) (by decide +kernel) rfl ?_
          exact Go.iret rfl rfl hE.2 (by decide +kernel) (St.fIP h)
        · rw [if_neg c10] at h
          refine Go.iconst (n := 0) (0 : Int32) (by decide +kernel) rfl ?_
          refine Go.goto (off := 4) 82 (by decide +kernel) (by decide) ?_
          exact Go.iret rfl rfl hE.2 (by decide +kernel) (St.fIP h)
    · rw [if_neg c2] at h
      refine Go.aload_n (k := 0) (i := 0) 0 (by decide +kernel) rfl rfl ?_
      refine Go.lload_n (k := 1) (i := 1) 1 (by decide +kernel) rfl rfl ?_
      refine Go.ldc2 (10 : Int64) lk1636 (by decide +kernel) ?_
      refine Go.lsub (by decide +kernel) ?_
      obtain ⟨v11, hv11, h⟩ := St.bind h
      refine Go.cV_i (P1 := P) (v := v11) (d - 1) 109 [.long (a1 - (10 : Int64))] sh109 hE w_Mo_isStation (e_Mo_isStation hG hE (d - 1) (by omega) (a1 - (10 : Int64)) P ⟨_, hv11, rfl, rfl, rfl⟩) lk1555 rfl (by omega) (Nat.le_of_ble_eq_true rfl) (by decide +kernel) _ rfl ?_
      refine Go.if_eq (off := 7) 46 (by decide +kernel) (by decide) (fun c12 => ?_) (fun c12 => ?_)
      · rw [if_pos c12] at h
        refine Go.iconst (n := 1) (1 : Int32) (by decide +kernel) rfl ?_
        exact Go.iret rfl rfl hE.2 (by decide +kernel) (St.fIP h)
      · rw [if_neg c12] at h
        refine Go.iconst (n := 0) (0 : Int32) (by decide +kernel) rfl ?_
        refine Go.goto (off := 4) 47 (by decide +kernel) (by decide) ?_
        exact Go.iret rfl rfl hE.2 (by decide +kernel) (St.fIP h)
  · rw [if_neg c1] at h
    refine Go.aload_n (k := 0) (i := 0) 0 (by decide +kernel) rfl rfl ?_
    refine Go.lload_n (k := 1) (i := 1) 1 (by decide +kernel) rfl rfl ?_
    obtain ⟨v13, P14, hv13, h⟩ := St.bd2 h
    refine Go.cV_i (P1 := P14) (v := v13) (d - 1) 109 [.long a1] sh109 hE w_Mo_whyPass (e_Mo_whyPass hG hE (d - 1) (by omega) a1 P ⟨_, hv13, rfl, rfl, rfl⟩) lk1571 rfl (by omega) (Nat.le_of_ble_eq_true rfl) (by decide +kernel) _ rfl ?_
    exact Go.iret rfl rfl hE.2 (by decide +kernel) (St.fIP h)
theorem e_Mo_whyNot {G : GX} (hG : GOK G) {E : EV} (hE : E0 E) (d : Nat) (hd : 5 ≤ d) (a1 : Int64) (P : PM) {Q : QT} (h : St E rIP (f_Mo_whyNot a1 P) Q) : Con G y_Mo_whyNot cw_Mo_whyNot d nOb nOb [.ref (ad E 109), .long a1] P E Q :=
  Con.of hG (by decide +kernel) rfl (fun h => by cases h) hE.2 (Nat.le_of_ble_eq_true rfl) (t_f_Mo_whyNot hG hE d hd a1 P h)
abbrev c_Mo_does : ByteArray := prog_14_method_58_code
abbrev y_Mo_does : MethodName := ⟨"YawnRouteModel", "does", "(I)V"⟩
abbrev cw_Mo_does : Cond := .code y_Mo_does c_Mo_does 2 none
theorem w_Mo_does : VW 12 y_Mo_does c_Mo_does 2 none 1 := ⟨by decide, lk1661, lp83_, lk14, lk1662, ⟨by decide, by decide, by decide +kernel⟩, by decide⟩
noncomputable def f_Mo_does (a1 : Int32) (P : PM) : Option PM := if (10 : Int32) ≤ a1 then (if (20 : Int32) ≤ a1 then (if (200 : Int32) ≤ a1 then ((f_Mo_letsOff ((a1 - (1000 : Int32)) / (100 : Int32)) (a1 - a1 / (100 : Int32) * (100 : Int32)) P).bind (fun P4 => some P4)) else (ck (inb ((117 : Int32) + ((a1 - (100 : Int32)) / (10 : Int32))) 3408) (some (u1 P 110 ((117 : Int32) + ((a1 - (100 : Int32)) / (10 : Int32))).toNatClampNeg (a1 - a1 / (10 : Int32) * (10 : Int32)))))) else (some (u1 P 110 (116 : Int32).toNatClampNeg ((P.1 110 (116 : Int32).toNatClampNeg) ^^^ ((1 : Int32) <<< ((a1 - (10 : Int32)) &&& 31)))))) else ((f_Mo_goes a1 P).bind (fun P6 => some P6))
theorem t_f_Mo_does {G : GX} (hG : GOK G) {E : EV} (hE : E0 E) (d : Nat) (hd : 5 ≤ d) {Q : QT} (a1 : Int32) (P : PM) (h : St E rP (f_Mo_does a1 P) Q) : Go G c_Mo_does "YawnRouteModel" 2 none false d nOb nOb Q 0 [(0, .ref (ad E 109)), (1, .int a1)] [] P E := by
  rw [f_Mo_does] at h
  refine Go.iload_n (k := 1) (i := 1) 1 (by decide +kernel) rfl rfl ?_
  refine Go.bipush (n := 10) (10 : Int32) (by decide +kernel) (by decide) ?_
  refine Go.icmp_ge (off := 11) 14 (by decide +kernel) (by decide) (fun c1 => ?_) (fun c1 => ?_)
  · rw [if_pos c1] at h
    refine Go.iload_n (k := 1) (i := 1) 1 (by decide +kernel) rfl rfl ?_
    refine Go.bipush (n := 20) (20 : Int32) (by decide +kernel) (by decide) ?_
    refine Go.icmp_ge (off := 22) 39 (by decide +kernel) (by decide) (fun c2 => ?_) (fun c2 => ?_)
    · rw [if_pos c2] at h
      refine Go.iload_n (k := 1) (i := 1) 1 (by decide +kernel) rfl rfl ?_
      refine Go.sipush (n := 200) (200 : Int32) (by decide +kernel) (by decide) ?_
      refine Go.icmp_ge (off := 25) 68 (by decide +kernel) (by decide) (fun c3 => ?_) (fun c3 => ?_)
      · rw [if_pos c3] at h
        refine Go.aload_n (k := 0) (i := 0) 0 (by decide +kernel) rfl rfl ?_
        refine Go.iload_n (k := 1) (i := 1) 1 (by decide +kernel) rfl rfl ?_
        refine Go.sipush (n := 1000) (1000 : Int32) (by decide +kernel) (by decide) ?_
        refine Go.isub (by decide +kernel) ?_
        refine Go.bipush (n := 100) (100 : Int32) (by decide +kernel) (by decide) ?_
        refine Go.idiv (by decide +kernel) (by decide) ?_
        refine Go.iload_n (k := 1) (i := 1) 1 (by decide +kernel) rfl rfl ?_
        refine Go.bipush (n := 100) (100 : Int32) (by decide +kernel) (by decide) ?_
        refine Go.irem (by decide +kernel) (by decide) ?_
        obtain ⟨P4, hP4, h⟩ := St.bind h
        refine Go.cV_v (P1 := P4) (d - 1) 109 [.int ((a1 - (1000 : Int32)) / (100 : Int32)), .int (a1 - a1 / (100 : Int32) * (100 : Int32))] sh109 hE w_Mo_letsOff (e_Mo_letsOff hG hE (d - 1) (by omega) ((a1 - (1000 : Int32)) / (100 : Int32)) (a1 - a1 / (100 : Int32) * (100 : Int32)) P ⟨_, hP4, rfl, rfl, rfl⟩) lk1619 rfl (by omega) (Nat.le_of_ble_eq_true rfl) (by decide +kernel) _ rfl ?_
        exact Go.vret rfl hE.2 (by decide +kernel) (St.fP h)
      · rw [if_neg c3] at h
        refine Go.aload_n (k := 0) (i := 0) 0 (by decide +kernel) rfl rfl ?_
        refine Go.get 109 1 (.ref (ad E 110)) (by decide) (by decide) sh109 (ltO hE sh109) (vlR hE rfl rfl) lk1331 (by decide +kernel) ?_
        refine Go.bipush (n := 117) (117 : Int32) (by decide +kernel) (by decide) ?_
        refine Go.iload_n (k := 1) (i := 1) 1 (by decide +kernel) rfl rfl ?_
        refine Go.bipush (n := 100) (100 : Int32) (by decide +kernel) (by decide) ?_
        refine Go.isub (by decide +kernel) ?_
        refine Go.bipush (n := 10) (10 : Int32) (by decide +kernel) (by decide) ?_
        refine Go.idiv (by decide +kernel) (by decide) ?_
        refine Go.iadd (by decide +kernel) ?_
        refine Go.iload_n (k := 1) (i := 1) 1 (by decide +kernel) rfl rfl ?_
        refine Go.bipush (n := 10) (10 : Int32) (by decide +kernel) (by decide) ?_
        refine Go.irem (by decide +kernel) (by decide) ?_
        obtain ⟨b5, h⟩ := St.ck h
        refine Go.iastore 110 3408 sh110 (ltA hE sh110 (by decide)) (inb_in b5) (by decide +kernel) ?_
        refine Go.goto (off := 19) 84 (by decide +kernel) (by decide) ?_
        exact Go.vret rfl hE.2 (by decide +kernel) (St.fP h)
    · rw [if_neg c2] at h
      refine Go.aload_n (k := 0) (i := 0) 0 (by decide +kernel) rfl rfl ?_
      refine Go.get 109 1 (.ref (ad E 110)) (by decide) (by decide) sh109 (ltO hE sh109) (vlR hE rfl rfl) lk1331 (by decide +kernel) ?_
      refine Go.bipush (n := 116) (116 : Int32) (by decide +kernel) (by decide) ?_
      refine Go.dup2 (by decide +kernel) rfl rfl ?_
      refine Go.iaload 110 3408 sh110 (ltA hE sh110 (by decide)) (vp_in_iff.mpr (by decide)) (by decide +kernel) ?_
      refine Go.iconst (n := 1) (1 : Int32) (by decide +kernel) rfl ?_
      refine Go.iload_n (k := 1) (i := 1) 1 (by decide +kernel) rfl rfl ?_
      refine Go.bipush (n := 10) (10 : Int32) (by decide +kernel) (by decide) ?_
      refine Go.isub (by decide +kernel) ?_
      refine Go.ishl (by decide +kernel) ?_
      refine Go.ixor (by decide +kernel) ?_
      refine Go.iastore 110 3408 sh110 (ltA hE sh110 (by decide)) (vp_in_iff.mpr (by decide)) (by decide +kernel) ?_
      refine Go.goto (off := 48) 84 (by decide +kernel) (by decide) ?_
      exact Go.vret rfl hE.2 (by decide +kernel) (St.fP h)
  · rw [if_neg c1] at h
    refine Go.aload_n (k := 0) (i := 0) 0 (by decide +kernel) rfl rfl ?_
    refine Go.iload_n (k := 1) (i := 1) 1 (by decide +kernel) rfl rfl ?_
    obtain ⟨P6, hP6, h⟩ := St.bind h
    refine Go.cV_v (P1 := P6) (d - 1) 109 [.int a1] sh109 hE w_Mo_goes (e_Mo_goes hG hE (d - 1) (by omega) a1 P ⟨_, hP6, rfl, rfl, rfl⟩) lk1603 rfl (by omega) (Nat.le_of_ble_eq_true rfl) (by decide +kernel) _ rfl ?_
    refine Go.goto (off := 73) 84 (by decide +kernel) (by decide) ?_
    exact Go.vret rfl hE.2 (by decide +kernel) (St.fP h)
theorem e_Mo_does {G : GX} (hG : GOK G) {E : EV} (hE : E0 E) (d : Nat) (hd : 5 ≤ d) (a1 : Int32) (P : PM) {Q : QT} (h : St E rP (f_Mo_does a1 P) Q) : Con G y_Mo_does cw_Mo_does d nOb nOb [.ref (ad E 109), .int a1] P E Q :=
  Con.of hG (by decide +kernel) rfl (fun h => by cases h) hE.2 (Nat.le_of_ble_eq_true rfl) (t_f_Mo_does hG hE d hd a1 P h)
abbrev c_Mo_tells : ByteArray := prog_14_method_59_code
abbrev y_Mo_tells : MethodName := ⟨"YawnRouteModel", "tells", "(I)I"⟩
abbrev cw_Mo_tells : Cond := .code y_Mo_tells c_Mo_tells 3 (some .int)
theorem w_Mo_tells : VW 12 y_Mo_tells c_Mo_tells 3 (some .int) 1 := ⟨by decide, lk1648, lp81_, lk14, lk1649, ⟨by decide, by decide, by decide +kernel⟩, by decide⟩
noncomputable def l_Mo_tells_7 : Nat → Int32 → Int32 → PM → Option (Int32 × PM)
  | 0, _, _, _ => none
  | n + 1, x1, x2, P => ck (inb x1 4) (if (P.1 128 x1.toNatClampNeg) ≤ x2 then (ck (inb x1 4) (some ((P.1 128 x1.toNatClampNeg), P))) else (ck (inb (((40 : Int32) * x1) + x2) 160) (bd2 (f_Mo_whyNot (P.2 129 (((40 : Int32) * x1) + x2).toNatClampNeg) P) (fun v5 P6 => if ((u1 P6 109 18 v5).1 109 18) = (0 : Int32) then (ck (inb (((40 : Int32) * x1) + x2) 160) ((f_Mo_does (((u1 P6 109 18 v5).2 129 (((40 : Int32) * x1) + x2).toNatClampNeg).toInt32) (u1 P6 109 18 v5)).bind (fun P9 => l_Mo_tells_7 n x1 (x2 + (1 : Int32)) P9))) else (some (x2, (u1 P6 109 18 v5)))))))
noncomputable def f_Mo_tells (a1 : Int32) (P : PM) : Option (Int32 × PM) := l_Mo_tells_7 FU a1 (0 : Int32) (u1 P 109 18 (0 : Int32))
theorem t_l_Mo_tells_7 {G : GX} (hG : GOK G) {E : EV} (hE : E0 E) (d : Nat) (hd : 6 ≤ d) {Q : QT} : ∀ (n : Nat) (x1 : Int32) (x2 : Int32) (P : PM), St E rIP (l_Mo_tells_7 n x1 x2 P) Q → Go G c_Mo_tells "YawnRouteModel" 3 (some .int) false d nOb nOb Q 7 [(0, .ref (ad E 109)), (1, .int x1), (2, .int x2)] [] P E := by
  intro n
  induction n with
  | zero =>
    intro x1 x2 P h
    rw [l_Mo_tells_7] at h
    exact St.none_ h
  | succ n ih =>
    intro x1 x2 P h
    rw [l_Mo_tells_7] at h
    refine Go.iload_n (k := 2) (i := 2) 2 (by decide +kernel) rfl rfl ?_
    refine Go.aload_n (k := 0) (i := 0) 0 (by decide +kernel) rfl rfl ?_
    refine Go.get 109 31 (.ref (ad E 128)) (by decide) (by decide) sh109 (ltO hE sh109) (vlR hE rfl rfl) lk1361 (by decide +kernel) ?_
    refine Go.iload_n (k := 1) (i := 1) 1 (by decide +kernel) rfl rfl ?_
    obtain ⟨b1, h⟩ := St.ck h
    refine Go.iaload 128 4 sh128 (ltA hE sh128 (by decide)) (inb_in b1) (by decide +kernel) ?_
    refine Go.icmp_ge (off := 53) 67 (by decide +kernel) (by decide) (fun c2 => ?_) (fun c2 => ?_)
    · rw [if_pos c2] at h
      refine Go.aload_n (k := 0) (i := 0) 0 (by decide +kernel) rfl rfl ?_
      refine Go.get 109 31 (.ref (ad E 128)) (by decide) (by decide) sh109 (ltO hE sh109) (vlR hE rfl rfl) lk1361 (by decide +kernel) ?_
      refine Go.iload_n (k := 1) (i := 1) 1 (by decide +kernel) rfl rfl ?_
      obtain ⟨b3, h⟩ := St.ck h
      refine Go.iaload 128 4 sh128 (ltA hE sh128 (by decide)) (inb_in b3) (by decide +kernel) ?_
      exact Go.iret rfl rfl hE.2 (by decide +kernel) (St.fIP h)
    · rw [if_neg c2] at h
      refine Go.aload_n (k := 0) (i := 0) 0 (by decide +kernel) rfl rfl ?_
      refine Go.aload_n (k := 0) (i := 0) 0 (by decide +kernel) rfl rfl ?_
      refine Go.aload_n (k := 0) (i := 0) 0 (by decide +kernel) rfl rfl ?_
      refine Go.get 109 32 (.ref (ad E 129)) (by decide) (by decide) sh109 (ltO hE sh109) (vlR hE rfl rfl) lk1362 (by decide +kernel) ?_
      refine Go.bipush (n := 40) (40 : Int32) (by decide +kernel) (by decide) ?_
      refine Go.iload_n (k := 1) (i := 1) 1 (by decide +kernel) rfl rfl ?_
      refine Go.imul (by decide +kernel) ?_
      refine Go.iload_n (k := 2) (i := 2) 2 (by decide +kernel) rfl rfl ?_
      refine Go.iadd (by decide +kernel) ?_
      obtain ⟨b4, h⟩ := St.ck h
      refine Go.laload 129 160 sh129 (ltA hE sh129 (by decide)) (inb_in b4) (by decide +kernel) ?_
      obtain ⟨v5, P6, hv5, h⟩ := St.bd2 h
      refine Go.cV_i (P1 := P6) (v := v5) (d - 1) 109 [.long (P.2 129 (((40 : Int32) * x1) + x2).toNatClampNeg)] sh109 hE w_Mo_whyNot (e_Mo_whyNot hG hE (d - 1) (by omega) (P.2 129 (((40 : Int32) * x1) + x2).toNatClampNeg) P ⟨_, hv5, rfl, rfl, rfl⟩) lk1650 rfl (by omega) (Nat.le_of_ble_eq_true rfl) (by decide +kernel) _ rfl ?_
      refine Go.put 109 18 (by decide) (by decide) sh109 (ltO hE sh109) (Or.inl rfl) rfl rfl rfl lk1348 (by decide +kernel) ?_
      refine Go.aload_n (k := 0) (i := 0) 0 (by decide +kernel) rfl rfl ?_
      refine Go.get 109 18 (.int ((u1 P6 109 18 v5).1 109 18)) (by decide) (by decide) sh109 (ltO hE sh109) rfl lk1348 (by decide +kernel) ?_
      refine Go.if_eq (off := 5) 45 (by decide +kernel) (by decide) (fun c7 => ?_) (fun c7 => ?_)
      · rw [if_pos c7] at h
        refine Go.aload_n (k := 0) (i := 0) 0 (by decide +kernel) rfl rfl ?_
        refine Go.aload_n (k := 0) (i := 0) 0 (by decide +kernel) rfl rfl ?_
        refine Go.get 109 32 (.ref (ad E 129)) (by decide) (by decide) sh109 (ltO hE sh109) (vlR hE rfl rfl) lk1362 (by decide +kernel) ?_
        refine Go.bipush (n := 40) (40 : Int32) (by decide +kernel) (by decide) ?_
        refine Go.iload_n (k := 1) (i := 1) 1 (by decide +kernel) rfl rfl ?_
        refine Go.imul (by decide +kernel) ?_
        refine Go.iload_n (k := 2) (i := 2) 2 (by decide +kernel) rfl rfl ?_
        refine Go.iadd (by decide +kernel) ?_
        obtain ⟨b8, h⟩ := St.ck h
        refine Go.laload 129 160 sh129 (ltA hE sh129 (by decide)) (inb_in b8) (by decide +kernel) ?_
        refine Go.l2i (by decide +kernel) ?_
        obtain ⟨P9, hP9, h⟩ := St.bind h
        refine Go.cV_v (P1 := P9) (d - 1) 109 [.int (((u1 P6 109 18 v5).2 129 (((40 : Int32) * x1) + x2).toNatClampNeg).toInt32)] sh109 hE w_Mo_does (e_Mo_does hG hE (d - 1) (by omega) (((u1 P6 109 18 v5).2 129 (((40 : Int32) * x1) + x2).toNatClampNeg).toInt32) (u1 P6 109 18 v5) ⟨_, hP9, rfl, rfl, rfl⟩) lk1659 rfl (by omega) (Nat.le_of_ble_eq_true rfl) (by decide +kernel) _ rfl ?_
        refine Go.iinc (i := 2) (n := 1) 2 (x2 + (1 : Int32)) [(2, .int (x2 + (1 : Int32))), (0, .ref (ad E 109)), (1, .int x1)] (by decide +kernel) rfl rfl (by decide) rfl ?_
        refine Go.goto (off := -57) 7 (by decide +kernel) (by decide) ?_
        refine Go.sub [1, 2, 0] [(0, .ref (ad E 109)), (1, .int x1), (2, .int (x2 + (1 : Int32)))] rfl ?_
        exact ih x1 (x2 + (1 : Int32)) P9 h
      · rw [if_neg c7] at h
        refine Go.iload_n (k := 2) (i := 2) 2 (by decide +kernel) rfl rfl ?_
        exact Go.iret rfl rfl hE.2 (by decide +kernel) (St.fIP h)
theorem t_f_Mo_tells {G : GX} (hG : GOK G) {E : EV} (hE : E0 E) (d : Nat) (hd : 6 ≤ d) {Q : QT} (a1 : Int32) (P : PM) (h : St E rIP (f_Mo_tells a1 P) Q) : Go G c_Mo_tells "YawnRouteModel" 3 (some .int) false d nOb nOb Q 0 [(0, .ref (ad E 109)), (1, .int a1)] [] P E := by
  rw [f_Mo_tells] at h
  refine Go.aload_n (k := 0) (i := 0) 0 (by decide +kernel) rfl rfl ?_
  refine Go.iconst (n := 0) (0 : Int32) (by decide +kernel) rfl ?_
  refine Go.put 109 18 (by decide) (by decide) sh109 (ltO hE sh109) (Or.inl rfl) rfl rfl rfl lk1348 (by decide +kernel) ?_
  refine Go.iconst (n := 0) (0 : Int32) (by decide +kernel) rfl ?_
  refine Go.istore_n (k := 2) (i := 2) [(2, .int (0 : Int32)), (0, .ref (ad E 109)), (1, .int a1)] (by decide +kernel) rfl (by decide) rfl ?_
  refine Go.sub [1, 2, 0] [(0, .ref (ad E 109)), (1, .int a1), (2, .int (0 : Int32))] rfl ?_
  exact t_l_Mo_tells_7 hG hE d hd FU a1 (0 : Int32) (u1 P 109 18 (0 : Int32)) h
theorem e_Mo_tells {G : GX} (hG : GOK G) {E : EV} (hE : E0 E) (d : Nat) (hd : 6 ≤ d) (a1 : Int32) (P : PM) {Q : QT} (h : St E rIP (f_Mo_tells a1 P) Q) : Con G y_Mo_tells cw_Mo_tells d nOb nOb [.ref (ad E 109), .int a1] P E Q :=
  Con.of hG (by decide +kernel) rfl (fun h => by cases h) hE.2 (Nat.le_of_ble_eq_true rfl) (t_f_Mo_tells hG hE d hd a1 P h)
abbrev c_Mo_noTray : ByteArray := prog_14_method_60_code
abbrev y_Mo_noTray : MethodName := ⟨"YawnRouteModel", "noTray", "(I)I"⟩
abbrev cw_Mo_noTray : Cond := .code y_Mo_noTray c_Mo_noTray 2 (some .int)
theorem w_Mo_noTray : VW 12 y_Mo_noTray c_Mo_noTray 2 (some .int) 1 := ⟨by decide, lk1644, lp80_, lk14, lk1645, ⟨by decide, by decide, by decide +kernel⟩, by decide⟩
noncomputable def f_Mo_noTray (a1 : Int32) (P : PM) : Option Int32 := if (f_Mo_within (a1.toInt64) (0 : Int64) (3 : Int64) P) = (0 : Int32) then (some (-2 : Int32)) else (ck (inb a1 4) (if (P.1 127 a1.toNatClampNeg) = (-1 : Int32) then (some (-6 : Int32)) else (some (0 : Int32))))
theorem t_f_Mo_noTray {G : GX} (hG : GOK G) {E : EV} (hE : E0 E) (d : Nat) (hd : 2 ≤ d) {P : PM} {Q : QT} (a1 : Int32) (h : St E (rI P) (f_Mo_noTray a1 P) Q) : Go G c_Mo_noTray "YawnRouteModel" 2 (some .int) false d nOb nOb Q 0 [(0, .ref (ad E 109)), (1, .int a1)] [] P E := by
  rw [f_Mo_noTray] at h
  refine Go.iload_n (k := 1) (i := 1) 1 (by decide +kernel) rfl rfl ?_
  refine Go.i2l (by decide +kernel) ?_
  refine Go.lconst (n := 0) (0 : Int64) (by decide +kernel) rfl ?_
  refine Go.ldc2 (3 : Int64) lk1641 (by decide +kernel) ?_
  refine Go.cS_i (P1 := P) (v := (f_Mo_within (a1.toInt64) (0 : Int64) (3 : Int64) P)) (d - 1) [.long (a1.toInt64), .long (0 : Int64), .long (3 : Int64)] hE w_Mo_within (e_Mo_within hG hE (d - 1) (by omega) (a1.toInt64) (0 : Int64) (3 : Int64) P ⟨rfl, rfl, rfl⟩) lk1438 rfl (by omega) (Nat.le_of_ble_eq_true rfl) (by decide +kernel) _ rfl ?_
  refine Go.if_ne (off := 8) 17 (by decide +kernel) (by decide) (fun c1 => ?_) (fun c1 => ?_)
  · rw [if_neg c1] at h
    refine Go.aload_n (k := 0) (i := 0) 0 (by decide +kernel) rfl rfl ?_
    refine Go.get 109 30 (.ref (ad E 127)) (by decide) (by decide) sh109 (ltO hE sh109) (vlR hE rfl rfl) lk1360 (by decide +kernel) ?_
    refine Go.iload_n (k := 1) (i := 1) 1 (by decide +kernel) rfl rfl ?_
    obtain ⟨b2, h⟩ := St.ck h
    refine Go.iaload 127 4 sh127 (ltA hE sh127 (by decide)) (inb_in b2) (by decide +kernel) ?_
    refine Go.iconst (n := -1) (-1 : Int32) (by decide +kernel) rfl ?_
    refine Go.icmp_ne (off := 8) 32 (by decide +kernel) (by decide) (fun c3 => ?_) (fun c3 => ?_)
    · rw [if_neg c3] at h
      refine Go.iconst (n := 0) (0 : Int32) (by decide +kernel) rfl ?_
      exact Go.iret rfl rfl hE.2 (by decide +kernel) (St.fI h)
    · rw [if_pos c3] at h
      refine Go.bipush (n := -6) (-6 : Int32) (by decide +kernel) (by decide) ?_
      refine Go.goto (off := 4) 33 (by decide +kernel) (by decide) ?_
      exact Go.iret rfl rfl hE.2 (by decide +kernel) (St.fI h)
  · rw [if_pos c1] at h
    refine Go.bipush (n := -2) (-2 : Int32) (by decide +kernel) (by decide) ?_
    refine Go.goto (off := 19) 33 (by decide +kernel) (by decide) ?_
    exact Go.iret rfl rfl hE.2 (by decide +kernel) (St.fI h)
theorem e_Mo_noTray {G : GX} (hG : GOK G) {E : EV} (hE : E0 E) (d : Nat) (hd : 2 ≤ d) (a1 : Int32) (P : PM) {Q : QT} (h : St E (rI P) (f_Mo_noTray a1 P) Q) : Con G y_Mo_noTray cw_Mo_noTray d nOb nOb [.ref (ad E 109), .int a1] P E Q :=
  Con.of hG (by decide +kernel) rfl (fun h => by cases h) hE.2 (Nat.le_of_ble_eq_true rfl) (t_f_Mo_noTray hG hE d hd a1 h)
abbrev c_Mo_judge : ByteArray := prog_14_method_61_code
abbrev y_Mo_judge : MethodName := ⟨"YawnRouteModel", "judge", "(II)I"⟩
abbrev cw_Mo_judge : Cond := .code y_Mo_judge c_Mo_judge 7 (some .int)
theorem w_Mo_judge : VW 12 y_Mo_judge c_Mo_judge 7 (some .int) 2 := ⟨by decide, lk1638, lk1639, lk14, lk1640, ⟨by decide, by decide, by decide +kernel⟩, by decide⟩
noncomputable def f_Mo_judge (a1 : Int32) (a2 : Int32) (P : PM) : Option (Int32 × PM) := if (f_Mo_within (a2.toInt64) (0 : Int64) (3 : Int64) (u1 P 109 0 (0 : Int32))) = (0 : Int32) then (some ((-2 : Int32), (u1 P 109 0 (0 : Int32)))) else ((f_Mo_noTray a1 (u1 P 109 0 (0 : Int32))).bind (fun v2 => if v2 = (0 : Int32) then ((f_Mo_keeps (u1 P 109 0 (0 : Int32))).bind (fun P4 => bd2 (f_Mo_tells a1 P4) (fun v5 P6 => lb (P6.1 110 (113 : Int32).toNatClampNeg) (fun y7 => lb (P6.1 110 (114 : Int32).toNatClampNeg) (fun y8 => (f_Mo_isAgain P6).bind (fun P9 => if a2 = (0 : Int32) then (if (P9.1 109 18) = (0 : Int32) then (some ((-1 : Int32), P9)) else (some (v5, P9))) else (if a2 = (1 : Int32) then (some ((P9.1 109 18), P9)) else (if a2 = (2 : Int32) then (some (y7, P9)) else (some (y8, P9)))))))))) else (some (v2, (u1 P 109 0 (0 : Int32))))))
theorem t_f_Mo_judge {G : GX} (hG : GOK G) {E : EV} (hE : E0 E) (d : Nat) (hd : 7 ≤ d) {Q : QT} (a1 : Int32) (a2 : Int32) (P : PM) (h : St E rIP (f_Mo_judge a1 a2 P) Q) : Go G c_Mo_judge "YawnRouteModel" 7 (some .int) false d nOb nOb Q 0 [(0, .ref (ad E 109)), (1, .int a1), (2, .int a2)] [] P E := by
  rw [f_Mo_judge] at h
  refine Go.aload_n (k := 0) (i := 0) 0 (by decide +kernel) rfl rfl ?_
  refine Go.iconst (n := 0) (0 : Int32) (by decide +kernel) rfl ?_
  refine Go.put 109 0 (by decide) (by decide) sh109 (ltO hE sh109) (Or.inl rfl) rfl rfl rfl lk1330 (by decide +kernel) ?_
  refine Go.iload_n (k := 2) (i := 2) 2 (by decide +kernel) rfl rfl ?_
  refine Go.i2l (by decide +kernel) ?_
  refine Go.lconst (n := 0) (0 : Int64) (by decide +kernel) rfl ?_
  refine Go.ldc2 (3 : Int64) lk1641 (by decide +kernel) ?_
  refine Go.cS_i (P1 := (u1 P 109 0 (0 : Int32))) (v := (f_Mo_within (a2.toInt64) (0 : Int64) (3 : Int64) (u1 P 109 0 (0 : Int32)))) (d - 1) [.long (a2.toInt64), .long (0 : Int64), .long (3 : Int64)] hE w_Mo_within (e_Mo_within hG hE (d - 1) (by omega) (a2.toInt64) (0 : Int64) (3 : Int64) (u1 P 109 0 (0 : Int32)) ⟨rfl, rfl, rfl⟩) lk1438 rfl (by omega) (Nat.le_of_ble_eq_true rfl) (by decide +kernel) _ rfl ?_
  refine Go.if_ne (off := 6) 20 (by decide +kernel) (by decide) (fun c1 => ?_) (fun c1 => ?_)
  · rw [if_neg c1] at h
    refine Go.aload_n (k := 0) (i := 0) 0 (by decide +kernel) rfl rfl ?_
    refine Go.iload_n (k := 1) (i := 1) 1 (by decide +kernel) rfl rfl ?_
    obtain ⟨v2, hv2, h⟩ := St.bind h
    refine Go.cV_i (P1 := (u1 P 109 0 (0 : Int32))) (v := v2) (d - 1) 109 [.int a1] sh109 hE w_Mo_noTray (e_Mo_noTray hG hE (d - 1) (by omega) a1 (u1 P 109 0 (0 : Int32)) ⟨_, hv2, rfl, rfl, rfl⟩) lk1642 rfl (by omega) (Nat.le_of_ble_eq_true rfl) (by decide +kernel) _ rfl ?_
    refine Go.istore_n (k := 3) (i := 3) [(3, .int v2), (0, .ref (ad E 109)), (1, .int a1), (2, .int a2)] (by decide +kernel) rfl (by decide) rfl ?_
    refine Go.iload_n (k := 3) (i := 3) 0 (by decide +kernel) rfl rfl ?_
    refine Go.if_eq (off := 5) 32 (by decide +kernel) (by decide) (fun c3 => ?_) (fun c3 => ?_)
    · rw [if_pos c3] at h
      refine Go.aload_n (k := 0) (i := 0) 1 (by decide +kernel) rfl rfl ?_
      obtain ⟨P4, hP4, h⟩ := St.bind h
      refine Go.cV_v (P1 := P4) (d - 1) 109 [] sh109 hE w_Mo_keeps (e_Mo_keeps hG hE (d - 1) (by omega) (u1 P 109 0 (0 : Int32)) ⟨_, hP4, rfl, rfl, rfl⟩) lk1599 rfl (by omega) (Nat.le_of_ble_eq_true rfl) (by decide +kernel) _ rfl ?_
      refine Go.aload_n (k := 0) (i := 0) 1 (by decide +kernel) rfl rfl ?_
      refine Go.iload_n (k := 1) (i := 1) 2 (by decide +kernel) rfl rfl ?_
      obtain ⟨v5, P6, hv5, h⟩ := St.bd2 h
      refine Go.cV_i (P1 := P6) (v := v5) (d - 1) 109 [.int a1] sh109 hE w_Mo_tells (e_Mo_tells hG hE (d - 1) (by omega) a1 P4 ⟨_, hv5, rfl, rfl, rfl⟩) lk1646 rfl (by omega) (Nat.le_of_ble_eq_true rfl) (by decide +kernel) _ rfl ?_
      refine Go.istore (i := 4) [(4, .int v5), (3, .int v2), (0, .ref (ad E 109)), (1, .int a1), (2, .int a2)] (by decide +kernel) (by decide) rfl ?_
      refine Go.aload_n (k := 0) (i := 0) 2 (by decide +kernel) rfl rfl ?_
      refine Go.get 109 1 (.ref (ad E 110)) (by decide) (by decide) sh109 (ltO hE sh109) (vlR hE rfl rfl) lk1331 (by decide +kernel) ?_
      refine Go.bipush (n := 113) (113 : Int32) (by decide +kernel) (by decide) ?_
      refine Go.iaload 110 3408 sh110 (ltA hE sh110 (by decide)) (vp_in_iff.mpr (by decide)) (by decide +kernel) ?_
      obtain ⟨y7, hy7, h⟩ := St.lb h
      refine Go.eqi y7 hy7 ?_
      refine Go.istore (i := 5) [(5, .int y7), (4, .int v5), (3, .int v2), (0, .ref (ad E 109)), (1, .int a1), (2, .int a2)] (by decide +kernel) (by decide) rfl ?_
      refine Go.aload_n (k := 0) (i := 0) 3 (by decide +kernel) rfl rfl ?_
      refine Go.get 109 1 (.ref (ad E 110)) (by decide) (by decide) sh109 (ltO hE sh109) (vlR hE rfl rfl) lk1331 (by decide +kernel) ?_
      refine Go.bipush (n := 114) (114 : Int32) (by decide +kernel) (by decide) ?_
      refine Go.iaload 110 3408 sh110 (ltA hE sh110 (by decide)) (vp_in_iff.mpr (by decide)) (by decide +kernel) ?_
      obtain ⟨y8, hy8, h⟩ := St.lb h
      refine Go.eqi y8 hy8 ?_
      refine Go.istore (i := 6) [(6, .int y8), (5, .int y7), (4, .int v5), (3, .int v2), (0, .ref (ad E 109)), (1, .int a1), (2, .int a2)] (by decide +kernel) (by decide) rfl ?_
      refine Go.aload_n (k := 0) (i := 0) 4 (by decide +kernel) rfl rfl ?_
      obtain ⟨P9, hP9, h⟩ := St.bind h
      refine Go.cV_v (P1 := P9) (d - 1) 109 [] sh109 hE w_Mo_isAgain (e_Mo_isAgain hG hE (d - 1) (by omega) P6 ⟨_, hP9, rfl, rfl, rfl⟩) lk1663 rfl (by omega) (Nat.le_of_ble_eq_true rfl) (by decide +kernel) _ rfl ?_
      refine Go.iload_n (k := 2) (i := 2) 6 (by decide +kernel) rfl rfl ?_
      refine Go.if_ne (off := 19) 85 (by decide +kernel) (by decide) (fun c10 => ?_) (fun c10 => ?_)
      · rw [if_neg c10] at h
        refine Go.iload_n (k := 2) (i := 2) 6 (by decide +kernel) rfl rfl ?_
        refine Go.iconst (n := 1) (1 : Int32) (by decide +kernel) rfl ?_
        refine Go.icmp_ne (off := 10) 97 (by decide +kernel) (by decide) (fun c11 => ?_) (fun c11 => ?_)
        · rw [if_neg c11] at h
          refine Go.iload_n (k := 2) (i := 2) 6 (by decide +kernel) rfl rfl ?_
          refine Go.iconst (n := 2) (2 : Int32) (by decide +kernel) rfl ?_
          refine Go.icmp_ne (off := 8) 107 (by decide +kernel) (by decide) (fun c12 => ?_) (fun c12 => ?_)
          · rw [if_neg c12] at h
            refine Go.iload (i := 6) 0 (by decide +kernel) rfl ?_
            exact Go.iret rfl rfl hE.2 (by decide +kernel) (St.fIP h)
          · rw [if_pos c12] at h
            refine Go.iload (i := 5) 1 (by decide +kernel) rfl ?_
            refine Go.goto (off := 5) 109 (by decide +kernel) (by decide) ?_
            exact Go.iret rfl rfl hE.2 (by decide +kernel) (St.fIP h)
        · rw [if_pos c11] at h
          refine Go.aload_n (k := 0) (i := 0) 4 (by decide +kernel) rfl rfl ?_
          refine Go.get 109 18 (.int (P9.1 109 18)) (by decide) (by decide) sh109 (ltO hE sh109) rfl lk1348 (by decide +kernel) ?_
          refine Go.goto (off := 15) 109 (by decide +kernel) (by decide) ?_
          exact Go.iret rfl rfl hE.2 (by decide +kernel) (St.fIP h)
      · rw [if_pos c10] at h
        refine Go.aload_n (k := 0) (i := 0) 4 (by decide +kernel) rfl rfl ?_
        refine Go.get 109 18 (.int (P9.1 109 18)) (by decide) (by decide) sh109 (ltO hE sh109) rfl lk1348 (by decide +kernel) ?_
        refine Go.if_ne (off := 7) 80 (by decide +kernel) (by decide) (fun c13 => ?_) (fun c13 => ?_)
        · rw [if_neg c13] at h
          refine Go.iload (i := 4) 2 (by decide +kernel) rfl ?_
          refine Go.goto (off := 27) 109 (by decide +kernel) (by decide) ?_
          exact Go.iret rfl rfl hE.2 (by decide +kernel) (St.fIP h)
        · rw [if_pos c13] at h
          refine Go.iconst (n := -1) (-1 : Int32) (by decide +kernel) rfl ?_
          refine Go.goto (off := 32) 109 (by decide +kernel) (by decide) ?_
          exact Go.iret rfl rfl hE.2 (by decide +kernel) (St.fIP h)
    · rw [if_neg c3] at h
      refine Go.iload_n (k := 3) (i := 3) 0 (by decide +kernel) rfl rfl ?_
      exact Go.iret rfl rfl hE.2 (by decide +kernel) (St.fIP h)
  · rw [if_pos c1] at h
    refine Go.bipush (n := -2) (-2 : Int32) (by decide +kernel) (by decide) ?_
    exact Go.iret rfl rfl hE.2 (by decide +kernel) (St.fIP h)
theorem e_Mo_judge {G : GX} (hG : GOK G) {E : EV} (hE : E0 E) (d : Nat) (hd : 7 ≤ d) (a1 : Int32) (a2 : Int32) (P : PM) {Q : QT} (h : St E rIP (f_Mo_judge a1 a2 P) Q) : Con G y_Mo_judge cw_Mo_judge d nOb nOb [.ref (ad E 109), .int a1, .int a2] P E Q :=
  Con.of hG (by decide +kernel) rfl (fun h => by cases h) hE.2 (Nat.le_of_ble_eq_true rfl) (t_f_Mo_judge hG hE d hd a1 a2 P h)
abbrev c_Mo_perform : ByteArray := prog_14_method_62_code
abbrev y_Mo_perform : MethodName := ⟨"YawnRouteModel", "perform", "(I)I"⟩
abbrev cw_Mo_perform : Cond := .code y_Mo_perform c_Mo_perform 4 (some .int)
theorem w_Mo_perform : VW 12 y_Mo_perform c_Mo_perform 4 (some .int) 1 := ⟨by decide, lk1668, lk1669, lk14, lk1670, ⟨by decide, by decide, by decide +kernel⟩, by decide⟩
noncomputable def f_Mo_perform (a1 : Int32) (P : PM) : Option (Int32 × PM) := (f_Mo_noTray a1 (u1 P 109 0 (0 : Int32))).bind (fun v1 => if v1 = (0 : Int32) then ((f_Mo_keeps (u1 P 109 0 (0 : Int32))).bind (fun P3 => bd2 (f_Mo_tells a1 P3) (fun v4 P5 => if v4 ≤ (0 : Int32) then (some (v4, P5)) else ((f_Mo_notes P5).bind (fun P7 => some (v4, P7)))))) else (some (v1, (u1 P 109 0 (0 : Int32)))))
theorem t_f_Mo_perform {G : GX} (hG : GOK G) {E : EV} (hE : E0 E) (d : Nat) (hd : 7 ≤ d) {Q : QT} (a1 : Int32) (P : PM) (h : St E rIP (f_Mo_perform a1 P) Q) : Go G c_Mo_perform "YawnRouteModel" 4 (some .int) false d nOb nOb Q 0 [(0, .ref (ad E 109)), (1, .int a1)] [] P E := by
  rw [f_Mo_perform] at h
  refine Go.aload_n (k := 0) (i := 0) 0 (by decide +kernel) rfl rfl ?_
  refine Go.iconst (n := 0) (0 : Int32) (by decide +kernel) rfl ?_
  refine Go.put 109 0 (by decide) (by decide) sh109 (ltO hE sh109) (Or.inl rfl) rfl rfl rfl lk1330 (by decide +kernel) ?_
  refine Go.aload_n (k := 0) (i := 0) 0 (by decide +kernel) rfl rfl ?_
  refine Go.iload_n (k := 1) (i := 1) 1 (by decide +kernel) rfl rfl ?_
  obtain ⟨v1, hv1, h⟩ := St.bind h
  refine Go.cV_i (P1 := (u1 P 109 0 (0 : Int32))) (v := v1) (d - 1) 109 [.int a1] sh109 hE w_Mo_noTray (e_Mo_noTray hG hE (d - 1) (by omega) a1 (u1 P 109 0 (0 : Int32)) ⟨_, hv1, rfl, rfl, rfl⟩) lk1642 rfl (by omega) (Nat.le_of_ble_eq_true rfl) (by decide +kernel) _ rfl ?_
  refine Go.istore_n (k := 2) (i := 2) [(2, .int v1), (0, .ref (ad E 109)), (1, .int a1)] (by decide +kernel) rfl (by decide) rfl ?_
  refine Go.iload_n (k := 2) (i := 2) 0 (by decide +kernel) rfl rfl ?_
  refine Go.if_eq (off := 5) 17 (by decide +kernel) (by decide) (fun c2 => ?_) (fun c2 => ?_)
  · rw [if_pos c2] at h
    refine Go.aload_n (k := 0) (i := 0) 1 (by decide +kernel) rfl rfl ?_
    obtain ⟨P3, hP3, h⟩ := St.bind h
    refine Go.cV_v (P1 := P3) (d - 1) 109 [] sh109 hE w_Mo_keeps (e_Mo_keeps hG hE (d - 1) (by omega) (u1 P 109 0 (0 : Int32)) ⟨_, hP3, rfl, rfl, rfl⟩) lk1599 rfl (by omega) (Nat.le_of_ble_eq_true rfl) (by decide +kernel) _ rfl ?_
    refine Go.aload_n (k := 0) (i := 0) 1 (by decide +kernel) rfl rfl ?_
    refine Go.iload_n (k := 1) (i := 1) 2 (by decide +kernel) rfl rfl ?_
    obtain ⟨v4, P5, hv4, h⟩ := St.bd2 h
    refine Go.cV_i (P1 := P5) (v := v4) (d - 1) 109 [.int a1] sh109 hE w_Mo_tells (e_Mo_tells hG hE (d - 1) (by omega) a1 P3 ⟨_, hv4, rfl, rfl, rfl⟩) lk1646 rfl (by omega) (Nat.le_of_ble_eq_true rfl) (by decide +kernel) _ rfl ?_
    refine Go.istore_n (k := 3) (i := 3) [(3, .int v4), (2, .int v1), (0, .ref (ad E 109)), (1, .int a1)] (by decide +kernel) rfl (by decide) rfl ?_
    refine Go.iload_n (k := 3) (i := 3) 0 (by decide +kernel) rfl rfl ?_
    refine Go.if_le (off := 7) 35 (by decide +kernel) (by decide) (fun c6 => ?_) (fun c6 => ?_)
    · rw [if_pos c6] at h
      refine Go.iload_n (k := 3) (i := 3) 0 (by decide +kernel) rfl rfl ?_
      exact Go.iret rfl rfl hE.2 (by decide +kernel) (St.fIP h)
    · rw [if_neg c6] at h
      refine Go.aload_n (k := 0) (i := 0) 2 (by decide +kernel) rfl rfl ?_
      obtain ⟨P7, hP7, h⟩ := St.bind h
      refine Go.cV_v (P1 := P7) (d - 1) 109 [] sh109 hE w_Mo_notes (e_Mo_notes hG hE (d - 1) (by omega) P5 ⟨_, hP7, rfl, rfl, rfl⟩) lk1607 rfl (by omega) (Nat.le_of_ble_eq_true rfl) (by decide +kernel) _ rfl ?_
      refine Go.iload_n (k := 3) (i := 3) 0 (by decide +kernel) rfl rfl ?_
      exact Go.iret rfl rfl hE.2 (by decide +kernel) (St.fIP h)
  · rw [if_neg c2] at h
    refine Go.iload_n (k := 2) (i := 2) 0 (by decide +kernel) rfl rfl ?_
    exact Go.iret rfl rfl hE.2 (by decide +kernel) (St.fIP h)
theorem e_Mo_perform {G : GX} (hG : GOK G) {E : EV} (hE : E0 E) (d : Nat) (hd : 7 ≤ d) (a1 : Int32) (P : PM) {Q : QT} (h : St E rIP (f_Mo_perform a1 P) Q) : Con G y_Mo_perform cw_Mo_perform d nOb nOb [.ref (ad E 109), .int a1] P E Q :=
  Con.of hG (by decide +kernel) rfl (fun h => by cases h) hE.2 (Nat.le_of_ble_eq_true rfl) (t_f_Mo_perform hG hE d hd a1 P h)
abbrev c_Mo_draw : ByteArray := prog_14_method_63_code
abbrev y_Mo_draw : MethodName := ⟨"YawnRouteModel", "draw", "(I)I"⟩
abbrev cw_Mo_draw : Cond := .code y_Mo_draw c_Mo_draw 2 (some .int)
theorem w_Mo_draw : VW 12 y_Mo_draw c_Mo_draw 2 (some .int) 1 := ⟨by decide, lk1681, lp86_, lk14, lk1682, ⟨by decide, by decide, by decide +kernel⟩, by decide⟩
noncomputable def f_Mo_draw (a1 : Int32) (P : PM) : Option (Int32 × PM) := ck (decide (¬ a1 = 0)) (some ((((((u1 P 109 19 (((1103515245 : Int32) * (P.1 109 19)) + (12345 : Int32))).1 109 19).toUInt32 >>> ((16 : Int32).toUInt32 &&& Int32.toUInt32 31)).toInt32) - ((((u1 P 109 19 (((1103515245 : Int32) * (P.1 109 19)) + (12345 : Int32))).1 109 19).toUInt32 >>> ((16 : Int32).toUInt32 &&& Int32.toUInt32 31)).toInt32) / a1 * a1), (u1 P 109 19 (((1103515245 : Int32) * (P.1 109 19)) + (12345 : Int32)))))
theorem t_f_Mo_draw {G : GX} (hG : GOK G) {E : EV} (hE : E0 E) (d : Nat) (hd : 1 ≤ d) {Q : QT} (a1 : Int32) (P : PM) (h : St E rIP (f_Mo_draw a1 P) Q) : Go G c_Mo_draw "YawnRouteModel" 2 (some .int) false d nOb nOb Q 0 [(0, .ref (ad E 109)), (1, .int a1)] [] P E := by
  rw [f_Mo_draw] at h
  refine Go.aload_n (k := 0) (i := 0) 0 (by decide +kernel) rfl rfl ?_
  refine Go.ldcw (1103515245 : Int32) lk1683 (by decide +kernel) ?_
  refine Go.aload_n (k := 0) (i := 0) 0 (by decide +kernel) rfl rfl ?_
  refine Go.get 109 19 (.int (P.1 109 19)) (by decide) (by decide) sh109 (ltO hE sh109) rfl lk1349 (by decide +kernel) ?_
  refine Go.imul (by decide +kernel) ?_
  refine Go.sipush (n := 12345) (12345 : Int32) (by decide +kernel) (by decide) ?_
  refine Go.iadd (by decide +kernel) ?_
  refine Go.put 109 19 (by decide) (by decide) sh109 (ltO hE sh109) (Or.inl rfl) rfl rfl rfl lk1349 (by decide +kernel) ?_
  refine Go.aload_n (k := 0) (i := 0) 0 (by decide +kernel) rfl rfl ?_
  refine Go.get 109 19 (.int ((u1 P 109 19 (((1103515245 : Int32) * (P.1 109 19)) + (12345 : Int32))).1 109 19)) (by decide) (by decide) sh109 (ltO hE sh109) rfl lk1349 (by decide +kernel) ?_
  refine Go.bipush (n := 16) (16 : Int32) (by decide +kernel) (by decide) ?_
  refine Go.iushr (by decide +kernel) ?_
  refine Go.iload_n (k := 1) (i := 1) 1 (by decide +kernel) rfl rfl ?_
  obtain ⟨b1, h⟩ := St.ck h
  refine Go.irem (by decide +kernel) (of_decide_eq_true b1) ?_
  exact Go.iret rfl rfl hE.2 (by decide +kernel) (St.fIP h)
theorem e_Mo_draw {G : GX} (hG : GOK G) {E : EV} (hE : E0 E) (d : Nat) (hd : 1 ≤ d) (a1 : Int32) (P : PM) {Q : QT} (h : St E rIP (f_Mo_draw a1 P) Q) : Con G y_Mo_draw cw_Mo_draw d nOb nOb [.ref (ad E 109), .int a1] P E Q :=
  Con.of hG (by decide +kernel) rfl (fun h => by cases h) hE.2 (Nat.le_of_ble_eq_true rfl) (t_f_Mo_draw hG hE d hd a1 P h)
