/-! methods as functions, by program: Mo_drawn Mo_season Mo_standOf Mo_standNow Mo_laysThen Mo_routed Mo_laysReached -/
abbrev c_Mo_drawn : ByteArray := prog_14_method_64_code
abbrev y_Mo_drawn : MethodName := ⟨"YawnRouteModel", "drawn", "()I"⟩
abbrev cw_Mo_drawn : Cond := .code y_Mo_drawn c_Mo_drawn 3 (some .int)
theorem w_Mo_drawn : VW 12 y_Mo_drawn c_Mo_drawn 3 (some .int) 0 := ⟨by decide, lk1677, lp85_, lk14, lk1678, ⟨by decide, by decide, by decide +kernel⟩, by decide⟩
noncomputable def f_Mo_drawn (P : PM) : Option (Int32 × PM) := bd2 (f_Mo_draw (6 : Int32) P) (fun v1 P2 => bd2 (f_Mo_draw (7 : Int32) P2) (fun v3 P4 => if (3 : Int32) ≤ v1 then (if v1 = (3 : Int32) then (some (((10 : Int32) + v3), P4)) else (if v1 = (4 : Int32) then (bd2 (f_Mo_draw (10 : Int32) P4) (fun v10 P11 => some ((((100 : Int32) + ((10 : Int32) * v3)) + v10), P11))) else (bd2 (f_Mo_draw (9 : Int32) P4) (fun v8 P9 => some ((((1001 : Int32) + ((100 : Int32) * v3)) + v8), P9))))) else (some (v3, P4))))
theorem t_f_Mo_drawn {G : GX} (hG : GOK G) {E : EV} (hE : E0 E) (d : Nat) (hd : 2 ≤ d) {Q : QT} (P : PM) (h : St E rIP (f_Mo_drawn P) Q) : Go G c_Mo_drawn "YawnRouteModel" 3 (some .int) false d nOb nOb Q 0 [(0, .ref (ad E 109))] [] P E := by
  rw [f_Mo_drawn] at h
  refine Go.aload_n (k := 0) (i := 0) 0 (by decide +kernel) rfl rfl ?_
  refine Go.bipush (n := 6) (6 : Int32) (by decide +kernel) (by decide) ?_
  obtain ⟨v1, P2, hv1, h⟩ := St.bd2 h
  refine Go.cV_i (P1 := P2) (v := v1) (d - 1) 109 [.int (6 : Int32)] sh109 hE w_Mo_draw (e_Mo_draw hG hE (d - 1) (by omega) (6 : Int32) P ⟨_, hv1, rfl, rfl, rfl⟩) lk1679 rfl (by omega) (Nat.le_of_ble_eq_true rfl) (by decide +kernel) _ rfl ?_
  refine Go.istore_n (k := 1) (i := 1) [(1, .int v1), (0, .ref (ad E 109))] (by decide +kernel) rfl (by decide) rfl ?_
  refine Go.aload_n (k := 0) (i := 0) 1 (by decide +kernel) rfl rfl ?_
  refine Go.bipush (n := 7) (7 : Int32) (by decide +kernel) (by decide) ?_
  obtain ⟨v3, P4, hv3, h⟩ := St.bd2 h
  refine Go.cV_i (P1 := P4) (v := v3) (d - 1) 109 [.int (7 : Int32)] sh109 hE w_Mo_draw (e_Mo_draw hG hE (d - 1) (by omega) (7 : Int32) P2 ⟨_, hv3, rfl, rfl, rfl⟩) lk1679 rfl (by omega) (Nat.le_of_ble_eq_true rfl) (by decide +kernel) _ rfl ?_
  refine Go.istore_n (k := 2) (i := 2) [(2, .int v3), (1, .int v1), (0, .ref (ad E 109))] (by decide +kernel) rfl (by decide) rfl ?_
  refine Go.iload_n (k := 1) (i := 1) 1 (by decide +kernel) rfl rfl ?_
  refine Go.iconst (n := 3) (3 : Int32) (by decide +kernel) rfl ?_
  refine Go.icmp_ge (off := 7) 23 (by decide +kernel) (by decide) (fun c5 => ?_) (fun c5 => ?_)
  · rw [if_pos c5] at h
    refine Go.iload_n (k := 1) (i := 1) 1 (by decide +kernel) rfl rfl ?_
    refine Go.iconst (n := 3) (3 : Int32) (by decide +kernel) rfl ?_
    refine Go.icmp_ne (off := 10) 35 (by decide +kernel) (by decide) (fun c6 => ?_) (fun c6 => ?_)
    · rw [if_neg c6] at h
      refine Go.iload_n (k := 1) (i := 1) 1 (by decide +kernel) rfl rfl ?_
      refine Go.iconst (n := 4) (4 : Int32) (by decide +kernel) rfl ?_
      refine Go.icmp_ne (off := 20) 57 (by decide +kernel) (by decide) (fun c7 => ?_) (fun c7 => ?_)
      · rw [if_neg c7] at h
        refine Go.sipush (n := 1001) (1001 : Int32) (by decide +kernel) (by decide) ?_
        refine Go.bipush (n := 100) (100 : Int32) (by decide +kernel) (by decide) ?_
        refine Go.iload_n (k := 2) (i := 2) 0 (by decide +kernel) rfl rfl ?_
        refine Go.imul (by decide +kernel) ?_
        refine Go.iadd (by decide +kernel) ?_
        refine Go.aload_n (k := 0) (i := 0) 2 (by decide +kernel) rfl rfl ?_
        refine Go.bipush (n := 9) (9 : Int32) (by decide +kernel) (by decide) ?_
        obtain ⟨v8, P9, hv8, h⟩ := St.bd2 h
        refine Go.cV_i (P1 := P9) (v := v8) (d - 1) 109 [.int (9 : Int32)] sh109 hE w_Mo_draw (e_Mo_draw hG hE (d - 1) (by omega) (9 : Int32) P4 ⟨_, hv8, rfl, rfl, rfl⟩) lk1679 rfl (by omega) (Nat.le_of_ble_eq_true rfl) (by decide +kernel) _ rfl ?_
        refine Go.iadd (by decide +kernel) ?_
        exact Go.iret rfl rfl hE.2 (by decide +kernel) (St.fIP h)
      · rw [if_pos c7] at h
        refine Go.bipush (n := 100) (100 : Int32) (by decide +kernel) (by decide) ?_
        refine Go.bipush (n := 10) (10 : Int32) (by decide +kernel) (by decide) ?_
        refine Go.iload_n (k := 2) (i := 2) 0 (by decide +kernel) rfl rfl ?_
        refine Go.imul (by decide +kernel) ?_
        refine Go.iadd (by decide +kernel) ?_
        refine Go.aload_n (k := 0) (i := 0) 2 (by decide +kernel) rfl rfl ?_
        refine Go.bipush (n := 10) (10 : Int32) (by decide +kernel) (by decide) ?_
        obtain ⟨v10, P11, hv10, h⟩ := St.bd2 h
        refine Go.cV_i (P1 := P11) (v := v10) (d - 1) 109 [.int (10 : Int32)] sh109 hE w_Mo_draw (e_Mo_draw hG hE (d - 1) (by omega) (10 : Int32) P4 ⟨_, hv10, rfl, rfl, rfl⟩) lk1679 rfl (by omega) (Nat.le_of_ble_eq_true rfl) (by decide +kernel) _ rfl ?_
        refine Go.iadd (by decide +kernel) ?_
        refine Go.goto (off := 18) 72 (by decide +kernel) (by decide) ?_
        exact Go.iret rfl rfl hE.2 (by decide +kernel) (St.fIP h)
    · rw [if_pos c6] at h
      refine Go.bipush (n := 10) (10 : Int32) (by decide +kernel) (by decide) ?_
      refine Go.iload_n (k := 2) (i := 2) 0 (by decide +kernel) rfl rfl ?_
      refine Go.iadd (by decide +kernel) ?_
      refine Go.goto (off := 40) 72 (by decide +kernel) (by decide) ?_
      exact Go.iret rfl rfl hE.2 (by decide +kernel) (St.fIP h)
  · rw [if_neg c5] at h
    refine Go.iload_n (k := 2) (i := 2) 0 (by decide +kernel) rfl rfl ?_
    refine Go.goto (off := 52) 72 (by decide +kernel) (by decide) ?_
    exact Go.iret rfl rfl hE.2 (by decide +kernel) (St.fIP h)
theorem e_Mo_drawn {G : GX} (hG : GOK G) {E : EV} (hE : E0 E) (d : Nat) (hd : 2 ≤ d) (P : PM) {Q : QT} (h : St E rIP (f_Mo_drawn P) Q) : Con G y_Mo_drawn cw_Mo_drawn d nOb nOb [.ref (ad E 109)] P E Q :=
  Con.of hG (by decide +kernel) rfl (fun h => by cases h) hE.2 (Nat.le_of_ble_eq_true rfl) (t_f_Mo_drawn hG hE d hd P h)
abbrev c_Mo_season : ByteArray := prog_14_method_65_code
abbrev y_Mo_season : MethodName := ⟨"YawnRouteModel", "season", "(II)I"⟩
abbrev cw_Mo_season : Cond := .code y_Mo_season c_Mo_season 6 (some .int)
theorem w_Mo_season : VW 12 y_Mo_season c_Mo_season 6 (some .int) 2 := ⟨by decide, lk1672, lk1673, lk14, lk1674, ⟨by decide, by decide, by decide +kernel⟩, by decide⟩
noncomputable def j_Mo_season_68 (k34 : Int32 → Int32 → Int32 → PM → Option (Int32 × PM)) (x2 : Int32) (x3 : Int32) (x4 : Int32) (P : PM) : Option (Int32 × PM) := k34 x2 x3 (x4 + (1 : Int32)) P
noncomputable def l_Mo_season_34 : Nat → Int32 → Int32 → Int32 → PM → Option (Int32 × PM)
  | 0, _, _, _, _ => none
  | n + 1, x2, x3, x4, P => if x2 ≤ x4 then (if x3 ≤ (0 : Int32) then (some (x3, P)) else ((f_Mo_notes P).bind (fun P3 => some (x3, P3)))) else (bd2 (f_Mo_drawn P) (fun v4 P5 => bd2 (f_Mo_whyNot (v4.toInt64) P5) (fun v6 P7 => if v6 = (0 : Int32) then ((f_Mo_does v4 P7).bind (fun P9 => j_Mo_season_68 (fun z0 z1 z2 Pz => l_Mo_season_34 n z0 z1 z2 Pz) x2 (x3 + (1 : Int32)) x4 P9)) else (j_Mo_season_68 (fun z0 z1 z2 Pz => l_Mo_season_34 n z0 z1 z2 Pz) x2 x3 x4 P7))))
noncomputable def f_Mo_season (a1 : Int32) (a2 : Int32) (P : PM) : Option (Int32 × PM) := if (f_Mo_within (a2.toInt64) (1 : Int64) (40 : Int64) (u1 P 109 0 (0 : Int32))) = (0 : Int32) then (some ((-3 : Int32), (u1 P 109 0 (0 : Int32)))) else ((f_Mo_keeps (u1 P 109 0 (0 : Int32))).bind (fun P2 => l_Mo_season_34 FU a2 (0 : Int32) (0 : Int32) (u1 P2 109 19 a1)))
theorem t_j_Mo_season_68 {G : GX} (hG : GOK G) {E : EV} (hE : E0 E) (d : Nat) (hd : 6 ≤ d) {Q : QT} (k34 : Int32 → Int32 → Int32 → PM → Option (Int32 × PM)) (hk34 : ∀ (x2 : Int32) (x3 : Int32) (x4 : Int32) (P : PM), St E rIP (k34 x2 x3 x4 P) Q → Go G c_Mo_season "YawnRouteModel" 6 (some .int) false d nOb nOb Q 34 [(0, .ref (ad E 109)), (2, .int x2), (3, .int x3), (4, .int x4)] [] P E) (x2 : Int32) (x3 : Int32) (x4 : Int32) (P : PM) (h : St E rIP (j_Mo_season_68 k34 x2 x3 x4 P) Q) : Go G c_Mo_season "YawnRouteModel" 6 (some .int) false d nOb nOb Q 68 [(0, .ref (ad E 109)), (2, .int x2), (3, .int x3), (4, .int x4)] [] P E := by
  rw [j_Mo_season_68] at h
  refine Go.iinc (i := 4) (n := 1) 3 (x4 + (1 : Int32)) [(4, .int (x4 + (1 : Int32))), (0, .ref (ad E 109)), (2, .int x2), (3, .int x3)] (by decide +kernel) rfl rfl (by decide) rfl ?_
  refine Go.goto (off := -37) 34 (by decide +kernel) (by decide) ?_
  refine Go.sub [1, 2, 3, 0] [(0, .ref (ad E 109)), (2, .int x2), (3, .int x3), (4, .int (x4 + (1 : Int32)))] rfl ?_
  exact hk34 x2 x3 (x4 + (1 : Int32)) P h
theorem t_l_Mo_season_34 {G : GX} (hG : GOK G) {E : EV} (hE : E0 E) (d : Nat) (hd : 6 ≤ d) {Q : QT} : ∀ (n : Nat) (x2 : Int32) (x3 : Int32) (x4 : Int32) (P : PM), St E rIP (l_Mo_season_34 n x2 x3 x4 P) Q → Go G c_Mo_season "YawnRouteModel" 6 (some .int) false d nOb nOb Q 34 [(0, .ref (ad E 109)), (2, .int x2), (3, .int x3), (4, .int x4)] [] P E := by
  intro n
  induction n with
  | zero =>
    intro x2 x3 x4 P h
    rw [l_Mo_season_34] at h
    exact St.none_ h
  | succ n ih =>
    intro x2 x3 x4 P h
    rw [l_Mo_season_34] at h
    refine Go.iload (i := 4) 3 (by decide +kernel) rfl ?_
    refine Go.iload_n (k := 2) (i := 2) 1 (by decide +kernel) rfl rfl ?_
    refine Go.icmp_ge (off := 37) 74 (by decide +kernel) (by decide) (fun c1 => ?_) (fun c1 => ?_)
    · rw [if_pos c1] at h
      refine Go.iload_n (k := 3) (i := 3) 2 (by decide +kernel) rfl rfl ?_
      refine Go.if_le (off := 7) 82 (by decide +kernel) (by decide) (fun c2 => ?_) (fun c2 => ?_)
      · rw [if_pos c2] at h
        refine Go.iload_n (k := 3) (i := 3) 2 (by decide +kernel) rfl rfl ?_
        exact Go.iret rfl rfl hE.2 (by decide +kernel) (St.fIP h)
      · rw [if_neg c2] at h
        refine Go.aload_n (k := 0) (i := 0) 0 (by decide +kernel) rfl rfl ?_
        obtain ⟨P3, hP3, h⟩ := St.bind h
        refine Go.cV_v (P1 := P3) (d - 1) 109 [] sh109 hE w_Mo_notes (e_Mo_notes hG hE (d - 1) (by omega) P ⟨_, hP3, rfl, rfl, rfl⟩) lk1607 rfl (by omega) (Nat.le_of_ble_eq_true rfl) (by decide +kernel) _ rfl ?_
        refine Go.iload_n (k := 3) (i := 3) 2 (by decide +kernel) rfl rfl ?_
        exact Go.iret rfl rfl hE.2 (by decide +kernel) (St.fIP h)
    · rw [if_neg c1] at h
      refine Go.aload_n (k := 0) (i := 0) 0 (by decide +kernel) rfl rfl ?_
      obtain ⟨v4, P5, hv4, h⟩ := St.bd2 h
      refine Go.cV_i (P1 := P5) (v := v4) (d - 1) 109 [] sh109 hE w_Mo_drawn (e_Mo_drawn hG hE (d - 1) (by omega) P ⟨_, hv4, rfl, rfl, rfl⟩) lk1675 rfl (by omega) (Nat.le_of_ble_eq_true rfl) (by decide +kernel) _ rfl ?_
      refine Go.istore (i := 5) [(5, .int v4), (0, .ref (ad E 109)), (2, .int x2), (3, .int x3), (4, .int x4)] (by decide +kernel) (by decide) rfl ?_
      refine Go.aload_n (k := 0) (i := 0) 1 (by decide +kernel) rfl rfl ?_
      refine Go.iload (i := 5) 0 (by decide +kernel) rfl ?_
      refine Go.i2l (by decide +kernel) ?_
      obtain ⟨v6, P7, hv6, h⟩ := St.bd2 h
      refine Go.cV_i (P1 := P7) (v := v6) (d - 1) 109 [.long (v4.toInt64)] sh109 hE w_Mo_whyNot (e_Mo_whyNot hG hE (d - 1) (by omega) (v4.toInt64) P5 ⟨_, hv6, rfl, rfl, rfl⟩) lk1650 rfl (by omega) (Nat.le_of_ble_eq_true rfl) (by decide +kernel) _ rfl ?_
      refine Go.if_eq (off := 6) 59 (by decide +kernel) (by decide) (fun c8 => ?_) (fun c8 => ?_)
      · rw [if_pos c8] at h
        refine Go.aload_n (k := 0) (i := 0) 1 (by decide +kernel) rfl rfl ?_
        refine Go.iload (i := 5) 0 (by decide +kernel) rfl ?_
        obtain ⟨P9, hP9, h⟩ := St.bind h
        refine Go.cV_v (P1 := P9) (d - 1) 109 [.int v4] sh109 hE w_Mo_does (e_Mo_does hG hE (d - 1) (by omega) v4 P7 ⟨_, hP9, rfl, rfl, rfl⟩) lk1659 rfl (by omega) (Nat.le_of_ble_eq_true rfl) (by decide +kernel) _ rfl ?_
        refine Go.iinc (i := 3) (n := 1) 3 (x3 + (1 : Int32)) [(3, .int (x3 + (1 : Int32))), (5, .int v4), (0, .ref (ad E 109)), (2, .int x2), (4, .int x4)] (by decide +kernel) rfl rfl (by decide) rfl ?_
        refine Go.sub [2, 3, 0, 4] [(0, .ref (ad E 109)), (2, .int x2), (3, .int (x3 + (1 : Int32))), (4, .int x4)] rfl ?_
        exact t_j_Mo_season_68 hG hE d hd (fun z0 z1 z2 Pz => l_Mo_season_34 n z0 z1 z2 Pz) (fun z0 z1 z2 Pz q => ih z0 z1 z2 Pz q) x2 (x3 + (1 : Int32)) x4 P9 h
      · rw [if_neg c8] at h
        refine Go.goto (off := 12) 68 (by decide +kernel) (by decide) ?_
        refine Go.sub [1, 2, 3, 4] [(0, .ref (ad E 109)), (2, .int x2), (3, .int x3), (4, .int x4)] rfl ?_
        exact t_j_Mo_season_68 hG hE d hd (fun z0 z1 z2 Pz => l_Mo_season_34 n z0 z1 z2 Pz) (fun z0 z1 z2 Pz q => ih z0 z1 z2 Pz q) x2 x3 x4 P7 h
theorem t_f_Mo_season {G : GX} (hG : GOK G) {E : EV} (hE : E0 E) (d : Nat) (hd : 6 ≤ d) {Q : QT} (a1 : Int32) (a2 : Int32) (P : PM) (h : St E rIP (f_Mo_season a1 a2 P) Q) : Go G c_Mo_season "YawnRouteModel" 6 (some .int) false d nOb nOb Q 0 [(0, .ref (ad E 109)), (1, .int a1), (2, .int a2)] [] P E := by
  rw [f_Mo_season] at h
  refine Go.aload_n (k := 0) (i := 0) 0 (by decide +kernel) rfl rfl ?_
  refine Go.iconst (n := 0) (0 : Int32) (by decide +kernel) rfl ?_
  refine Go.put 109 0 (by decide) (by decide) sh109 (ltO hE sh109) (Or.inl rfl) rfl rfl rfl lk1330 (by decide +kernel) ?_
  refine Go.iload_n (k := 2) (i := 2) 2 (by decide +kernel) rfl rfl ?_
  refine Go.i2l (by decide +kernel) ?_
  refine Go.lconst (n := 1) (1 : Int64) (by decide +kernel) rfl ?_
  refine Go.ldc2 (40 : Int64) lk1618 (by decide +kernel) ?_
  refine Go.cS_i (P1 := (u1 P 109 0 (0 : Int32))) (v := (f_Mo_within (a2.toInt64) (1 : Int64) (40 : Int64) (u1 P 109 0 (0 : Int32)))) (d - 1) [.long (a2.toInt64), .long (1 : Int64), .long (40 : Int64)] hE w_Mo_within (e_Mo_within hG hE (d - 1) (by omega) (a2.toInt64) (1 : Int64) (40 : Int64) (u1 P 109 0 (0 : Int32)) ⟨rfl, rfl, rfl⟩) lk1438 rfl (by omega) (Nat.le_of_ble_eq_true rfl) (by decide +kernel) _ rfl ?_
  refine Go.if_ne (off := 6) 20 (by decide +kernel) (by decide) (fun c1 => ?_) (fun c1 => ?_)
  · rw [if_neg c1] at h
    refine Go.aload_n (k := 0) (i := 0) 0 (by decide +kernel) rfl rfl ?_
    obtain ⟨P2, hP2, h⟩ := St.bind h
    refine Go.cV_v (P1 := P2) (d - 1) 109 [] sh109 hE w_Mo_keeps (e_Mo_keeps hG hE (d - 1) (by omega) (u1 P 109 0 (0 : Int32)) ⟨_, hP2, rfl, rfl, rfl⟩) lk1599 rfl (by omega) (Nat.le_of_ble_eq_true rfl) (by decide +kernel) _ rfl ?_
    refine Go.aload_n (k := 0) (i := 0) 0 (by decide +kernel) rfl rfl ?_
    refine Go.iload_n (k := 1) (i := 1) 1 (by decide +kernel) rfl rfl ?_
    refine Go.put 109 19 (by decide) (by decide) sh109 (ltO hE sh109) (Or.inl rfl) rfl rfl rfl lk1349 (by decide +kernel) ?_
    refine Go.iconst (n := 0) (0 : Int32) (by decide +kernel) rfl ?_
    refine Go.istore_n (k := 3) (i := 3) [(3, .int (0 : Int32)), (0, .ref (ad E 109)), (1, .int a1), (2, .int a2)] (by decide +kernel) rfl (by decide) rfl ?_
    refine Go.iconst (n := 0) (0 : Int32) (by decide +kernel) rfl ?_
    refine Go.istore (i := 4) [(4, .int (0 : Int32)), (3, .int (0 : Int32)), (0, .ref (ad E 109)), (1, .int a1), (2, .int a2)] (by decide +kernel) (by decide) rfl ?_
    refine Go.sub [2, 4, 1, 0] [(0, .ref (ad E 109)), (2, .int a2), (3, .int (0 : Int32)), (4, .int (0 : Int32))] rfl ?_
    exact t_l_Mo_season_34 hG hE d hd FU a2 (0 : Int32) (0 : Int32) (u1 P2 109 19 a1) h
  · rw [if_pos c1] at h
    refine Go.bipush (n := -3) (-3 : Int32) (by decide +kernel) (by decide) ?_
    exact Go.iret rfl rfl hE.2 (by decide +kernel) (St.fIP h)
theorem e_Mo_season {G : GX} (hG : GOK G) {E : EV} (hE : E0 E) (d : Nat) (hd : 6 ≤ d) (a1 : Int32) (a2 : Int32) (P : PM) {Q : QT} (h : St E rIP (f_Mo_season a1 a2 P) Q) : Con G y_Mo_season cw_Mo_season d nOb nOb [.ref (ad E 109), .int a1, .int a2] P E Q :=
  Con.of hG (by decide +kernel) rfl (fun h => by cases h) hE.2 (Nat.le_of_ble_eq_true rfl) (t_f_Mo_season hG hE d hd a1 a2 P h)
abbrev c_Mo_standOf : ByteArray := prog_14_method_66_code
abbrev y_Mo_standOf : MethodName := ⟨"YawnRouteModel", "standOf", "(II)I"⟩
abbrev cw_Mo_standOf : Cond := .code y_Mo_standOf c_Mo_standOf 2 (some .int)
theorem w_Mo_standOf : SW y_Mo_standOf c_Mo_standOf 2 (some .int) 2 := ⟨lk1705, lk14, lk1706, ⟨by decide, by decide, by decide +kernel⟩, by decide⟩
noncomputable def f_Mo_standOf (a0 : Int32) (a1 : Int32) (P : PM) : Int32 := (((41 : Int32) * a0) + a1)
theorem t_f_Mo_standOf {G : GX} (hG : GOK G) {E : EV} (hE : E0 E) (d : Nat) (hd : 1 ≤ d) {P : PM} {Q : QT} (a0 : Int32) (a1 : Int32) (h : Q (some (.int (f_Mo_standOf a0 a1 P))) P E) : Go G c_Mo_standOf "YawnRouteModel" 2 (some .int) false d nOb nOb Q 0 [(0, .int a0), (1, .int a1)] [] P E := by
  rw [f_Mo_standOf] at h
  refine Go.bipush (n := 41) (41 : Int32) (by decide +kernel) (by decide) ?_
  refine Go.iload_n (k := 0) (i := 0) 0 (by decide +kernel) rfl rfl ?_
  refine Go.imul (by decide +kernel) ?_
  refine Go.iload_n (k := 1) (i := 1) 1 (by decide +kernel) rfl rfl ?_
  refine Go.iadd (by decide +kernel) ?_
  exact Go.iret rfl rfl hE.2 (by decide +kernel) h
theorem e_Mo_standOf {G : GX} (hG : GOK G) {E : EV} (hE : E0 E) (d : Nat) (hd : 1 ≤ d) (a0 : Int32) (a1 : Int32) (P : PM) {Q : QT} (h : Q (some (.int (f_Mo_standOf a0 a1 P))) P E) : Con G y_Mo_standOf cw_Mo_standOf d nOb nOb [.int a0, .int a1] P E Q :=
  Con.of hG (by decide +kernel) rfl (fun h => by cases h) hE.2 (Nat.le_of_ble_eq_true rfl) (t_f_Mo_standOf hG hE d hd a0 a1 h)
abbrev c_Mo_standNow : ByteArray := prog_14_method_67_code
abbrev y_Mo_standNow : MethodName := ⟨"YawnRouteModel", "standNow", "()I"⟩
abbrev cw_Mo_standNow : Cond := .code y_Mo_standNow c_Mo_standNow 1 (some .int)
theorem w_Mo_standNow : VW 12 y_Mo_standNow c_Mo_standNow 1 (some .int) 0 := ⟨by decide, lk1722, lp94_, lk14, lk1723, ⟨by decide, by decide, by decide +kernel⟩, by decide⟩
noncomputable def f_Mo_standNow (P : PM) : Int32 := (f_Mo_standOf (P.1 110 (113 : Int32).toNatClampNeg) (P.1 110 (114 : Int32).toNatClampNeg) P)
theorem t_f_Mo_standNow {G : GX} (hG : GOK G) {E : EV} (hE : E0 E) (d : Nat) (hd : 2 ≤ d) {P : PM} {Q : QT} (h : Q (some (.int (f_Mo_standNow P))) P E) : Go G c_Mo_standNow "YawnRouteModel" 1 (some .int) false d nOb nOb Q 0 [(0, .ref (ad E 109))] [] P E := by
  rw [f_Mo_standNow] at h
  refine Go.aload_n (k := 0) (i := 0) 0 (by decide +kernel) rfl rfl ?_
  refine Go.get 109 1 (.ref (ad E 110)) (by decide) (by decide) sh109 (ltO hE sh109) (vlR hE rfl rfl) lk1331 (by decide +kernel) ?_
  refine Go.bipush (n := 113) (113 : Int32) (by decide +kernel) (by decide) ?_
  refine Go.iaload 110 3408 sh110 (ltA hE sh110 (by decide)) (vp_in_iff.mpr (by decide)) (by decide +kernel) ?_
  refine Go.aload_n (k := 0) (i := 0) 0 (by decide +kernel) rfl rfl ?_
  refine Go.get 109 1 (.ref (ad E 110)) (by decide) (by decide) sh109 (ltO hE sh109) (vlR hE rfl rfl) lk1331 (by decide +kernel) ?_
  refine Go.bipush (n := 114) (114 : Int32) (by decide +kernel) (by decide) ?_
  refine Go.iaload 110 3408 sh110 (ltA hE sh110 (by decide)) (vp_in_iff.mpr (by decide)) (by decide +kernel) ?_
  refine Go.cS_i (P1 := P) (v := (f_Mo_standOf (P.1 110 (113 : Int32).toNatClampNeg) (P.1 110 (114 : Int32).toNatClampNeg) P)) (d - 1) [.int (P.1 110 (113 : Int32).toNatClampNeg), .int (P.1 110 (114 : Int32).toNatClampNeg)] hE w_Mo_standOf (e_Mo_standOf hG hE (d - 1) (by omega) (P.1 110 (113 : Int32).toNatClampNeg) (P.1 110 (114 : Int32).toNatClampNeg) P ⟨rfl, rfl, rfl⟩) lk1704 rfl (by omega) (Nat.le_of_ble_eq_true rfl) (by decide +kernel) _ rfl ?_
  exact Go.iret rfl rfl hE.2 (by decide +kernel) h
theorem e_Mo_standNow {G : GX} (hG : GOK G) {E : EV} (hE : E0 E) (d : Nat) (hd : 2 ≤ d) (P : PM) {Q : QT} (h : Q (some (.int (f_Mo_standNow P))) P E) : Con G y_Mo_standNow cw_Mo_standNow d nOb nOb [.ref (ad E 109)] P E Q :=
  Con.of hG (by decide +kernel) rfl (fun h => by cases h) hE.2 (Nat.le_of_ble_eq_true rfl) (t_f_Mo_standNow hG hE d hd h)
abbrev c_Mo_laysThen : ByteArray := prog_14_method_68_code
abbrev y_Mo_laysThen : MethodName := ⟨"YawnRouteModel", "laysThen", "(I)V"⟩
abbrev cw_Mo_laysThen : Cond := .code y_Mo_laysThen c_Mo_laysThen 6 none
theorem w_Mo_laysThen : VW 12 y_Mo_laysThen c_Mo_laysThen 6 none 1 := ⟨by decide, lk1702, lp90_, lk14, lk1703, ⟨by decide, by decide, by decide +kernel⟩, by decide⟩
noncomputable def j_Mo_laysThen_110 (k2 : Int32 → Int32 → PM → Option PM) (k17 : Int32 → Int32 → Int32 → Int32 → PM → Option PM) (x1 : Int32) (x2 : Int32) (x3 : Int32) (x4 : Int32) (s1 : Int32) (s2 : Int32) (P : PM) : Option PM := ck (inb s1 2009) (k17 x1 x2 x3 (x4 + (1 : Int32)) (u1 P 117 s1.toNatClampNeg s2))
noncomputable def j_Mo_laysThen_72 (k2 : Int32 → Int32 → PM → Option PM) (k17 : Int32 → Int32 → Int32 → Int32 → PM → Option PM) (x1 : Int32) (x2 : Int32) (x3 : Int32) (x4 : Int32) (s0 : Int32) (P : PM) : Option PM := if s0 = (0 : Int32) then (j_Mo_laysThen_110 k2 k17 x1 x2 x3 x4 (((7 : Int32) * x2) + x4) (-1 : Int32) P) else (bd2 (f_Mo_passedTo x3 (x2 - x2 / (41 : Int32) * (41 : Int32)) x4 P) (fun v2 P3 => j_Mo_laysThen_110 k2 k17 x1 x2 x3 x4 (((7 : Int32) * x2) + x4) (f_Mo_standOf x4 v2 P3) P3))
noncomputable def j_Mo_laysThen_71 (k2 : Int32 → Int32 → PM → Option PM) (k17 : Int32 → Int32 → Int32 → Int32 → PM → Option PM) (x1 : Int32) (x2 : Int32) (x3 : Int32) (x4 : Int32) (P : PM) : Option PM := j_Mo_laysThen_72 k2 k17 x1 x2 x3 x4 (0 : Int32) P
noncomputable def l_Mo_laysThen_17 (k2 : Int32 → Int32 → PM → Option PM) : Nat → Int32 → Int32 → Int32 → Int32 → PM → Option PM
  | 0, _, _, _, _, _ => none
  | n + 1, x1, x2, x3, x4, P => if (7 : Int32) ≤ x4 then (k2 x1 (x2 + (1 : Int32)) P) else (if (P.1 110 (1 : Int32).toNatClampNeg) ≤ x3 then (j_Mo_laysThen_71 k2 (fun z0 z1 z2 z3 Pz => l_Mo_laysThen_17 k2 n z0 z1 z2 z3 Pz) x1 x2 x3 x4 P) else (if (P.1 110 (1 : Int32).toNatClampNeg) ≤ x4 then (j_Mo_laysThen_71 k2 (fun z0 z1 z2 z3 Pz => l_Mo_laysThen_17 k2 n z0 z1 z2 z3 Pz) x1 x2 x3 x4 P) else (if (x2 - x2 / (41 : Int32) * (41 : Int32)) ≤ (0 : Int32) then (j_Mo_laysThen_71 k2 (fun z0 z1 z2 z3 Pz => l_Mo_laysThen_17 k2 n z0 z1 z2 z3 Pz) x1 x2 x3 x4 P) else (bd2 (f_Mo_whyBy x3 (x2 - x2 / (41 : Int32) * (41 : Int32)) x4 x1 P) (fun v5 P6 => if v5 = (0 : Int32) then (j_Mo_laysThen_72 k2 (fun z0 z1 z2 z3 Pz => l_Mo_laysThen_17 k2 n z0 z1 z2 z3 Pz) x1 x2 x3 x4 (1 : Int32) P6) else (j_Mo_laysThen_71 k2 (fun z0 z1 z2 z3 Pz => l_Mo_laysThen_17 k2 n z0 z1 z2 z3 Pz) x1 x2 x3 x4 P6))))))
noncomputable def l_Mo_laysThen_2 : Nat → Int32 → Int32 → PM → Option PM
  | 0, _, _, _ => none
  | n + 1, x1, x2, P => if (287 : Int32) ≤ x2 then (some P) else (lb (x2 / (41 : Int32)) (fun y2 => l_Mo_laysThen_17 (fun z0 z1 Pz => l_Mo_laysThen_2 n z0 z1 Pz) FU x1 x2 y2 (0 : Int32) P))
noncomputable def f_Mo_laysThen (a1 : Int32) (P : PM) : Option PM := l_Mo_laysThen_2 FU a1 (0 : Int32) P
theorem t_j_Mo_laysThen_110 {G : GX} (hG : GOK G) {E : EV} (hE : E0 E) (d : Nat) (hd : 4 ≤ d) {Q : QT} (k2 : Int32 → Int32 → PM → Option PM) (hk2 : ∀ (x1 : Int32) (x2 : Int32) (P : PM), St E rP (k2 x1 x2 P) Q → Go G c_Mo_laysThen "YawnRouteModel" 6 none false d nOb nOb Q 2 [(0, .ref (ad E 109)), (1, .int x1), (2, .int x2)] [] P E) (k17 : Int32 → Int32 → Int32 → Int32 → PM → Option PM) (hk17 : ∀ (x1 : Int32) (x2 : Int32) (x3 : Int32) (x4 : Int32) (P : PM), St E rP (k17 x1 x2 x3 x4 P) Q → Go G c_Mo_laysThen "YawnRouteModel" 6 none false d nOb nOb Q 17 [(0, .ref (ad E 109)), (1, .int x1), (2, .int x2), (3, .int x3), (4, .int x4)] [] P E) (x1 : Int32) (x2 : Int32) (x3 : Int32) (x4 : Int32) (s1 : Int32) (s2 : Int32) (P : PM) (h : St E rP (j_Mo_laysThen_110 k2 k17 x1 x2 x3 x4 s1 s2 P) Q) : Go G c_Mo_laysThen "YawnRouteModel" 6 none false d nOb nOb Q 110 [(0, .ref (ad E 109)), (1, .int x1), (2, .int x2), (3, .int x3), (4, .int x4)] [.int s2, .int s1, .ref (ad E 117)] P E := by
  rw [j_Mo_laysThen_110] at h
  obtain ⟨b1, h⟩ := St.ck h
  refine Go.iastore 117 2009 sh117 (ltA hE sh117 (by decide)) (inb_in b1) (by decide +kernel) ?_
  refine Go.iinc (i := 4) (n := 1) 4 (x4 + (1 : Int32)) [(4, .int (x4 + (1 : Int32))), (0, .ref (ad E 109)), (1, .int x1), (2, .int x2), (3, .int x3)] (by decide +kernel) rfl rfl (by decide) rfl ?_
  refine Go.goto (off := -97) 17 (by decide +kernel) (by decide) ?_
  refine Go.sub [1, 2, 3, 4, 0] [(0, .ref (ad E 109)), (1, .int x1), (2, .int x2), (3, .int x3), (4, .int (x4 + (1 : Int32)))] rfl ?_
  exact hk17 x1 x2 x3 (x4 + (1 : Int32)) (u1 P 117 s1.toNatClampNeg s2) h
theorem t_j_Mo_laysThen_72 {G : GX} (hG : GOK G) {E : EV} (hE : E0 E) (d : Nat) (hd : 4 ≤ d) {Q : QT} (k2 : Int32 → Int32 → PM → Option PM) (hk2 : ∀ (x1 : Int32) (x2 : Int32) (P : PM), St E rP (k2 x1 x2 P) Q → Go G c_Mo_laysThen "YawnRouteModel" 6 none false d nOb nOb Q 2 [(0, .ref (ad E 109)), (1, .int x1), (2, .int x2)] [] P E) (k17 : Int32 → Int32 → Int32 → Int32 → PM → Option PM) (hk17 : ∀ (x1 : Int32) (x2 : Int32) (x3 : Int32) (x4 : Int32) (P : PM), St E rP (k17 x1 x2 x3 x4 P) Q → Go G c_Mo_laysThen "YawnRouteModel" 6 none false d nOb nOb Q 17 [(0, .ref (ad E 109)), (1, .int x1), (2, .int x2), (3, .int x3), (4, .int x4)] [] P E) (x1 : Int32) (x2 : Int32) (x3 : Int32) (x4 : Int32) (s0 : Int32) (P : PM) (h : St E rP (j_Mo_laysThen_72 k2 k17 x1 x2 x3 x4 s0 P) Q) : Go G c_Mo_laysThen "YawnRouteModel" 6 none false d nOb nOb Q 72 [(0, .ref (ad E 109)), (1, .int x1), (2, .int x2), (3, .int x3), (4, .int x4)] [.int s0] P E := by
  rw [j_Mo_laysThen_72] at h
  refine Go.istore (i := 5) [(5, .int s0), (0, .ref (ad E 109)), (1, .int x1), (2, .int x2), (3, .int x3), (4, .int x4)] (by decide +kernel) (by decide) rfl ?_
  refine Go.aload_n (k := 0) (i := 0) 1 (by decide +kernel) rfl rfl ?_
  refine Go.get 109 20 (.ref (ad E 117)) (by decide) (by decide) sh109 (ltO hE sh109) (vlR hE rfl rfl) lk1350 (by decide +kernel) ?_
  refine Go.bipush (n := 7) (7 : Int32) (by decide +kernel) (by decide) ?_
  refine Go.iload_n (k := 2) (i := 2) 3 (by decide +kernel) rfl rfl ?_
  refine Go.imul (by decide +kernel) ?_
  refine Go.iload (i := 4) 5 (by decide +kernel) rfl ?_
  refine Go.iadd (by decide +kernel) ?_
  refine Go.iload (i := 5) 0 (by decide +kernel) rfl ?_
  refine Go.if_eq (off := 22) 109 (by decide +kernel) (by decide) (fun c1 => ?_) (fun c1 => ?_)
  · rw [if_pos c1] at h
    refine Go.iconst (n := -1) (-1 : Int32) (by decide +kernel) rfl ?_
    refine Go.sub [1, 2, 3, 4, 5] [(0, .ref (ad E 109)), (1, .int x1), (2, .int x2), (3, .int x3), (4, .int x4)] rfl ?_
    exact t_j_Mo_laysThen_110 hG hE d hd k2 hk2 k17 hk17 x1 x2 x3 x4 (((7 : Int32) * x2) + x4) (-1 : Int32) P h
  · rw [if_neg c1] at h
    refine Go.iload (i := 4) 5 (by decide +kernel) rfl ?_
    refine Go.aload_n (k := 0) (i := 0) 1 (by decide +kernel) rfl rfl ?_
    refine Go.iload_n (k := 3) (i := 3) 4 (by decide +kernel) rfl rfl ?_
    refine Go.iload_n (k := 2) (i := 2) 3 (by decide +kernel) rfl rfl ?_
    refine Go.bipush (n := 41) (41 : Int32) (by decide +kernel) (by decide) ?_
    refine Go.irem (by decide +kernel) (by decide) ?_
    refine Go.iload (i := 4) 5 (by decide +kernel) rfl ?_
    obtain ⟨v2, P3, hv2, h⟩ := St.bd2 h
    refine Go.cV_i (P1 := P3) (v := v2) (d - 1) 109 [.int x3, .int (x2 - x2 / (41 : Int32) * (41 : Int32)), .int x4] sh109 hE w_Mo_passedTo (e_Mo_passedTo hG hE (d - 1) (by omega) x3 (x2 - x2 / (41 : Int32) * (41 : Int32)) x4 P ⟨_, hv2, rfl, rfl, rfl⟩) lk1591 rfl (by omega) (Nat.le_of_ble_eq_true rfl) (by decide +kernel) _ rfl ?_
    refine Go.cS_i (P1 := P3) (v := (f_Mo_standOf x4 v2 P3)) (d - 1) [.int x4, .int v2] hE w_Mo_standOf (e_Mo_standOf hG hE (d - 1) (by omega) x4 v2 P3 ⟨rfl, rfl, rfl⟩) lk1704 rfl (by omega) (Nat.le_of_ble_eq_true rfl) (by decide +kernel) _ rfl ?_
    refine Go.goto (off := 4) 110 (by decide +kernel) (by decide) ?_
    refine Go.sub [1, 2, 3, 4, 5] [(0, .ref (ad E 109)), (1, .int x1), (2, .int x2), (3, .int x3), (4, .int x4)] rfl ?_
    exact t_j_Mo_laysThen_110 hG hE d hd k2 hk2 k17 hk17 x1 x2 x3 x4 (((7 : Int32) * x2) + x4) (f_Mo_standOf x4 v2 P3) P3 h
theorem t_j_Mo_laysThen_71 {G : GX} (hG : GOK G) {E : EV} (hE : E0 E) (d : Nat) (hd : 4 ≤ d) {Q : QT} (k2 : Int32 → Int32 → PM → Option PM) (hk2 : ∀ (x1 : Int32) (x2 : Int32) (P : PM), St E rP (k2 x1 x2 P) Q → Go G c_Mo_laysThen "YawnRouteModel" 6 none false d nOb nOb Q 2 [(0, .ref (ad E 109)), (1, .int x1), (2, .int x2)] [] P E) (k17 : Int32 → Int32 → Int32 → Int32 → PM → Option PM) (hk17 : ∀ (x1 : Int32) (x2 : Int32) (x3 : Int32) (x4 : Int32) (P : PM), St E rP (k17 x1 x2 x3 x4 P) Q → Go G c_Mo_laysThen "YawnRouteModel" 6 none false d nOb nOb Q 17 [(0, .ref (ad E 109)), (1, .int x1), (2, .int x2), (3, .int x3), (4, .int x4)] [] P E) (x1 : Int32) (x2 : Int32) (x3 : Int32) (x4 : Int32) (P : PM) (h : St E rP (j_Mo_laysThen_71 k2 k17 x1 x2 x3 x4 P) Q) : Go G c_Mo_laysThen "YawnRouteModel" 6 none false d nOb nOb Q 71 [(0, .ref (ad E 109)), (1, .int x1), (2, .int x2), (3, .int x3), (4, .int x4)] [] P E := by
  rw [j_Mo_laysThen_71] at h
  refine Go.iconst (n := 0) (0 : Int32) (by decide +kernel) rfl ?_
  exact t_j_Mo_laysThen_72 hG hE d hd k2 hk2 k17 hk17 x1 x2 x3 x4 (0 : Int32) P h
theorem t_l_Mo_laysThen_17 {G : GX} (hG : GOK G) {E : EV} (hE : E0 E) (d : Nat) (hd : 4 ≤ d) {Q : QT} (k2 : Int32 → Int32 → PM → Option PM) (hk2 : ∀ (x1 : Int32) (x2 : Int32) (P : PM), St E rP (k2 x1 x2 P) Q → Go G c_Mo_laysThen "YawnRouteModel" 6 none false d nOb nOb Q 2 [(0, .ref (ad E 109)), (1, .int x1), (2, .int x2)] [] P E) : ∀ (n : Nat) (x1 : Int32) (x2 : Int32) (x3 : Int32) (x4 : Int32) (P : PM), St E rP (l_Mo_laysThen_17 k2 n x1 x2 x3 x4 P) Q → Go G c_Mo_laysThen "YawnRouteModel" 6 none false d nOb nOb Q 17 [(0, .ref (ad E 109)), (1, .int x1), (2, .int x2), (3, .int x3), (4, .int x4)] [] P E := by
  intro n
  induction n with
  | zero =>
    intro x1 x2 x3 x4 P h
    rw [l_Mo_laysThen_17] at h
    exact St.none_ h
  | succ n ih =>
    intro x1 x2 x3 x4 P h
    rw [l_Mo_laysThen_17] at h
    refine Go.iload (i := 4) 4 (by decide +kernel) rfl ?_
    refine Go.bipush (n := 7) (7 : Int32) (by decide +kernel) (by decide) ?_
    refine Go.icmp_ge (off := 96) 117 (by decide +kernel) (by decide) (fun c1 => ?_) (fun c1 => ?_)
    · rw [if_pos c1] at h
      refine Go.iinc (i := 2) (n := 1) 2 (x2 + (1 : Int32)) [(2, .int (x2 + (1 : Int32))), (0, .ref (ad E 109)), (1, .int x1), (3, .int x3), (4, .int x4)] (by decide +kernel) rfl rfl (by decide) rfl ?_
      refine Go.goto (off := -118) 2 (by decide +kernel) (by decide) ?_
      refine Go.sub [1, 2, 0] [(0, .ref (ad E 109)), (1, .int x1), (2, .int (x2 + (1 : Int32)))] rfl ?_
      exact hk2 x1 (x2 + (1 : Int32)) P h
    · rw [if_neg c1] at h
      refine Go.iload_n (k := 3) (i := 3) 3 (by decide +kernel) rfl rfl ?_
      refine Go.aload_n (k := 0) (i := 0) 0 (by decide +kernel) rfl rfl ?_
      refine Go.get 109 1 (.ref (ad E 110)) (by decide) (by decide) sh109 (ltO hE sh109) (vlR hE rfl rfl) lk1331 (by decide +kernel) ?_
      refine Go.iconst (n := 1) (1 : Int32) (by decide +kernel) rfl ?_
      refine Go.iaload 110 3408 sh110 (ltA hE sh110 (by decide)) (vp_in_iff.mpr (by decide)) (by decide +kernel) ?_
      refine Go.icmp_ge (off := 40) 71 (by decide +kernel) (by decide) (fun c2 => ?_) (fun c2 => ?_)
      · rw [if_pos c2] at h
        exact t_j_Mo_laysThen_71 hG hE d hd k2 hk2 (fun z0 z1 z2 z3 Pz => l_Mo_laysThen_17 k2 n z0 z1 z2 z3 Pz) (fun z0 z1 z2 z3 Pz q => ih z0 z1 z2 z3 Pz q) x1 x2 x3 x4 P h
      · rw [if_neg c2] at h
        refine Go.iload (i := 4) 4 (by decide +kernel) rfl ?_
        refine Go.aload_n (k := 0) (i := 0) 0 (by decide +kernel) rfl rfl ?_
        refine Go.get 109 1 (.ref (ad E 110)) (by decide) (by decide) sh109 (ltO hE sh109) (vlR hE rfl rfl) lk1331 (by decide +kernel) ?_
        refine Go.iconst (n := 1) (1 : Int32) (by decide +kernel) rfl ?_
        refine Go.iaload 110 3408 sh110 (ltA hE sh110 (by decide)) (vp_in_iff.mpr (by decide)) (by decide +kernel) ?_
        refine Go.icmp_ge (off := 29) 71 (by decide +kernel) (by decide) (fun c3 => ?_) (fun c3 => ?_)
        · rw [if_pos c3] at h
          exact t_j_Mo_laysThen_71 hG hE d hd k2 hk2 (fun z0 z1 z2 z3 Pz => l_Mo_laysThen_17 k2 n z0 z1 z2 z3 Pz) (fun z0 z1 z2 z3 Pz q => ih z0 z1 z2 z3 Pz q) x1 x2 x3 x4 P h
        · rw [if_neg c3] at h
          refine Go.iload_n (k := 2) (i := 2) 2 (by decide +kernel) rfl rfl ?_
          refine Go.bipush (n := 41) (41 : Int32) (by decide +kernel) (by decide) ?_
          refine Go.irem (by decide +kernel) (by decide) ?_
          refine Go.if_le (off := 22) 71 (by decide +kernel) (by decide) (fun c4 => ?_) (fun c4 => ?_)
          · rw [if_pos c4] at h
            exact t_j_Mo_laysThen_71 hG hE d hd k2 hk2 (fun z0 z1 z2 z3 Pz => l_Mo_laysThen_17 k2 n z0 z1 z2 z3 Pz) (fun z0 z1 z2 z3 Pz q => ih z0 z1 z2 z3 Pz q) x1 x2 x3 x4 P h
          · rw [if_neg c4] at h
            refine Go.aload_n (k := 0) (i := 0) 0 (by decide +kernel) rfl rfl ?_
            refine Go.iload_n (k := 3) (i := 3) 3 (by decide +kernel) rfl rfl ?_
            refine Go.iload_n (k := 2) (i := 2) 2 (by decide +kernel) rfl rfl ?_
            refine Go.bipush (n := 41) (41 : Int32) (by decide +kernel) (by decide) ?_
            refine Go.irem (by decide +kernel) (by decide) ?_
            refine Go.iload (i := 4) 4 (by decide +kernel) rfl ?_
            refine Go.iload_n (k := 1) (i := 1) 1 (by decide +kernel) rfl rfl ?_
            obtain ⟨v5, P6, hv5, h⟩ := St.bd2 h
            refine Go.cV_i (P1 := P6) (v := v5) (d - 1) 109 [.int x3, .int (x2 - x2 / (41 : Int32) * (41 : Int32)), .int x4, .int x1] sh109 hE w_Mo_whyBy (e_Mo_whyBy hG hE (d - 1) (by omega) x3 (x2 - x2 / (41 : Int32) * (41 : Int32)) x4 x1 P ⟨_, hv5, rfl, rfl, rfl⟩) lk1575 rfl (by omega) (Nat.le_of_ble_eq_true rfl) (by decide +kernel) _ rfl ?_
            refine Go.if_ne (off := 7) 71 (by decide +kernel) (by decide) (fun c7 => ?_) (fun c7 => ?_)
            · rw [if_neg c7] at h
              exact t_j_Mo_laysThen_71 hG hE d hd k2 hk2 (fun z0 z1 z2 z3 Pz => l_Mo_laysThen_17 k2 n z0 z1 z2 z3 Pz) (fun z0 z1 z2 z3 Pz q => ih z0 z1 z2 z3 Pz q) x1 x2 x3 x4 P6 h
            · rw [if_pos c7] at h
              refine Go.iconst (n := 1) (1 : Int32) (by decide +kernel) rfl ?_
              refine Go.goto (off := 4) 72 (by decide +kernel) (by decide) ?_
              exact t_j_Mo_laysThen_72 hG hE d hd k2 hk2 (fun z0 z1 z2 z3 Pz => l_Mo_laysThen_17 k2 n z0 z1 z2 z3 Pz) (fun z0 z1 z2 z3 Pz q => ih z0 z1 z2 z3 Pz q) x1 x2 x3 x4 (1 : Int32) P6 h
theorem t_l_Mo_laysThen_2 {G : GX} (hG : GOK G) {E : EV} (hE : E0 E) (d : Nat) (hd : 4 ≤ d) {Q : QT} : ∀ (n : Nat) (x1 : Int32) (x2 : Int32) (P : PM), St E rP (l_Mo_laysThen_2 n x1 x2 P) Q → Go G c_Mo_laysThen "YawnRouteModel" 6 none false d nOb nOb Q 2 [(0, .ref (ad E 109)), (1, .int x1), (2, .int x2)] [] P E := by
  intro n
  induction n with
  | zero =>
    intro x1 x2 P h
    rw [l_Mo_laysThen_2] at h
    exact St.none_ h
  | succ n ih =>
    intro x1 x2 P h
    rw [l_Mo_laysThen_2] at h
    refine Go.iload_n (k := 2) (i := 2) 2 (by decide +kernel) rfl rfl ?_
    refine Go.sipush (n := 287) (287 : Int32) (by decide +kernel) (by decide) ?_
    refine Go.icmp_ge (off := 117) 123 (by decide +kernel) (by decide) (fun c1 => ?_) (fun c1 => ?_)
    · rw [if_pos c1] at h
      exact Go.vret rfl hE.2 (by decide +kernel) (St.fP h)
    · rw [if_neg c1] at h
      refine Go.iload_n (k := 2) (i := 2) 2 (by decide +kernel) rfl rfl ?_
      refine Go.bipush (n := 41) (41 : Int32) (by decide +kernel) (by decide) ?_
      refine Go.idiv (by decide +kernel) (by decide) ?_
      obtain ⟨y2, hy2, h⟩ := St.lb h
      refine Go.eqi y2 hy2 ?_
      refine Go.istore_n (k := 3) (i := 3) [(3, .int y2), (0, .ref (ad E 109)), (1, .int x1), (2, .int x2)] (by decide +kernel) rfl (by decide) rfl ?_
      refine Go.iconst (n := 0) (0 : Int32) (by decide +kernel) rfl ?_
      refine Go.istore (i := 4) [(4, .int (0 : Int32)), (3, .int y2), (0, .ref (ad E 109)), (1, .int x1), (2, .int x2)] (by decide +kernel) (by decide) rfl ?_
      refine Go.sub [2, 3, 4, 1, 0] [(0, .ref (ad E 109)), (1, .int x1), (2, .int x2), (3, .int y2), (4, .int (0 : Int32))] rfl ?_
      exact t_l_Mo_laysThen_17 hG hE d hd (fun z0 z1 Pz => l_Mo_laysThen_2 n z0 z1 Pz) (fun z0 z1 Pz q => ih z0 z1 Pz q) FU x1 x2 y2 (0 : Int32) P h
theorem t_f_Mo_laysThen {G : GX} (hG : GOK G) {E : EV} (hE : E0 E) (d : Nat) (hd : 4 ≤ d) {Q : QT} (a1 : Int32) (P : PM) (h : St E rP (f_Mo_laysThen a1 P) Q) : Go G c_Mo_laysThen "YawnRouteModel" 6 none false d nOb nOb Q 0 [(0, .ref (ad E 109)), (1, .int a1)] [] P E := by
  rw [f_Mo_laysThen] at h
  refine Go.iconst (n := 0) (0 : Int32) (by decide +kernel) rfl ?_
  refine Go.istore_n (k := 2) (i := 2) [(2, .int (0 : Int32)), (0, .ref (ad E 109)), (1, .int a1)] (by decide +kernel) rfl (by decide) rfl ?_
  refine Go.sub [1, 2, 0] [(0, .ref (ad E 109)), (1, .int a1), (2, .int (0 : Int32))] rfl ?_
  exact t_l_Mo_laysThen_2 hG hE d hd FU a1 (0 : Int32) P h
theorem e_Mo_laysThen {G : GX} (hG : GOK G) {E : EV} (hE : E0 E) (d : Nat) (hd : 4 ≤ d) (a1 : Int32) (P : PM) {Q : QT} (h : St E rP (f_Mo_laysThen a1 P) Q) : Con G y_Mo_laysThen cw_Mo_laysThen d nOb nOb [.ref (ad E 109), .int a1] P E Q :=
  Con.of hG (by decide +kernel) rfl (fun h => by cases h) hE.2 (Nat.le_of_ble_eq_true rfl) (t_f_Mo_laysThen hG hE d hd a1 P h)
abbrev c_Mo_routed : ByteArray := prog_14_method_69_code
abbrev y_Mo_routed : MethodName := ⟨"YawnRouteModel", "routed", "(II)I"⟩
abbrev cw_Mo_routed : Cond := .code y_Mo_routed c_Mo_routed 4 (some .int)
theorem w_Mo_routed : VW 12 y_Mo_routed c_Mo_routed 4 (some .int) 2 := ⟨by decide, lk1714, lp92_, lk14, lk1715, ⟨by decide, by decide, by decide +kernel⟩, by decide⟩
noncomputable def j_Mo_routed_24 (P : PM) : Option Int32 := some (-1 : Int32)
noncomputable def f_Mo_routed (a1 : Int32) (a2 : Int32) (P : PM) : Option Int32 := ck (inb (((7 : Int32) * a1) + a2) 2009) (lb (P.1 117 (((7 : Int32) * a1) + a2).toNatClampNeg) (fun y2 => if y2 = (-1 : Int32) then (j_Mo_routed_24 P) else (if (y2 - y2 / (41 : Int32) * (41 : Int32)) = (0 : Int32) then (j_Mo_routed_24 P) else (some y2))))
theorem t_j_Mo_routed_24 {G : GX} (hG : GOK G) {E : EV} (hE : E0 E) (d : Nat) (hd : 1 ≤ d) {P : PM} {Q : QT} (h : St E (rI P) (j_Mo_routed_24 P) Q) : Go G c_Mo_routed "YawnRouteModel" 4 (some .int) false d nOb nOb Q 24 [] [] P E := by
  rw [j_Mo_routed_24] at h
  refine Go.iconst (n := -1) (-1 : Int32) (by decide +kernel) rfl ?_
  refine Go.goto (off := 4) 29 (by decide +kernel) (by decide) ?_
  exact Go.iret rfl rfl hE.2 (by decide +kernel) (St.fI h)
theorem t_f_Mo_routed {G : GX} (hG : GOK G) {E : EV} (hE : E0 E) (d : Nat) (hd : 1 ≤ d) {P : PM} {Q : QT} (a1 : Int32) (a2 : Int32) (h : St E (rI P) (f_Mo_routed a1 a2 P) Q) : Go G c_Mo_routed "YawnRouteModel" 4 (some .int) false d nOb nOb Q 0 [(0, .ref (ad E 109)), (1, .int a1), (2, .int a2)] [] P E := by
  rw [f_Mo_routed] at h
  refine Go.aload_n (k := 0) (i := 0) 0 (by decide +kernel) rfl rfl ?_
  refine Go.get 109 20 (.ref (ad E 117)) (by decide) (by decide) sh109 (ltO hE sh109) (vlR hE rfl rfl) lk1350 (by decide +kernel) ?_
  refine Go.bipush (n := 7) (7 : Int32) (by decide +kernel) (by decide) ?_
  refine Go.iload_n (k := 1) (i := 1) 1 (by decide +kernel) rfl rfl ?_
  refine Go.imul (by decide +kernel) ?_
  refine Go.iload_n (k := 2) (i := 2) 2 (by decide +kernel) rfl rfl ?_
  refine Go.iadd (by decide +kernel) ?_
  obtain ⟨b1, h⟩ := St.ck h
  refine Go.iaload 117 2009 sh117 (ltA hE sh117 (by decide)) (inb_in b1) (by decide +kernel) ?_
  obtain ⟨y2, hy2, h⟩ := St.lb h
  refine Go.eqi y2 hy2 ?_
  refine Go.istore_n (k := 3) (i := 3) [(3, .int y2), (0, .ref (ad E 109)), (1, .int a1), (2, .int a2)] (by decide +kernel) rfl (by decide) rfl ?_
  refine Go.iload_n (k := 3) (i := 3) 0 (by decide +kernel) rfl rfl ?_
  refine Go.iconst (n := -1) (-1 : Int32) (by decide +kernel) rfl ?_
  refine Go.icmp_eq (off := 10) 24 (by decide +kernel) (by decide) (fun c3 => ?_) (fun c3 => ?_)
  · rw [if_pos c3] at h
    refine Go.sub [] [] rfl ?_
    exact t_j_Mo_routed_24 hG hE d hd h
  · rw [if_neg c3] at h
    refine Go.iload_n (k := 3) (i := 3) 0 (by decide +kernel) rfl rfl ?_
    refine Go.bipush (n := 41) (41 : Int32) (by decide +kernel) (by decide) ?_
    refine Go.irem (by decide +kernel) (by decide) ?_
    refine Go.if_ne (off := 7) 28 (by decide +kernel) (by decide) (fun c4 => ?_) (fun c4 => ?_)
    · rw [if_neg c4] at h
      refine Go.iload_n (k := 3) (i := 3) 0 (by decide +kernel) rfl rfl ?_
      exact Go.iret rfl rfl hE.2 (by decide +kernel) (St.fI h)
    · rw [if_pos c4] at h
      refine Go.sub [] [] rfl ?_
      exact t_j_Mo_routed_24 hG hE d hd h
theorem e_Mo_routed {G : GX} (hG : GOK G) {E : EV} (hE : E0 E) (d : Nat) (hd : 1 ≤ d) (a1 : Int32) (a2 : Int32) (P : PM) {Q : QT} (h : St E (rI P) (f_Mo_routed a1 a2 P) Q) : Con G y_Mo_routed cw_Mo_routed d nOb nOb [.ref (ad E 109), .int a1, .int a2] P E Q :=
  Con.of hG (by decide +kernel) rfl (fun h => by cases h) hE.2 (Nat.le_of_ble_eq_true rfl) (t_f_Mo_routed hG hE d hd a1 a2 h)
abbrev c_Mo_laysReached : ByteArray := prog_14_method_70_code
abbrev y_Mo_laysReached : MethodName := ⟨"YawnRouteModel", "laysReached", "()V"⟩
abbrev cw_Mo_laysReached : Cond := .code y_Mo_laysReached c_Mo_laysReached 5 none
theorem w_Mo_laysReached : VW 12 y_Mo_laysReached c_Mo_laysReached 5 none 0 := ⟨by decide, lk1750, lp97_, lk14, lk1751, ⟨by decide, by decide, by decide +kernel⟩, by decide⟩
noncomputable def j_Mo_laysReached_27 (k2 : Int32 → PM → Option PM) (x1 : Int32) (s1 : Int32) (s2 : Int32) (P : PM) : Option PM := ck (inb s1 287) (k2 (x1 + (1 : Int32)) (u1 P 119 s1.toNatClampNeg (vp_nar .boolean s2)))
noncomputable def j_Mo_laysReached_105 (k36 : Int32 → PM → Option PM) (k44 : Int32 → Int32 → PM → Option PM) (k53 : Int32 → Int32 → Int32 → PM → Option PM) (x1 : Int32) (x2 : Int32) (x3 : Int32) (P : PM) : Option PM := k53 x1 x2 (x3 + (1 : Int32)) P
noncomputable def j_Mo_laysReached_111 (k36 : Int32 → PM → Option PM) (k44 : Int32 → Int32 → PM → Option PM) (x1 : Int32) (x2 : Int32) (P : PM) : Option PM := k44 x1 (x2 + (1 : Int32)) P
noncomputable def l_Mo_laysReached_53 (k36 : Int32 → PM → Option PM) (k44 : Int32 → Int32 → PM → Option PM) : Nat → Int32 → Int32 → Int32 → PM → Option PM
  | 0, _, _, _, _ => none
  | n + 1, x1, x2, x3, P => if (7 : Int32) ≤ x3 then (j_Mo_laysReached_111 k36 k44 x1 x2 P) else (ck (inb x2 287) (if (P.1 119 x2.toNatClampNeg) = (0 : Int32) then (j_Mo_laysReached_111 k36 k44 x1 x2 P) else ((f_Mo_routed x2 x3 P).bind (fun v4 => if v4 = (-1 : Int32) then (j_Mo_laysReached_105 k36 k44 (fun z0 z1 z2 Pz => l_Mo_laysReached_53 k36 k44 n z0 z1 z2 Pz) x1 x2 x3 P) else (ck (inb v4 287) (if (P.1 119 v4.toNatClampNeg) = (0 : Int32) then (ck (inb v4 287) (j_Mo_laysReached_105 k36 k44 (fun z0 z1 z2 Pz => l_Mo_laysReached_53 k36 k44 n z0 z1 z2 Pz) (1 : Int32) x2 x3 (u1 P 119 v4.toNatClampNeg (vp_nar .boolean (1 : Int32))))) else (j_Mo_laysReached_105 k36 k44 (fun z0 z1 z2 Pz => l_Mo_laysReached_53 k36 k44 n z0 z1 z2 Pz) x1 x2 x3 P)))))))
noncomputable def l_Mo_laysReached_44 (k36 : Int32 → PM → Option PM) : Nat → Int32 → Int32 → PM → Option PM
  | 0, _, _, _ => none
  | n + 1, x1, x2, P => if (287 : Int32) ≤ x2 then (k36 x1 P) else (l_Mo_laysReached_53 k36 (fun z0 z1 Pz => l_Mo_laysReached_44 k36 n z0 z1 Pz) FU x1 x2 (0 : Int32) P)
noncomputable def l_Mo_laysReached_36 : Nat → Int32 → PM → Option PM
  | 0, _, _ => none
  | n + 1, x1, P => if x1 = (0 : Int32) then (some P) else (l_Mo_laysReached_44 (fun z0 Pz => l_Mo_laysReached_36 n z0 Pz) FU (0 : Int32) (0 : Int32) P)
noncomputable def l_Mo_laysReached_2 : Nat → Int32 → PM → Option PM
  | 0, _, _ => none
  | n + 1, x1, P => if (287 : Int32) ≤ x1 then (l_Mo_laysReached_36 FU (1 : Int32) P) else (if x1 = (f_Mo_standNow P) then (j_Mo_laysReached_27 (fun z0 Pz => l_Mo_laysReached_2 n z0 Pz) x1 x1 (1 : Int32) P) else (j_Mo_laysReached_27 (fun z0 Pz => l_Mo_laysReached_2 n z0 Pz) x1 x1 (0 : Int32) P))
noncomputable def f_Mo_laysReached (P : PM) : Option PM := l_Mo_laysReached_2 FU (0 : Int32) P
theorem t_j_Mo_laysReached_27 {G : GX} (hG : GOK G) {E : EV} (hE : E0 E) (d : Nat) (hd : 3 ≤ d) {Q : QT} (k2 : Int32 → PM → Option PM) (hk2 : ∀ (x1 : Int32) (P : PM), St E rP (k2 x1 P) Q → Go G c_Mo_laysReached "YawnRouteModel" 5 none false d nOb nOb Q 2 [(0, .ref (ad E 109)), (1, .int x1)] [] P E) (x1 : Int32) (s1 : Int32) (s2 : Int32) (P : PM) (h : St E rP (j_Mo_laysReached_27 k2 x1 s1 s2 P) Q) : Go G c_Mo_laysReached "YawnRouteModel" 5 none false d nOb nOb Q 27 [(0, .ref (ad E 109)), (1, .int x1)] [.int s2, .int s1, .ref (ad E 119)] P E := by
  rw [j_Mo_laysReached_27] at h
  obtain ⟨b1, h⟩ := St.ck h
  refine Go.zastore 119 287 sh119 (ltA hE sh119 (by decide)) (inb_in b1) (by decide +kernel) ?_
  refine Go.iinc (i := 1) (n := 1) 1 (x1 + (1 : Int32)) [(1, .int (x1 + (1 : Int32))), (0, .ref (ad E 109))] (by decide +kernel) rfl rfl (by decide) rfl ?_
  refine Go.goto (off := -29) 2 (by decide +kernel) (by decide) ?_
  refine Go.sub [1, 0] [(0, .ref (ad E 109)), (1, .int (x1 + (1 : Int32)))] rfl ?_
  exact hk2 (x1 + (1 : Int32)) (u1 P 119 s1.toNatClampNeg (vp_nar .boolean s2)) h
theorem t_j_Mo_laysReached_105 {G : GX} (hG : GOK G) {E : EV} (hE : E0 E) (d : Nat) (hd : 3 ≤ d) {Q : QT} (k36 : Int32 → PM → Option PM) (hk36 : ∀ (x1 : Int32) (P : PM), St E rP (k36 x1 P) Q → Go G c_Mo_laysReached "YawnRouteModel" 5 none false d nOb nOb Q 36 [(0, .ref (ad E 109)), (1, .int x1)] [] P E) (k44 : Int32 → Int32 → PM → Option PM) (hk44 : ∀ (x1 : Int32) (x2 : Int32) (P : PM), St E rP (k44 x1 x2 P) Q → Go G c_Mo_laysReached "YawnRouteModel" 5 none false d nOb nOb Q 44 [(0, .ref (ad E 109)), (1, .int x1), (2, .int x2)] [] P E) (k53 : Int32 → Int32 → Int32 → PM → Option PM) (hk53 : ∀ (x1 : Int32) (x2 : Int32) (x3 : Int32) (P : PM), St E rP (k53 x1 x2 x3 P) Q → Go G c_Mo_laysReached "YawnRouteModel" 5 none false d nOb nOb Q 53 [(0, .ref (ad E 109)), (1, .int x1), (2, .int x2), (3, .int x3)] [] P E) (x1 : Int32) (x2 : Int32) (x3 : Int32) (P : PM) (h : St E rP (j_Mo_laysReached_105 k36 k44 k53 x1 x2 x3 P) Q) : Go G c_Mo_laysReached "YawnRouteModel" 5 none false d nOb nOb Q 105 [(0, .ref (ad E 109)), (1, .int x1), (2, .int x2), (3, .int x3)] [] P E := by
  rw [j_Mo_laysReached_105] at h
  refine Go.iinc (i := 3) (n := 1) 3 (x3 + (1 : Int32)) [(3, .int (x3 + (1 : Int32))), (0, .ref (ad E 109)), (1, .int x1), (2, .int x2)] (by decide +kernel) rfl rfl (by decide) rfl ?_
  refine Go.goto (off := -55) 53 (by decide +kernel) (by decide) ?_
  refine Go.sub [1, 2, 3, 0] [(0, .ref (ad E 109)), (1, .int x1), (2, .int x2), (3, .int (x3 + (1 : Int32)))] rfl ?_
  exact hk53 x1 x2 (x3 + (1 : Int32)) P h
theorem t_j_Mo_laysReached_111 {G : GX} (hG : GOK G) {E : EV} (hE : E0 E) (d : Nat) (hd : 3 ≤ d) {Q : QT} (k36 : Int32 → PM → Option PM) (hk36 : ∀ (x1 : Int32) (P : PM), St E rP (k36 x1 P) Q → Go G c_Mo_laysReached "YawnRouteModel" 5 none false d nOb nOb Q 36 [(0, .ref (ad E 109)), (1, .int x1)] [] P E) (k44 : Int32 → Int32 → PM → Option PM) (hk44 : ∀ (x1 : Int32) (x2 : Int32) (P : PM), St E rP (k44 x1 x2 P) Q → Go G c_Mo_laysReached "YawnRouteModel" 5 none false d nOb nOb Q 44 [(0, .ref (ad E 109)), (1, .int x1), (2, .int x2)] [] P E) (x1 : Int32) (x2 : Int32) (P : PM) (h : St E rP (j_Mo_laysReached_111 k36 k44 x1 x2 P) Q) : Go G c_Mo_laysReached "YawnRouteModel" 5 none false d nOb nOb Q 111 [(0, .ref (ad E 109)), (1, .int x1), (2, .int x2)] [] P E := by
  rw [j_Mo_laysReached_111] at h
  refine Go.iinc (i := 2) (n := 1) 2 (x2 + (1 : Int32)) [(2, .int (x2 + (1 : Int32))), (0, .ref (ad E 109)), (1, .int x1)] (by decide +kernel) rfl rfl (by decide) rfl ?_
  refine Go.goto (off := -70) 44 (by decide +kernel) (by decide) ?_
  refine Go.sub [1, 2, 0] [(0, .ref (ad E 109)), (1, .int x1), (2, .int (x2 + (1 : Int32)))] rfl ?_
  exact hk44 x1 (x2 + (1 : Int32)) P h
theorem t_l_Mo_laysReached_53 {G : GX} (hG : GOK G) {E : EV} (hE : E0 E) (d : Nat) (hd : 3 ≤ d) {Q : QT} (k36 : Int32 → PM → Option PM) (hk36 : ∀ (x1 : Int32) (P : PM), St E rP (k36 x1 P) Q → Go G c_Mo_laysReached "YawnRouteModel" 5 none false d nOb nOb Q 36 [(0, .ref (ad E 109)), (1, .int x1)] [] P E) (k44 : Int32 → Int32 → PM → Option PM) (hk44 : ∀ (x1 : Int32) (x2 : Int32) (P : PM), St E rP (k44 x1 x2 P) Q → Go G c_Mo_laysReached "YawnRouteModel" 5 none false d nOb nOb Q 44 [(0, .ref (ad E 109)), (1, .int x1), (2, .int x2)] [] P E) : ∀ (n : Nat) (x1 : Int32) (x2 : Int32) (x3 : Int32) (P : PM), St E rP (l_Mo_laysReached_53 k36 k44 n x1 x2 x3 P) Q → Go G c_Mo_laysReached "YawnRouteModel" 5 none false d nOb nOb Q 53 [(0, .ref (ad E 109)), (1, .int x1), (2, .int x2), (3, .int x3)] [] P E := by
  intro n
  induction n with
  | zero =>
    intro x1 x2 x3 P h
    rw [l_Mo_laysReached_53] at h
    exact St.none_ h
  | succ n ih =>
    intro x1 x2 x3 P h
    rw [l_Mo_laysReached_53] at h
    refine Go.iload_n (k := 3) (i := 3) 3 (by decide +kernel) rfl rfl ?_
    refine Go.bipush (n := 7) (7 : Int32) (by decide +kernel) (by decide) ?_
    refine Go.icmp_ge (off := 55) 111 (by decide +kernel) (by decide) (fun c1 => ?_) (fun c1 => ?_)
    · rw [if_pos c1] at h
      refine Go.sub [0, 1, 2] [(0, .ref (ad E 109)), (1, .int x1), (2, .int x2)] rfl ?_
      exact t_j_Mo_laysReached_111 hG hE d hd k36 hk36 k44 hk44 x1 x2 P h
    · rw [if_neg c1] at h
      refine Go.aload_n (k := 0) (i := 0) 0 (by decide +kernel) rfl rfl ?_
      refine Go.get 109 22 (.ref (ad E 119)) (by decide) (by decide) sh109 (ltO hE sh109) (vlR hE rfl rfl) lk1352 (by decide +kernel) ?_
      refine Go.iload_n (k := 2) (i := 2) 2 (by decide +kernel) rfl rfl ?_
      obtain ⟨b2, h⟩ := St.ck h
      refine Go.zaload 119 287 sh119 (ltA hE sh119 (by decide)) (inb_in b2) (by decide +kernel) ?_
      refine Go.if_eq (off := 46) 111 (by decide +kernel) (by decide) (fun c3 => ?_) (fun c3 => ?_)
      · rw [if_pos c3] at h
        refine Go.sub [0, 1, 2] [(0, .ref (ad E 109)), (1, .int x1), (2, .int x2)] rfl ?_
        exact t_j_Mo_laysReached_111 hG hE d hd k36 hk36 k44 hk44 x1 x2 P h
      · rw [if_neg c3] at h
        refine Go.aload_n (k := 0) (i := 0) 0 (by decide +kernel) rfl rfl ?_
        refine Go.iload_n (k := 2) (i := 2) 2 (by decide +kernel) rfl rfl ?_
        refine Go.iload_n (k := 3) (i := 3) 3 (by decide +kernel) rfl rfl ?_
        obtain ⟨v4, hv4, h⟩ := St.bind h
        refine Go.cV_i (P1 := P) (v := v4) (d - 1) 109 [.int x2, .int x3] sh109 hE w_Mo_routed (e_Mo_routed hG hE (d - 1) (by omega) x2 x3 P ⟨_, hv4, rfl, rfl, rfl⟩) lk1712 rfl (by omega) (Nat.le_of_ble_eq_true rfl) (by decide +kernel) _ rfl ?_
        refine Go.istore (i := 4) [(4, .int v4), (0, .ref (ad E 109)), (1, .int x1), (2, .int x2), (3, .int x3)] (by decide +kernel) (by decide) rfl ?_
        refine Go.iload (i := 4) 0 (by decide +kernel) rfl ?_
        refine Go.iconst (n := -1) (-1 : Int32) (by decide +kernel) rfl ?_
        refine Go.icmp_eq (off := 26) 105 (by decide +kernel) (by decide) (fun c5 => ?_) (fun c5 => ?_)
        · rw [if_pos c5] at h
          refine Go.sub [1, 2, 3, 4] [(0, .ref (ad E 109)), (1, .int x1), (2, .int x2), (3, .int x3)] rfl ?_
          exact t_j_Mo_laysReached_105 hG hE d hd k36 hk36 k44 hk44 (fun z0 z1 z2 Pz => l_Mo_laysReached_53 k36 k44 n z0 z1 z2 Pz) (fun z0 z1 z2 Pz q => ih z0 z1 z2 Pz q) x1 x2 x3 P h
        · rw [if_neg c5] at h
          refine Go.aload_n (k := 0) (i := 0) 1 (by decide +kernel) rfl rfl ?_
          refine Go.get 109 22 (.ref (ad E 119)) (by decide) (by decide) sh109 (ltO hE sh109) (vlR hE rfl rfl) lk1352 (by decide +kernel) ?_
          refine Go.iload (i := 4) 0 (by decide +kernel) rfl ?_
          obtain ⟨b6, h⟩ := St.ck h
          refine Go.zaload 119 287 sh119 (ltA hE sh119 (by decide)) (inb_in b6) (by decide +kernel) ?_
          refine Go.if_eq (off := 6) 95 (by decide +kernel) (by decide) (fun c7 => ?_) (fun c7 => ?_)
          · rw [if_pos c7] at h
            refine Go.aload_n (k := 0) (i := 0) 1 (by decide +kernel) rfl rfl ?_
            refine Go.get 109 22 (.ref (ad E 119)) (by decide) (by decide) sh109 (ltO hE sh109) (vlR hE rfl rfl) lk1352 (by decide +kernel) ?_
            refine Go.iload (i := 4) 0 (by decide +kernel) rfl ?_
            refine Go.iconst (n := 1) (1 : Int32) (by decide +kernel) rfl ?_
            obtain ⟨b8, h⟩ := St.ck h
            refine Go.zastore 119 287 sh119 (ltA hE sh119 (by decide)) (inb_in b8) (by decide +kernel) ?_
            refine Go.iconst (n := 1) (1 : Int32) (by decide +kernel) rfl ?_
            refine Go.istore_n (k := 1) (i := 1) [(1, .int (1 : Int32)), (4, .int v4), (0, .ref (ad E 109)), (2, .int x2), (3, .int x3)] (by decide +kernel) rfl (by decide) rfl ?_
            refine Go.sub [2, 0, 3, 4] [(0, .ref (ad E 109)), (1, .int (1 : Int32)), (2, .int x2), (3, .int x3)] rfl ?_
            exact t_j_Mo_laysReached_105 hG hE d hd k36 hk36 k44 hk44 (fun z0 z1 z2 Pz => l_Mo_laysReached_53 k36 k44 n z0 z1 z2 Pz) (fun z0 z1 z2 Pz q => ih z0 z1 z2 Pz q) (1 : Int32) x2 x3 (u1 P 119 v4.toNatClampNeg (vp_nar .boolean (1 : Int32))) h
          · rw [if_neg c7] at h
            refine Go.goto (off := 13) 105 (by decide +kernel) (by decide) ?_
            refine Go.sub [1, 2, 3, 4] [(0, .ref (ad E 109)), (1, .int x1), (2, .int x2), (3, .int x3)] rfl ?_
            exact t_j_Mo_laysReached_105 hG hE d hd k36 hk36 k44 hk44 (fun z0 z1 z2 Pz => l_Mo_laysReached_53 k36 k44 n z0 z1 z2 Pz) (fun z0 z1 z2 Pz q => ih z0 z1 z2 Pz q) x1 x2 x3 P h
theorem t_l_Mo_laysReached_44 {G : GX} (hG : GOK G) {E : EV} (hE : E0 E) (d : Nat) (hd : 3 ≤ d) {Q : QT} (k36 : Int32 → PM → Option PM) (hk36 : ∀ (x1 : Int32) (P : PM), St E rP (k36 x1 P) Q → Go G c_Mo_laysReached "YawnRouteModel" 5 none false d nOb nOb Q 36 [(0, .ref (ad E 109)), (1, .int x1)] [] P E) : ∀ (n : Nat) (x1 : Int32) (x2 : Int32) (P : PM), St E rP (l_Mo_laysReached_44 k36 n x1 x2 P) Q → Go G c_Mo_laysReached "YawnRouteModel" 5 none false d nOb nOb Q 44 [(0, .ref (ad E 109)), (1, .int x1), (2, .int x2)] [] P E := by
  intro n
  induction n with
  | zero =>
    intro x1 x2 P h
    rw [l_Mo_laysReached_44] at h
    exact St.none_ h
  | succ n ih =>
    intro x1 x2 P h
    rw [l_Mo_laysReached_44] at h
    refine Go.iload_n (k := 2) (i := 2) 2 (by decide +kernel) rfl rfl ?_
    refine Go.sipush (n := 287) (287 : Int32) (by decide +kernel) (by decide) ?_
    refine Go.icmp_ge (off := 69) 117 (by decide +kernel) (by decide) (fun c1 => ?_) (fun c1 => ?_)
    · rw [if_pos c1] at h
      refine Go.goto (off := -81) 36 (by decide +kernel) (by decide) ?_
      refine Go.sub [0, 1] [(0, .ref (ad E 109)), (1, .int x1)] rfl ?_
      exact hk36 x1 P h
    · rw [if_neg c1] at h
      refine Go.iconst (n := 0) (0 : Int32) (by decide +kernel) rfl ?_
      refine Go.istore_n (k := 3) (i := 3) [(3, .int (0 : Int32)), (0, .ref (ad E 109)), (1, .int x1), (2, .int x2)] (by decide +kernel) rfl (by decide) rfl ?_
      refine Go.sub [1, 2, 3, 0] [(0, .ref (ad E 109)), (1, .int x1), (2, .int x2), (3, .int (0 : Int32))] rfl ?_
      exact t_l_Mo_laysReached_53 hG hE d hd k36 hk36 (fun z0 z1 Pz => l_Mo_laysReached_44 k36 n z0 z1 Pz) (fun z0 z1 Pz q => ih z0 z1 Pz q) FU x1 x2 (0 : Int32) P h
theorem t_l_Mo_laysReached_36 {G : GX} (hG : GOK G) {E : EV} (hE : E0 E) (d : Nat) (hd : 3 ≤ d) {Q : QT} : ∀ (n : Nat) (x1 : Int32) (P : PM), St E rP (l_Mo_laysReached_36 n x1 P) Q → Go G c_Mo_laysReached "YawnRouteModel" 5 none false d nOb nOb Q 36 [(0, .ref (ad E 109)), (1, .int x1)] [] P E := by
  intro n
  induction n with
  | zero =>
    intro x1 P h
    rw [l_Mo_laysReached_36] at h
    exact St.none_ h
  | succ n ih =>
    intro x1 P h
    rw [l_Mo_laysReached_36] at h
    refine Go.iload_n (k := 1) (i := 1) 1 (by decide +kernel) rfl rfl ?_
    refine Go.if_eq (off := 83) 120 (by decide +kernel) (by decide) (fun c1 => ?_) (fun c1 => ?_)
    · rw [if_pos c1] at h
      exact Go.vret rfl hE.2 (by decide +kernel) (St.fP h)
    · rw [if_neg c1] at h
      refine Go.iconst (n := 0) (0 : Int32) (by decide +kernel) rfl ?_
      refine Go.istore_n (k := 1) (i := 1) [(1, .int (0 : Int32)), (0, .ref (ad E 109))] (by decide +kernel) rfl (by decide) rfl ?_
      refine Go.iconst (n := 0) (0 : Int32) (by decide +kernel) rfl ?_
      refine Go.istore_n (k := 2) (i := 2) [(2, .int (0 : Int32)), (1, .int (0 : Int32)), (0, .ref (ad E 109))] (by decide +kernel) rfl (by decide) rfl ?_
      refine Go.sub [2, 1, 0] [(0, .ref (ad E 109)), (1, .int (0 : Int32)), (2, .int (0 : Int32))] rfl ?_
      exact t_l_Mo_laysReached_44 hG hE d hd (fun z0 Pz => l_Mo_laysReached_36 n z0 Pz) (fun z0 Pz q => ih z0 Pz q) FU (0 : Int32) (0 : Int32) P h
theorem t_l_Mo_laysReached_2 {G : GX} (hG : GOK G) {E : EV} (hE : E0 E) (d : Nat) (hd : 3 ≤ d) {Q : QT} : ∀ (n : Nat) (x1 : Int32) (P : PM), St E rP (l_Mo_laysReached_2 n x1 P) Q → Go G c_Mo_laysReached "YawnRouteModel" 5 none false d nOb nOb Q 2 [(0, .ref (ad E 109)), (1, .int x1)] [] P E := by
  intro n
  induction n with
  | zero =>
    intro x1 P h
    rw [l_Mo_laysReached_2] at h
    exact St.none_ h
  | succ n ih =>
    intro x1 P h
    rw [l_Mo_laysReached_2] at h
    refine Go.iload_n (k := 1) (i := 1) 1 (by decide +kernel) rfl rfl ?_
    refine Go.sipush (n := 287) (287 : Int32) (by decide +kernel) (by decide) ?_
    refine Go.icmp_ge (off := 28) 34 (by decide +kernel) (by decide) (fun c1 => ?_) (fun c1 => ?_)
    · rw [if_pos c1] at h
      refine Go.iconst (n := 1) (1 : Int32) (by decide +kernel) rfl ?_
      refine Go.istore_n (k := 1) (i := 1) [(1, .int (1 : Int32)), (0, .ref (ad E 109))] (by decide +kernel) rfl (by decide) rfl ?_
      refine Go.sub [1, 0] [(0, .ref (ad E 109)), (1, .int (1 : Int32))] rfl ?_
      exact t_l_Mo_laysReached_36 hG hE d hd FU (1 : Int32) P h
    · rw [if_neg c1] at h
      refine Go.aload_n (k := 0) (i := 0) 0 (by decide +kernel) rfl rfl ?_
      refine Go.get 109 22 (.ref (ad E 119)) (by decide) (by decide) sh109 (ltO hE sh109) (vlR hE rfl rfl) lk1352 (by decide +kernel) ?_
      refine Go.iload_n (k := 1) (i := 1) 1 (by decide +kernel) rfl rfl ?_
      refine Go.iload_n (k := 1) (i := 1) 1 (by decide +kernel) rfl rfl ?_
      refine Go.aload_n (k := 0) (i := 0) 0 (by decide +kernel) rfl rfl ?_
      refine Go.cV_i (P1 := P) (v := (f_Mo_standNow P)) (d - 1) 109 [] sh109 hE w_Mo_standNow (e_Mo_standNow hG hE (d - 1) (by omega) P ⟨rfl, rfl, rfl⟩) lk1720 rfl (by omega) (Nat.le_of_ble_eq_true rfl) (by decide +kernel) _ rfl ?_
      refine Go.icmp_ne (off := 7) 26 (by decide +kernel) (by decide) (fun c2 => ?_) (fun c2 => ?_)
      · rw [if_neg c2] at h
        refine Go.iconst (n := 0) (0 : Int32) (by decide +kernel) rfl ?_
        exact t_j_Mo_laysReached_27 hG hE d hd (fun z0 Pz => l_Mo_laysReached_2 n z0 Pz) (fun z0 Pz q => ih z0 Pz q) x1 x1 (0 : Int32) P h
      · rw [if_pos c2] at h
        refine Go.iconst (n := 1) (1 : Int32) (by decide +kernel) rfl ?_
        refine Go.goto (off := 4) 27 (by decide +kernel) (by decide) ?_
        exact t_j_Mo_laysReached_27 hG hE d hd (fun z0 Pz => l_Mo_laysReached_2 n z0 Pz) (fun z0 Pz q => ih z0 Pz q) x1 x1 (1 : Int32) P h
theorem t_f_Mo_laysReached {G : GX} (hG : GOK G) {E : EV} (hE : E0 E) (d : Nat) (hd : 3 ≤ d) {Q : QT} (P : PM) (h : St E rP (f_Mo_laysReached P) Q) : Go G c_Mo_laysReached "YawnRouteModel" 5 none false d nOb nOb Q 0 [(0, .ref (ad E 109))] [] P E := by
  rw [f_Mo_laysReached] at h
  refine Go.iconst (n := 0) (0 : Int32) (by decide +kernel) rfl ?_
  refine Go.istore_n (k := 1) (i := 1) [(1, .int (0 : Int32)), (0, .ref (ad E 109))] (by decide +kernel) rfl (by decide) rfl ?_
  refine Go.sub [1, 0] [(0, .ref (ad E 109)), (1, .int (0 : Int32))] rfl ?_
  exact t_l_Mo_laysReached_2 hG hE d hd FU (0 : Int32) P h
theorem e_Mo_laysReached {G : GX} (hG : GOK G) {E : EV} (hE : E0 E) (d : Nat) (hd : 3 ≤ d) (P : PM) {Q : QT} (h : St E rP (f_Mo_laysReached P) Q) : Con G y_Mo_laysReached cw_Mo_laysReached d nOb nOb [.ref (ad E 109)] P E Q :=
  Con.of hG (by decide +kernel) rfl (fun h => by cases h) hE.2 (Nat.le_of_ble_eq_true rfl) (t_f_Mo_laysReached hG hE d hd P h)
