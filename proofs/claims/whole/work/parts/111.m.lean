/-! methods as functions, by program: Ro_improve Ro_seek Yr_refusal Yr_soonest Ro_bestFrom Ro_stationAt Yr_routeBy Yr_soonBy -/
abbrev c_Ro_improve : ByteArray := prog_7_method_6_code
abbrev y_Ro_improve : MethodName := ⟨"YawnRoute$Routes", "improve", "()Z"⟩
abbrev cw_Ro_improve : Cond := .code y_Ro_improve c_Ro_improve 6 (some .boolean)
theorem w_Ro_improve : VW 5 y_Ro_improve c_Ro_improve 6 (some .boolean) 0 := ⟨by decide, lk970, lp29_, lk11, lk971, ⟨by decide, by decide, by decide +kernel⟩, by decide⟩
noncomputable def j_Ro_improve_77 (k12 : Int32 → Int32 → PM → Option (Int32 × PM)) (k36 : Int32 → Int32 → Int32 → Int32 → PM → Option (Int32 × PM)) (x1 : Int32) (x2 : Int32) (x3 : Int32) (x4 : Int32) (P : PM) : Option (Int32 × PM) := k36 x1 x2 x3 (x4 + (1 : Int32)) P
noncomputable def l_Ro_improve_36 (k12 : Int32 → Int32 → PM → Option (Int32 × PM)) : Nat → Int32 → Int32 → Int32 → Int32 → PM → Option (Int32 × PM)
  | 0, _, _, _, _, _ => none
  | n + 1, x1, x2, x3, x4, P => if (P.1 14 0) ≤ x4 then (k12 x1 (x2 + (-1 : Int32)) P) else ((f_Ro_costOver x3 x4 P).bind (fun v2 => (f_Ro_costOf x3 P).bind (fun v3 => if v3 ≤ v2 then (j_Ro_improve_77 k12 (fun z0 z1 z2 z3 Pz => l_Ro_improve_36 k12 n z0 z1 z2 z3 Pz) x1 x2 x3 x4 P) else (ck (inb x3 280) (j_Ro_improve_77 k12 (fun z0 z1 z2 z3 Pz => l_Ro_improve_36 k12 n z0 z1 z2 z3 Pz) (1 : Int32) x2 x3 x4 (u1 P 64 x3.toNatClampNeg v2))))))
noncomputable def l_Ro_improve_12 : Nat → Int32 → Int32 → PM → Option (Int32 × PM)
  | 0, _, _, _ => none
  | n + 1, x1, x2, P => if x2 < (0 : Int32) then (ck (isz x1) (some (x1, P))) else (if (280 : Int32) ≤ x2 then (ck (isz x1) (some (x1, P))) else (ck (inb x2 280) (lb (P.1 62 x2.toNatClampNeg) (fun y6 => l_Ro_improve_36 (fun z0 z1 Pz => l_Ro_improve_12 n z0 z1 Pz) FU x1 x2 y6 (0 : Int32) P))))
noncomputable def f_Ro_improve (P : PM) : Option (Int32 × PM) := lb ((P.1 58 6) - (1 : Int32)) (fun y1 => l_Ro_improve_12 FU (0 : Int32) y1 P)
theorem t_j_Ro_improve_77 {G : GX} (hG : GOK G) {E : EV} (hE : E0 E) (d : Nat) (hd : 5 ≤ d) {Q : QT} (k12 : Int32 → Int32 → PM → Option (Int32 × PM)) (hk12 : ∀ (x1 : Int32) (x2 : Int32) (P : PM), St E rIP (k12 x1 x2 P) Q → Go G c_Ro_improve "YawnRoute$Routes" 6 (some .boolean) false d nOb nOb Q 12 [(0, .ref (ad E 63)), (1, .int x1), (2, .int x2)] [] P E) (k36 : Int32 → Int32 → Int32 → Int32 → PM → Option (Int32 × PM)) (hk36 : ∀ (x1 : Int32) (x2 : Int32) (x3 : Int32) (x4 : Int32) (P : PM), St E rIP (k36 x1 x2 x3 x4 P) Q → Go G c_Ro_improve "YawnRoute$Routes" 6 (some .boolean) false d nOb nOb Q 36 [(0, .ref (ad E 63)), (1, .int x1), (2, .int x2), (3, .int x3), (4, .int x4)] [] P E) (x1 : Int32) (x2 : Int32) (x3 : Int32) (x4 : Int32) (P : PM) (h : St E rIP (j_Ro_improve_77 k12 k36 x1 x2 x3 x4 P) Q) : Go G c_Ro_improve "YawnRoute$Routes" 6 (some .boolean) false d nOb nOb Q 77 [(0, .ref (ad E 63)), (1, .int x1), (2, .int x2), (3, .int x3), (4, .int x4)] [] P E := by
  rw [j_Ro_improve_77] at h
  refine Go.iinc (i := 4) (n := 1) 4 (x4 + (1 : Int32)) [(4, .int (x4 + (1 : Int32))), (0, .ref (ad E 63)), (1, .int x1), (2, .int x2), (3, .int x3)] (by decide +kernel) rfl rfl (by decide) rfl ?_
  refine Go.goto (off := -44) 36 (by decide +kernel) (by decide) ?_
  refine Go.sub [1, 2, 3, 4, 0] [(0, .ref (ad E 63)), (1, .int x1), (2, .int x2), (3, .int x3), (4, .int (x4 + (1 : Int32)))] rfl ?_
  exact hk36 x1 x2 x3 (x4 + (1 : Int32)) P h
theorem t_l_Ro_improve_36 {G : GX} (hG : GOK G) {E : EV} (hE : E0 E) (d : Nat) (hd : 5 ≤ d) {Q : QT} (k12 : Int32 → Int32 → PM → Option (Int32 × PM)) (hk12 : ∀ (x1 : Int32) (x2 : Int32) (P : PM), St E rIP (k12 x1 x2 P) Q → Go G c_Ro_improve "YawnRoute$Routes" 6 (some .boolean) false d nOb nOb Q 12 [(0, .ref (ad E 63)), (1, .int x1), (2, .int x2)] [] P E) : ∀ (n : Nat) (x1 : Int32) (x2 : Int32) (x3 : Int32) (x4 : Int32) (P : PM), St E rIP (l_Ro_improve_36 k12 n x1 x2 x3 x4 P) Q → Go G c_Ro_improve "YawnRoute$Routes" 6 (some .boolean) false d nOb nOb Q 36 [(0, .ref (ad E 63)), (1, .int x1), (2, .int x2), (3, .int x3), (4, .int x4)] [] P E := by
  intro n
  induction n with
  | zero =>
    intro x1 x2 x3 x4 P h
    rw [l_Ro_improve_36] at h
    exact St.none_ h
  | succ n ih =>
    intro x1 x2 x3 x4 P h
    rw [l_Ro_improve_36] at h
    refine Go.iload (i := 4) 4 (by decide +kernel) rfl ?_
    refine Go.aload_n (k := 0) (i := 0) 0 (by decide +kernel) rfl rfl ?_
    refine Go.get 63 0 (.ref (ad E 14)) (by decide) (by decide) sh63 (ltO hE sh63) (vlR hE rfl rfl) lk321 (by decide +kernel) ?_
    refine Go.get 14 0 (.int (P.1 14 0)) (by decide) (by decide) sh14 (ltO hE sh14) rfl lk91 (by decide +kernel) ?_
    refine Go.icmp_ge (off := 38) 83 (by decide +kernel) (by decide) (fun c1 => ?_) (fun c1 => ?_)
    · rw [if_pos c1] at h
      refine Go.iinc (i := 2) (n := -1) 2 (x2 + (-1 : Int32)) [(2, .int (x2 + (-1 : Int32))), (0, .ref (ad E 63)), (1, .int x1), (3, .int x3), (4, .int x4)] (by decide +kernel) rfl rfl (by decide) rfl ?_
      refine Go.goto (off := -74) 12 (by decide +kernel) (by decide) ?_
      refine Go.sub [1, 2, 0] [(0, .ref (ad E 63)), (1, .int x1), (2, .int (x2 + (-1 : Int32)))] rfl ?_
      exact hk12 x1 (x2 + (-1 : Int32)) P h
    · rw [if_neg c1] at h
      refine Go.aload_n (k := 0) (i := 0) 0 (by decide +kernel) rfl rfl ?_
      refine Go.iload_n (k := 3) (i := 3) 3 (by decide +kernel) rfl rfl ?_
      refine Go.iload (i := 4) 4 (by decide +kernel) rfl ?_
      obtain ⟨v2, hv2, h⟩ := St.bind h
      refine Go.cV_i (P1 := P) (v := v2) (d - 1) 63 [.int x3, .int x4] sh63 hE w_Ro_costOver (e_Ro_costOver hG hE (d - 1) (by omega) x3 x4 P ⟨_, hv2, rfl, rfl, rfl⟩) lk972 rfl (by omega) (Nat.le_of_ble_eq_true rfl) (by decide +kernel) _ rfl ?_
      refine Go.istore (i := 5) [(5, .int v2), (0, .ref (ad E 63)), (1, .int x1), (2, .int x2), (3, .int x3), (4, .int x4)] (by decide +kernel) (by decide) rfl ?_
      refine Go.iload (i := 5) 0 (by decide +kernel) rfl ?_
      refine Go.aload_n (k := 0) (i := 0) 1 (by decide +kernel) rfl rfl ?_
      refine Go.iload_n (k := 3) (i := 3) 4 (by decide +kernel) rfl rfl ?_
      obtain ⟨v3, hv3, h⟩ := St.bind h
      refine Go.cV_i (P1 := P) (v := v3) (d - 1) 63 [.int x3] sh63 hE w_Ro_costOf (e_Ro_costOf hG hE (d - 1) (by omega) x3 P ⟨_, hv3, rfl, rfl, rfl⟩) lk986 rfl (by omega) (Nat.le_of_ble_eq_true rfl) (by decide +kernel) _ rfl ?_
      refine Go.icmp_ge (off := 13) 77 (by decide +kernel) (by decide) (fun c4 => ?_) (fun c4 => ?_)
      · rw [if_pos c4] at h
        refine Go.sub [1, 2, 3, 4, 5] [(0, .ref (ad E 63)), (1, .int x1), (2, .int x2), (3, .int x3), (4, .int x4)] rfl ?_
        exact t_j_Ro_improve_77 hG hE d hd k12 hk12 (fun z0 z1 z2 z3 Pz => l_Ro_improve_36 k12 n z0 z1 z2 z3 Pz) (fun z0 z1 z2 z3 Pz q => ih z0 z1 z2 z3 Pz q) x1 x2 x3 x4 P h
      · rw [if_neg c4] at h
        refine Go.aload_n (k := 0) (i := 0) 1 (by decide +kernel) rfl rfl ?_
        refine Go.get 63 3 (.ref (ad E 64)) (by decide) (by decide) sh63 (ltO hE sh63) (vlR hE rfl rfl) lk324 (by decide +kernel) ?_
        refine Go.iload_n (k := 3) (i := 3) 4 (by decide +kernel) rfl rfl ?_
        refine Go.iload (i := 5) 0 (by decide +kernel) rfl ?_
        obtain ⟨b5, h⟩ := St.ck h
        refine Go.iastore 64 280 sh64 (ltA hE sh64 (by decide)) (inb_in b5) (by decide +kernel) ?_
        refine Go.iconst (n := 1) (1 : Int32) (by decide +kernel) rfl ?_
        refine Go.istore_n (k := 1) (i := 1) [(1, .int (1 : Int32)), (5, .int v2), (0, .ref (ad E 63)), (2, .int x2), (3, .int x3), (4, .int x4)] (by decide +kernel) rfl (by decide) rfl ?_
        refine Go.sub [2, 0, 3, 4, 5] [(0, .ref (ad E 63)), (1, .int (1 : Int32)), (2, .int x2), (3, .int x3), (4, .int x4)] rfl ?_
        exact t_j_Ro_improve_77 hG hE d hd k12 hk12 (fun z0 z1 z2 z3 Pz => l_Ro_improve_36 k12 n z0 z1 z2 z3 Pz) (fun z0 z1 z2 z3 Pz q => ih z0 z1 z2 z3 Pz q) (1 : Int32) x2 x3 x4 (u1 P 64 x3.toNatClampNeg v2) h
theorem t_l_Ro_improve_12 {G : GX} (hG : GOK G) {E : EV} (hE : E0 E) (d : Nat) (hd : 5 ≤ d) {Q : QT} : ∀ (n : Nat) (x1 : Int32) (x2 : Int32) (P : PM), St E rIP (l_Ro_improve_12 n x1 x2 P) Q → Go G c_Ro_improve "YawnRoute$Routes" 6 (some .boolean) false d nOb nOb Q 12 [(0, .ref (ad E 63)), (1, .int x1), (2, .int x2)] [] P E := by
  intro n
  induction n with
  | zero =>
    intro x1 x2 P h
    rw [l_Ro_improve_12] at h
    exact St.none_ h
  | succ n ih =>
    intro x1 x2 P h
    rw [l_Ro_improve_12] at h
    refine Go.iload_n (k := 2) (i := 2) 2 (by decide +kernel) rfl rfl ?_
    refine Go.if_lt (off := 76) 89 (by decide +kernel) (by decide) (fun c1 => ?_) (fun c1 => ?_)
    · rw [if_pos c1] at h
      refine Go.iload_n (k := 1) (i := 1) 1 (by decide +kernel) rfl rfl ?_
      obtain ⟨b2, h⟩ := St.ck h
      exact Go.iret rfl (isz_b b2).1 hE.2 (by decide +kernel) (St.fIP h)
    · rw [if_neg c1] at h
      refine Go.iload_n (k := 2) (i := 2) 2 (by decide +kernel) rfl rfl ?_
      refine Go.sipush (n := 280) (280 : Int32) (by decide +kernel) (by decide) ?_
      refine Go.icmp_ge (off := 69) 89 (by decide +kernel) (by decide) (fun c3 => ?_) (fun c3 => ?_)
      · rw [if_pos c3] at h
        refine Go.iload_n (k := 1) (i := 1) 1 (by decide +kernel) rfl rfl ?_
        obtain ⟨b4, h⟩ := St.ck h
        exact Go.iret rfl (isz_b b4).1 hE.2 (by decide +kernel) (St.fIP h)
      · rw [if_neg c3] at h
        refine Go.aload_n (k := 0) (i := 0) 0 (by decide +kernel) rfl rfl ?_
        refine Go.get 63 2 (.ref (ad E 58)) (by decide) (by decide) sh63 (ltO hE sh63) (vlR hE rfl rfl) lk323 (by decide +kernel) ?_
        refine Go.get 58 5 (.ref (ad E 62)) (by decide) (by decide) sh58 (ltO hE sh58) (vlR hE rfl rfl) lk296 (by decide +kernel) ?_
        refine Go.iload_n (k := 2) (i := 2) 2 (by decide +kernel) rfl rfl ?_
        obtain ⟨b5, h⟩ := St.ck h
        refine Go.iaload 62 280 sh62 (ltA hE sh62 (by decide)) (inb_in b5) (by decide +kernel) ?_
        obtain ⟨y6, hy6, h⟩ := St.lb h
        refine Go.eqi y6 hy6 ?_
        refine Go.istore_n (k := 3) (i := 3) [(3, .int y6), (0, .ref (ad E 63)), (1, .int x1), (2, .int x2)] (by decide +kernel) rfl (by decide) rfl ?_
        refine Go.iconst (n := 0) (0 : Int32) (by decide +kernel) rfl ?_
        refine Go.istore (i := 4) [(4, .int (0 : Int32)), (3, .int y6), (0, .ref (ad E 63)), (1, .int x1), (2, .int x2)] (by decide +kernel) (by decide) rfl ?_
        refine Go.sub [2, 3, 4, 1, 0] [(0, .ref (ad E 63)), (1, .int x1), (2, .int x2), (3, .int y6), (4, .int (0 : Int32))] rfl ?_
        exact t_l_Ro_improve_36 hG hE d hd (fun z0 z1 Pz => l_Ro_improve_12 n z0 z1 Pz) (fun z0 z1 Pz q => ih z0 z1 Pz q) FU x1 x2 y6 (0 : Int32) P h
theorem t_f_Ro_improve {G : GX} (hG : GOK G) {E : EV} (hE : E0 E) (d : Nat) (hd : 5 ≤ d) {Q : QT} (P : PM) (h : St E rIP (f_Ro_improve P) Q) : Go G c_Ro_improve "YawnRoute$Routes" 6 (some .boolean) false d nOb nOb Q 0 [(0, .ref (ad E 63))] [] P E := by
  rw [f_Ro_improve] at h
  refine Go.iconst (n := 0) (0 : Int32) (by decide +kernel) rfl ?_
  refine Go.istore_n (k := 1) (i := 1) [(1, .int (0 : Int32)), (0, .ref (ad E 63))] (by decide +kernel) rfl (by decide) rfl ?_
  refine Go.aload_n (k := 0) (i := 0) 1 (by decide +kernel) rfl rfl ?_
  refine Go.get 63 2 (.ref (ad E 58)) (by decide) (by decide) sh63 (ltO hE sh63) (vlR hE rfl rfl) lk323 (by decide +kernel) ?_
  refine Go.get 58 6 (.int (P.1 58 6)) (by decide) (by decide) sh58 (ltO hE sh58) rfl lk299 (by decide +kernel) ?_
  refine Go.iconst (n := 1) (1 : Int32) (by decide +kernel) rfl ?_
  refine Go.isub (by decide +kernel) ?_
  obtain ⟨y1, hy1, h⟩ := St.lb h
  refine Go.eqi y1 hy1 ?_
  refine Go.istore_n (k := 2) (i := 2) [(2, .int y1), (1, .int (0 : Int32)), (0, .ref (ad E 63))] (by decide +kernel) rfl (by decide) rfl ?_
  refine Go.sub [2, 1, 0] [(0, .ref (ad E 63)), (1, .int (0 : Int32)), (2, .int y1)] rfl ?_
  exact t_l_Ro_improve_12 hG hE d hd FU (0 : Int32) y1 P h
theorem e_Ro_improve {G : GX} (hG : GOK G) {E : EV} (hE : E0 E) (d : Nat) (hd : 5 ≤ d) (P : PM) {Q : QT} (h : St E rIP (f_Ro_improve P) Q) : Con G y_Ro_improve cw_Ro_improve d nOb nOb [.ref (ad E 63)] P E Q :=
  Con.of hG (by decide +kernel) rfl (fun h => by cases h) hE.2 (Nat.le_of_ble_eq_true rfl) (t_f_Ro_improve hG hE d hd P h)
abbrev c_Ro_seek : ByteArray := prog_7_method_2_code
abbrev y_Ro_seek : MethodName := ⟨"YawnRoute$Routes", "seek", "(IIZ)Z"⟩
abbrev cw_Ro_seek : Cond := .code y_Ro_seek c_Ro_seek 6 (some .boolean)
theorem w_Ro_seek : VW 5 y_Ro_seek c_Ro_seek 6 (some .boolean) 3 := ⟨by decide, lk917, lk918, lk11, lk919, ⟨by decide, by decide, by decide +kernel⟩, by decide⟩
noncomputable def j_Ro_seek_67 (k29 : Int32 → Int32 → Int32 → PM → Option (Int32 × PM)) (x1 : Int32) (x2 : Int32) (x4 : Int32) (s1 : Int32) (s2 : Int32) (P : PM) : Option (Int32 × PM) := ck (inb s1 280) (k29 x1 x2 (x4 + (1 : Int32)) (u1 P 64 s1.toNatClampNeg s2))
noncomputable def j_Ro_seek_65 (k29 : Int32 → Int32 → Int32 → PM → Option (Int32 × PM)) (x1 : Int32) (x2 : Int32) (x4 : Int32) (s1 : Int32) (P : PM) : Option (Int32 × PM) := j_Ro_seek_67 k29 x1 x2 x4 s1 (1000000000 : Int32) P
noncomputable def j_Ro_seek_105 (P : PM) : Option (Int32 × PM) := (f_Ro_costOf (f_Sa_place 21 P) P).bind (fun v1 => if (1000000000 : Int32) ≤ v1 then (some ((0 : Int32), P)) else (some ((1 : Int32), P)))
noncomputable def l_Ro_seek_80 : Nat → Int32 → Int32 → PM → Option (Int32 × PM)
  | 0, _, _, _ => none
  | n + 1, x4, x5, P => if (280 : Int32) ≤ x5 then (j_Ro_seek_105 P) else (if x4 = (0 : Int32) then (j_Ro_seek_105 P) else (bd2 (f_Ro_improve P) (fun v3 P4 => l_Ro_seek_80 n v3 (x5 + (1 : Int32)) P4)))
noncomputable def l_Ro_seek_29 : Nat → Int32 → Int32 → Int32 → PM → Option (Int32 × PM)
  | 0, _, _, _, _ => none
  | n + 1, x1, x2, x4, P => if (280 : Int32) ≤ x4 then (l_Ro_seek_80 FU (1 : Int32) (0 : Int32) P) else (if (f_Yr_stationIn x4 P) = x1 then (if (f_Yr_sizeIn x4 P) < x2 then (j_Ro_seek_65 (fun z0 z1 z2 Pz => l_Ro_seek_29 n z0 z1 z2 Pz) x1 x2 x4 x4 P) else (j_Ro_seek_67 (fun z0 z1 z2 Pz => l_Ro_seek_29 n z0 z1 z2 Pz) x1 x2 x4 x4 (0 : Int32) P)) else (j_Ro_seek_65 (fun z0 z1 z2 Pz => l_Ro_seek_29 n z0 z1 z2 Pz) x1 x2 x4 x4 P))
noncomputable def f_Ro_seek (a1 : Int32) (a2 : Int32) (a3 : Int32) (P : PM) : Option (Int32 × PM) := ck (isz a3) ((f_Pa_explore (f_Sa_place 21 (u1 P 63 4 a3)) ((u1 P 63 4 a3).1 21 3) (u1 P 63 4 a3)).bind (fun P2 => l_Ro_seek_29 FU a1 a2 (0 : Int32) P2))
theorem t_j_Ro_seek_67 {G : GX} (hG : GOK G) {E : EV} (hE : E0 E) (d : Nat) (hd : 6 ≤ d) {Q : QT} (k29 : Int32 → Int32 → Int32 → PM → Option (Int32 × PM)) (hk29 : ∀ (x1 : Int32) (x2 : Int32) (x4 : Int32) (P : PM), St E rIP (k29 x1 x2 x4 P) Q → Go G c_Ro_seek "YawnRoute$Routes" 6 (some .boolean) false d nOb nOb Q 29 [(0, .ref (ad E 63)), (1, .int x1), (2, .int x2), (4, .int x4)] [] P E) (x1 : Int32) (x2 : Int32) (x4 : Int32) (s1 : Int32) (s2 : Int32) (P : PM) (h : St E rIP (j_Ro_seek_67 k29 x1 x2 x4 s1 s2 P) Q) : Go G c_Ro_seek "YawnRoute$Routes" 6 (some .boolean) false d nOb nOb Q 67 [(0, .ref (ad E 63)), (1, .int x1), (2, .int x2), (4, .int x4)] [.int s2, .int s1, .ref (ad E 64)] P E := by
  rw [j_Ro_seek_67] at h
  obtain ⟨b1, h⟩ := St.ck h
  refine Go.iastore 64 280 sh64 (ltA hE sh64 (by decide)) (inb_in b1) (by decide +kernel) ?_
  refine Go.iinc (i := 4) (n := 1) 3 (x4 + (1 : Int32)) [(4, .int (x4 + (1 : Int32))), (0, .ref (ad E 63)), (1, .int x1), (2, .int x2)] (by decide +kernel) rfl rfl (by decide) rfl ?_
  refine Go.goto (off := -42) 29 (by decide +kernel) (by decide) ?_
  refine Go.sub [1, 2, 3, 0] [(0, .ref (ad E 63)), (1, .int x1), (2, .int x2), (4, .int (x4 + (1 : Int32)))] rfl ?_
  exact hk29 x1 x2 (x4 + (1 : Int32)) (u1 P 64 s1.toNatClampNeg s2) h
theorem t_j_Ro_seek_65 {G : GX} (hG : GOK G) {E : EV} (hE : E0 E) (d : Nat) (hd : 6 ≤ d) {Q : QT} (k29 : Int32 → Int32 → Int32 → PM → Option (Int32 × PM)) (hk29 : ∀ (x1 : Int32) (x2 : Int32) (x4 : Int32) (P : PM), St E rIP (k29 x1 x2 x4 P) Q → Go G c_Ro_seek "YawnRoute$Routes" 6 (some .boolean) false d nOb nOb Q 29 [(0, .ref (ad E 63)), (1, .int x1), (2, .int x2), (4, .int x4)] [] P E) (x1 : Int32) (x2 : Int32) (x4 : Int32) (s1 : Int32) (P : PM) (h : St E rIP (j_Ro_seek_65 k29 x1 x2 x4 s1 P) Q) : Go G c_Ro_seek "YawnRoute$Routes" 6 (some .boolean) false d nOb nOb Q 65 [(0, .ref (ad E 63)), (1, .int x1), (2, .int x2), (4, .int x4)] [.int s1, .ref (ad E 64)] P E := by
  rw [j_Ro_seek_65] at h
  refine Go.ldc (1000000000 : Int32) lk967 (by decide +kernel) ?_
  exact t_j_Ro_seek_67 hG hE d hd k29 hk29 x1 x2 x4 s1 (1000000000 : Int32) P h
theorem t_j_Ro_seek_105 {G : GX} (hG : GOK G) {E : EV} (hE : E0 E) (d : Nat) (hd : 6 ≤ d) {Q : QT} (P : PM) (h : St E rIP (j_Ro_seek_105 P) Q) : Go G c_Ro_seek "YawnRoute$Routes" 6 (some .boolean) false d nOb nOb Q 105 [(0, .ref (ad E 63))] [] P E := by
  rw [j_Ro_seek_105] at h
  refine Go.aload_n (k := 0) (i := 0) 0 (by decide +kernel) rfl rfl ?_
  refine Go.aload_n (k := 0) (i := 0) 0 (by decide +kernel) rfl rfl ?_
  refine Go.get 63 1 (.ref (ad E 21)) (by decide) (by decide) sh63 (ltO hE sh63) (vlR hE rfl rfl) lk322 (by decide +kernel) ?_
  refine Go.cV_i (P1 := P) (v := (f_Sa_place 21 P)) (d - 1) 21 [] sh21 hE w_Sa_place (e_Sa_place hG hE (d - 1) (by omega) 21 sh21 P ⟨rfl, rfl, rfl⟩) lk920 rfl (by omega) (Nat.le_of_ble_eq_true rfl) (by decide +kernel) _ rfl ?_
  obtain ⟨v1, hv1, h⟩ := St.bind h
  refine Go.cV_i (P1 := P) (v := v1) (d - 1) 63 [.int (f_Sa_place 21 P)] sh63 hE w_Ro_costOf (e_Ro_costOf hG hE (d - 1) (by omega) (f_Sa_place 21 P) P ⟨_, hv1, rfl, rfl, rfl⟩) lk986 rfl (by omega) (Nat.le_of_ble_eq_true rfl) (by decide +kernel) _ rfl ?_
  refine Go.ldc (1000000000 : Int32) lk967 (by decide +kernel) ?_
  refine Go.icmp_ge (off := 7) 125 (by decide +kernel) (by decide) (fun c2 => ?_) (fun c2 => ?_)
  · rw [if_pos c2] at h
    refine Go.iconst (n := 0) (0 : Int32) (by decide +kernel) rfl ?_
    exact Go.iret rfl rfl hE.2 (by decide +kernel) (St.fIP h)
  · rw [if_neg c2] at h
    refine Go.iconst (n := 1) (1 : Int32) (by decide +kernel) rfl ?_
    refine Go.goto (off := 4) 126 (by decide +kernel) (by decide) ?_
    exact Go.iret rfl rfl hE.2 (by decide +kernel) (St.fIP h)
theorem t_l_Ro_seek_80 {G : GX} (hG : GOK G) {E : EV} (hE : E0 E) (d : Nat) (hd : 6 ≤ d) {Q : QT} : ∀ (n : Nat) (x4 : Int32) (x5 : Int32) (P : PM), St E rIP (l_Ro_seek_80 n x4 x5 P) Q → Go G c_Ro_seek "YawnRoute$Routes" 6 (some .boolean) false d nOb nOb Q 80 [(0, .ref (ad E 63)), (4, .int x4), (5, .int x5)] [] P E := by
  intro n
  induction n with
  | zero =>
    intro x4 x5 P h
    rw [l_Ro_seek_80] at h
    exact St.none_ h
  | succ n ih =>
    intro x4 x5 P h
    rw [l_Ro_seek_80] at h
    refine Go.iload (i := 5) 2 (by decide +kernel) rfl ?_
    refine Go.sipush (n := 280) (280 : Int32) (by decide +kernel) (by decide) ?_
    refine Go.icmp_ge (off := 20) 105 (by decide +kernel) (by decide) (fun c1 => ?_) (fun c1 => ?_)
    · rw [if_pos c1] at h
      refine Go.sub [0] [(0, .ref (ad E 63))] rfl ?_
      exact t_j_Ro_seek_105 hG hE d hd P h
    · rw [if_neg c1] at h
      refine Go.iload (i := 4) 1 (by decide +kernel) rfl ?_
      refine Go.if_eq (off := 15) 105 (by decide +kernel) (by decide) (fun c2 => ?_) (fun c2 => ?_)
      · rw [if_pos c2] at h
        refine Go.sub [0] [(0, .ref (ad E 63))] rfl ?_
        exact t_j_Ro_seek_105 hG hE d hd P h
      · rw [if_neg c2] at h
        refine Go.aload_n (k := 0) (i := 0) 0 (by decide +kernel) rfl rfl ?_
        obtain ⟨v3, P4, hv3, h⟩ := St.bd2 h
        refine Go.cV_i (P1 := P4) (v := v3) (d - 1) 63 [] sh63 hE w_Ro_improve (e_Ro_improve hG hE (d - 1) (by omega) P ⟨_, hv3, rfl, rfl, rfl⟩) lk968 rfl (by omega) (Nat.le_of_ble_eq_true rfl) (by decide +kernel) _ rfl ?_
        refine Go.istore (i := 4) [(4, .int v3), (0, .ref (ad E 63)), (5, .int x5)] (by decide +kernel) (by decide) rfl ?_
        refine Go.iinc (i := 5) (n := 1) 2 (x5 + (1 : Int32)) [(5, .int (x5 + (1 : Int32))), (4, .int v3), (0, .ref (ad E 63))] (by decide +kernel) rfl rfl (by decide) rfl ?_
        refine Go.goto (off := -22) 80 (by decide +kernel) (by decide) ?_
        refine Go.sub [2, 1, 0] [(0, .ref (ad E 63)), (4, .int v3), (5, .int (x5 + (1 : Int32)))] rfl ?_
        exact ih v3 (x5 + (1 : Int32)) P4 h
theorem t_l_Ro_seek_29 {G : GX} (hG : GOK G) {E : EV} (hE : E0 E) (d : Nat) (hd : 6 ≤ d) {Q : QT} : ∀ (n : Nat) (x1 : Int32) (x2 : Int32) (x4 : Int32) (P : PM), St E rIP (l_Ro_seek_29 n x1 x2 x4 P) Q → Go G c_Ro_seek "YawnRoute$Routes" 6 (some .boolean) false d nOb nOb Q 29 [(0, .ref (ad E 63)), (1, .int x1), (2, .int x2), (4, .int x4)] [] P E := by
  intro n
  induction n with
  | zero =>
    intro x1 x2 x4 P h
    rw [l_Ro_seek_29] at h
    exact St.none_ h
  | succ n ih =>
    intro x1 x2 x4 P h
    rw [l_Ro_seek_29] at h
    refine Go.iload (i := 4) 3 (by decide +kernel) rfl ?_
    refine Go.sipush (n := 280) (280 : Int32) (by decide +kernel) (by decide) ?_
    refine Go.icmp_ge (off := 40) 74 (by decide +kernel) (by decide) (fun c1 => ?_) (fun c1 => ?_)
    · rw [if_pos c1] at h
      refine Go.iconst (n := 1) (1 : Int32) (by decide +kernel) rfl ?_
      refine Go.istore (i := 4) [(4, .int (1 : Int32)), (0, .ref (ad E 63)), (1, .int x1), (2, .int x2)] (by decide +kernel) (by decide) rfl ?_
      refine Go.iconst (n := 0) (0 : Int32) (by decide +kernel) rfl ?_
      refine Go.istore (i := 5) [(5, .int (0 : Int32)), (4, .int (1 : Int32)), (0, .ref (ad E 63)), (1, .int x1), (2, .int x2)] (by decide +kernel) (by decide) rfl ?_
      refine Go.sub [2, 1, 0] [(0, .ref (ad E 63)), (4, .int (1 : Int32)), (5, .int (0 : Int32))] rfl ?_
      exact t_l_Ro_seek_80 hG hE d hd FU (1 : Int32) (0 : Int32) P h
    · rw [if_neg c1] at h
      refine Go.aload_n (k := 0) (i := 0) 0 (by decide +kernel) rfl rfl ?_
      refine Go.get 63 3 (.ref (ad E 64)) (by decide) (by decide) sh63 (ltO hE sh63) (vlR hE rfl rfl) lk324 (by decide +kernel) ?_
      refine Go.iload (i := 4) 3 (by decide +kernel) rfl ?_
      refine Go.iload (i := 4) 3 (by decide +kernel) rfl ?_
      refine Go.cSN_i (P1 := P) (v := (f_Yr_stationIn x4 P)) (d - 1) [.int x4] hE w_Yr_stationIn (e_Yr_stationIn hG hE (d - 1) (by omega) x4 P ⟨rfl, rfl, rfl⟩) nw17 rfl (by omega) (Nat.le_of_ble_eq_true rfl) (by decide +kernel) _ rfl ?_
      refine Go.iload_n (k := 1) (i := 1) 1 (by decide +kernel) rfl rfl ?_
      refine Go.icmp_ne (off := 16) 65 (by decide +kernel) (by decide) (fun c2 => ?_) (fun c2 => ?_)
      · rw [if_neg c2] at h
        exact t_j_Ro_seek_65 hG hE d hd (fun z0 z1 z2 Pz => l_Ro_seek_29 n z0 z1 z2 Pz) (fun z0 z1 z2 Pz q => ih z0 z1 z2 Pz q) x1 x2 x4 x4 P h
      · rw [if_pos c2] at h
        refine Go.iload (i := 4) 3 (by decide +kernel) rfl ?_
        refine Go.cSN_i (P1 := P) (v := (f_Yr_sizeIn x4 P)) (d - 1) [.int x4] hE w_Yr_sizeIn (e_Yr_sizeIn hG hE (d - 1) (by omega) x4 P ⟨rfl, rfl, rfl⟩) nw18 rfl (by omega) (Nat.le_of_ble_eq_true rfl) (by decide +kernel) _ rfl ?_
        refine Go.iload_n (k := 2) (i := 2) 2 (by decide +kernel) rfl rfl ?_
        refine Go.icmp_lt (off := 7) 65 (by decide +kernel) (by decide) (fun c3 => ?_) (fun c3 => ?_)
        · rw [if_pos c3] at h
          exact t_j_Ro_seek_65 hG hE d hd (fun z0 z1 z2 Pz => l_Ro_seek_29 n z0 z1 z2 Pz) (fun z0 z1 z2 Pz q => ih z0 z1 z2 Pz q) x1 x2 x4 x4 P h
        · rw [if_neg c3] at h
          refine Go.iconst (n := 0) (0 : Int32) (by decide +kernel) rfl ?_
          refine Go.goto (off := 5) 67 (by decide +kernel) (by decide) ?_
          exact t_j_Ro_seek_67 hG hE d hd (fun z0 z1 z2 Pz => l_Ro_seek_29 n z0 z1 z2 Pz) (fun z0 z1 z2 Pz q => ih z0 z1 z2 Pz q) x1 x2 x4 x4 (0 : Int32) P h
theorem t_f_Ro_seek {G : GX} (hG : GOK G) {E : EV} (hE : E0 E) (d : Nat) (hd : 6 ≤ d) {Q : QT} (a1 : Int32) (a2 : Int32) (a3 : Int32) (P : PM) (h : St E rIP (f_Ro_seek a1 a2 a3 P) Q) : Go G c_Ro_seek "YawnRoute$Routes" 6 (some .boolean) false d nOb nOb Q 0 [(0, .ref (ad E 63)), (1, .int a1), (2, .int a2), (3, .int a3)] [] P E := by
  rw [f_Ro_seek] at h
  refine Go.aload_n (k := 0) (i := 0) 0 (by decide +kernel) rfl rfl ?_
  refine Go.iload_n (k := 3) (i := 3) 3 (by decide +kernel) rfl rfl ?_
  obtain ⟨b1, h⟩ := St.ck h
  refine Go.put 63 4 (by decide) (by decide) sh63 (ltO hE sh63) (Or.inr rfl) rfl (isz_b b1).1 (isz_b b1).2 lk325 (by decide +kernel) ?_
  refine Go.aload_n (k := 0) (i := 0) 0 (by decide +kernel) rfl rfl ?_
  refine Go.get 63 2 (.ref (ad E 58)) (by decide) (by decide) sh63 (ltO hE sh63) (vlR hE rfl rfl) lk323 (by decide +kernel) ?_
  refine Go.aload_n (k := 0) (i := 0) 0 (by decide +kernel) rfl rfl ?_
  refine Go.get 63 1 (.ref (ad E 21)) (by decide) (by decide) sh63 (ltO hE sh63) (vlR hE rfl rfl) lk322 (by decide +kernel) ?_
  refine Go.cV_i (P1 := (u1 P 63 4 a3)) (v := (f_Sa_place 21 (u1 P 63 4 a3))) (d - 1) 21 [] sh21 hE w_Sa_place (e_Sa_place hG hE (d - 1) (by omega) 21 sh21 (u1 P 63 4 a3) ⟨rfl, rfl, rfl⟩) lk920 rfl (by omega) (Nat.le_of_ble_eq_true rfl) (by decide +kernel) _ rfl ?_
  refine Go.aload_n (k := 0) (i := 0) 0 (by decide +kernel) rfl rfl ?_
  refine Go.get 63 1 (.ref (ad E 21)) (by decide) (by decide) sh63 (ltO hE sh63) (vlR hE rfl rfl) lk322 (by decide +kernel) ?_
  refine Go.get 21 3 (.int ((u1 P 63 4 a3).1 21 3)) (by decide) (by decide) sh21 (ltO hE sh21) rfl lk166 (by decide +kernel) ?_
  obtain ⟨P2, hP2, h⟩ := St.bind h
  refine Go.cV_v (P1 := P2) (d - 1) 58 [.int (f_Sa_place 21 (u1 P 63 4 a3)), .int ((u1 P 63 4 a3).1 21 3)] sh58 hE w_Pa_explore (e_Pa_explore hG hE (d - 1) (by omega) (f_Sa_place 21 (u1 P 63 4 a3)) ((u1 P 63 4 a3).1 21 3) (u1 P 63 4 a3) ⟨_, hP2, rfl, rfl, rfl⟩) lk927 rfl (by omega) (Nat.le_of_ble_eq_true rfl) (by decide +kernel) _ rfl ?_
  refine Go.iconst (n := 0) (0 : Int32) (by decide +kernel) rfl ?_
  refine Go.istore (i := 4) [(4, .int (0 : Int32)), (0, .ref (ad E 63)), (1, .int a1), (2, .int a2), (3, .int a3)] (by decide +kernel) (by decide) rfl ?_
  refine Go.sub [1, 2, 3, 0] [(0, .ref (ad E 63)), (1, .int a1), (2, .int a2), (4, .int (0 : Int32))] rfl ?_
  exact t_l_Ro_seek_29 hG hE d hd FU a1 a2 (0 : Int32) P2 h
theorem e_Ro_seek {G : GX} (hG : GOK G) {E : EV} (hE : E0 E) (d : Nat) (hd : 6 ≤ d) (a1 : Int32) (a2 : Int32) (a3 : Int32) (P : PM) {Q : QT} (h : St E rIP (f_Ro_seek a1 a2 a3 P) Q) : Con G y_Ro_seek cw_Ro_seek d nOb nOb [.ref (ad E 63), .int a1, .int a2, .int a3] P E Q :=
  Con.of hG (by decide +kernel) rfl (fun h => by cases h) hE.2 (Nat.le_of_ble_eq_true rfl) (t_f_Ro_seek hG hE d hd a1 a2 a3 P h)
abbrev c_Yr_refusal : ByteArray := prog_1_method_46_code
abbrev y_Yr_refusal : MethodName := ⟨"YawnRoute", "refusal", "(ZZ)I"⟩
abbrev cw_Yr_refusal : Cond := .code y_Yr_refusal c_Yr_refusal 3 (some .int)
theorem w_Yr_refusal : VW 11 y_Yr_refusal c_Yr_refusal 3 (some .int) 2 := ⟨by decide, lk914, lp25_, lk1, lk915, ⟨by decide, by decide, by decide +kernel⟩, by decide⟩
noncomputable def f_Yr_refusal (a1 : Int32) (a2 : Int32) (P : PM) : Int32 := if a1 = (0 : Int32) then ((-2 : Int32)) else (if a2 = (0 : Int32) then ((-3 : Int32)) else (if (P.1 21 0) = (-1 : Int32) then ((-5 : Int32)) else ((0 : Int32))))
theorem t_f_Yr_refusal {G : GX} (hG : GOK G) {E : EV} (hE : E0 E) (d : Nat) (hd : 1 ≤ d) {P : PM} {Q : QT} (a1 : Int32) (a2 : Int32) (h : Q (some (.int (f_Yr_refusal a1 a2 P))) P E) : Go G c_Yr_refusal "YawnRoute" 3 (some .int) false d nOb nOb Q 0 [(0, .ref (ad E 0)), (1, .int a1), (2, .int a2)] [] P E := by
  rw [f_Yr_refusal] at h
  refine Go.iload_n (k := 1) (i := 1) 1 (by decide +kernel) rfl rfl ?_
  refine Go.if_ne (off := 6) 7 (by decide +kernel) (by decide) (fun c1 => ?_) (fun c1 => ?_)
  · rw [if_neg c1] at h
    refine Go.iload_n (k := 2) (i := 2) 2 (by decide +kernel) rfl rfl ?_
    refine Go.if_ne (off := 6) 14 (by decide +kernel) (by decide) (fun c2 => ?_) (fun c2 => ?_)
    · rw [if_neg c2] at h
      refine Go.aload_n (k := 0) (i := 0) 0 (by decide +kernel) rfl rfl ?_
      refine Go.get 0 3 (.ref (ad E 21)) (by decide) (by decide) sh0 (ltO hE sh0) (vlR hE rfl rfl) lk393 (by decide +kernel) ?_
      refine Go.get 21 0 (.int (P.1 21 0)) (by decide) (by decide) sh21 (ltO hE sh21) rfl lk151 (by decide +kernel) ?_
      refine Go.iconst (n := -1) (-1 : Int32) (by decide +kernel) rfl ?_
      refine Go.icmp_ne (off := 8) 30 (by decide +kernel) (by decide) (fun c3 => ?_) (fun c3 => ?_)
      · rw [if_neg c3] at h
        refine Go.iconst (n := 0) (0 : Int32) (by decide +kernel) rfl ?_
        exact Go.iret rfl rfl hE.2 (by decide +kernel) h
      · rw [if_pos c3] at h
        refine Go.bipush (n := -5) (-5 : Int32) (by decide +kernel) (by decide) ?_
        refine Go.goto (off := 4) 31 (by decide +kernel) (by decide) ?_
        exact Go.iret rfl rfl hE.2 (by decide +kernel) h
    · rw [if_pos c2] at h
      refine Go.bipush (n := -3) (-3 : Int32) (by decide +kernel) (by decide) ?_
      exact Go.iret rfl rfl hE.2 (by decide +kernel) h
  · rw [if_pos c1] at h
    refine Go.bipush (n := -2) (-2 : Int32) (by decide +kernel) (by decide) ?_
    exact Go.iret rfl rfl hE.2 (by decide +kernel) h
theorem e_Yr_refusal {G : GX} (hG : GOK G) {E : EV} (hE : E0 E) (d : Nat) (hd : 1 ≤ d) (a1 : Int32) (a2 : Int32) (P : PM) {Q : QT} (h : Q (some (.int (f_Yr_refusal a1 a2 P))) P E) : Con G y_Yr_refusal cw_Yr_refusal d nOb nOb [.ref (ad E 0), .int a1, .int a2] P E Q :=
  Con.of hG (by decide +kernel) rfl (fun h => by cases h) hE.2 (Nat.le_of_ble_eq_true rfl) (t_f_Yr_refusal hG hE d hd a1 a2 h)
abbrev c_Yr_soonest : ByteArray := prog_1_method_16_code
abbrev y_Yr_soonest : MethodName := ⟨"YawnRoute", "soonest", "(II)I"⟩
abbrev cw_Yr_soonest : Cond := .code y_Yr_soonest c_Yr_soonest 4 (some .int)
theorem w_Yr_soonest : VW 11 y_Yr_soonest c_Yr_soonest 4 (some .int) 2 := ⟨by decide, lk908, lk909, lk1, lk910, ⟨by decide, by decide, by decide +kernel⟩, by decide⟩
noncomputable def f_Yr_soonest (a1 : Int32) (a2 : Int32) (P : PM) : Option (Int32 × PM) := lb (f_Yr_refusal (f_Ne_isStation 14 a1 P) (f_Yr_isSize a2 P) P) (fun y1 => if y1 = (0 : Int32) then (bd2 (f_Ro_seek a1 a2 (1 : Int32) P) (fun v3 P4 => if v3 = (0 : Int32) then (some ((-1 : Int32), P4)) else ((f_Ro_hoursNeeded P4).bind (fun v6 => some (v6, P4))))) else (some (y1, P)))
theorem t_f_Yr_soonest {G : GX} (hG : GOK G) {E : EV} (hE : E0 E) (d : Nat) (hd : 7 ≤ d) {Q : QT} (a1 : Int32) (a2 : Int32) (P : PM) (h : St E rIP (f_Yr_soonest a1 a2 P) Q) : Go G c_Yr_soonest "YawnRoute" 4 (some .int) false d nOb nOb Q 0 [(0, .ref (ad E 0)), (1, .int a1), (2, .int a2)] [] P E := by
  rw [f_Yr_soonest] at h
  refine Go.aload_n (k := 0) (i := 0) 0 (by decide +kernel) rfl rfl ?_
  refine Go.aload_n (k := 0) (i := 0) 0 (by decide +kernel) rfl rfl ?_
  refine Go.get 0 2 (.ref (ad E 14)) (by decide) (by decide) sh0 (ltO hE sh0) (vlR hE rfl rfl) lk392 (by decide +kernel) ?_
  refine Go.iload_n (k := 1) (i := 1) 1 (by decide +kernel) rfl rfl ?_
  refine Go.cV_i (P1 := P) (v := (f_Ne_isStation 14 a1 P)) (d - 1) 14 [.int a1] sh14 hE w_Ne_isStation (e_Ne_isStation hG hE (d - 1) (by omega) 14 sh14 a1 P ⟨rfl, rfl, rfl⟩) lk726 rfl (by omega) (Nat.le_of_ble_eq_true rfl) (by decide +kernel) _ rfl ?_
  refine Go.iload_n (k := 2) (i := 2) 2 (by decide +kernel) rfl rfl ?_
  refine Go.cS_i (P1 := P) (v := (f_Yr_isSize a2 P)) (d - 1) [.int a2] hE w_Yr_isSize (e_Yr_isSize hG hE (d - 1) (by omega) a2 P ⟨rfl, rfl, rfl⟩) lk911 rfl (by omega) (Nat.le_of_ble_eq_true rfl) (by decide +kernel) _ rfl ?_
  refine Go.cV_i (P1 := P) (v := (f_Yr_refusal (f_Ne_isStation 14 a1 P) (f_Yr_isSize a2 P) P)) (d - 1) 0 [.int (f_Ne_isStation 14 a1 P), .int (f_Yr_isSize a2 P)] sh0 hE w_Yr_refusal (e_Yr_refusal hG hE (d - 1) (by omega) (f_Ne_isStation 14 a1 P) (f_Yr_isSize a2 P) P ⟨rfl, rfl, rfl⟩) lk912 rfl (by omega) (Nat.le_of_ble_eq_true rfl) (by decide +kernel) _ rfl ?_
  obtain ⟨y1, hy1, h⟩ := St.lb h
  refine Go.eqi y1 hy1 ?_
  refine Go.istore_n (k := 3) (i := 3) [(3, .int y1), (0, .ref (ad E 0)), (1, .int a1), (2, .int a2)] (by decide +kernel) rfl (by decide) rfl ?_
  refine Go.iload_n (k := 3) (i := 3) 0 (by decide +kernel) rfl rfl ?_
  refine Go.if_eq (off := 5) 23 (by decide +kernel) (by decide) (fun c2 => ?_) (fun c2 => ?_)
  · rw [if_pos c2] at h
    refine Go.aload_n (k := 0) (i := 0) 1 (by decide +kernel) rfl rfl ?_
    refine Go.get 0 7 (.ref (ad E 63)) (by decide) (by decide) sh0 (ltO hE sh0) (vlR hE rfl rfl) lk397 (by decide +kernel) ?_
    refine Go.iload_n (k := 1) (i := 1) 2 (by decide +kernel) rfl rfl ?_
    refine Go.iload_n (k := 2) (i := 2) 3 (by decide +kernel) rfl rfl ?_
    refine Go.iconst (n := 1) (1 : Int32) (by decide +kernel) rfl ?_
    obtain ⟨v3, P4, hv3, h⟩ := St.bd2 h
    refine Go.cV_i (P1 := P4) (v := v3) (d - 1) 63 [.int a1, .int a2, .int (1 : Int32)] sh63 hE w_Ro_seek (e_Ro_seek hG hE (d - 1) (by omega) a1 a2 (1 : Int32) P ⟨_, hv3, rfl, rfl, rfl⟩) lk916 rfl (by omega) (Nat.le_of_ble_eq_true rfl) (by decide +kernel) _ rfl ?_
    refine Go.if_eq (off := 13) 46 (by decide +kernel) (by decide) (fun c5 => ?_) (fun c5 => ?_)
    · rw [if_pos c5] at h
      refine Go.iconst (n := -1) (-1 : Int32) (by decide +kernel) rfl ?_
      exact Go.iret rfl rfl hE.2 (by decide +kernel) (St.fIP h)
    · rw [if_neg c5] at h
      refine Go.aload_n (k := 0) (i := 0) 1 (by decide +kernel) rfl rfl ?_
      refine Go.get 0 7 (.ref (ad E 63)) (by decide) (by decide) sh0 (ltO hE sh0) (vlR hE rfl rfl) lk397 (by decide +kernel) ?_
      obtain ⟨v6, hv6, h⟩ := St.bind h
      refine Go.cV_i (P1 := P4) (v := v6) (d - 1) 63 [] sh63 hE w_Ro_hoursNeeded (e_Ro_hoursNeeded hG hE (d - 1) (by omega) P4 ⟨_, hv6, rfl, rfl, rfl⟩) lk992 rfl (by omega) (Nat.le_of_ble_eq_true rfl) (by decide +kernel) _ rfl ?_
      refine Go.goto (off := 4) 47 (by decide +kernel) (by decide) ?_
      exact Go.iret rfl rfl hE.2 (by decide +kernel) (St.fIP h)
  · rw [if_neg c2] at h
    refine Go.iload_n (k := 3) (i := 3) 0 (by decide +kernel) rfl rfl ?_
    exact Go.iret rfl rfl hE.2 (by decide +kernel) (St.fIP h)
theorem e_Yr_soonest {G : GX} (hG : GOK G) {E : EV} (hE : E0 E) (d : Nat) (hd : 7 ≤ d) (a1 : Int32) (a2 : Int32) (P : PM) {Q : QT} (h : St E rIP (f_Yr_soonest a1 a2 P) Q) : Con G y_Yr_soonest cw_Yr_soonest d nOb nOb [.ref (ad E 0), .int a1, .int a2] P E Q :=
  Con.of hG (by decide +kernel) rfl (fun h => by cases h) hE.2 (Nat.le_of_ble_eq_true rfl) (t_f_Yr_soonest hG hE d hd a1 a2 P h)
abbrev c_Ro_bestFrom : ByteArray := prog_7_method_7_code
abbrev y_Ro_bestFrom : MethodName := ⟨"YawnRoute$Routes", "bestFrom", "(I)I"⟩
abbrev cw_Ro_bestFrom : Cond := .code y_Ro_bestFrom c_Ro_bestFrom 4 (some .int)
theorem w_Ro_bestFrom : VW 5 y_Ro_bestFrom c_Ro_bestFrom 4 (some .int) 1 := ⟨by decide, lk1010, lp33_, lk11, lk1011, ⟨by decide, by decide, by decide +kernel⟩, by decide⟩
noncomputable def j_Ro_bestFrom_37 (k2 : Int32 → Int32 → Option Int32) (x1 : Int32) (x2 : Int32) (P : PM) : Option Int32 := k2 x1 (x2 + (1 : Int32))
noncomputable def l_Ro_bestFrom_2 : Nat → Int32 → Int32 → PM → Option Int32
  | 0, _, _, _ => none
  | n + 1, x1, x2, P => if (P.1 14 0) ≤ x2 then (some (-1 : Int32)) else ((f_Ro_costOver x1 x2 P).bind (fun v2 => if (1000000000 : Int32) ≤ v2 then (j_Ro_bestFrom_37 (fun z0 z1 => l_Ro_bestFrom_2 n z0 z1 P) x1 x2 P) else ((f_Ro_costOf x1 P).bind (fun v4 => if v2 = v4 then (some x2) else (j_Ro_bestFrom_37 (fun z0 z1 => l_Ro_bestFrom_2 n z0 z1 P) x1 x2 P)))))
noncomputable def f_Ro_bestFrom (a1 : Int32) (P : PM) : Option Int32 := l_Ro_bestFrom_2 FU a1 (0 : Int32) P
theorem t_j_Ro_bestFrom_37 {G : GX} (hG : GOK G) {E : EV} (hE : E0 E) (d : Nat) (hd : 5 ≤ d) {P : PM} {Q : QT} (k2 : Int32 → Int32 → Option Int32) (hk2 : ∀ (x1 : Int32) (x2 : Int32), St E (rI P) (k2 x1 x2) Q → Go G c_Ro_bestFrom "YawnRoute$Routes" 4 (some .int) false d nOb nOb Q 2 [(0, .ref (ad E 63)), (1, .int x1), (2, .int x2)] [] P E) (x1 : Int32) (x2 : Int32) (h : St E (rI P) (j_Ro_bestFrom_37 k2 x1 x2 P) Q) : Go G c_Ro_bestFrom "YawnRoute$Routes" 4 (some .int) false d nOb nOb Q 37 [(0, .ref (ad E 63)), (1, .int x1), (2, .int x2)] [] P E := by
  rw [j_Ro_bestFrom_37] at h
  refine Go.iinc (i := 2) (n := 1) 2 (x2 + (1 : Int32)) [(2, .int (x2 + (1 : Int32))), (0, .ref (ad E 63)), (1, .int x1)] (by decide +kernel) rfl rfl (by decide) rfl ?_
  refine Go.goto (off := -38) 2 (by decide +kernel) (by decide) ?_
  refine Go.sub [1, 2, 0] [(0, .ref (ad E 63)), (1, .int x1), (2, .int (x2 + (1 : Int32)))] rfl ?_
  exact hk2 x1 (x2 + (1 : Int32)) h
theorem t_l_Ro_bestFrom_2 {G : GX} (hG : GOK G) {E : EV} (hE : E0 E) (d : Nat) (hd : 5 ≤ d) {P : PM} {Q : QT} : ∀ (n : Nat) (x1 : Int32) (x2 : Int32), St E (rI P) (l_Ro_bestFrom_2 n x1 x2 P) Q → Go G c_Ro_bestFrom "YawnRoute$Routes" 4 (some .int) false d nOb nOb Q 2 [(0, .ref (ad E 63)), (1, .int x1), (2, .int x2)] [] P E := by
  intro n
  induction n with
  | zero =>
    intro x1 x2 h
    rw [l_Ro_bestFrom_2] at h
    exact St.none_ h
  | succ n ih =>
    intro x1 x2 h
    rw [l_Ro_bestFrom_2] at h
    refine Go.iload_n (k := 2) (i := 2) 2 (by decide +kernel) rfl rfl ?_
    refine Go.aload_n (k := 0) (i := 0) 0 (by decide +kernel) rfl rfl ?_
    refine Go.get 63 0 (.ref (ad E 14)) (by decide) (by decide) sh63 (ltO hE sh63) (vlR hE rfl rfl) lk321 (by decide +kernel) ?_
    refine Go.get 14 0 (.int (P.1 14 0)) (by decide) (by decide) sh14 (ltO hE sh14) rfl lk91 (by decide +kernel) ?_
    refine Go.icmp_ge (off := 33) 43 (by decide +kernel) (by decide) (fun c1 => ?_) (fun c1 => ?_)
    · rw [if_pos c1] at h
      refine Go.iconst (n := -1) (-1 : Int32) (by decide +kernel) rfl ?_
      exact Go.iret rfl rfl hE.2 (by decide +kernel) (St.fI h)
    · rw [if_neg c1] at h
      refine Go.aload_n (k := 0) (i := 0) 0 (by decide +kernel) rfl rfl ?_
      refine Go.iload_n (k := 1) (i := 1) 1 (by decide +kernel) rfl rfl ?_
      refine Go.iload_n (k := 2) (i := 2) 2 (by decide +kernel) rfl rfl ?_
      obtain ⟨v2, hv2, h⟩ := St.bind h
      refine Go.cV_i (P1 := P) (v := v2) (d - 1) 63 [.int x1, .int x2] sh63 hE w_Ro_costOver (e_Ro_costOver hG hE (d - 1) (by omega) x1 x2 P ⟨_, hv2, rfl, rfl, rfl⟩) lk972 rfl (by omega) (Nat.le_of_ble_eq_true rfl) (by decide +kernel) _ rfl ?_
      refine Go.istore_n (k := 3) (i := 3) [(3, .int v2), (0, .ref (ad E 63)), (1, .int x1), (2, .int x2)] (by decide +kernel) rfl (by decide) rfl ?_
      refine Go.iload_n (k := 3) (i := 3) 0 (by decide +kernel) rfl rfl ?_
      refine Go.ldc (1000000000 : Int32) lk967 (by decide +kernel) ?_
      refine Go.icmp_ge (off := 14) 37 (by decide +kernel) (by decide) (fun c3 => ?_) (fun c3 => ?_)
      · rw [if_pos c3] at h
        refine Go.sub [1, 2, 3] [(0, .ref (ad E 63)), (1, .int x1), (2, .int x2)] rfl ?_
        exact t_j_Ro_bestFrom_37 hG hE d hd (fun z0 z1 => l_Ro_bestFrom_2 n z0 z1 P) (fun z0 z1 q => ih z0 z1 q) x1 x2 h
      · rw [if_neg c3] at h
        refine Go.iload_n (k := 3) (i := 3) 0 (by decide +kernel) rfl rfl ?_
        refine Go.aload_n (k := 0) (i := 0) 1 (by decide +kernel) rfl rfl ?_
        refine Go.iload_n (k := 1) (i := 1) 2 (by decide +kernel) rfl rfl ?_
        obtain ⟨v4, hv4, h⟩ := St.bind h
        refine Go.cV_i (P1 := P) (v := v4) (d - 1) 63 [.int x1] sh63 hE w_Ro_costOf (e_Ro_costOf hG hE (d - 1) (by omega) x1 P ⟨_, hv4, rfl, rfl, rfl⟩) lk986 rfl (by omega) (Nat.le_of_ble_eq_true rfl) (by decide +kernel) _ rfl ?_
        refine Go.icmp_ne (off := 5) 37 (by decide +kernel) (by decide) (fun c5 => ?_) (fun c5 => ?_)
        · rw [if_neg c5] at h
          refine Go.sub [1, 2, 3] [(0, .ref (ad E 63)), (1, .int x1), (2, .int x2)] rfl ?_
          exact t_j_Ro_bestFrom_37 hG hE d hd (fun z0 z1 => l_Ro_bestFrom_2 n z0 z1 P) (fun z0 z1 q => ih z0 z1 q) x1 x2 h
        · rw [if_pos c5] at h
          refine Go.iload_n (k := 2) (i := 2) 3 (by decide +kernel) rfl rfl ?_
          exact Go.iret rfl rfl hE.2 (by decide +kernel) (St.fI h)
theorem t_f_Ro_bestFrom {G : GX} (hG : GOK G) {E : EV} (hE : E0 E) (d : Nat) (hd : 5 ≤ d) {P : PM} {Q : QT} (a1 : Int32) (h : St E (rI P) (f_Ro_bestFrom a1 P) Q) : Go G c_Ro_bestFrom "YawnRoute$Routes" 4 (some .int) false d nOb nOb Q 0 [(0, .ref (ad E 63)), (1, .int a1)] [] P E := by
  rw [f_Ro_bestFrom] at h
  refine Go.iconst (n := 0) (0 : Int32) (by decide +kernel) rfl ?_
  refine Go.istore_n (k := 2) (i := 2) [(2, .int (0 : Int32)), (0, .ref (ad E 63)), (1, .int a1)] (by decide +kernel) rfl (by decide) rfl ?_
  refine Go.sub [1, 2, 0] [(0, .ref (ad E 63)), (1, .int a1), (2, .int (0 : Int32))] rfl ?_
  exact t_l_Ro_bestFrom_2 hG hE d hd FU a1 (0 : Int32) h
theorem e_Ro_bestFrom {G : GX} (hG : GOK G) {E : EV} (hE : E0 E) (d : Nat) (hd : 5 ≤ d) (a1 : Int32) (P : PM) {Q : QT} (h : St E (rI P) (f_Ro_bestFrom a1 P) Q) : Con G y_Ro_bestFrom cw_Ro_bestFrom d nOb nOb [.ref (ad E 63), .int a1] P E Q :=
  Con.of hG (by decide +kernel) rfl (fun h => by cases h) hE.2 (Nat.le_of_ble_eq_true rfl) (t_f_Ro_bestFrom hG hE d hd a1 h)
abbrev c_Ro_stationAt : ByteArray := prog_7_method_5_code
abbrev y_Ro_stationAt : MethodName := ⟨"YawnRoute$Routes", "stationAt", "(I)I"⟩
abbrev cw_Ro_stationAt : Cond := .code y_Ro_stationAt c_Ro_stationAt 5 (some .int)
theorem w_Ro_stationAt : VW 5 y_Ro_stationAt c_Ro_stationAt 5 (some .int) 1 := ⟨by decide, lk1005, lk1006, lk11, lk1007, ⟨by decide, by decide, by decide +kernel⟩, by decide⟩
noncomputable def l_Ro_stationAt_28 : Nat → Int32 → Int32 → Int32 → Int32 → PM → Option Int32
  | 0, _, _, _, _, _ => none
  | n + 1, x1, x2, x3, x4, P => if x1 ≤ x4 then (some x3) else (if (280 : Int32) ≤ x4 then (some x3) else (if x3 = (-1 : Int32) then (some x3) else ((f_Pa_next x2 x3 (P.1 21 3) P).bind (fun v4 => (f_Ro_bestFrom v4 P).bind (fun v5 => l_Ro_stationAt_28 n x1 v4 v5 (x4 + (1 : Int32)) P)))))
noncomputable def j_Ro_stationAt_24 (x1 : Int32) (x2 : Int32) (s0 : Int32) (P : PM) : Option Int32 := l_Ro_stationAt_28 FU x1 x2 s0 (0 : Int32) P
noncomputable def f_Ro_stationAt (a1 : Int32) (P : PM) : Option Int32 := lb (f_Sa_place 21 P) (fun y1 => if (280 : Int32) ≤ a1 then (j_Ro_stationAt_24 a1 y1 (-1 : Int32) P) else ((f_Ro_bestFrom y1 P).bind (fun v3 => j_Ro_stationAt_24 a1 y1 v3 P)))
theorem t_l_Ro_stationAt_28 {G : GX} (hG : GOK G) {E : EV} (hE : E0 E) (d : Nat) (hd : 6 ≤ d) {P : PM} {Q : QT} : ∀ (n : Nat) (x1 : Int32) (x2 : Int32) (x3 : Int32) (x4 : Int32), St E (rI P) (l_Ro_stationAt_28 n x1 x2 x3 x4 P) Q → Go G c_Ro_stationAt "YawnRoute$Routes" 5 (some .int) false d nOb nOb Q 28 [(0, .ref (ad E 63)), (1, .int x1), (2, .int x2), (3, .int x3), (4, .int x4)] [] P E := by
  intro n
  induction n with
  | zero =>
    intro x1 x2 x3 x4 h
    rw [l_Ro_stationAt_28] at h
    exact St.none_ h
  | succ n ih =>
    intro x1 x2 x3 x4 h
    rw [l_Ro_stationAt_28] at h
    refine Go.iload (i := 4) 4 (by decide +kernel) rfl ?_
    refine Go.iload_n (k := 1) (i := 1) 1 (by decide +kernel) rfl rfl ?_
    refine Go.icmp_ge (off := 45) 76 (by decide +kernel) (by decide) (fun c1 => ?_) (fun c1 => ?_)
    · rw [if_pos c1] at h
      refine Go.iload_n (k := 3) (i := 3) 3 (by decide +kernel) rfl rfl ?_
      exact Go.iret rfl rfl hE.2 (by decide +kernel) (St.fI h)
    · rw [if_neg c1] at h
      refine Go.iload (i := 4) 4 (by decide +kernel) rfl ?_
      refine Go.sipush (n := 280) (280 : Int32) (by decide +kernel) (by decide) ?_
      refine Go.icmp_ge (off := 37) 76 (by decide +kernel) (by decide) (fun c2 => ?_) (fun c2 => ?_)
      · rw [if_pos c2] at h
        refine Go.iload_n (k := 3) (i := 3) 3 (by decide +kernel) rfl rfl ?_
        exact Go.iret rfl rfl hE.2 (by decide +kernel) (St.fI h)
      · rw [if_neg c2] at h
        refine Go.iload_n (k := 3) (i := 3) 3 (by decide +kernel) rfl rfl ?_
        refine Go.iconst (n := -1) (-1 : Int32) (by decide +kernel) rfl ?_
        refine Go.icmp_eq (off := 32) 76 (by decide +kernel) (by decide) (fun c3 => ?_) (fun c3 => ?_)
        · rw [if_pos c3] at h
          refine Go.iload_n (k := 3) (i := 3) 3 (by decide +kernel) rfl rfl ?_
          exact Go.iret rfl rfl hE.2 (by decide +kernel) (St.fI h)
        · rw [if_neg c3] at h
          refine Go.aload_n (k := 0) (i := 0) 0 (by decide +kernel) rfl rfl ?_
          refine Go.get 63 2 (.ref (ad E 58)) (by decide) (by decide) sh63 (ltO hE sh63) (vlR hE rfl rfl) lk323 (by decide +kernel) ?_
          refine Go.iload_n (k := 2) (i := 2) 2 (by decide +kernel) rfl rfl ?_
          refine Go.iload_n (k := 3) (i := 3) 3 (by decide +kernel) rfl rfl ?_
          refine Go.aload_n (k := 0) (i := 0) 0 (by decide +kernel) rfl rfl ?_
          refine Go.get 63 1 (.ref (ad E 21)) (by decide) (by decide) sh63 (ltO hE sh63) (vlR hE rfl rfl) lk322 (by decide +kernel) ?_
          refine Go.get 21 3 (.int (P.1 21 3)) (by decide) (by decide) sh21 (ltO hE sh21) rfl lk166 (by decide +kernel) ?_
          obtain ⟨v4, hv4, h⟩ := St.bind h
          refine Go.cV_i (P1 := P) (v := v4) (d - 1) 58 [.int x2, .int x3, .int (P.1 21 3)] sh58 hE w_Pa_next (e_Pa_next hG hE (d - 1) (by omega) x2 x3 (P.1 21 3) P ⟨_, hv4, rfl, rfl, rfl⟩) lk976 rfl (by omega) (Nat.le_of_ble_eq_true rfl) (by decide +kernel) _ rfl ?_
          refine Go.istore_n (k := 2) (i := 2) [(2, .int v4), (0, .ref (ad E 63)), (1, .int x1), (3, .int x3), (4, .int x4)] (by decide +kernel) rfl (by decide) rfl ?_
          refine Go.aload_n (k := 0) (i := 0) 1 (by decide +kernel) rfl rfl ?_
          refine Go.iload_n (k := 2) (i := 2) 0 (by decide +kernel) rfl rfl ?_
          obtain ⟨v5, hv5, h⟩ := St.bind h
          refine Go.cV_i (P1 := P) (v := v5) (d - 1) 63 [.int v4] sh63 hE w_Ro_bestFrom (e_Ro_bestFrom hG hE (d - 1) (by omega) v4 P ⟨_, hv5, rfl, rfl, rfl⟩) lk1008 rfl (by omega) (Nat.le_of_ble_eq_true rfl) (by decide +kernel) _ rfl ?_
          refine Go.istore_n (k := 3) (i := 3) [(3, .int v5), (2, .int v4), (0, .ref (ad E 63)), (1, .int x1), (4, .int x4)] (by decide +kernel) rfl (by decide) rfl ?_
          refine Go.iinc (i := 4) (n := 1) 4 (x4 + (1 : Int32)) [(4, .int (x4 + (1 : Int32))), (3, .int v5), (2, .int v4), (0, .ref (ad E 63)), (1, .int x1)] (by decide +kernel) rfl rfl (by decide) rfl ?_
          refine Go.goto (off := -45) 28 (by decide +kernel) (by decide) ?_
          refine Go.sub [3, 4, 2, 1, 0] [(0, .ref (ad E 63)), (1, .int x1), (2, .int v4), (3, .int v5), (4, .int (x4 + (1 : Int32)))] rfl ?_
          exact ih x1 v4 v5 (x4 + (1 : Int32)) h
theorem t_j_Ro_stationAt_24 {G : GX} (hG : GOK G) {E : EV} (hE : E0 E) (d : Nat) (hd : 6 ≤ d) {P : PM} {Q : QT} (x1 : Int32) (x2 : Int32) (s0 : Int32) (h : St E (rI P) (j_Ro_stationAt_24 x1 x2 s0 P) Q) : Go G c_Ro_stationAt "YawnRoute$Routes" 5 (some .int) false d nOb nOb Q 24 [(0, .ref (ad E 63)), (1, .int x1), (2, .int x2)] [.int s0] P E := by
  rw [j_Ro_stationAt_24] at h
  refine Go.istore_n (k := 3) (i := 3) [(3, .int s0), (0, .ref (ad E 63)), (1, .int x1), (2, .int x2)] (by decide +kernel) rfl (by decide) rfl ?_
  refine Go.iconst (n := 0) (0 : Int32) (by decide +kernel) rfl ?_
  refine Go.istore (i := 4) [(4, .int (0 : Int32)), (3, .int s0), (0, .ref (ad E 63)), (1, .int x1), (2, .int x2)] (by decide +kernel) (by decide) rfl ?_
  refine Go.sub [2, 3, 4, 1, 0] [(0, .ref (ad E 63)), (1, .int x1), (2, .int x2), (3, .int s0), (4, .int (0 : Int32))] rfl ?_
  exact t_l_Ro_stationAt_28 hG hE d hd FU x1 x2 s0 (0 : Int32) h
theorem t_f_Ro_stationAt {G : GX} (hG : GOK G) {E : EV} (hE : E0 E) (d : Nat) (hd : 6 ≤ d) {P : PM} {Q : QT} (a1 : Int32) (h : St E (rI P) (f_Ro_stationAt a1 P) Q) : Go G c_Ro_stationAt "YawnRoute$Routes" 5 (some .int) false d nOb nOb Q 0 [(0, .ref (ad E 63)), (1, .int a1)] [] P E := by
  rw [f_Ro_stationAt] at h
  refine Go.aload_n (k := 0) (i := 0) 0 (by decide +kernel) rfl rfl ?_
  refine Go.get 63 1 (.ref (ad E 21)) (by decide) (by decide) sh63 (ltO hE sh63) (vlR hE rfl rfl) lk322 (by decide +kernel) ?_
  refine Go.cV_i (P1 := P) (v := (f_Sa_place 21 P)) (d - 1) 21 [] sh21 hE w_Sa_place (e_Sa_place hG hE (d - 1) (by omega) 21 sh21 P ⟨rfl, rfl, rfl⟩) lk920 rfl (by omega) (Nat.le_of_ble_eq_true rfl) (by decide +kernel) _ rfl ?_
  obtain ⟨y1, hy1, h⟩ := St.lb h
  refine Go.eqi y1 hy1 ?_
  refine Go.istore_n (k := 2) (i := 2) [(2, .int y1), (0, .ref (ad E 63)), (1, .int a1)] (by decide +kernel) rfl (by decide) rfl ?_
  refine Go.iload_n (k := 1) (i := 1) 2 (by decide +kernel) rfl rfl ?_
  refine Go.sipush (n := 280) (280 : Int32) (by decide +kernel) (by decide) ?_
  refine Go.icmp_ge (off := 11) 23 (by decide +kernel) (by decide) (fun c2 => ?_) (fun c2 => ?_)
  · rw [if_pos c2] at h
    refine Go.iconst (n := -1) (-1 : Int32) (by decide +kernel) rfl ?_
    refine Go.sub [1, 2, 0] [(0, .ref (ad E 63)), (1, .int a1), (2, .int y1)] rfl ?_
    exact t_j_Ro_stationAt_24 hG hE d hd a1 y1 (-1 : Int32) h
  · rw [if_neg c2] at h
    refine Go.aload_n (k := 0) (i := 0) 1 (by decide +kernel) rfl rfl ?_
    refine Go.iload_n (k := 2) (i := 2) 0 (by decide +kernel) rfl rfl ?_
    obtain ⟨v3, hv3, h⟩ := St.bind h
    refine Go.cV_i (P1 := P) (v := v3) (d - 1) 63 [.int y1] sh63 hE w_Ro_bestFrom (e_Ro_bestFrom hG hE (d - 1) (by omega) y1 P ⟨_, hv3, rfl, rfl, rfl⟩) lk1008 rfl (by omega) (Nat.le_of_ble_eq_true rfl) (by decide +kernel) _ rfl ?_
    refine Go.goto (off := 4) 24 (by decide +kernel) (by decide) ?_
    refine Go.sub [1, 2, 0] [(0, .ref (ad E 63)), (1, .int a1), (2, .int y1)] rfl ?_
    exact t_j_Ro_stationAt_24 hG hE d hd a1 y1 v3 h
theorem e_Ro_stationAt {G : GX} (hG : GOK G) {E : EV} (hE : E0 E) (d : Nat) (hd : 6 ≤ d) (a1 : Int32) (P : PM) {Q : QT} (h : St E (rI P) (f_Ro_stationAt a1 P) Q) : Con G y_Ro_stationAt cw_Ro_stationAt d nOb nOb [.ref (ad E 63), .int a1] P E Q :=
  Con.of hG (by decide +kernel) rfl (fun h => by cases h) hE.2 (Nat.le_of_ble_eq_true rfl) (t_f_Ro_stationAt hG hE d hd a1 h)
abbrev c_Yr_routeBy : ByteArray := prog_1_method_48_code
abbrev y_Yr_routeBy : MethodName := ⟨"YawnRoute", "routeBy", "(IIIZ)I"⟩
abbrev cw_Yr_routeBy : Cond := .code y_Yr_routeBy c_Yr_routeBy 6 (some .int)
theorem w_Yr_routeBy : VW 11 y_Yr_routeBy c_Yr_routeBy 6 (some .int) 4 := ⟨by decide, lk1002, lp32_, lk1, lk1003, ⟨by decide, by decide, by decide +kernel⟩, by decide⟩
noncomputable def j_Yr_routeBy_25 (x1 : Int32) (x2 : Int32) (x3 : Int32) (x4 : Int32) (s1 : Int32) (s2 : Int32) (P : PM) : Option (Int32 × PM) := lb (f_Yr_refusal s1 s2 P) (fun y1 => if y1 = (0 : Int32) then (bd2 (f_Ro_seek x1 x2 x4 P) (fun v3 P4 => if v3 = (0 : Int32) then (some ((-1 : Int32), P4)) else ((f_Ro_stationAt x3 P4).bind (fun v6 => some (v6, P4))))) else (some (y1, P)))
noncomputable def j_Yr_routeBy_24 (x1 : Int32) (x2 : Int32) (x3 : Int32) (x4 : Int32) (s1 : Int32) (P : PM) : Option (Int32 × PM) := j_Yr_routeBy_25 x1 x2 x3 x4 s1 (0 : Int32) P
noncomputable def f_Yr_routeBy (a1 : Int32) (a2 : Int32) (a3 : Int32) (a4 : Int32) (P : PM) : Option (Int32 × PM) := if (f_Yr_isSize a2 P) = (0 : Int32) then (j_Yr_routeBy_24 a1 a2 a3 a4 (f_Ne_isStation 14 a1 P) P) else (if a3 < (0 : Int32) then (j_Yr_routeBy_24 a1 a2 a3 a4 (f_Ne_isStation 14 a1 P) P) else (j_Yr_routeBy_25 a1 a2 a3 a4 (f_Ne_isStation 14 a1 P) (1 : Int32) P))
theorem t_j_Yr_routeBy_25 {G : GX} (hG : GOK G) {E : EV} (hE : E0 E) (d : Nat) (hd : 7 ≤ d) {Q : QT} (x1 : Int32) (x2 : Int32) (x3 : Int32) (x4 : Int32) (s1 : Int32) (s2 : Int32) (P : PM) (h : St E rIP (j_Yr_routeBy_25 x1 x2 x3 x4 s1 s2 P) Q) : Go G c_Yr_routeBy "YawnRoute" 6 (some .int) false d nOb nOb Q 25 [(0, .ref (ad E 0)), (1, .int x1), (2, .int x2), (3, .int x3), (4, .int x4)] [.int s2, .int s1, .ref (ad E 0)] P E := by
  rw [j_Yr_routeBy_25] at h
  refine Go.cV_i (P1 := P) (v := (f_Yr_refusal s1 s2 P)) (d - 1) 0 [.int s1, .int s2] sh0 hE w_Yr_refusal (e_Yr_refusal hG hE (d - 1) (by omega) s1 s2 P ⟨rfl, rfl, rfl⟩) lk912 rfl (by omega) (Nat.le_of_ble_eq_true rfl) (by decide +kernel) _ rfl ?_
  obtain ⟨y1, hy1, h⟩ := St.lb h
  refine Go.eqi y1 hy1 ?_
  refine Go.istore (i := 5) [(5, .int y1), (0, .ref (ad E 0)), (1, .int x1), (2, .int x2), (3, .int x3), (4, .int x4)] (by decide +kernel) (by decide) rfl ?_
  refine Go.iload (i := 5) 0 (by decide +kernel) rfl ?_
  refine Go.if_eq (off := 6) 38 (by decide +kernel) (by decide) (fun c2 => ?_) (fun c2 => ?_)
  · rw [if_pos c2] at h
    refine Go.aload_n (k := 0) (i := 0) 1 (by decide +kernel) rfl rfl ?_
    refine Go.get 0 7 (.ref (ad E 63)) (by decide) (by decide) sh0 (ltO hE sh0) (vlR hE rfl rfl) lk397 (by decide +kernel) ?_
    refine Go.iload_n (k := 1) (i := 1) 2 (by decide +kernel) rfl rfl ?_
    refine Go.iload_n (k := 2) (i := 2) 3 (by decide +kernel) rfl rfl ?_
    refine Go.iload (i := 4) 5 (by decide +kernel) rfl ?_
    obtain ⟨v3, P4, hv3, h⟩ := St.bd2 h
    refine Go.cV_i (P1 := P4) (v := v3) (d - 1) 63 [.int x1, .int x2, .int x4] sh63 hE w_Ro_seek (e_Ro_seek hG hE (d - 1) (by omega) x1 x2 x4 P ⟨_, hv3, rfl, rfl, rfl⟩) lk916 rfl (by omega) (Nat.le_of_ble_eq_true rfl) (by decide +kernel) _ rfl ?_
    refine Go.if_eq (off := 14) 63 (by decide +kernel) (by decide) (fun c5 => ?_) (fun c5 => ?_)
    · rw [if_pos c5] at h
      refine Go.iconst (n := -1) (-1 : Int32) (by decide +kernel) rfl ?_
      exact Go.iret rfl rfl hE.2 (by decide +kernel) (St.fIP h)
    · rw [if_neg c5] at h
      refine Go.aload_n (k := 0) (i := 0) 1 (by decide +kernel) rfl rfl ?_
      refine Go.get 0 7 (.ref (ad E 63)) (by decide) (by decide) sh0 (ltO hE sh0) (vlR hE rfl rfl) lk397 (by decide +kernel) ?_
      refine Go.iload_n (k := 3) (i := 3) 4 (by decide +kernel) rfl rfl ?_
      obtain ⟨v6, hv6, h⟩ := St.bind h
      refine Go.cV_i (P1 := P4) (v := v6) (d - 1) 63 [.int x3] sh63 hE w_Ro_stationAt (e_Ro_stationAt hG hE (d - 1) (by omega) x3 P4 ⟨_, hv6, rfl, rfl, rfl⟩) lk1004 rfl (by omega) (Nat.le_of_ble_eq_true rfl) (by decide +kernel) _ rfl ?_
      refine Go.goto (off := 4) 64 (by decide +kernel) (by decide) ?_
      exact Go.iret rfl rfl hE.2 (by decide +kernel) (St.fIP h)
  · rw [if_neg c2] at h
    refine Go.iload (i := 5) 0 (by decide +kernel) rfl ?_
    exact Go.iret rfl rfl hE.2 (by decide +kernel) (St.fIP h)
theorem t_j_Yr_routeBy_24 {G : GX} (hG : GOK G) {E : EV} (hE : E0 E) (d : Nat) (hd : 7 ≤ d) {Q : QT} (x1 : Int32) (x2 : Int32) (x3 : Int32) (x4 : Int32) (s1 : Int32) (P : PM) (h : St E rIP (j_Yr_routeBy_24 x1 x2 x3 x4 s1 P) Q) : Go G c_Yr_routeBy "YawnRoute" 6 (some .int) false d nOb nOb Q 24 [(0, .ref (ad E 0)), (1, .int x1), (2, .int x2), (3, .int x3), (4, .int x4)] [.int s1, .ref (ad E 0)] P E := by
  rw [j_Yr_routeBy_24] at h
  refine Go.iconst (n := 0) (0 : Int32) (by decide +kernel) rfl ?_
  exact t_j_Yr_routeBy_25 hG hE d hd x1 x2 x3 x4 s1 (0 : Int32) P h
theorem t_f_Yr_routeBy {G : GX} (hG : GOK G) {E : EV} (hE : E0 E) (d : Nat) (hd : 7 ≤ d) {Q : QT} (a1 : Int32) (a2 : Int32) (a3 : Int32) (a4 : Int32) (P : PM) (h : St E rIP (f_Yr_routeBy a1 a2 a3 a4 P) Q) : Go G c_Yr_routeBy "YawnRoute" 6 (some .int) false d nOb nOb Q 0 [(0, .ref (ad E 0)), (1, .int a1), (2, .int a2), (3, .int a3), (4, .int a4)] [] P E := by
  rw [f_Yr_routeBy] at h
  refine Go.aload_n (k := 0) (i := 0) 0 (by decide +kernel) rfl rfl ?_
  refine Go.aload_n (k := 0) (i := 0) 0 (by decide +kernel) rfl rfl ?_
  refine Go.get 0 2 (.ref (ad E 14)) (by decide) (by decide) sh0 (ltO hE sh0) (vlR hE rfl rfl) lk392 (by decide +kernel) ?_
  refine Go.iload_n (k := 1) (i := 1) 1 (by decide +kernel) rfl rfl ?_
  refine Go.cV_i (P1 := P) (v := (f_Ne_isStation 14 a1 P)) (d - 1) 14 [.int a1] sh14 hE w_Ne_isStation (e_Ne_isStation hG hE (d - 1) (by omega) 14 sh14 a1 P ⟨rfl, rfl, rfl⟩) lk726 rfl (by omega) (Nat.le_of_ble_eq_true rfl) (by decide +kernel) _ rfl ?_
  refine Go.iload_n (k := 2) (i := 2) 2 (by decide +kernel) rfl rfl ?_
  refine Go.cS_i (P1 := P) (v := (f_Yr_isSize a2 P)) (d - 1) [.int a2] hE w_Yr_isSize (e_Yr_isSize hG hE (d - 1) (by omega) a2 P ⟨rfl, rfl, rfl⟩) lk911 rfl (by omega) (Nat.le_of_ble_eq_true rfl) (by decide +kernel) _ rfl ?_
  refine Go.if_eq (off := 11) 24 (by decide +kernel) (by decide) (fun c1 => ?_) (fun c1 => ?_)
  · rw [if_pos c1] at h
    exact t_j_Yr_routeBy_24 hG hE d hd a1 a2 a3 a4 (f_Ne_isStation 14 a1 P) P h
  · rw [if_neg c1] at h
    refine Go.iload_n (k := 3) (i := 3) 3 (by decide +kernel) rfl rfl ?_
    refine Go.if_lt (off := 7) 24 (by decide +kernel) (by decide) (fun c2 => ?_) (fun c2 => ?_)
    · rw [if_pos c2] at h
      exact t_j_Yr_routeBy_24 hG hE d hd a1 a2 a3 a4 (f_Ne_isStation 14 a1 P) P h
    · rw [if_neg c2] at h
      refine Go.iconst (n := 1) (1 : Int32) (by decide +kernel) rfl ?_
      refine Go.goto (off := 4) 25 (by decide +kernel) (by decide) ?_
      exact t_j_Yr_routeBy_25 hG hE d hd a1 a2 a3 a4 (f_Ne_isStation 14 a1 P) (1 : Int32) P h
theorem e_Yr_routeBy {G : GX} (hG : GOK G) {E : EV} (hE : E0 E) (d : Nat) (hd : 7 ≤ d) (a1 : Int32) (a2 : Int32) (a3 : Int32) (a4 : Int32) (P : PM) {Q : QT} (h : St E rIP (f_Yr_routeBy a1 a2 a3 a4 P) Q) : Con G y_Yr_routeBy cw_Yr_routeBy d nOb nOb [.ref (ad E 0), .int a1, .int a2, .int a3, .int a4] P E Q :=
  Con.of hG (by decide +kernel) rfl (fun h => by cases h) hE.2 (Nat.le_of_ble_eq_true rfl) (t_f_Yr_routeBy hG hE d hd a1 a2 a3 a4 P h)
abbrev c_Yr_soonBy : ByteArray := prog_1_method_17_code
abbrev y_Yr_soonBy : MethodName := ⟨"YawnRoute", "soonBy", "(III)I"⟩
abbrev cw_Yr_soonBy : Cond := .code y_Yr_soonBy c_Yr_soonBy 4 (some .int)
theorem w_Yr_soonBy : VW 11 y_Yr_soonBy c_Yr_soonBy 4 (some .int) 3 := ⟨by decide, lk997, lk998, lk1, lk999, ⟨by decide, by decide, by decide +kernel⟩, by decide⟩
noncomputable def f_Yr_soonBy (a1 : Int32) (a2 : Int32) (a3 : Int32) (P : PM) : Option (Int32 × PM) := bd2 (f_Yr_routeBy a1 a2 a3 (1 : Int32) P) (fun v1 P2 => some (v1, P2))
theorem t_f_Yr_soonBy {G : GX} (hG : GOK G) {E : EV} (hE : E0 E) (d : Nat) (hd : 8 ≤ d) {Q : QT} (a1 : Int32) (a2 : Int32) (a3 : Int32) (P : PM) (h : St E rIP (f_Yr_soonBy a1 a2 a3 P) Q) : Go G c_Yr_soonBy "YawnRoute" 4 (some .int) false d nOb nOb Q 0 [(0, .ref (ad E 0)), (1, .int a1), (2, .int a2), (3, .int a3)] [] P E := by
  rw [f_Yr_soonBy] at h
  refine Go.aload_n (k := 0) (i := 0) 0 (by decide +kernel) rfl rfl ?_
  refine Go.iload_n (k := 1) (i := 1) 1 (by decide +kernel) rfl rfl ?_
  refine Go.iload_n (k := 2) (i := 2) 2 (by decide +kernel) rfl rfl ?_
  refine Go.iload_n (k := 3) (i := 3) 3 (by decide +kernel) rfl rfl ?_
  refine Go.iconst (n := 1) (1 : Int32) (by decide +kernel) rfl ?_
  obtain ⟨v1, P2, hv1, h⟩ := St.bd2 h
  refine Go.cV_i (P1 := P2) (v := v1) (d - 1) 0 [.int a1, .int a2, .int a3, .int (1 : Int32)] sh0 hE w_Yr_routeBy (e_Yr_routeBy hG hE (d - 1) (by omega) a1 a2 a3 (1 : Int32) P ⟨_, hv1, rfl, rfl, rfl⟩) lk1000 rfl (by omega) (Nat.le_of_ble_eq_true rfl) (by decide +kernel) _ rfl ?_
  exact Go.iret rfl rfl hE.2 (by decide +kernel) (St.fIP h)
theorem e_Yr_soonBy {G : GX} (hG : GOK G) {E : EV} (hE : E0 E) (d : Nat) (hd : 8 ≤ d) (a1 : Int32) (a2 : Int32) (a3 : Int32) (P : PM) {Q : QT} (h : St E rIP (f_Yr_soonBy a1 a2 a3 P) Q) : Con G y_Yr_soonBy cw_Yr_soonBy d nOb nOb [.ref (ad E 0), .int a1, .int a2, .int a3] P E Q :=
  Con.of hG (by decide +kernel) rfl (fun h => by cases h) hE.2 (Nat.le_of_ble_eq_true rfl) (t_f_Yr_soonBy hG hE d hd a1 a2 a3 P h)
