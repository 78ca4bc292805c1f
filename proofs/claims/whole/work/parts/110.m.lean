/-! methods as functions, by program: Ja_fill_ABIIB Pa_refresh Pa_workOut Ja_fill_AJJ Pa_explore Pa_after Pa_next Ro_costOver -/
abbrev c_Ja_fill_ABIIB : ByteArray := prog_22_method_110_code
abbrev y_Ja_fill_ABIIB : MethodName := ⟨"java/util/Arrays", "fill", "([BIIB)V"⟩
abbrev cw_Ja_fill_ABIIB : Cond := .code y_Ja_fill_ABIIB c_Ja_fill_ABIIB 5 none
theorem w_Ja_fill_ABIIB : SW y_Ja_fill_ABIIB c_Ja_fill_ABIIB 5 none 4 := ⟨lk937, lk10, lk938, ⟨by decide, by decide, by decide +kernel⟩, by decide⟩
noncomputable def l_Ja_fill_ABIIB_10 (a0 : Nat) (n0 : Nat) : Nat → Int32 → Int32 → Int32 → PM → Option PM
  | 0, _, _, _, _ => none
  | n + 1, x2, x3, x4, P => if x2 ≤ x4 then (some P) else (ck (inb x4 n0) (l_Ja_fill_ABIIB_10 a0 n0 n x2 x3 (x4 + (1 : Int32)) (u1 P a0 x4.toNatClampNeg (vp_nar .byte x3))))
noncomputable def f_Ja_fill_ABIIB (a0 : Nat) (n0 : Nat) (a1 : Int32) (a2 : Int32) (a3 : Int32) (P : PM) : Option PM := (f_Ja_rangeCheck (Int32.ofNat n0) a1 a2 P).bind (fun P1 => l_Ja_fill_ABIIB_10 a0 n0 FU a2 a3 a1 P1)
theorem t_l_Ja_fill_ABIIB_10 {G : GX} (hG : GOK G) {E : EV} (hE : E0 E) (d : Nat) (hd : 2 ≤ d) {Q : QT} (a0 : Nat) (n0 : Nat) (ha0 : sh a0 = .inr (1, n0)) : ∀ (n : Nat) (x2 : Int32) (x3 : Int32) (x4 : Int32) (P : PM), St E rP (l_Ja_fill_ABIIB_10 a0 n0 n x2 x3 x4 P) Q → Go G c_Ja_fill_ABIIB "java/util/Arrays" 5 none false d nOb nOb Q 10 [(0, .ref (ad E a0)), (2, .int x2), (3, .int x3), (4, .int x4)] [] P E := by
  intro n
  induction n with
  | zero =>
    intro x2 x3 x4 P h
    rw [l_Ja_fill_ABIIB_10] at h
    exact St.none_ h
  | succ n ih =>
    intro x2 x3 x4 P h
    rw [l_Ja_fill_ABIIB_10] at h
    refine Go.iload (i := 4) 3 (by decide +kernel) rfl ?_
    refine Go.iload_n (k := 2) (i := 2) 1 (by decide +kernel) rfl rfl ?_
    refine Go.icmp_ge (off := 14) 27 (by decide +kernel) (by decide) (fun c1 => ?_) (fun c1 => ?_)
    · rw [if_pos c1] at h
      exact Go.vret rfl hE.2 (by decide +kernel) (St.fP h)
    · rw [if_neg c1] at h
      refine Go.aload_n (k := 0) (i := 0) 0 (by decide +kernel) rfl rfl ?_
      refine Go.iload (i := 4) 3 (by decide +kernel) rfl ?_
      refine Go.iload_n (k := 3) (i := 3) 2 (by decide +kernel) rfl rfl ?_
      obtain ⟨b2, h⟩ := St.ck h
      refine Go.bastore a0 n0 ha0 (ltA hE ha0 (by decide)) (inb_in b2) (by decide +kernel) ?_
      refine Go.iinc (i := 4) (n := 1) 3 (x4 + (1 : Int32)) [(4, .int (x4 + (1 : Int32))), (0, .ref (ad E a0)), (2, .int x2), (3, .int x3)] (by decide +kernel) rfl rfl (by decide) rfl ?_
      refine Go.goto (off := -14) 10 (by decide +kernel) (by decide) ?_
      refine Go.sub [1, 2, 3, 0] [(0, .ref (ad E a0)), (2, .int x2), (3, .int x3), (4, .int (x4 + (1 : Int32)))] rfl ?_
      exact ih x2 x3 (x4 + (1 : Int32)) (u1 P a0 x4.toNatClampNeg (vp_nar .byte x3)) h
theorem t_f_Ja_fill_ABIIB {G : GX} (hG : GOK G) {E : EV} (hE : E0 E) (d : Nat) (hd : 2 ≤ d) {Q : QT} (a0 : Nat) (n0 : Nat) (ha0 : sh a0 = .inr (1, n0)) (a1 : Int32) (a2 : Int32) (a3 : Int32) (P : PM) (h : St E rP (f_Ja_fill_ABIIB a0 n0 a1 a2 a3 P) Q) : Go G c_Ja_fill_ABIIB "java/util/Arrays" 5 none false d nOb nOb Q 0 [(0, .ref (ad E a0)), (1, .int a1), (2, .int a2), (3, .int a3)] [] P E := by
  rw [f_Ja_fill_ABIIB] at h
  refine Go.aload_n (k := 0) (i := 0) 0 (by decide +kernel) rfl rfl ?_
  refine Go.alen a0 1 n0 (Int32.ofNat n0) ha0 (by decide) (ltA hE ha0 (by decide)) rfl (by decide +kernel) ?_
  refine Go.iload_n (k := 1) (i := 1) 1 (by decide +kernel) rfl rfl ?_
  refine Go.iload_n (k := 2) (i := 2) 2 (by decide +kernel) rfl rfl ?_
  obtain ⟨P1, hP1, h⟩ := St.bind h
  refine Go.cS_v (P1 := P1) (d - 1) [.int (Int32.ofNat n0), .int a1, .int a2] hE w_Ja_rangeCheck (e_Ja_rangeCheck hG hE (d - 1) (by omega) (Int32.ofNat n0) a1 a2 P ⟨_, hP1, rfl, rfl, rfl⟩) lk939 rfl (by omega) (Nat.le_of_ble_eq_true rfl) (by decide +kernel) _ rfl ?_
  refine Go.iload_n (k := 1) (i := 1) 1 (by decide +kernel) rfl rfl ?_
  refine Go.istore (i := 4) [(4, .int a1), (0, .ref (ad E a0)), (1, .int a1), (2, .int a2), (3, .int a3)] (by decide +kernel) (by decide) rfl ?_
  refine Go.sub [1, 3, 4, 0] [(0, .ref (ad E a0)), (2, .int a2), (3, .int a3), (4, .int a1)] rfl ?_
  exact t_l_Ja_fill_ABIIB_10 hG hE d hd a0 n0 ha0 FU a2 a3 a1 P1 h
theorem e_Ja_fill_ABIIB {G : GX} (hG : GOK G) {E : EV} (hE : E0 E) (d : Nat) (hd : 2 ≤ d) (a0 : Nat) (n0 : Nat) (ha0 : sh a0 = .inr (1, n0)) (a1 : Int32) (a2 : Int32) (a3 : Int32) (P : PM) {Q : QT} (h : St E rP (f_Ja_fill_ABIIB a0 n0 a1 a2 a3 P) Q) : Con G y_Ja_fill_ABIIB cw_Ja_fill_ABIIB d nOb nOb [.ref (ad E a0), .int a1, .int a2, .int a3] P E Q :=
  Con.of hG (by decide +kernel) rfl (fun h => by cases h) hE.2 (Nat.le_of_ble_eq_true rfl) (t_f_Ja_fill_ABIIB hG hE d hd a0 n0 ha0 a1 a2 a3 P h)
abbrev c_Pa_refresh : ByteArray := prog_6_method_3_code
abbrev y_Pa_refresh : MethodName := ⟨"YawnRoute$Passings", "refresh", "()V"⟩
abbrev cw_Pa_refresh : Cond := .code y_Pa_refresh c_Pa_refresh 2 none
theorem w_Pa_refresh : VW 4 y_Pa_refresh c_Pa_refresh 2 none 0 := ⟨by decide, lk933, lp26_, lk9, lk934, ⟨by decide, by decide, by decide +kernel⟩, by decide⟩
noncomputable def j_Pa_refresh_60 (k2 : Int32 → PM → Option PM) (x1 : Int32) (P : PM) : Option PM := k2 (x1 + (1 : Int32)) P
noncomputable def l_Pa_refresh_2 : Nat → Int32 → PM → Option PM
  | 0, _, _ => none
  | n + 1, x1, P => if (7 : Int32) ≤ x1 then (some P) else (ck (inb x1 7) ((f_Sa_dullOf 21 x1 P).bind (fun v3 => if (P.1 60 x1.toNatClampNeg) = v3 then (j_Pa_refresh_60 (fun z0 Pz => l_Pa_refresh_2 n z0 Pz) x1 P) else ((f_Sa_dullOf 21 x1 P).bind (fun v5 => ck (inb x1 7) ((f_Ja_fill_ABIIB 59 1960 (x1 * (280 : Int32)) ((x1 + (1 : Int32)) * (280 : Int32)) (-2 : Int32) (u1 P 60 x1.toNatClampNeg v5)).bind (fun P7 => j_Pa_refresh_60 (fun z0 Pz => l_Pa_refresh_2 n z0 Pz) x1 P7)))))))
noncomputable def f_Pa_refresh (P : PM) : Option PM := l_Pa_refresh_2 FU (0 : Int32) P
theorem t_j_Pa_refresh_60 {G : GX} (hG : GOK G) {E : EV} (hE : E0 E) (d : Nat) (hd : 3 ≤ d) {Q : QT} (k2 : Int32 → PM → Option PM) (hk2 : ∀ (x1 : Int32) (P : PM), St E rP (k2 x1 P) Q → Go G c_Pa_refresh "YawnRoute$Passings" 2 none false d nOb nOb Q 2 [(0, .ref (ad E 58)), (1, .int x1)] [] P E) (x1 : Int32) (P : PM) (h : St E rP (j_Pa_refresh_60 k2 x1 P) Q) : Go G c_Pa_refresh "YawnRoute$Passings" 2 none false d nOb nOb Q 60 [(0, .ref (ad E 58)), (1, .int x1)] [] P E := by
  rw [j_Pa_refresh_60] at h
  refine Go.iinc (i := 1) (n := 1) 1 (x1 + (1 : Int32)) [(1, .int (x1 + (1 : Int32))), (0, .ref (ad E 58))] (by decide +kernel) rfl rfl (by decide) rfl ?_
  refine Go.goto (off := -61) 2 (by decide +kernel) (by decide) ?_
  refine Go.sub [1, 0] [(0, .ref (ad E 58)), (1, .int (x1 + (1 : Int32)))] rfl ?_
  exact hk2 (x1 + (1 : Int32)) P h
theorem t_l_Pa_refresh_2 {G : GX} (hG : GOK G) {E : EV} (hE : E0 E) (d : Nat) (hd : 3 ≤ d) {Q : QT} : ∀ (n : Nat) (x1 : Int32) (P : PM), St E rP (l_Pa_refresh_2 n x1 P) Q → Go G c_Pa_refresh "YawnRoute$Passings" 2 none false d nOb nOb Q 2 [(0, .ref (ad E 58)), (1, .int x1)] [] P E := by
  intro n
  induction n with
  | zero =>
    intro x1 P h
    rw [l_Pa_refresh_2] at h
    exact St.none_ h
  | succ n ih =>
    intro x1 P h
    rw [l_Pa_refresh_2] at h
    refine Go.iload_n (k := 1) (i := 1) 1 (by decide +kernel) rfl rfl ?_
    refine Go.bipush (n := 7) (7 : Int32) (by decide +kernel) (by decide) ?_
    refine Go.icmp_ge (off := 61) 66 (by decide +kernel) (by decide) (fun c1 => ?_) (fun c1 => ?_)
    · rw [if_pos c1] at h
      exact Go.vret rfl hE.2 (by decide +kernel) (St.fP h)
    · rw [if_neg c1] at h
      refine Go.aload_n (k := 0) (i := 0) 0 (by decide +kernel) rfl rfl ?_
      refine Go.get 58 3 (.ref (ad E 60)) (by decide) (by decide) sh58 (ltO hE sh58) (vlR hE rfl rfl) lk292 (by decide +kernel) ?_
      refine Go.iload_n (k := 1) (i := 1) 1 (by decide +kernel) rfl rfl ?_
      obtain ⟨b2, h⟩ := St.ck h
      refine Go.iaload 60 7 sh60 (ltA hE sh60 (by decide)) (inb_in b2) (by decide +kernel) ?_
      refine Go.aload_n (k := 0) (i := 0) 0 (by decide +kernel) rfl rfl ?_
      refine Go.get 58 1 (.ref (ad E 21)) (by decide) (by decide) sh58 (ltO hE sh58) (vlR hE rfl rfl) lk290 (by decide +kernel) ?_
      refine Go.iload_n (k := 1) (i := 1) 1 (by decide +kernel) rfl rfl ?_
      obtain ⟨v3, hv3, h⟩ := St.bind h
      refine Go.cV_i (P1 := P) (v := v3) (d - 1) 21 [.int x1] sh21 hE w_Sa_dullOf (e_Sa_dullOf hG hE (d - 1) (by omega) 21 sh21 x1 P ⟨_, hv3, rfl, rfl, rfl⟩) lk935 rfl (by omega) (Nat.le_of_ble_eq_true rfl) (by decide +kernel) _ rfl ?_
      refine Go.icmp_eq (off := 38) 60 (by decide +kernel) (by decide) (fun c4 => ?_) (fun c4 => ?_)
      · rw [if_pos c4] at h
        exact t_j_Pa_refresh_60 hG hE d hd (fun z0 Pz => l_Pa_refresh_2 n z0 Pz) (fun z0 Pz q => ih z0 Pz q) x1 P h
      · rw [if_neg c4] at h
        refine Go.aload_n (k := 0) (i := 0) 0 (by decide +kernel) rfl rfl ?_
        refine Go.get 58 3 (.ref (ad E 60)) (by decide) (by decide) sh58 (ltO hE sh58) (vlR hE rfl rfl) lk292 (by decide +kernel) ?_
        refine Go.iload_n (k := 1) (i := 1) 1 (by decide +kernel) rfl rfl ?_
        refine Go.aload_n (k := 0) (i := 0) 0 (by decide +kernel) rfl rfl ?_
        refine Go.get 58 1 (.ref (ad E 21)) (by decide) (by decide) sh58 (ltO hE sh58) (vlR hE rfl rfl) lk290 (by decide +kernel) ?_
        refine Go.iload_n (k := 1) (i := 1) 1 (by decide +kernel) rfl rfl ?_
        obtain ⟨v5, hv5, h⟩ := St.bind h
        refine Go.cV_i (P1 := P) (v := v5) (d - 1) 21 [.int x1] sh21 hE w_Sa_dullOf (e_Sa_dullOf hG hE (d - 1) (by omega) 21 sh21 x1 P ⟨_, hv5, rfl, rfl, rfl⟩) lk935 rfl (by omega) (Nat.le_of_ble_eq_true rfl) (by decide +kernel) _ rfl ?_
        obtain ⟨b6, h⟩ := St.ck h
        refine Go.iastore 60 7 sh60 (ltA hE sh60 (by decide)) (inb_in b6) (by decide +kernel) ?_
        refine Go.aload_n (k := 0) (i := 0) 0 (by decide +kernel) rfl rfl ?_
        refine Go.get 58 2 (.ref (ad E 59)) (by decide) (by decide) sh58 (ltO hE sh58) (vlR hE rfl rfl) lk291 (by decide +kernel) ?_
        refine Go.iload_n (k := 1) (i := 1) 1 (by decide +kernel) rfl rfl ?_
        refine Go.sipush (n := 280) (280 : Int32) (by decide +kernel) (by decide) ?_
        refine Go.imul (by decide +kernel) ?_
        refine Go.iload_n (k := 1) (i := 1) 1 (by decide +kernel) rfl rfl ?_
        refine Go.iconst (n := 1) (1 : Int32) (by decide +kernel) rfl ?_
        refine Go.iadd (by decide +kernel) ?_
        refine Go.sipush (n := 280) (280 : Int32) (by decide +kernel) (by decide) ?_
        refine Go.imul (by decide +kernel) ?_
        refine Go.bipush (n := -2) (-2 : Int32) (by decide +kernel) (by decide) ?_
        obtain ⟨P7, hP7, h⟩ := St.bind h
        refine Go.cS_v (P1 := P7) (d - 1) [.ref (ad E 59), .int (x1 * (280 : Int32)), .int ((x1 + (1 : Int32)) * (280 : Int32)), .int (-2 : Int32)] hE w_Ja_fill_ABIIB (e_Ja_fill_ABIIB hG hE (d - 1) (by omega) 59 1960 sh59 (x1 * (280 : Int32)) ((x1 + (1 : Int32)) * (280 : Int32)) (-2 : Int32) (u1 P 60 x1.toNatClampNeg v5) ⟨_, hP7, rfl, rfl, rfl⟩) lk936 rfl (by omega) (Nat.le_of_ble_eq_true rfl) (by decide +kernel) _ rfl ?_
        exact t_j_Pa_refresh_60 hG hE d hd (fun z0 Pz => l_Pa_refresh_2 n z0 Pz) (fun z0 Pz q => ih z0 Pz q) x1 P7 h
theorem t_f_Pa_refresh {G : GX} (hG : GOK G) {E : EV} (hE : E0 E) (d : Nat) (hd : 3 ≤ d) {Q : QT} (P : PM) (h : St E rP (f_Pa_refresh P) Q) : Go G c_Pa_refresh "YawnRoute$Passings" 2 none false d nOb nOb Q 0 [(0, .ref (ad E 58))] [] P E := by
  rw [f_Pa_refresh] at h
  refine Go.iconst (n := 0) (0 : Int32) (by decide +kernel) rfl ?_
  refine Go.istore_n (k := 1) (i := 1) [(1, .int (0 : Int32)), (0, .ref (ad E 58))] (by decide +kernel) rfl (by decide) rfl ?_
  refine Go.sub [1, 0] [(0, .ref (ad E 58)), (1, .int (0 : Int32))] rfl ?_
  exact t_l_Pa_refresh_2 hG hE d hd FU (0 : Int32) P h
theorem e_Pa_refresh {G : GX} (hG : GOK G) {E : EV} (hE : E0 E) (d : Nat) (hd : 3 ≤ d) (P : PM) {Q : QT} (h : St E rP (f_Pa_refresh P) Q) : Con G y_Pa_refresh cw_Pa_refresh d nOb nOb [.ref (ad E 58)] P E Q :=
  Con.of hG (by decide +kernel) rfl (fun h => by cases h) hE.2 (Nat.le_of_ble_eq_true rfl) (t_f_Pa_refresh hG hE d hd P h)
abbrev c_Pa_workOut : ByteArray := prog_6_method_5_code
abbrev y_Pa_workOut : MethodName := ⟨"YawnRoute$Passings", "workOut", "(II)I"⟩
abbrev cw_Pa_workOut : Cond := .code y_Pa_workOut c_Pa_workOut 4 (some .int)
theorem w_Pa_workOut : VW 4 y_Pa_workOut c_Pa_workOut 4 (some .int) 2 := ⟨by decide, lk961, lp28_, lk9, lk962, ⟨by decide, by decide, by decide +kernel⟩, by decide⟩
noncomputable def j_Pa_workOut_63 (x3 : Int32) (P : PM) : Option (Int32 × PM) := ck (inb x3 1960) (some ((P.1 59 x3.toNatClampNeg), P))
noncomputable def f_Pa_workOut (a1 : Int32) (a2 : Int32) (P : PM) : Option (Int32 × PM) := lb ((a2 * (280 : Int32)) + a1) (fun y1 => if y1 < (0 : Int32) then (some ((-1 : Int32), P)) else (if y1 < (1960 : Int32) then (ck (inb y1 1960) (if (P.1 59 y1.toNatClampNeg) = (-2 : Int32) then (ck (inb a2 7) (bd2 (f_Ne_carried 14 (f_Yr_stationIn a1 P) (f_Yr_sizeIn a1 P) a2 (P.1 60 a2.toNatClampNeg) P) (fun v7 P8 => ck (inb y1 1960) (j_Pa_workOut_63 y1 (u1 P8 59 y1.toNatClampNeg (vp_nar .byte (v7.toInt8.toInt32))))))) else (j_Pa_workOut_63 y1 P))) else (some ((-1 : Int32), P))))
theorem t_j_Pa_workOut_63 {G : GX} (hG : GOK G) {E : EV} (hE : E0 E) (d : Nat) (hd : 4 ≤ d) {Q : QT} (x3 : Int32) (P : PM) (h : St E rIP (j_Pa_workOut_63 x3 P) Q) : Go G c_Pa_workOut "YawnRoute$Passings" 4 (some .int) false d nOb nOb Q 63 [(0, .ref (ad E 58)), (3, .int x3)] [] P E := by
  rw [j_Pa_workOut_63] at h
  refine Go.aload_n (k := 0) (i := 0) 0 (by decide +kernel) rfl rfl ?_
  refine Go.get 58 2 (.ref (ad E 59)) (by decide) (by decide) sh58 (ltO hE sh58) (vlR hE rfl rfl) lk291 (by decide +kernel) ?_
  refine Go.iload_n (k := 3) (i := 3) 1 (by decide +kernel) rfl rfl ?_
  obtain ⟨b1, h⟩ := St.ck h
  refine Go.baload 59 1960 sh59 (ltA hE sh59 (by decide)) (inb_in b1) (by decide +kernel) ?_
  exact Go.iret rfl rfl hE.2 (by decide +kernel) (St.fIP h)
theorem t_f_Pa_workOut {G : GX} (hG : GOK G) {E : EV} (hE : E0 E) (d : Nat) (hd : 4 ≤ d) {Q : QT} (a1 : Int32) (a2 : Int32) (P : PM) (h : St E rIP (f_Pa_workOut a1 a2 P) Q) : Go G c_Pa_workOut "YawnRoute$Passings" 4 (some .int) false d nOb nOb Q 0 [(0, .ref (ad E 58)), (1, .int a1), (2, .int a2)] [] P E := by
  rw [f_Pa_workOut] at h
  refine Go.iload_n (k := 2) (i := 2) 2 (by decide +kernel) rfl rfl ?_
  refine Go.sipush (n := 280) (280 : Int32) (by decide +kernel) (by decide) ?_
  refine Go.imul (by decide +kernel) ?_
  refine Go.iload_n (k := 1) (i := 1) 1 (by decide +kernel) rfl rfl ?_
  refine Go.iadd (by decide +kernel) ?_
  obtain ⟨y1, hy1, h⟩ := St.lb h
  refine Go.eqi y1 hy1 ?_
  refine Go.istore_n (k := 3) (i := 3) [(3, .int y1), (0, .ref (ad E 58)), (1, .int a1), (2, .int a2)] (by decide +kernel) rfl (by decide) rfl ?_
  refine Go.iload_n (k := 3) (i := 3) 0 (by decide +kernel) rfl rfl ?_
  refine Go.if_lt (off := 12) 21 (by decide +kernel) (by decide) (fun c2 => ?_) (fun c2 => ?_)
  · rw [if_pos c2] at h
    refine Go.iconst (n := -1) (-1 : Int32) (by decide +kernel) rfl ?_
    exact Go.iret rfl rfl hE.2 (by decide +kernel) (St.fIP h)
  · rw [if_neg c2] at h
    refine Go.iload_n (k := 3) (i := 3) 0 (by decide +kernel) rfl rfl ?_
    refine Go.aload_n (k := 0) (i := 0) 1 (by decide +kernel) rfl rfl ?_
    refine Go.get 58 2 (.ref (ad E 59)) (by decide) (by decide) sh58 (ltO hE sh58) (vlR hE rfl rfl) lk291 (by decide +kernel) ?_
    refine Go.alen 59 1 1960 (1960 : Int32) sh59 (by decide) (ltA hE sh59 (by decide)) rfl (by decide +kernel) ?_
    refine Go.icmp_lt (off := 5) 23 (by decide +kernel) (by decide) (fun c3 => ?_) (fun c3 => ?_)
    · rw [if_pos c3] at h
      refine Go.aload_n (k := 0) (i := 0) 1 (by decide +kernel) rfl rfl ?_
      refine Go.get 58 2 (.ref (ad E 59)) (by decide) (by decide) sh58 (ltO hE sh58) (vlR hE rfl rfl) lk291 (by decide +kernel) ?_
      refine Go.iload_n (k := 3) (i := 3) 0 (by decide +kernel) rfl rfl ?_
      obtain ⟨b4, h⟩ := St.ck h
      refine Go.baload 59 1960 sh59 (ltA hE sh59 (by decide)) (inb_in b4) (by decide +kernel) ?_
      refine Go.bipush (n := -2) (-2 : Int32) (by decide +kernel) (by decide) ?_
      refine Go.icmp_ne (off := 32) 63 (by decide +kernel) (by decide) (fun c5 => ?_) (fun c5 => ?_)
      · rw [if_neg c5] at h
        refine Go.sub [1, 0] [(0, .ref (ad E 58)), (3, .int y1)] rfl ?_
        exact t_j_Pa_workOut_63 hG hE d hd y1 P h
      · rw [if_pos c5] at h
        refine Go.aload_n (k := 0) (i := 0) 1 (by decide +kernel) rfl rfl ?_
        refine Go.get 58 2 (.ref (ad E 59)) (by decide) (by decide) sh58 (ltO hE sh58) (vlR hE rfl rfl) lk291 (by decide +kernel) ?_
        refine Go.iload_n (k := 3) (i := 3) 0 (by decide +kernel) rfl rfl ?_
        refine Go.aload_n (k := 0) (i := 0) 1 (by decide +kernel) rfl rfl ?_
        refine Go.get 58 0 (.ref (ad E 14)) (by decide) (by decide) sh58 (ltO hE sh58) (vlR hE rfl rfl) lk289 (by decide +kernel) ?_
        refine Go.iload_n (k := 1) (i := 1) 2 (by decide +kernel) rfl rfl ?_
        refine Go.cSN_i (P1 := P) (v := (f_Yr_stationIn a1 P)) (d - 1) [.int a1] hE w_Yr_stationIn (e_Yr_stationIn hG hE (d - 1) (by omega) a1 P ⟨rfl, rfl, rfl⟩) nw13 rfl (by omega) (Nat.le_of_ble_eq_true rfl) (by decide +kernel) _ rfl ?_
        refine Go.iload_n (k := 1) (i := 1) 2 (by decide +kernel) rfl rfl ?_
        refine Go.cSN_i (P1 := P) (v := (f_Yr_sizeIn a1 P)) (d - 1) [.int a1] hE w_Yr_sizeIn (e_Yr_sizeIn hG hE (d - 1) (by omega) a1 P ⟨rfl, rfl, rfl⟩) nw14 rfl (by omega) (Nat.le_of_ble_eq_true rfl) (by decide +kernel) _ rfl ?_
        refine Go.iload_n (k := 2) (i := 2) 3 (by decide +kernel) rfl rfl ?_
        refine Go.aload_n (k := 0) (i := 0) 1 (by decide +kernel) rfl rfl ?_
        refine Go.get 58 3 (.ref (ad E 60)) (by decide) (by decide) sh58 (ltO hE sh58) (vlR hE rfl rfl) lk292 (by decide +kernel) ?_
        refine Go.iload_n (k := 2) (i := 2) 3 (by decide +kernel) rfl rfl ?_
        obtain ⟨b6, h⟩ := St.ck h
        refine Go.iaload 60 7 sh60 (ltA hE sh60 (by decide)) (inb_in b6) (by decide +kernel) ?_
        obtain ⟨v7, P8, hv7, h⟩ := St.bd2 h
        refine Go.cV_i (P1 := P8) (v := v7) (d - 1) 14 [.int (f_Yr_stationIn a1 P), .int (f_Yr_sizeIn a1 P), .int a2, .int (P.1 60 a2.toNatClampNeg)] sh14 hE w_Ne_carried (e_Ne_carried hG hE (d - 1) (by omega) 14 sh14 (f_Yr_stationIn a1 P) (f_Yr_sizeIn a1 P) a2 (P.1 60 a2.toNatClampNeg) P ⟨_, hv7, rfl, rfl, rfl⟩) lk963 rfl (by omega) (Nat.le_of_ble_eq_true rfl) (by decide +kernel) _ rfl ?_
        refine Go.i2b (by decide +kernel) ?_
        obtain ⟨b9, h⟩ := St.ck h
        refine Go.bastore 59 1960 sh59 (ltA hE sh59 (by decide)) (inb_in b9) (by decide +kernel) ?_
        refine Go.sub [1, 0] [(0, .ref (ad E 58)), (3, .int y1)] rfl ?_
        exact t_j_Pa_workOut_63 hG hE d hd y1 (u1 P8 59 y1.toNatClampNeg (vp_nar .byte (v7.toInt8.toInt32))) h
    · rw [if_neg c3] at h
      refine Go.iconst (n := -1) (-1 : Int32) (by decide +kernel) rfl ?_
      exact Go.iret rfl rfl hE.2 (by decide +kernel) (St.fIP h)
theorem e_Pa_workOut {G : GX} (hG : GOK G) {E : EV} (hE : E0 E) (d : Nat) (hd : 4 ≤ d) (a1 : Int32) (a2 : Int32) (P : PM) {Q : QT} (h : St E rIP (f_Pa_workOut a1 a2 P) Q) : Con G y_Pa_workOut cw_Pa_workOut d nOb nOb [.ref (ad E 58), .int a1, .int a2] P E Q :=
  Con.of hG (by decide +kernel) rfl (fun h => by cases h) hE.2 (Nat.le_of_ble_eq_true rfl) (t_f_Pa_workOut hG hE d hd a1 a2 P h)
abbrev c_Ja_fill_AJJ : ByteArray := prog_22_method_101_code
abbrev y_Ja_fill_AJJ : MethodName := ⟨"java/util/Arrays", "fill", "([JJ)V"⟩
abbrev cw_Ja_fill_AJJ : Cond := .code y_Ja_fill_AJJ c_Ja_fill_AJJ 5 none
theorem w_Ja_fill_AJJ : SW y_Ja_fill_AJJ c_Ja_fill_AJJ 5 none 2 := ⟨lk943, lk10, lk944, ⟨by decide, by decide, by decide +kernel⟩, by decide⟩
noncomputable def l_Ja_fill_AJJ_6 (a0 : Nat) (n0 : Nat) : Nat → Int64 → Int32 → Int32 → PM → Option PM
  | 0, _, _, _, _ => none
  | n + 1, x1, x3, x4, P => if x4 ≤ x3 then (some P) else (ck (inb x3 n0) (l_Ja_fill_AJJ_6 a0 n0 n x1 (x3 + (1 : Int32)) x4 (u2 P a0 x3.toNatClampNeg x1)))
noncomputable def f_Ja_fill_AJJ (a0 : Nat) (n0 : Nat) (a1 : Int64) (P : PM) : Option PM := lb (Int32.ofNat n0) (fun y1 => l_Ja_fill_AJJ_6 a0 n0 FU a1 (0 : Int32) y1 P)
theorem t_l_Ja_fill_AJJ_6 {G : GX} (hG : GOK G) {E : EV} (hE : E0 E) (d : Nat) (hd : 1 ≤ d) {Q : QT} (a0 : Nat) (n0 : Nat) (ha0 : sh a0 = .inr (3, n0)) : ∀ (n : Nat) (x1 : Int64) (x3 : Int32) (x4 : Int32) (P : PM), St E rP (l_Ja_fill_AJJ_6 a0 n0 n x1 x3 x4 P) Q → Go G c_Ja_fill_AJJ "java/util/Arrays" 5 none false d nOb nOb Q 6 [(0, .ref (ad E a0)), (1, .long x1), (3, .int x3), (4, .int x4)] [] P E := by
  intro n
  induction n with
  | zero =>
    intro x1 x3 x4 P h
    rw [l_Ja_fill_AJJ_6] at h
    exact St.none_ h
  | succ n ih =>
    intro x1 x3 x4 P h
    rw [l_Ja_fill_AJJ_6] at h
    refine Go.iload_n (k := 3) (i := 3) 2 (by decide +kernel) rfl rfl ?_
    refine Go.iload (i := 4) 3 (by decide +kernel) rfl ?_
    refine Go.icmp_ge (off := 13) 22 (by decide +kernel) (by decide) (fun c1 => ?_) (fun c1 => ?_)
    · rw [if_pos c1] at h
      exact Go.vret rfl hE.2 (by decide +kernel) (St.fP h)
    · rw [if_neg c1] at h
      refine Go.aload_n (k := 0) (i := 0) 0 (by decide +kernel) rfl rfl ?_
      refine Go.iload_n (k := 3) (i := 3) 2 (by decide +kernel) rfl rfl ?_
      refine Go.lload_n (k := 1) (i := 1) 1 (by decide +kernel) rfl rfl ?_
      obtain ⟨b2, h⟩ := St.ck h
      refine Go.lastore a0 n0 ha0 (ltA hE ha0 (by decide)) (inb_in b2) (by decide +kernel) ?_
      refine Go.iinc (i := 3) (n := 1) 2 (x3 + (1 : Int32)) [(3, .int (x3 + (1 : Int32))), (0, .ref (ad E a0)), (1, .long x1), (4, .int x4)] (by decide +kernel) rfl rfl (by decide) rfl ?_
      refine Go.goto (off := -13) 6 (by decide +kernel) (by decide) ?_
      refine Go.sub [1, 2, 0, 3] [(0, .ref (ad E a0)), (1, .long x1), (3, .int (x3 + (1 : Int32))), (4, .int x4)] rfl ?_
      exact ih x1 (x3 + (1 : Int32)) x4 (u2 P a0 x3.toNatClampNeg x1) h
theorem t_f_Ja_fill_AJJ {G : GX} (hG : GOK G) {E : EV} (hE : E0 E) (d : Nat) (hd : 1 ≤ d) {Q : QT} (a0 : Nat) (n0 : Nat) (ha0 : sh a0 = .inr (3, n0)) (a1 : Int64) (P : PM) (h : St E rP (f_Ja_fill_AJJ a0 n0 a1 P) Q) : Go G c_Ja_fill_AJJ "java/util/Arrays" 5 none false d nOb nOb Q 0 [(0, .ref (ad E a0)), (1, .long a1)] [] P E := by
  rw [f_Ja_fill_AJJ] at h
  refine Go.iconst (n := 0) (0 : Int32) (by decide +kernel) rfl ?_
  refine Go.istore_n (k := 3) (i := 3) [(3, .int (0 : Int32)), (0, .ref (ad E a0)), (1, .long a1)] (by decide +kernel) rfl (by decide) rfl ?_
  refine Go.aload_n (k := 0) (i := 0) 1 (by decide +kernel) rfl rfl ?_
  refine Go.alen a0 3 n0 (Int32.ofNat n0) ha0 (by decide) (ltA hE ha0 (by decide)) rfl (by decide +kernel) ?_
  obtain ⟨y1, hy1, h⟩ := St.lb h
  refine Go.eqi y1 hy1 ?_
  refine Go.istore (i := 4) [(4, .int y1), (3, .int (0 : Int32)), (0, .ref (ad E a0)), (1, .long a1)] (by decide +kernel) (by decide) rfl ?_
  refine Go.sub [2, 3, 1, 0] [(0, .ref (ad E a0)), (1, .long a1), (3, .int (0 : Int32)), (4, .int y1)] rfl ?_
  exact t_l_Ja_fill_AJJ_6 hG hE d hd a0 n0 ha0 FU a1 (0 : Int32) y1 P h
theorem e_Ja_fill_AJJ {G : GX} (hG : GOK G) {E : EV} (hE : E0 E) (d : Nat) (hd : 1 ≤ d) (a0 : Nat) (n0 : Nat) (ha0 : sh a0 = .inr (3, n0)) (a1 : Int64) (P : PM) {Q : QT} (h : St E rP (f_Ja_fill_AJJ a0 n0 a1 P) Q) : Con G y_Ja_fill_AJJ cw_Ja_fill_AJJ d nOb nOb [.ref (ad E a0), .long a1] P E Q :=
  Con.of hG (by decide +kernel) rfl (fun h => by cases h) hE.2 (Nat.le_of_ble_eq_true rfl) (t_f_Ja_fill_AJJ hG hE d hd a0 n0 ha0 a1 P h)
abbrev c_Pa_explore : ByteArray := prog_6_method_4_code
abbrev y_Pa_explore : MethodName := ⟨"YawnRoute$Passings", "explore", "(II)V"⟩
abbrev cw_Pa_explore : Cond := .code y_Pa_explore c_Pa_explore 6 none
theorem w_Pa_explore : VW 4 y_Pa_explore c_Pa_explore 6 none 2 := ⟨by decide, lk928, lk929, lk9, lk930, ⟨by decide, by decide, by decide +kernel⟩, by decide⟩
noncomputable def j_Pa_explore_98 (k24 : Int32 → Int32 → PM → Option PM) (k42 : Int32 → Int32 → Int32 → PM → Option PM) (x2 : Int32) (x3 : Int32) (x4 : Int32) (s1 : Int32) (P : PM) : Option PM := (f_Pa_find s1 P).bind (fun P1 => k42 x2 x3 (x4 + (1 : Int32)) P1)
noncomputable def j_Pa_explore_79 (k24 : Int32 → Int32 → PM → Option PM) (k42 : Int32 → Int32 → Int32 → PM → Option PM) (x2 : Int32) (x3 : Int32) (x4 : Int32) (s0 : Int32) (P : PM) : Option PM := if s0 ≤ (0 : Int32) then (j_Pa_explore_98 k24 k42 x2 x3 x4 (-1 : Int32) P) else (j_Pa_explore_98 k24 k42 x2 x3 x4 (f_Yr_placeOf x4 s0 P) P)
noncomputable def l_Pa_explore_42 (k24 : Int32 → Int32 → PM → Option PM) : Nat → Int32 → Int32 → Int32 → PM → Option PM
  | 0, _, _, _, _ => none
  | n + 1, x2, x3, x4, P => if (P.1 14 0) ≤ x4 then (k24 x2 (x3 + (1 : Int32)) P) else (if (f_Yr_has x2 x4 P) = (0 : Int32) then (ck (inb x3 280) (bd2 (f_Pa_workOut (P.1 62 x3.toNatClampNeg) x4 P) (fun v4 P5 => j_Pa_explore_79 k24 (fun z0 z1 z2 Pz => l_Pa_explore_42 k24 n z0 z1 z2 Pz) x2 x3 x4 v4 P5))) else (j_Pa_explore_79 k24 (fun z0 z1 z2 Pz => l_Pa_explore_42 k24 n z0 z1 z2 Pz) x2 x3 x4 (-1 : Int32) P))
noncomputable def l_Pa_explore_24 : Nat → Int32 → Int32 → PM → Option PM
  | 0, _, _, _ => none
  | n + 1, x2, x3, P => if (280 : Int32) ≤ x3 then (some P) else (if (P.1 58 6) ≤ x3 then (some P) else (l_Pa_explore_42 (fun z0 z1 Pz => l_Pa_explore_24 n z0 z1 Pz) FU x2 x3 (0 : Int32) P))
noncomputable def f_Pa_explore (a1 : Int32) (a2 : Int32) (P : PM) : Option PM := (f_Pa_refresh P).bind (fun P1 => (f_Ja_fill_AJJ 61 7 (0 : Int64) P1).bind (fun P2 => (f_Pa_find a1 (u1 P2 58 6 (0 : Int32))).bind (fun P3 => l_Pa_explore_24 FU a2 (0 : Int32) P3)))
theorem t_j_Pa_explore_98 {G : GX} (hG : GOK G) {E : EV} (hE : E0 E) (d : Nat) (hd : 5 ≤ d) {Q : QT} (k24 : Int32 → Int32 → PM → Option PM) (hk24 : ∀ (x2 : Int32) (x3 : Int32) (P : PM), St E rP (k24 x2 x3 P) Q → Go G c_Pa_explore "YawnRoute$Passings" 6 none false d nOb nOb Q 24 [(0, .ref (ad E 58)), (2, .int x2), (3, .int x3)] [] P E) (k42 : Int32 → Int32 → Int32 → PM → Option PM) (hk42 : ∀ (x2 : Int32) (x3 : Int32) (x4 : Int32) (P : PM), St E rP (k42 x2 x3 x4 P) Q → Go G c_Pa_explore "YawnRoute$Passings" 6 none false d nOb nOb Q 42 [(0, .ref (ad E 58)), (2, .int x2), (3, .int x3), (4, .int x4)] [] P E) (x2 : Int32) (x3 : Int32) (x4 : Int32) (s1 : Int32) (P : PM) (h : St E rP (j_Pa_explore_98 k24 k42 x2 x3 x4 s1 P) Q) : Go G c_Pa_explore "YawnRoute$Passings" 6 none false d nOb nOb Q 98 [(0, .ref (ad E 58)), (2, .int x2), (3, .int x3), (4, .int x4)] [.int s1, .ref (ad E 58)] P E := by
  rw [j_Pa_explore_98] at h
  obtain ⟨P1, hP1, h⟩ := St.bind h
  refine Go.cV_v (P1 := P1) (d - 1) 58 [.int s1] sh58 hE w_Pa_find (e_Pa_find hG hE (d - 1) (by omega) s1 P ⟨_, hP1, rfl, rfl, rfl⟩) lk945 rfl (by omega) (Nat.le_of_ble_eq_true rfl) (by decide +kernel) _ rfl ?_
  refine Go.iinc (i := 4) (n := 1) 3 (x4 + (1 : Int32)) [(4, .int (x4 + (1 : Int32))), (0, .ref (ad E 58)), (2, .int x2), (3, .int x3)] (by decide +kernel) rfl rfl (by decide) rfl ?_
  refine Go.goto (off := -62) 42 (by decide +kernel) (by decide) ?_
  refine Go.sub [1, 2, 3, 0] [(0, .ref (ad E 58)), (2, .int x2), (3, .int x3), (4, .int (x4 + (1 : Int32)))] rfl ?_
  exact hk42 x2 x3 (x4 + (1 : Int32)) P1 h
theorem t_j_Pa_explore_79 {G : GX} (hG : GOK G) {E : EV} (hE : E0 E) (d : Nat) (hd : 5 ≤ d) {Q : QT} (k24 : Int32 → Int32 → PM → Option PM) (hk24 : ∀ (x2 : Int32) (x3 : Int32) (P : PM), St E rP (k24 x2 x3 P) Q → Go G c_Pa_explore "YawnRoute$Passings" 6 none false d nOb nOb Q 24 [(0, .ref (ad E 58)), (2, .int x2), (3, .int x3)] [] P E) (k42 : Int32 → Int32 → Int32 → PM → Option PM) (hk42 : ∀ (x2 : Int32) (x3 : Int32) (x4 : Int32) (P : PM), St E rP (k42 x2 x3 x4 P) Q → Go G c_Pa_explore "YawnRoute$Passings" 6 none false d nOb nOb Q 42 [(0, .ref (ad E 58)), (2, .int x2), (3, .int x3), (4, .int x4)] [] P E) (x2 : Int32) (x3 : Int32) (x4 : Int32) (s0 : Int32) (P : PM) (h : St E rP (j_Pa_explore_79 k24 k42 x2 x3 x4 s0 P) Q) : Go G c_Pa_explore "YawnRoute$Passings" 6 none false d nOb nOb Q 79 [(0, .ref (ad E 58)), (2, .int x2), (3, .int x3), (4, .int x4)] [.int s0] P E := by
  rw [j_Pa_explore_79] at h
  refine Go.istore (i := 5) [(5, .int s0), (0, .ref (ad E 58)), (2, .int x2), (3, .int x3), (4, .int x4)] (by decide +kernel) (by decide) rfl ?_
  refine Go.aload_n (k := 0) (i := 0) 1 (by decide +kernel) rfl rfl ?_
  refine Go.iload (i := 5) 0 (by decide +kernel) rfl ?_
  refine Go.if_le (off := 13) 97 (by decide +kernel) (by decide) (fun c1 => ?_) (fun c1 => ?_)
  · rw [if_pos c1] at h
    refine Go.iconst (n := -1) (-1 : Int32) (by decide +kernel) rfl ?_
    refine Go.sub [1, 2, 3, 4] [(0, .ref (ad E 58)), (2, .int x2), (3, .int x3), (4, .int x4)] rfl ?_
    exact t_j_Pa_explore_98 hG hE d hd k24 hk24 k42 hk42 x2 x3 x4 (-1 : Int32) P h
  · rw [if_neg c1] at h
    refine Go.iload (i := 4) 4 (by decide +kernel) rfl ?_
    refine Go.iload (i := 5) 0 (by decide +kernel) rfl ?_
    refine Go.cSN_i (P1 := P) (v := (f_Yr_placeOf x4 s0 P)) (d - 1) [.int x4, .int s0] hE w_Yr_placeOf (e_Yr_placeOf hG hE (d - 1) (by omega) x4 s0 P ⟨rfl, rfl, rfl⟩) nw16 rfl (by omega) (Nat.le_of_ble_eq_true rfl) (by decide +kernel) _ rfl ?_
    refine Go.goto (off := 4) 98 (by decide +kernel) (by decide) ?_
    refine Go.sub [1, 2, 3, 4] [(0, .ref (ad E 58)), (2, .int x2), (3, .int x3), (4, .int x4)] rfl ?_
    exact t_j_Pa_explore_98 hG hE d hd k24 hk24 k42 hk42 x2 x3 x4 (f_Yr_placeOf x4 s0 P) P h
theorem t_l_Pa_explore_42 {G : GX} (hG : GOK G) {E : EV} (hE : E0 E) (d : Nat) (hd : 5 ≤ d) {Q : QT} (k24 : Int32 → Int32 → PM → Option PM) (hk24 : ∀ (x2 : Int32) (x3 : Int32) (P : PM), St E rP (k24 x2 x3 P) Q → Go G c_Pa_explore "YawnRoute$Passings" 6 none false d nOb nOb Q 24 [(0, .ref (ad E 58)), (2, .int x2), (3, .int x3)] [] P E) : ∀ (n : Nat) (x2 : Int32) (x3 : Int32) (x4 : Int32) (P : PM), St E rP (l_Pa_explore_42 k24 n x2 x3 x4 P) Q → Go G c_Pa_explore "YawnRoute$Passings" 6 none false d nOb nOb Q 42 [(0, .ref (ad E 58)), (2, .int x2), (3, .int x3), (4, .int x4)] [] P E := by
  intro n
  induction n with
  | zero =>
    intro x2 x3 x4 P h
    rw [l_Pa_explore_42] at h
    exact St.none_ h
  | succ n ih =>
    intro x2 x3 x4 P h
    rw [l_Pa_explore_42] at h
    refine Go.iload (i := 4) 3 (by decide +kernel) rfl ?_
    refine Go.aload_n (k := 0) (i := 0) 0 (by decide +kernel) rfl rfl ?_
    refine Go.get 58 0 (.ref (ad E 14)) (by decide) (by decide) sh58 (ltO hE sh58) (vlR hE rfl rfl) lk289 (by decide +kernel) ?_
    refine Go.get 14 0 (.int (P.1 14 0)) (by decide) (by decide) sh14 (ltO hE sh14) rfl lk89 (by decide +kernel) ?_
    refine Go.icmp_ge (off := 56) 107 (by decide +kernel) (by decide) (fun c1 => ?_) (fun c1 => ?_)
    · rw [if_pos c1] at h
      refine Go.iinc (i := 3) (n := 1) 2 (x3 + (1 : Int32)) [(3, .int (x3 + (1 : Int32))), (0, .ref (ad E 58)), (2, .int x2), (4, .int x4)] (by decide +kernel) rfl rfl (by decide) rfl ?_
      refine Go.goto (off := -86) 24 (by decide +kernel) (by decide) ?_
      refine Go.sub [1, 2, 0] [(0, .ref (ad E 58)), (2, .int x2), (3, .int (x3 + (1 : Int32)))] rfl ?_
      exact hk24 x2 (x3 + (1 : Int32)) P h
    · rw [if_neg c1] at h
      refine Go.iload_n (k := 2) (i := 2) 1 (by decide +kernel) rfl rfl ?_
      refine Go.iload (i := 4) 3 (by decide +kernel) rfl ?_
      refine Go.cSN_i (P1 := P) (v := (f_Yr_has x2 x4 P)) (d - 1) [.int x2, .int x4] hE w_Yr_has (e_Yr_has hG hE (d - 1) (by omega) x2 x4 P ⟨rfl, rfl, rfl⟩) nw15 rfl (by omega) (Nat.le_of_ble_eq_true rfl) (by decide +kernel) _ rfl ?_
      refine Go.if_eq (off := 7) 67 (by decide +kernel) (by decide) (fun c2 => ?_) (fun c2 => ?_)
      · rw [if_pos c2] at h
        refine Go.aload_n (k := 0) (i := 0) 0 (by decide +kernel) rfl rfl ?_
        refine Go.aload_n (k := 0) (i := 0) 0 (by decide +kernel) rfl rfl ?_
        refine Go.get 58 5 (.ref (ad E 62)) (by decide) (by decide) sh58 (ltO hE sh58) (vlR hE rfl rfl) lk294 (by decide +kernel) ?_
        refine Go.iload_n (k := 3) (i := 3) 2 (by decide +kernel) rfl rfl ?_
        obtain ⟨b3, h⟩ := St.ck h
        refine Go.iaload 62 280 sh62 (ltA hE sh62 (by decide)) (inb_in b3) (by decide +kernel) ?_
        refine Go.iload (i := 4) 3 (by decide +kernel) rfl ?_
        obtain ⟨v4, P5, hv4, h⟩ := St.bd2 h
        refine Go.cV_i (P1 := P5) (v := v4) (d - 1) 58 [.int (P.1 62 x3.toNatClampNeg), .int x4] sh58 hE w_Pa_workOut (e_Pa_workOut hG hE (d - 1) (by omega) (P.1 62 x3.toNatClampNeg) x4 P ⟨_, hv4, rfl, rfl, rfl⟩) lk959 rfl (by omega) (Nat.le_of_ble_eq_true rfl) (by decide +kernel) _ rfl ?_
        exact t_j_Pa_explore_79 hG hE d hd k24 hk24 (fun z0 z1 z2 Pz => l_Pa_explore_42 k24 n z0 z1 z2 Pz) (fun z0 z1 z2 Pz q => ih z0 z1 z2 Pz q) x2 x3 x4 v4 P5 h
      · rw [if_neg c2] at h
        refine Go.iconst (n := -1) (-1 : Int32) (by decide +kernel) rfl ?_
        refine Go.goto (off := 15) 79 (by decide +kernel) (by decide) ?_
        exact t_j_Pa_explore_79 hG hE d hd k24 hk24 (fun z0 z1 z2 Pz => l_Pa_explore_42 k24 n z0 z1 z2 Pz) (fun z0 z1 z2 Pz q => ih z0 z1 z2 Pz q) x2 x3 x4 (-1 : Int32) P h
theorem t_l_Pa_explore_24 {G : GX} (hG : GOK G) {E : EV} (hE : E0 E) (d : Nat) (hd : 5 ≤ d) {Q : QT} : ∀ (n : Nat) (x2 : Int32) (x3 : Int32) (P : PM), St E rP (l_Pa_explore_24 n x2 x3 P) Q → Go G c_Pa_explore "YawnRoute$Passings" 6 none false d nOb nOb Q 24 [(0, .ref (ad E 58)), (2, .int x2), (3, .int x3)] [] P E := by
  intro n
  induction n with
  | zero =>
    intro x2 x3 P h
    rw [l_Pa_explore_24] at h
    exact St.none_ h
  | succ n ih =>
    intro x2 x3 P h
    rw [l_Pa_explore_24] at h
    refine Go.iload_n (k := 3) (i := 3) 2 (by decide +kernel) rfl rfl ?_
    refine Go.sipush (n := 280) (280 : Int32) (by decide +kernel) (by decide) ?_
    refine Go.icmp_ge (off := 85) 113 (by decide +kernel) (by decide) (fun c1 => ?_) (fun c1 => ?_)
    · rw [if_pos c1] at h
      exact Go.vret rfl hE.2 (by decide +kernel) (St.fP h)
    · rw [if_neg c1] at h
      refine Go.iload_n (k := 3) (i := 3) 2 (by decide +kernel) rfl rfl ?_
      refine Go.aload_n (k := 0) (i := 0) 0 (by decide +kernel) rfl rfl ?_
      refine Go.get 58 6 (.int (P.1 58 6)) (by decide) (by decide) sh58 (ltO hE sh58) rfl lk298 (by decide +kernel) ?_
      refine Go.icmp_ge (off := 77) 113 (by decide +kernel) (by decide) (fun c2 => ?_) (fun c2 => ?_)
      · rw [if_pos c2] at h
        exact Go.vret rfl hE.2 (by decide +kernel) (St.fP h)
      · rw [if_neg c2] at h
        refine Go.iconst (n := 0) (0 : Int32) (by decide +kernel) rfl ?_
        refine Go.istore (i := 4) [(4, .int (0 : Int32)), (0, .ref (ad E 58)), (2, .int x2), (3, .int x3)] (by decide +kernel) (by decide) rfl ?_
        refine Go.sub [1, 2, 3, 0] [(0, .ref (ad E 58)), (2, .int x2), (3, .int x3), (4, .int (0 : Int32))] rfl ?_
        exact t_l_Pa_explore_42 hG hE d hd (fun z0 z1 Pz => l_Pa_explore_24 n z0 z1 Pz) (fun z0 z1 Pz q => ih z0 z1 Pz q) FU x2 x3 (0 : Int32) P h
theorem t_f_Pa_explore {G : GX} (hG : GOK G) {E : EV} (hE : E0 E) (d : Nat) (hd : 5 ≤ d) {Q : QT} (a1 : Int32) (a2 : Int32) (P : PM) (h : St E rP (f_Pa_explore a1 a2 P) Q) : Go G c_Pa_explore "YawnRoute$Passings" 6 none false d nOb nOb Q 0 [(0, .ref (ad E 58)), (1, .int a1), (2, .int a2)] [] P E := by
  rw [f_Pa_explore] at h
  refine Go.aload_n (k := 0) (i := 0) 0 (by decide +kernel) rfl rfl ?_
  obtain ⟨P1, hP1, h⟩ := St.bind h
  refine Go.cV_v (P1 := P1) (d - 1) 58 [] sh58 hE w_Pa_refresh (e_Pa_refresh hG hE (d - 1) (by omega) P ⟨_, hP1, rfl, rfl, rfl⟩) lk931 rfl (by omega) (Nat.le_of_ble_eq_true rfl) (by decide +kernel) _ rfl ?_
  refine Go.aload_n (k := 0) (i := 0) 0 (by decide +kernel) rfl rfl ?_
  refine Go.get 58 4 (.ref (ad E 61)) (by decide) (by decide) sh58 (ltO hE sh58) (vlR hE rfl rfl) lk293 (by decide +kernel) ?_
  refine Go.lconst (n := 0) (0 : Int64) (by decide +kernel) rfl ?_
  obtain ⟨P2, hP2, h⟩ := St.bind h
  refine Go.cS_v (P1 := P2) (d - 1) [.ref (ad E 61), .long (0 : Int64)] hE w_Ja_fill_AJJ (e_Ja_fill_AJJ hG hE (d - 1) (by omega) 61 7 sh61 (0 : Int64) P1 ⟨_, hP2, rfl, rfl, rfl⟩) lk942 rfl (by omega) (Nat.le_of_ble_eq_true rfl) (by decide +kernel) _ rfl ?_
  refine Go.aload_n (k := 0) (i := 0) 0 (by decide +kernel) rfl rfl ?_
  refine Go.iconst (n := 0) (0 : Int32) (by decide +kernel) rfl ?_
  refine Go.put 58 6 (by decide) (by decide) sh58 (ltO hE sh58) (Or.inl rfl) rfl rfl rfl lk298 (by decide +kernel) ?_
  refine Go.aload_n (k := 0) (i := 0) 0 (by decide +kernel) rfl rfl ?_
  refine Go.iload_n (k := 1) (i := 1) 1 (by decide +kernel) rfl rfl ?_
  obtain ⟨P3, hP3, h⟩ := St.bind h
  refine Go.cV_v (P1 := P3) (d - 1) 58 [.int a1] sh58 hE w_Pa_find (e_Pa_find hG hE (d - 1) (by omega) a1 (u1 P2 58 6 (0 : Int32)) ⟨_, hP3, rfl, rfl, rfl⟩) lk945 rfl (by omega) (Nat.le_of_ble_eq_true rfl) (by decide +kernel) _ rfl ?_
  refine Go.iconst (n := 0) (0 : Int32) (by decide +kernel) rfl ?_
  refine Go.istore_n (k := 3) (i := 3) [(3, .int (0 : Int32)), (0, .ref (ad E 58)), (1, .int a1), (2, .int a2)] (by decide +kernel) rfl (by decide) rfl ?_
  refine Go.sub [1, 3, 0] [(0, .ref (ad E 58)), (2, .int a2), (3, .int (0 : Int32))] rfl ?_
  exact t_l_Pa_explore_24 hG hE d hd FU a2 (0 : Int32) P3 h
theorem e_Pa_explore {G : GX} (hG : GOK G) {E : EV} (hE : E0 E) (d : Nat) (hd : 5 ≤ d) (a1 : Int32) (a2 : Int32) (P : PM) {Q : QT} (h : St E rP (f_Pa_explore a1 a2 P) Q) : Con G y_Pa_explore cw_Pa_explore d nOb nOb [.ref (ad E 58), .int a1, .int a2] P E Q :=
  Con.of hG (by decide +kernel) rfl (fun h => by cases h) hE.2 (Nat.le_of_ble_eq_true rfl) (t_f_Pa_explore hG hE d hd a1 a2 P h)
abbrev c_Pa_after : ByteArray := prog_6_method_7_code
abbrev y_Pa_after : MethodName := ⟨"YawnRoute$Passings", "after", "(III)I"⟩
abbrev cw_Pa_after : Cond := .code y_Pa_after c_Pa_after 4 (some .int)
theorem w_Pa_after : VW 4 y_Pa_after c_Pa_after 4 (some .int) 3 := ⟨by decide, lk981, lk982, lk9, lk983, ⟨by decide, by decide, by decide +kernel⟩, by decide⟩
noncomputable def f_Pa_after (a1 : Int32) (a2 : Int32) (a3 : Int32) (P : PM) : Option Int32 := if (f_Yr_isPlace a1 P) = (0 : Int32) then (some (-1 : Int32)) else (if (f_Ne_isStation 14 a2 P) = (0 : Int32) then (some (-1 : Int32)) else (if (f_Yr_has a3 a2 P) = (0 : Int32) then (ck (inb ((a2 * (280 : Int32)) + a1) 1960) (some (mx (-1 : Int32) (P.1 59 ((a2 * (280 : Int32)) + a1).toNatClampNeg)))) else (some (-1 : Int32))))
theorem t_f_Pa_after {G : GX} (hG : GOK G) {E : EV} (hE : E0 E) (d : Nat) (hd : 2 ≤ d) {P : PM} {Q : QT} (a1 : Int32) (a2 : Int32) (a3 : Int32) (h : St E (rI P) (f_Pa_after a1 a2 a3 P) Q) : Go G c_Pa_after "YawnRoute$Passings" 4 (some .int) false d nOb nOb Q 0 [(0, .ref (ad E 58)), (1, .int a1), (2, .int a2), (3, .int a3)] [] P E := by
  rw [f_Pa_after] at h
  refine Go.iload_n (k := 1) (i := 1) 1 (by decide +kernel) rfl rfl ?_
  refine Go.cSN_i (P1 := P) (v := (f_Yr_isPlace a1 P)) (d - 1) [.int a1] hE w_Yr_isPlace (e_Yr_isPlace hG hE (d - 1) (by omega) a1 P ⟨rfl, rfl, rfl⟩) nw12 rfl (by omega) (Nat.le_of_ble_eq_true rfl) (by decide +kernel) _ rfl ?_
  refine Go.if_eq (off := 22) 26 (by decide +kernel) (by decide) (fun c1 => ?_) (fun c1 => ?_)
  · rw [if_pos c1] at h
    refine Go.iconst (n := -1) (-1 : Int32) (by decide +kernel) rfl ?_
    exact Go.iret rfl rfl hE.2 (by decide +kernel) (St.fI h)
  · rw [if_neg c1] at h
    refine Go.aload_n (k := 0) (i := 0) 0 (by decide +kernel) rfl rfl ?_
    refine Go.get 58 0 (.ref (ad E 14)) (by decide) (by decide) sh58 (ltO hE sh58) (vlR hE rfl rfl) lk289 (by decide +kernel) ?_
    refine Go.iload_n (k := 2) (i := 2) 2 (by decide +kernel) rfl rfl ?_
    refine Go.cV_i (P1 := P) (v := (f_Ne_isStation 14 a2 P)) (d - 1) 14 [.int a2] sh14 hE w_Ne_isStation (e_Ne_isStation hG hE (d - 1) (by omega) 14 sh14 a2 P ⟨rfl, rfl, rfl⟩) lk984 rfl (by omega) (Nat.le_of_ble_eq_true rfl) (by decide +kernel) _ rfl ?_
    refine Go.if_eq (off := 11) 26 (by decide +kernel) (by decide) (fun c2 => ?_) (fun c2 => ?_)
    · rw [if_pos c2] at h
      refine Go.iconst (n := -1) (-1 : Int32) (by decide +kernel) rfl ?_
      exact Go.iret rfl rfl hE.2 (by decide +kernel) (St.fI h)
    · rw [if_neg c2] at h
      refine Go.iload_n (k := 3) (i := 3) 3 (by decide +kernel) rfl rfl ?_
      refine Go.iload_n (k := 2) (i := 2) 2 (by decide +kernel) rfl rfl ?_
      refine Go.cSN_i (P1 := P) (v := (f_Yr_has a3 a2 P)) (d - 1) [.int a3, .int a2] hE w_Yr_has (e_Yr_has hG hE (d - 1) (by omega) a3 a2 P ⟨rfl, rfl, rfl⟩) nw15 rfl (by omega) (Nat.le_of_ble_eq_true rfl) (by decide +kernel) _ rfl ?_
      refine Go.if_eq (off := 5) 28 (by decide +kernel) (by decide) (fun c3 => ?_) (fun c3 => ?_)
      · rw [if_pos c3] at h
        refine Go.iconst (n := -1) (-1 : Int32) (by decide +kernel) rfl ?_
        refine Go.aload_n (k := 0) (i := 0) 0 (by decide +kernel) rfl rfl ?_
        refine Go.get 58 2 (.ref (ad E 59)) (by decide) (by decide) sh58 (ltO hE sh58) (vlR hE rfl rfl) lk291 (by decide +kernel) ?_
        refine Go.iload_n (k := 2) (i := 2) 2 (by decide +kernel) rfl rfl ?_
        refine Go.sipush (n := 280) (280 : Int32) (by decide +kernel) (by decide) ?_
        refine Go.imul (by decide +kernel) ?_
        refine Go.iload_n (k := 1) (i := 1) 1 (by decide +kernel) rfl rfl ?_
        refine Go.iadd (by decide +kernel) ?_
        obtain ⟨b4, h⟩ := St.ck h
        refine Go.baload 59 1960 sh59 (ltA hE sh59 (by decide)) (inb_in b4) (by decide +kernel) ?_
        refine Go.mmax lk985 (Nat.le_of_eq hE.2) (by omega) (Nat.le_of_ble_eq_true rfl) (by decide +kernel) ?_
        exact Go.iret rfl rfl hE.2 (by decide +kernel) (St.fI h)
      · rw [if_neg c3] at h
        refine Go.iconst (n := -1) (-1 : Int32) (by decide +kernel) rfl ?_
        exact Go.iret rfl rfl hE.2 (by decide +kernel) (St.fI h)
theorem e_Pa_after {G : GX} (hG : GOK G) {E : EV} (hE : E0 E) (d : Nat) (hd : 2 ≤ d) (a1 : Int32) (a2 : Int32) (a3 : Int32) (P : PM) {Q : QT} (h : St E (rI P) (f_Pa_after a1 a2 a3 P) Q) : Con G y_Pa_after cw_Pa_after d nOb nOb [.ref (ad E 58), .int a1, .int a2, .int a3] P E Q :=
  Con.of hG (by decide +kernel) rfl (fun h => by cases h) hE.2 (Nat.le_of_ble_eq_true rfl) (t_f_Pa_after hG hE d hd a1 a2 a3 h)
abbrev c_Pa_next : ByteArray := prog_6_method_8_code
abbrev y_Pa_next : MethodName := ⟨"YawnRoute$Passings", "next", "(III)I"⟩
abbrev cw_Pa_next : Cond := .code y_Pa_next c_Pa_next 5 (some .int)
theorem w_Pa_next : VW 4 y_Pa_next c_Pa_next 5 (some .int) 3 := ⟨by decide, lk977, lk978, lk9, lk979, ⟨by decide, by decide, by decide +kernel⟩, by decide⟩
noncomputable def f_Pa_next (a1 : Int32) (a2 : Int32) (a3 : Int32) (P : PM) : Option Int32 := (f_Pa_after a1 a2 a3 P).bind (fun v1 => if v1 ≤ (0 : Int32) then (some (-1 : Int32)) else (some (f_Yr_placeOf a2 v1 P)))
theorem t_f_Pa_next {G : GX} (hG : GOK G) {E : EV} (hE : E0 E) (d : Nat) (hd : 3 ≤ d) {P : PM} {Q : QT} (a1 : Int32) (a2 : Int32) (a3 : Int32) (h : St E (rI P) (f_Pa_next a1 a2 a3 P) Q) : Go G c_Pa_next "YawnRoute$Passings" 5 (some .int) false d nOb nOb Q 0 [(0, .ref (ad E 58)), (1, .int a1), (2, .int a2), (3, .int a3)] [] P E := by
  rw [f_Pa_next] at h
  refine Go.aload_n (k := 0) (i := 0) 0 (by decide +kernel) rfl rfl ?_
  refine Go.iload_n (k := 1) (i := 1) 1 (by decide +kernel) rfl rfl ?_
  refine Go.iload_n (k := 2) (i := 2) 2 (by decide +kernel) rfl rfl ?_
  refine Go.iload_n (k := 3) (i := 3) 3 (by decide +kernel) rfl rfl ?_
  obtain ⟨v1, hv1, h⟩ := St.bind h
  refine Go.cV_i (P1 := P) (v := v1) (d - 1) 58 [.int a1, .int a2, .int a3] sh58 hE w_Pa_after (e_Pa_after hG hE (d - 1) (by omega) a1 a2 a3 P ⟨_, hv1, rfl, rfl, rfl⟩) lk980 rfl (by omega) (Nat.le_of_ble_eq_true rfl) (by decide +kernel) _ rfl ?_
  refine Go.istore (i := 4) [(4, .int v1), (0, .ref (ad E 58)), (1, .int a1), (2, .int a2), (3, .int a3)] (by decide +kernel) (by decide) rfl ?_
  refine Go.iload (i := 4) 0 (by decide +kernel) rfl ?_
  refine Go.if_le (off := 12) 23 (by decide +kernel) (by decide) (fun c2 => ?_) (fun c2 => ?_)
  · rw [if_pos c2] at h
    refine Go.iconst (n := -1) (-1 : Int32) (by decide +kernel) rfl ?_
    exact Go.iret rfl rfl hE.2 (by decide +kernel) (St.fI h)
  · rw [if_neg c2] at h
    refine Go.iload_n (k := 2) (i := 2) 3 (by decide +kernel) rfl rfl ?_
    refine Go.iload (i := 4) 0 (by decide +kernel) rfl ?_
    refine Go.cSN_i (P1 := P) (v := (f_Yr_placeOf a2 v1 P)) (d - 1) [.int a2, .int v1] hE w_Yr_placeOf (e_Yr_placeOf hG hE (d - 1) (by omega) a2 v1 P ⟨rfl, rfl, rfl⟩) nw16 rfl (by omega) (Nat.le_of_ble_eq_true rfl) (by decide +kernel) _ rfl ?_
    refine Go.goto (off := 4) 24 (by decide +kernel) (by decide) ?_
    exact Go.iret rfl rfl hE.2 (by decide +kernel) (St.fI h)
theorem e_Pa_next {G : GX} (hG : GOK G) {E : EV} (hE : E0 E) (d : Nat) (hd : 3 ≤ d) (a1 : Int32) (a2 : Int32) (a3 : Int32) (P : PM) {Q : QT} (h : St E (rI P) (f_Pa_next a1 a2 a3 P) Q) : Con G y_Pa_next cw_Pa_next d nOb nOb [.ref (ad E 58), .int a1, .int a2, .int a3] P E Q :=
  Con.of hG (by decide +kernel) rfl (fun h => by cases h) hE.2 (Nat.le_of_ble_eq_true rfl) (t_f_Pa_next hG hE d hd a1 a2 a3 h)
abbrev c_Ro_costOver : ByteArray := prog_7_method_8_code
abbrev y_Ro_costOver : MethodName := ⟨"YawnRoute$Routes", "costOver", "(II)I"⟩
abbrev cw_Ro_costOver : Cond := .code y_Ro_costOver c_Ro_costOver 5 (some .int)
theorem w_Ro_costOver : VW 5 y_Ro_costOver c_Ro_costOver 5 (some .int) 2 := ⟨by decide, lk974, lp30_, lk11, lk975, ⟨by decide, by decide, by decide +kernel⟩, by decide⟩
noncomputable def j_Ro_costOver_53 (x3 : Int32) (s0 : Int32) (P : PM) : Option Int32 := some ((x3 + (s0 * (1000 : Int32))) + (1 : Int32))
noncomputable def f_Ro_costOver (a1 : Int32) (a2 : Int32) (P : PM) : Option Int32 := (f_Pa_next a1 a2 (P.1 21 3) P).bind (fun v1 => (f_Ro_costOf v1 P).bind (fun v2 => if v2 < (1000000000 : Int32) then (if (P.1 63 4) = (0 : Int32) then (j_Ro_costOver_53 v2 (0 : Int32) P) else ((f_Ne_hoursOf 14 (f_Yr_stationIn a1 P) a2 P).bind (fun v5 => j_Ro_costOver_53 v2 v5 P))) else (some (1000000000 : Int32))))
theorem t_j_Ro_costOver_53 {G : GX} (hG : GOK G) {E : EV} (hE : E0 E) (d : Nat) (hd : 4 ≤ d) {P : PM} {Q : QT} (x3 : Int32) (s0 : Int32) (h : St E (rI P) (j_Ro_costOver_53 x3 s0 P) Q) : Go G c_Ro_costOver "YawnRoute$Routes" 5 (some .int) false d nOb nOb Q 53 [(3, .int x3)] [.int s0] P E := by
  rw [j_Ro_costOver_53] at h
  refine Go.istore (i := 4) [(4, .int s0), (3, .int x3)] (by decide +kernel) (by decide) rfl ?_
  refine Go.iload_n (k := 3) (i := 3) 1 (by decide +kernel) rfl rfl ?_
  refine Go.iload (i := 4) 0 (by decide +kernel) rfl ?_
  refine Go.sipush (n := 1000) (1000 : Int32) (by decide +kernel) (by decide) ?_
  refine Go.imul (by decide +kernel) ?_
  refine Go.iadd (by decide +kernel) ?_
  refine Go.iconst (n := 1) (1 : Int32) (by decide +kernel) rfl ?_
  refine Go.iadd (by decide +kernel) ?_
  exact Go.iret rfl rfl hE.2 (by decide +kernel) (St.fI h)
theorem t_f_Ro_costOver {G : GX} (hG : GOK G) {E : EV} (hE : E0 E) (d : Nat) (hd : 4 ≤ d) {P : PM} {Q : QT} (a1 : Int32) (a2 : Int32) (h : St E (rI P) (f_Ro_costOver a1 a2 P) Q) : Go G c_Ro_costOver "YawnRoute$Routes" 5 (some .int) false d nOb nOb Q 0 [(0, .ref (ad E 63)), (1, .int a1), (2, .int a2)] [] P E := by
  rw [f_Ro_costOver] at h
  refine Go.aload_n (k := 0) (i := 0) 0 (by decide +kernel) rfl rfl ?_
  refine Go.aload_n (k := 0) (i := 0) 0 (by decide +kernel) rfl rfl ?_
  refine Go.get 63 2 (.ref (ad E 58)) (by decide) (by decide) sh63 (ltO hE sh63) (vlR hE rfl rfl) lk323 (by decide +kernel) ?_
  refine Go.iload_n (k := 1) (i := 1) 1 (by decide +kernel) rfl rfl ?_
  refine Go.iload_n (k := 2) (i := 2) 2 (by decide +kernel) rfl rfl ?_
  refine Go.aload_n (k := 0) (i := 0) 0 (by decide +kernel) rfl rfl ?_
  refine Go.get 63 1 (.ref (ad E 21)) (by decide) (by decide) sh63 (ltO hE sh63) (vlR hE rfl rfl) lk322 (by decide +kernel) ?_
  refine Go.get 21 3 (.int (P.1 21 3)) (by decide) (by decide) sh21 (ltO hE sh21) rfl lk166 (by decide +kernel) ?_
  obtain ⟨v1, hv1, h⟩ := St.bind h
  refine Go.cV_i (P1 := P) (v := v1) (d - 1) 58 [.int a1, .int a2, .int (P.1 21 3)] sh58 hE w_Pa_next (e_Pa_next hG hE (d - 1) (by omega) a1 a2 (P.1 21 3) P ⟨_, hv1, rfl, rfl, rfl⟩) lk976 rfl (by omega) (Nat.le_of_ble_eq_true rfl) (by decide +kernel) _ rfl ?_
  obtain ⟨v2, hv2, h⟩ := St.bind h
  refine Go.cV_i (P1 := P) (v := v2) (d - 1) 63 [.int v1] sh63 hE w_Ro_costOf (e_Ro_costOf hG hE (d - 1) (by omega) v1 P ⟨_, hv2, rfl, rfl, rfl⟩) lk986 rfl (by omega) (Nat.le_of_ble_eq_true rfl) (by decide +kernel) _ rfl ?_
  refine Go.istore_n (k := 3) (i := 3) [(3, .int v2), (0, .ref (ad E 63)), (1, .int a1), (2, .int a2)] (by decide +kernel) rfl (by decide) rfl ?_
  refine Go.iload_n (k := 3) (i := 3) 0 (by decide +kernel) rfl rfl ?_
  refine Go.ldc (1000000000 : Int32) lk967 (by decide +kernel) ?_
  refine Go.icmp_lt (off := 6) 30 (by decide +kernel) (by decide) (fun c3 => ?_) (fun c3 => ?_)
  · rw [if_pos c3] at h
    refine Go.aload_n (k := 0) (i := 0) 1 (by decide +kernel) rfl rfl ?_
    refine Go.get 63 4 (.int (P.1 63 4)) (by decide) (by decide) sh63 (ltO hE sh63) rfl lk325 (by decide +kernel) ?_
    refine Go.if_eq (off := 18) 52 (by decide +kernel) (by decide) (fun c4 => ?_) (fun c4 => ?_)
    · rw [if_pos c4] at h
      refine Go.iconst (n := 0) (0 : Int32) (by decide +kernel) rfl ?_
      refine Go.sub [0] [(3, .int v2)] rfl ?_
      exact t_j_Ro_costOver_53 hG hE d hd v2 (0 : Int32) h
    · rw [if_neg c4] at h
      refine Go.aload_n (k := 0) (i := 0) 1 (by decide +kernel) rfl rfl ?_
      refine Go.get 63 0 (.ref (ad E 14)) (by decide) (by decide) sh63 (ltO hE sh63) (vlR hE rfl rfl) lk321 (by decide +kernel) ?_
      refine Go.iload_n (k := 1) (i := 1) 2 (by decide +kernel) rfl rfl ?_
      refine Go.cSN_i (P1 := P) (v := (f_Yr_stationIn a1 P)) (d - 1) [.int a1] hE w_Yr_stationIn (e_Yr_stationIn hG hE (d - 1) (by omega) a1 P ⟨rfl, rfl, rfl⟩) nw17 rfl (by omega) (Nat.le_of_ble_eq_true rfl) (by decide +kernel) _ rfl ?_
      refine Go.iload_n (k := 2) (i := 2) 3 (by decide +kernel) rfl rfl ?_
      obtain ⟨v5, hv5, h⟩ := St.bind h
      refine Go.cV_i (P1 := P) (v := v5) (d - 1) 14 [.int (f_Yr_stationIn a1 P), .int a2] sh14 hE w_Ne_hoursOf (e_Ne_hoursOf hG hE (d - 1) (by omega) 14 sh14 (f_Yr_stationIn a1 P) a2 P ⟨_, hv5, rfl, rfl, rfl⟩) lk991 rfl (by omega) (Nat.le_of_ble_eq_true rfl) (by decide +kernel) _ rfl ?_
      refine Go.goto (off := 4) 53 (by decide +kernel) (by decide) ?_
      refine Go.sub [0] [(3, .int v2)] rfl ?_
      exact t_j_Ro_costOver_53 hG hE d hd v2 v5 h
  · rw [if_neg c3] at h
    refine Go.ldc (1000000000 : Int32) lk967 (by decide +kernel) ?_
    exact Go.iret rfl rfl hE.2 (by decide +kernel) (St.fI h)
theorem e_Ro_costOver {G : GX} (hG : GOK G) {E : EV} (hE : E0 E) (d : Nat) (hd : 4 ≤ d) (a1 : Int32) (a2 : Int32) (P : PM) {Q : QT} (h : St E (rI P) (f_Ro_costOver a1 a2 P) Q) : Con G y_Ro_costOver cw_Ro_costOver d nOb nOb [.ref (ad E 63), .int a1, .int a2] P E Q :=
  Con.of hG (by decide +kernel) rfl (fun h => by cases h) hE.2 (Nat.le_of_ble_eq_true rfl) (t_f_Ro_costOver hG hE d hd a1 a2 h)
