/-! methods as functions, by program: Ro_passingsNeeded Yr_fewest Yr_fewBy Pa_isReached Pa_greatestAt Yr_biggest Pa_stationsReached Yr_reach Ro_comesTo Ro_without Yr_needed Ro_canSleep -/
abbrev c_Ro_passingsNeeded : ByteArray := prog_7_method_4_code
abbrev y_Ro_passingsNeeded : MethodName := ⟨"YawnRoute$Routes", "passingsNeeded", "()I"⟩
abbrev cw_Ro_passingsNeeded : Cond := .code y_Ro_passingsNeeded c_Ro_passingsNeeded 1 (some .int)
theorem w_Ro_passingsNeeded : VW 5 y_Ro_passingsNeeded c_Ro_passingsNeeded 1 (some .int) 0 := ⟨by decide, lk1017, lk1018, lk11, lk1019, ⟨by decide, by decide, by decide +kernel⟩, by decide⟩
noncomputable def f_Ro_passingsNeeded (P : PM) : Option Int32 := (f_Ro_costOf (f_Sa_place 21 P) P).bind (fun v1 => some (v1 - v1 / (1000 : Int32) * (1000 : Int32)))
theorem t_f_Ro_passingsNeeded {G : GX} (hG : GOK G) {E : EV} (hE : E0 E) (d : Nat) (hd : 3 ≤ d) {P : PM} {Q : QT} (h : St E (rI P) (f_Ro_passingsNeeded P) Q) : Go G c_Ro_passingsNeeded "YawnRoute$Routes" 1 (some .int) false d nOb nOb Q 0 [(0, .ref (ad E 63))] [] P E := by
  rw [f_Ro_passingsNeeded] at h
  refine Go.aload_n (k := 0) (i := 0) 0 (by decide +kernel) rfl rfl ?_
  refine Go.aload_n (k := 0) (i := 0) 0 (by decide +kernel) rfl rfl ?_
  refine Go.get 63 1 (.ref (ad E 21)) (by decide) (by decide) sh63 (ltO hE sh63) (vlR hE rfl rfl) lk322 (by decide +kernel) ?_
  refine Go.cV_i (P1 := P) (v := (f_Sa_place 21 P)) (d - 1) 21 [] sh21 hE w_Sa_place (e_Sa_place hG hE (d - 1) (by omega) 21 sh21 P ⟨rfl, rfl, rfl⟩) lk920 rfl (by omega) (Nat.le_of_ble_eq_true rfl) (by decide +kernel) _ rfl ?_
  obtain ⟨v1, hv1, h⟩ := St.bind h
  refine Go.cV_i (P1 := P) (v := v1) (d - 1) 63 [.int (f_Sa_place 21 P)] sh63 hE w_Ro_costOf (e_Ro_costOf hG hE (d - 1) (by omega) (f_Sa_place 21 P) P ⟨_, hv1, rfl, rfl, rfl⟩) lk986 rfl (by omega) (Nat.le_of_ble_eq_true rfl) (by decide +kernel) _ rfl ?_
  refine Go.sipush (n := 1000) (1000 : Int32) (by decide +kernel) (by decide) ?_
  refine Go.irem (by decide +kernel) (by decide) ?_
  exact Go.iret rfl rfl hE.2 (by decide +kernel) (St.fI h)
theorem e_Ro_passingsNeeded {G : GX} (hG : GOK G) {E : EV} (hE : E0 E) (d : Nat) (hd : 3 ≤ d) (P : PM) {Q : QT} (h : St E (rI P) (f_Ro_passingsNeeded P) Q) : Con G y_Ro_passingsNeeded cw_Ro_passingsNeeded d nOb nOb [.ref (ad E 63)] P E Q :=
  Con.of hG (by decide +kernel) rfl (fun h => by cases h) hE.2 (Nat.le_of_ble_eq_true rfl) (t_f_Ro_passingsNeeded hG hE d hd h)
abbrev c_Yr_fewest : ByteArray := prog_1_method_18_code
abbrev y_Yr_fewest : MethodName := ⟨"YawnRoute", "fewest", "(II)I"⟩
abbrev cw_Yr_fewest : Cond := .code y_Yr_fewest c_Yr_fewest 4 (some .int)
theorem w_Yr_fewest : VW 11 y_Yr_fewest c_Yr_fewest 4 (some .int) 2 := ⟨by decide, lk1013, lk1014, lk1, lk1015, ⟨by decide, by decide, by decide +kernel⟩, by decide⟩
noncomputable def f_Yr_fewest (a1 : Int32) (a2 : Int32) (P : PM) : Option (Int32 × PM) := lb (f_Yr_refusal (f_Ne_isStation 14 a1 P) (f_Yr_isSize a2 P) P) (fun y1 => if y1 = (0 : Int32) then (bd2 (f_Ro_seek a1 a2 (0 : Int32) P) (fun v3 P4 => if v3 = (0 : Int32) then (some ((-1 : Int32), P4)) else ((f_Ro_passingsNeeded P4).bind (fun v6 => some (v6, P4))))) else (some (y1, P)))
theorem t_f_Yr_fewest {G : GX} (hG : GOK G) {E : EV} (hE : E0 E) (d : Nat) (hd : 7 ≤ d) {Q : QT} (a1 : Int32) (a2 : Int32) (P : PM) (h : St E rIP (f_Yr_fewest a1 a2 P) Q) : Go G c_Yr_fewest "YawnRoute" 4 (some .int) false d nOb nOb Q 0 [(0, .ref (ad E 0)), (1, .int a1), (2, .int a2)] [] P E := by
  rw [f_Yr_fewest] at h
  refine Go.aload_n (k := 0) (i := 0) 0 (by decide +kernel) rfl rfl ?_
  refine Go.aload_n (k := 0) (i := 0) 0 (by decide +kernel) rfl rfl ?_
  refine Go.get 0 2 (.ref (ad E 14)) (by decide) (by decide) sh0 (ltO hE sh0) (vlR hE rfl rfl) lk392 (by decide +kernel) ?_
  refine Go.iload_n (k := 1) (i := 1) 1 (by decide +kernel) rfl rfl ?_
  refine Go.cV_i (P1 := P) (v := (f_Ne_isStation 14 a1 P)) (d - 1) 14 [.int a1] sh14 hE w_Ne_isStation (e_Ne_isStation hG hE (d - 1) (by omega) 14 sh14 a1 P ⟨rfl, rfl, rfl⟩) lk726 rfl (by omega) (Nat.le_of_ble_eq_true rfl) (by decide +kernel) _ rfl ?_
  refine Go.iload_n (k := 2) (i := 2) 2 (by decide +kernel) rfl rfl ?_
  refine Go.cS_i (P1 := P) (v := (f_Yr_isSize a2 P)) (d - 1) [.int a2] hE w_Yr_isSize (e_Yr_isSize hG hE (d - 1) (by omega) a2 P ⟨rfl, rfl, rfl⟩) lk911 rfl (by omega) (Nat.le_of_ble_eq_true rfl) (by decide +kernel) _ rfl ?_
  refine Go.cV_i (P1 := P) (v := (f_Yr_refusal (f_Ne_isStation 14 a1 P) (f_Yr_isSize a2 P) P)) (d - 1) 0 [.int (f_Ne_isStation 14 a1 P), .int (f_Yr_isSize a2 P)] sh0 hE w_Yr_refusal (e_Yr_refusal hG hE (d - 1) (by omega) (f_Ne_isStation 14 a1 P) (f_Yr_isSize a2 P) P ⟨rfl, rfl, rfl⟩) lk912 rfl (by omega) (Nat.le_of_ble_eq_true rfl) (by decide +kernel) _ rfl ?_
  obtain ⟨y1, hy1, h⟩ := St.lb h
  refine Go.eqi y1 hy1 ?_
  refine Go.istore_n (k := 3) (i := 3) [(3, .int y1), (0, .ref (ad E 0)), (1, .int a1), (2, .int a2)] (by decide +kernel) rfl (by decide) rfl ?_
  refine Go.iload_n (k := 3) (i := 3) 0 (by decide +kernel) rfl rfl ?_
  refine Go.if_eq (off := 5) 23 (by decide +kernel) (by decide) (fun c2 => ?_) (fun c2 => ?_)
  · rw [if_pos c2] at h
    refine Go.aload_n (k := 0) (i := 0) 1 (by decide +kernel) rfl rfl ?_
    refine Go.get 0 7 (.ref (ad E 63)) (by decide) (by decide) sh0 (ltO hE sh0) (vlR hE rfl rfl) lk397 (by decide +kernel) ?_
    refine Go.iload_n (k := 1) (i := 1) 2 (by decide +kernel) rfl rfl ?_
    refine Go.iload_n (k := 2) (i := 2) 3 (by decide +kernel) rfl rfl ?_
    refine Go.iconst (n := 0) (0 : Int32) (by decide +kernel) rfl ?_
    obtain ⟨v3, P4, hv3, h⟩ := St.bd2 h
    refine Go.cV_i (P1 := P4) (v := v3) (d - 1) 63 [.int a1, .int a2, .int (0 : Int32)] sh63 hE w_Ro_seek (e_Ro_seek hG hE (d - 1) (by omega) a1 a2 (0 : Int32) P ⟨_, hv3, rfl, rfl, rfl⟩) lk916 rfl (by omega) (Nat.le_of_ble_eq_true rfl) (by decide +kernel) _ rfl ?_
    refine Go.if_eq (off := 13) 46 (by decide +kernel) (by decide) (fun c5 => ?_) (fun c5 => ?_)
    · rw [if_pos c5] at h
      refine Go.iconst (n := -1) (-1 : Int32) (by decide +kernel) rfl ?_
      exact Go.iret rfl rfl hE.2 (by decide +kernel) (St.fIP h)
    · rw [if_neg c5] at h
      refine Go.aload_n (k := 0) (i := 0) 1 (by decide +kernel) rfl rfl ?_
      refine Go.get 0 7 (.ref (ad E 63)) (by decide) (by decide) sh0 (ltO hE sh0) (vlR hE rfl rfl) lk397 (by decide +kernel) ?_
      obtain ⟨v6, hv6, h⟩ := St.bind h
      refine Go.cV_i (P1 := P4) (v := v6) (d - 1) 63 [] sh63 hE w_Ro_passingsNeeded (e_Ro_passingsNeeded hG hE (d - 1) (by omega) P4 ⟨_, hv6, rfl, rfl, rfl⟩) lk1016 rfl (by omega) (Nat.le_of_ble_eq_true rfl) (by decide +kernel) _ rfl ?_
      refine Go.goto (off := 4) 47 (by decide +kernel) (by decide) ?_
      exact Go.iret rfl rfl hE.2 (by decide +kernel) (St.fIP h)
  · rw [if_neg c2] at h
    refine Go.iload_n (k := 3) (i := 3) 0 (by decide +kernel) rfl rfl ?_
    exact Go.iret rfl rfl hE.2 (by decide +kernel) (St.fIP h)
theorem e_Yr_fewest {G : GX} (hG : GOK G) {E : EV} (hE : E0 E) (d : Nat) (hd : 7 ≤ d) (a1 : Int32) (a2 : Int32) (P : PM) {Q : QT} (h : St E rIP (f_Yr_fewest a1 a2 P) Q) : Con G y_Yr_fewest cw_Yr_fewest d nOb nOb [.ref (ad E 0), .int a1, .int a2] P E Q :=
  Con.of hG (by decide +kernel) rfl (fun h => by cases h) hE.2 (Nat.le_of_ble_eq_true rfl) (t_f_Yr_fewest hG hE d hd a1 a2 P h)
abbrev c_Yr_fewBy : ByteArray := prog_1_method_19_code
abbrev y_Yr_fewBy : MethodName := ⟨"YawnRoute", "fewBy", "(III)I"⟩
abbrev cw_Yr_fewBy : Cond := .code y_Yr_fewBy c_Yr_fewBy 4 (some .int)
theorem w_Yr_fewBy : VW 11 y_Yr_fewBy c_Yr_fewBy 4 (some .int) 3 := ⟨by decide, lk1021, lk1022, lk1, lk1023, ⟨by decide, by decide, by decide +kernel⟩, by decide⟩
noncomputable def f_Yr_fewBy (a1 : Int32) (a2 : Int32) (a3 : Int32) (P : PM) : Option (Int32 × PM) := bd2 (f_Yr_routeBy a1 a2 a3 (0 : Int32) P) (fun v1 P2 => some (v1, P2))
theorem t_f_Yr_fewBy {G : GX} (hG : GOK G) {E : EV} (hE : E0 E) (d : Nat) (hd : 8 ≤ d) {Q : QT} (a1 : Int32) (a2 : Int32) (a3 : Int32) (P : PM) (h : St E rIP (f_Yr_fewBy a1 a2 a3 P) Q) : Go G c_Yr_fewBy "YawnRoute" 4 (some .int) false d nOb nOb Q 0 [(0, .ref (ad E 0)), (1, .int a1), (2, .int a2), (3, .int a3)] [] P E := by
  rw [f_Yr_fewBy] at h
  refine Go.aload_n (k := 0) (i := 0) 0 (by decide +kernel) rfl rfl ?_
  refine Go.iload_n (k := 1) (i := 1) 1 (by decide +kernel) rfl rfl ?_
  refine Go.iload_n (k := 2) (i := 2) 2 (by decide +kernel) rfl rfl ?_
  refine Go.iload_n (k := 3) (i := 3) 3 (by decide +kernel) rfl rfl ?_
  refine Go.iconst (n := 0) (0 : Int32) (by decide +kernel) rfl ?_
  obtain ⟨v1, P2, hv1, h⟩ := St.bd2 h
  refine Go.cV_i (P1 := P2) (v := v1) (d - 1) 0 [.int a1, .int a2, .int a3, .int (0 : Int32)] sh0 hE w_Yr_routeBy (e_Yr_routeBy hG hE (d - 1) (by omega) a1 a2 a3 (0 : Int32) P ⟨_, hv1, rfl, rfl, rfl⟩) lk1000 rfl (by omega) (Nat.le_of_ble_eq_true rfl) (by decide +kernel) _ rfl ?_
  exact Go.iret rfl rfl hE.2 (by decide +kernel) (St.fIP h)
theorem e_Yr_fewBy {G : GX} (hG : GOK G) {E : EV} (hE : E0 E) (d : Nat) (hd : 8 ≤ d) (a1 : Int32) (a2 : Int32) (a3 : Int32) (P : PM) {Q : QT} (h : St E rIP (f_Yr_fewBy a1 a2 a3 P) Q) : Con G y_Yr_fewBy cw_Yr_fewBy d nOb nOb [.ref (ad E 0), .int a1, .int a2, .int a3] P E Q :=
  Con.of hG (by decide +kernel) rfl (fun h => by cases h) hE.2 (Nat.le_of_ble_eq_true rfl) (t_f_Yr_fewBy hG hE d hd a1 a2 a3 P h)
abbrev c_Pa_isReached : ByteArray := prog_6_method_9_code
abbrev y_Pa_isReached : MethodName := ⟨"YawnRoute$Passings", "isReached", "(I)Z"⟩
abbrev cw_Pa_isReached : Cond := .code y_Pa_isReached c_Pa_isReached 2 (some .boolean)
theorem w_Pa_isReached : VW 4 y_Pa_isReached c_Pa_isReached 2 (some .boolean) 1 := ⟨by decide, lk1035, lk1036, lk9, lk1037, ⟨by decide, by decide, by decide +kernel⟩, by decide⟩
noncomputable def j_Pa_isReached_25 (P : PM) : Option Int32 := some (0 : Int32)
noncomputable def f_Pa_isReached (a1 : Int32) (P : PM) : Option Int32 := if a1 < (0 : Int32) then (j_Pa_isReached_25 P) else (if (7 : Int32) ≤ a1 then (j_Pa_isReached_25 P) else (ck (inb a1 7) (if (lg_cmp (P.2 61 a1.toNatClampNeg) (0 : Int64)) = (0 : Int32) then (j_Pa_isReached_25 P) else (some (1 : Int32)))))
theorem t_j_Pa_isReached_25 {G : GX} (hG : GOK G) {E : EV} (hE : E0 E) (d : Nat) (hd : 1 ≤ d) {P : PM} {Q : QT} (h : St E (rI P) (j_Pa_isReached_25 P) Q) : Go G c_Pa_isReached "YawnRoute$Passings" 2 (some .boolean) false d nOb nOb Q 25 [] [] P E := by
  rw [j_Pa_isReached_25] at h
  refine Go.iconst (n := 0) (0 : Int32) (by decide +kernel) rfl ?_
  exact Go.iret rfl rfl hE.2 (by decide +kernel) (St.fI h)
theorem t_f_Pa_isReached {G : GX} (hG : GOK G) {E : EV} (hE : E0 E) (d : Nat) (hd : 1 ≤ d) {P : PM} {Q : QT} (a1 : Int32) (h : St E (rI P) (f_Pa_isReached a1 P) Q) : Go G c_Pa_isReached "YawnRoute$Passings" 2 (some .boolean) false d nOb nOb Q 0 [(0, .ref (ad E 58)), (1, .int a1)] [] P E := by
  rw [f_Pa_isReached] at h
  refine Go.iload_n (k := 1) (i := 1) 1 (by decide +kernel) rfl rfl ?_
  refine Go.if_lt (off := 24) 25 (by decide +kernel) (by decide) (fun c1 => ?_) (fun c1 => ?_)
  · rw [if_pos c1] at h
    refine Go.sub [] [] rfl ?_
    exact t_j_Pa_isReached_25 hG hE d hd h
  · rw [if_neg c1] at h
    refine Go.iload_n (k := 1) (i := 1) 1 (by decide +kernel) rfl rfl ?_
    refine Go.bipush (n := 7) (7 : Int32) (by decide +kernel) (by decide) ?_
    refine Go.icmp_ge (off := 18) 25 (by decide +kernel) (by decide) (fun c2 => ?_) (fun c2 => ?_)
    · rw [if_pos c2] at h
      refine Go.sub [] [] rfl ?_
      exact t_j_Pa_isReached_25 hG hE d hd h
    · rw [if_neg c2] at h
      refine Go.aload_n (k := 0) (i := 0) 0 (by decide +kernel) rfl rfl ?_
      refine Go.get 58 4 (.ref (ad E 61)) (by decide) (by decide) sh58 (ltO hE sh58) (vlR hE rfl rfl) lk293 (by decide +kernel) ?_
      refine Go.iload_n (k := 1) (i := 1) 1 (by decide +kernel) rfl rfl ?_
      obtain ⟨b3, h⟩ := St.ck h
      refine Go.laload 61 7 sh61 (ltA hE sh61 (by decide)) (inb_in b3) (by decide +kernel) ?_
      refine Go.lconst (n := 0) (0 : Int64) (by decide +kernel) rfl ?_
      refine Go.lcmp (by decide +kernel) ?_
      refine Go.if_eq (off := 7) 25 (by decide +kernel) (by decide) (fun c4 => ?_) (fun c4 => ?_)
      · rw [if_pos c4] at h
        refine Go.sub [] [] rfl ?_
        exact t_j_Pa_isReached_25 hG hE d hd h
      · rw [if_neg c4] at h
        refine Go.iconst (n := 1) (1 : Int32) (by decide +kernel) rfl ?_
        refine Go.goto (off := 4) 26 (by decide +kernel) (by decide) ?_
        exact Go.iret rfl rfl hE.2 (by decide +kernel) (St.fI h)
theorem e_Pa_isReached {G : GX} (hG : GOK G) {E : EV} (hE : E0 E) (d : Nat) (hd : 1 ≤ d) (a1 : Int32) (P : PM) {Q : QT} (h : St E (rI P) (f_Pa_isReached a1 P) Q) : Con G y_Pa_isReached cw_Pa_isReached d nOb nOb [.ref (ad E 58), .int a1] P E Q :=
  Con.of hG (by decide +kernel) rfl (fun h => by cases h) hE.2 (Nat.le_of_ble_eq_true rfl) (t_f_Pa_isReached hG hE d hd a1 h)
abbrev c_Pa_greatestAt : ByteArray := prog_6_method_11_code
abbrev y_Pa_greatestAt : MethodName := ⟨"YawnRoute$Passings", "greatestAt", "(I)I"⟩
abbrev cw_Pa_greatestAt : Cond := .code y_Pa_greatestAt c_Pa_greatestAt 3 (some .int)
theorem w_Pa_greatestAt : VW 4 y_Pa_greatestAt c_Pa_greatestAt 3 (some .int) 1 := ⟨by decide, lk1031, lk1032, lk9, lk1033, ⟨by decide, by decide, by decide +kernel⟩, by decide⟩
noncomputable def j_Pa_greatestAt_32 (k3 : Int32 → Int32 → Option Int32) (x1 : Int32) (x2 : Int32) (P : PM) : Option Int32 := k3 x1 (x2 + (-1 : Int32))
noncomputable def l_Pa_greatestAt_3 : Nat → Int32 → Int32 → PM → Option Int32
  | 0, _, _, _ => none
  | n + 1, x1, x2, P => if x2 ≤ (0 : Int32) then (some (-1 : Int32)) else ((f_Pa_isReached x1 P).bind (fun v2 => if v2 = (0 : Int32) then (j_Pa_greatestAt_32 (fun z0 z1 => l_Pa_greatestAt_3 n z0 z1 P) x1 x2 P) else (ck (inb x1 7) (if (lg_cmp ((((P.2 61 x1.toNatClampNeg).toUInt64 >>> (x2.toInt64.toUInt64 &&& Int64.toUInt64 63)).toInt64) &&& (1 : Int64)) (0 : Int64)) = (0 : Int32) then (j_Pa_greatestAt_32 (fun z0 z1 => l_Pa_greatestAt_3 n z0 z1 P) x1 x2 P) else (some x2)))))
noncomputable def f_Pa_greatestAt (a1 : Int32) (P : PM) : Option Int32 := l_Pa_greatestAt_3 FU a1 (40 : Int32) P
theorem t_j_Pa_greatestAt_32 {G : GX} (hG : GOK G) {E : EV} (hE : E0 E) (d : Nat) (hd : 2 ≤ d) {P : PM} {Q : QT} (k3 : Int32 → Int32 → Option Int32) (hk3 : ∀ (x1 : Int32) (x2 : Int32), St E (rI P) (k3 x1 x2) Q → Go G c_Pa_greatestAt "YawnRoute$Passings" 3 (some .int) false d nOb nOb Q 3 [(0, .ref (ad E 58)), (1, .int x1), (2, .int x2)] [] P E) (x1 : Int32) (x2 : Int32) (h : St E (rI P) (j_Pa_greatestAt_32 k3 x1 x2 P) Q) : Go G c_Pa_greatestAt "YawnRoute$Passings" 3 (some .int) false d nOb nOb Q 32 [(0, .ref (ad E 58)), (1, .int x1), (2, .int x2)] [] P E := by
  rw [j_Pa_greatestAt_32] at h
  refine Go.iinc (i := 2) (n := -1) 2 (x2 + (-1 : Int32)) [(2, .int (x2 + (-1 : Int32))), (0, .ref (ad E 58)), (1, .int x1)] (by decide +kernel) rfl rfl (by decide) rfl ?_
  refine Go.goto (off := -32) 3 (by decide +kernel) (by decide) ?_
  refine Go.sub [1, 2, 0] [(0, .ref (ad E 58)), (1, .int x1), (2, .int (x2 + (-1 : Int32)))] rfl ?_
  exact hk3 x1 (x2 + (-1 : Int32)) h
theorem t_l_Pa_greatestAt_3 {G : GX} (hG : GOK G) {E : EV} (hE : E0 E) (d : Nat) (hd : 2 ≤ d) {P : PM} {Q : QT} : ∀ (n : Nat) (x1 : Int32) (x2 : Int32), St E (rI P) (l_Pa_greatestAt_3 n x1 x2 P) Q → Go G c_Pa_greatestAt "YawnRoute$Passings" 3 (some .int) false d nOb nOb Q 3 [(0, .ref (ad E 58)), (1, .int x1), (2, .int x2)] [] P E := by
  intro n
  induction n with
  | zero =>
    intro x1 x2 h
    rw [l_Pa_greatestAt_3] at h
    exact St.none_ h
  | succ n ih =>
    intro x1 x2 h
    rw [l_Pa_greatestAt_3] at h
    refine Go.iload_n (k := 2) (i := 2) 2 (by decide +kernel) rfl rfl ?_
    refine Go.if_le (off := 34) 38 (by decide +kernel) (by decide) (fun c1 => ?_) (fun c1 => ?_)
    · rw [if_pos c1] at h
      refine Go.iconst (n := -1) (-1 : Int32) (by decide +kernel) rfl ?_
      exact Go.iret rfl rfl hE.2 (by decide +kernel) (St.fI h)
    · rw [if_neg c1] at h
      refine Go.aload_n (k := 0) (i := 0) 0 (by decide +kernel) rfl rfl ?_
      refine Go.iload_n (k := 1) (i := 1) 1 (by decide +kernel) rfl rfl ?_
      obtain ⟨v2, hv2, h⟩ := St.bind h
      refine Go.cV_i (P1 := P) (v := v2) (d - 1) 58 [.int x1] sh58 hE w_Pa_isReached (e_Pa_isReached hG hE (d - 1) (by omega) x1 P ⟨_, hv2, rfl, rfl, rfl⟩) lk1034 rfl (by omega) (Nat.le_of_ble_eq_true rfl) (by decide +kernel) _ rfl ?_
      refine Go.if_eq (off := 20) 32 (by decide +kernel) (by decide) (fun c3 => ?_) (fun c3 => ?_)
      · rw [if_pos c3] at h
        exact t_j_Pa_greatestAt_32 hG hE d hd (fun z0 z1 => l_Pa_greatestAt_3 n z0 z1 P) (fun z0 z1 q => ih z0 z1 q) x1 x2 h
      · rw [if_neg c3] at h
        refine Go.aload_n (k := 0) (i := 0) 0 (by decide +kernel) rfl rfl ?_
        refine Go.get 58 4 (.ref (ad E 61)) (by decide) (by decide) sh58 (ltO hE sh58) (vlR hE rfl rfl) lk293 (by decide +kernel) ?_
        refine Go.iload_n (k := 1) (i := 1) 1 (by decide +kernel) rfl rfl ?_
        obtain ⟨b4, h⟩ := St.ck h
        refine Go.laload 61 7 sh61 (ltA hE sh61 (by decide)) (inb_in b4) (by decide +kernel) ?_
        refine Go.iload_n (k := 2) (i := 2) 2 (by decide +kernel) rfl rfl ?_
        refine Go.lushr (by decide +kernel) ?_
        refine Go.lconst (n := 1) (1 : Int64) (by decide +kernel) rfl ?_
        refine Go.land (by decide +kernel) ?_
        refine Go.lconst (n := 0) (0 : Int64) (by decide +kernel) rfl ?_
        refine Go.lcmp (by decide +kernel) ?_
        refine Go.if_eq (off := 5) 32 (by decide +kernel) (by decide) (fun c5 => ?_) (fun c5 => ?_)
        · rw [if_pos c5] at h
          exact t_j_Pa_greatestAt_32 hG hE d hd (fun z0 z1 => l_Pa_greatestAt_3 n z0 z1 P) (fun z0 z1 q => ih z0 z1 q) x1 x2 h
        · rw [if_neg c5] at h
          refine Go.iload_n (k := 2) (i := 2) 2 (by decide +kernel) rfl rfl ?_
          exact Go.iret rfl rfl hE.2 (by decide +kernel) (St.fI h)
theorem t_f_Pa_greatestAt {G : GX} (hG : GOK G) {E : EV} (hE : E0 E) (d : Nat) (hd : 2 ≤ d) {P : PM} {Q : QT} (a1 : Int32) (h : St E (rI P) (f_Pa_greatestAt a1 P) Q) : Go G c_Pa_greatestAt "YawnRoute$Passings" 3 (some .int) false d nOb nOb Q 0 [(0, .ref (ad E 58)), (1, .int a1)] [] P E := by
  rw [f_Pa_greatestAt] at h
  refine Go.bipush (n := 40) (40 : Int32) (by decide +kernel) (by decide) ?_
  refine Go.istore_n (k := 2) (i := 2) [(2, .int (40 : Int32)), (0, .ref (ad E 58)), (1, .int a1)] (by decide +kernel) rfl (by decide) rfl ?_
  refine Go.sub [1, 2, 0] [(0, .ref (ad E 58)), (1, .int a1), (2, .int (40 : Int32))] rfl ?_
  exact t_l_Pa_greatestAt_3 hG hE d hd FU a1 (40 : Int32) h
theorem e_Pa_greatestAt {G : GX} (hG : GOK G) {E : EV} (hE : E0 E) (d : Nat) (hd : 2 ≤ d) (a1 : Int32) (P : PM) {Q : QT} (h : St E (rI P) (f_Pa_greatestAt a1 P) Q) : Con G y_Pa_greatestAt cw_Pa_greatestAt d nOb nOb [.ref (ad E 58), .int a1] P E Q :=
  Con.of hG (by decide +kernel) rfl (fun h => by cases h) hE.2 (Nat.le_of_ble_eq_true rfl) (t_f_Pa_greatestAt hG hE d hd a1 h)
abbrev c_Yr_biggest : ByteArray := prog_1_method_20_code
abbrev y_Yr_biggest : MethodName := ⟨"YawnRoute", "biggest", "(I)I"⟩
abbrev cw_Yr_biggest : Cond := .code y_Yr_biggest c_Yr_biggest 3 (some .int)
theorem w_Yr_biggest : VW 11 y_Yr_biggest c_Yr_biggest 3 (some .int) 1 := ⟨by decide, lk1025, lk1026, lk1, lk1027, ⟨by decide, by decide, by decide +kernel⟩, by decide⟩
noncomputable def f_Yr_biggest (a1 : Int32) (P : PM) : Option (Int32 × PM) := lb (f_Yr_refusal (f_Ne_isStation 14 a1 P) (1 : Int32) P) (fun y1 => if y1 = (0 : Int32) then ((f_Pa_explore (f_Sa_place 21 P) (P.1 21 3) P).bind (fun P3 => (f_Pa_greatestAt a1 P3).bind (fun v4 => some (v4, P3)))) else (some (y1, P)))
theorem t_f_Yr_biggest {G : GX} (hG : GOK G) {E : EV} (hE : E0 E) (d : Nat) (hd : 6 ≤ d) {Q : QT} (a1 : Int32) (P : PM) (h : St E rIP (f_Yr_biggest a1 P) Q) : Go G c_Yr_biggest "YawnRoute" 3 (some .int) false d nOb nOb Q 0 [(0, .ref (ad E 0)), (1, .int a1)] [] P E := by
  rw [f_Yr_biggest] at h
  refine Go.aload_n (k := 0) (i := 0) 0 (by decide +kernel) rfl rfl ?_
  refine Go.aload_n (k := 0) (i := 0) 0 (by decide +kernel) rfl rfl ?_
  refine Go.get 0 2 (.ref (ad E 14)) (by decide) (by decide) sh0 (ltO hE sh0) (vlR hE rfl rfl) lk392 (by decide +kernel) ?_
  refine Go.iload_n (k := 1) (i := 1) 1 (by decide +kernel) rfl rfl ?_
  refine Go.cV_i (P1 := P) (v := (f_Ne_isStation 14 a1 P)) (d - 1) 14 [.int a1] sh14 hE w_Ne_isStation (e_Ne_isStation hG hE (d - 1) (by omega) 14 sh14 a1 P ⟨rfl, rfl, rfl⟩) lk726 rfl (by omega) (Nat.le_of_ble_eq_true rfl) (by decide +kernel) _ rfl ?_
  refine Go.iconst (n := 1) (1 : Int32) (by decide +kernel) rfl ?_
  refine Go.cV_i (P1 := P) (v := (f_Yr_refusal (f_Ne_isStation 14 a1 P) (1 : Int32) P)) (d - 1) 0 [.int (f_Ne_isStation 14 a1 P), .int (1 : Int32)] sh0 hE w_Yr_refusal (e_Yr_refusal hG hE (d - 1) (by omega) (f_Ne_isStation 14 a1 P) (1 : Int32) P ⟨rfl, rfl, rfl⟩) lk912 rfl (by omega) (Nat.le_of_ble_eq_true rfl) (by decide +kernel) _ rfl ?_
  obtain ⟨y1, hy1, h⟩ := St.lb h
  refine Go.eqi y1 hy1 ?_
  refine Go.istore_n (k := 2) (i := 2) [(2, .int y1), (0, .ref (ad E 0)), (1, .int a1)] (by decide +kernel) rfl (by decide) rfl ?_
  refine Go.iload_n (k := 2) (i := 2) 0 (by decide +kernel) rfl rfl ?_
  refine Go.if_eq (off := 5) 20 (by decide +kernel) (by decide) (fun c2 => ?_) (fun c2 => ?_)
  · rw [if_pos c2] at h
    refine Go.aload_n (k := 0) (i := 0) 1 (by decide +kernel) rfl rfl ?_
    refine Go.get 0 6 (.ref (ad E 58)) (by decide) (by decide) sh0 (ltO hE sh0) (vlR hE rfl rfl) lk396 (by decide +kernel) ?_
    refine Go.aload_n (k := 0) (i := 0) 1 (by decide +kernel) rfl rfl ?_
    refine Go.get 0 3 (.ref (ad E 21)) (by decide) (by decide) sh0 (ltO hE sh0) (vlR hE rfl rfl) lk393 (by decide +kernel) ?_
    refine Go.cV_i (P1 := P) (v := (f_Sa_place 21 P)) (d - 1) 21 [] sh21 hE w_Sa_place (e_Sa_place hG hE (d - 1) (by omega) 21 sh21 P ⟨rfl, rfl, rfl⟩) lk1028 rfl (by omega) (Nat.le_of_ble_eq_true rfl) (by decide +kernel) _ rfl ?_
    refine Go.aload_n (k := 0) (i := 0) 1 (by decide +kernel) rfl rfl ?_
    refine Go.get 0 3 (.ref (ad E 21)) (by decide) (by decide) sh0 (ltO hE sh0) (vlR hE rfl rfl) lk393 (by decide +kernel) ?_
    refine Go.get 21 3 (.int (P.1 21 3)) (by decide) (by decide) sh21 (ltO hE sh21) rfl lk169 (by decide +kernel) ?_
    obtain ⟨P3, hP3, h⟩ := St.bind h
    refine Go.cV_v (P1 := P3) (d - 1) 58 [.int (f_Sa_place 21 P), .int (P.1 21 3)] sh58 hE w_Pa_explore (e_Pa_explore hG hE (d - 1) (by omega) (f_Sa_place 21 P) (P.1 21 3) P ⟨_, hP3, rfl, rfl, rfl⟩) lk1029 rfl (by omega) (Nat.le_of_ble_eq_true rfl) (by decide +kernel) _ rfl ?_
    refine Go.aload_n (k := 0) (i := 0) 1 (by decide +kernel) rfl rfl ?_
    refine Go.get 0 6 (.ref (ad E 58)) (by decide) (by decide) sh0 (ltO hE sh0) (vlR hE rfl rfl) lk396 (by decide +kernel) ?_
    refine Go.iload_n (k := 1) (i := 1) 2 (by decide +kernel) rfl rfl ?_
    obtain ⟨v4, hv4, h⟩ := St.bind h
    refine Go.cV_i (P1 := P3) (v := v4) (d - 1) 58 [.int a1] sh58 hE w_Pa_greatestAt (e_Pa_greatestAt hG hE (d - 1) (by omega) a1 P3 ⟨_, hv4, rfl, rfl, rfl⟩) lk1030 rfl (by omega) (Nat.le_of_ble_eq_true rfl) (by decide +kernel) _ rfl ?_
    exact Go.iret rfl rfl hE.2 (by decide +kernel) (St.fIP h)
  · rw [if_neg c2] at h
    refine Go.iload_n (k := 2) (i := 2) 0 (by decide +kernel) rfl rfl ?_
    exact Go.iret rfl rfl hE.2 (by decide +kernel) (St.fIP h)
theorem e_Yr_biggest {G : GX} (hG : GOK G) {E : EV} (hE : E0 E) (d : Nat) (hd : 6 ≤ d) (a1 : Int32) (P : PM) {Q : QT} (h : St E rIP (f_Yr_biggest a1 P) Q) : Con G y_Yr_biggest cw_Yr_biggest d nOb nOb [.ref (ad E 0), .int a1] P E Q :=
  Con.of hG (by decide +kernel) rfl (fun h => by cases h) hE.2 (Nat.le_of_ble_eq_true rfl) (t_f_Yr_biggest hG hE d hd a1 P h)
abbrev c_Pa_stationsReached : ByteArray := prog_6_method_10_code
abbrev y_Pa_stationsReached : MethodName := ⟨"YawnRoute$Passings", "stationsReached", "()I"⟩
abbrev cw_Pa_stationsReached : Cond := .code y_Pa_stationsReached c_Pa_stationsReached 3 (some .int)
theorem w_Pa_stationsReached : VW 4 y_Pa_stationsReached c_Pa_stationsReached 3 (some .int) 0 := ⟨by decide, lk1043, lk1044, lk9, lk1045, ⟨by decide, by decide, by decide +kernel⟩, by decide⟩
noncomputable def j_Pa_stationsReached_26 (k4 : Int32 → Int32 → Option Int32) (x2 : Int32) (s0 : Int32) (s1 : Int32) (P : PM) : Option Int32 := lb (s0 ||| s1) (fun y1 => k4 y1 (x2 + (1 : Int32)))
noncomputable def l_Pa_stationsReached_4 : Nat → Int32 → Int32 → PM → Option Int32
  | 0, _, _, _ => none
  | n + 1, x1, x2, P => if (7 : Int32) ≤ x2 then (some x1) else ((f_Pa_isReached x2 P).bind (fun v2 => if v2 = (0 : Int32) then (j_Pa_stationsReached_26 (fun z0 z1 => l_Pa_stationsReached_4 n z0 z1 P) x2 x1 (0 : Int32) P) else (j_Pa_stationsReached_26 (fun z0 z1 => l_Pa_stationsReached_4 n z0 z1 P) x2 x1 ((1 : Int32) <<< (x2 &&& 31)) P)))
noncomputable def f_Pa_stationsReached (P : PM) : Option Int32 := l_Pa_stationsReached_4 FU (0 : Int32) (0 : Int32) P
theorem t_j_Pa_stationsReached_26 {G : GX} (hG : GOK G) {E : EV} (hE : E0 E) (d : Nat) (hd : 2 ≤ d) {P : PM} {Q : QT} (k4 : Int32 → Int32 → Option Int32) (hk4 : ∀ (x1 : Int32) (x2 : Int32), St E (rI P) (k4 x1 x2) Q → Go G c_Pa_stationsReached "YawnRoute$Passings" 3 (some .int) false d nOb nOb Q 4 [(0, .ref (ad E 58)), (1, .int x1), (2, .int x2)] [] P E) (x2 : Int32) (s0 : Int32) (s1 : Int32) (h : St E (rI P) (j_Pa_stationsReached_26 k4 x2 s0 s1 P) Q) : Go G c_Pa_stationsReached "YawnRoute$Passings" 3 (some .int) false d nOb nOb Q 26 [(0, .ref (ad E 58)), (2, .int x2)] [.int s1, .int s0] P E := by
  rw [j_Pa_stationsReached_26] at h
  refine Go.ior (by decide +kernel) ?_
  obtain ⟨y1, hy1, h⟩ := St.lb h
  refine Go.eqi y1 hy1 ?_
  refine Go.istore_n (k := 1) (i := 1) [(1, .int y1), (0, .ref (ad E 58)), (2, .int x2)] (by decide +kernel) rfl (by decide) rfl ?_
  refine Go.iinc (i := 2) (n := 1) 2 (x2 + (1 : Int32)) [(2, .int (x2 + (1 : Int32))), (1, .int y1), (0, .ref (ad E 58))] (by decide +kernel) rfl rfl (by decide) rfl ?_
  refine Go.goto (off := -27) 4 (by decide +kernel) (by decide) ?_
  refine Go.sub [2, 1, 0] [(0, .ref (ad E 58)), (1, .int y1), (2, .int (x2 + (1 : Int32)))] rfl ?_
  exact hk4 y1 (x2 + (1 : Int32)) h
theorem t_l_Pa_stationsReached_4 {G : GX} (hG : GOK G) {E : EV} (hE : E0 E) (d : Nat) (hd : 2 ≤ d) {P : PM} {Q : QT} : ∀ (n : Nat) (x1 : Int32) (x2 : Int32), St E (rI P) (l_Pa_stationsReached_4 n x1 x2 P) Q → Go G c_Pa_stationsReached "YawnRoute$Passings" 3 (some .int) false d nOb nOb Q 4 [(0, .ref (ad E 58)), (1, .int x1), (2, .int x2)] [] P E := by
  intro n
  induction n with
  | zero =>
    intro x1 x2 h
    rw [l_Pa_stationsReached_4] at h
    exact St.none_ h
  | succ n ih =>
    intro x1 x2 h
    rw [l_Pa_stationsReached_4] at h
    refine Go.iload_n (k := 2) (i := 2) 2 (by decide +kernel) rfl rfl ?_
    refine Go.bipush (n := 7) (7 : Int32) (by decide +kernel) (by decide) ?_
    refine Go.icmp_ge (off := 27) 34 (by decide +kernel) (by decide) (fun c1 => ?_) (fun c1 => ?_)
    · rw [if_pos c1] at h
      refine Go.iload_n (k := 1) (i := 1) 1 (by decide +kernel) rfl rfl ?_
      exact Go.iret rfl rfl hE.2 (by decide +kernel) (St.fI h)
    · rw [if_neg c1] at h
      refine Go.iload_n (k := 1) (i := 1) 1 (by decide +kernel) rfl rfl ?_
      refine Go.aload_n (k := 0) (i := 0) 0 (by decide +kernel) rfl rfl ?_
      refine Go.iload_n (k := 2) (i := 2) 2 (by decide +kernel) rfl rfl ?_
      obtain ⟨v2, hv2, h⟩ := St.bind h
      refine Go.cV_i (P1 := P) (v := v2) (d - 1) 58 [.int x2] sh58 hE w_Pa_isReached (e_Pa_isReached hG hE (d - 1) (by omega) x2 P ⟨_, hv2, rfl, rfl, rfl⟩) lk1034 rfl (by omega) (Nat.le_of_ble_eq_true rfl) (by decide +kernel) _ rfl ?_
      refine Go.if_eq (off := 9) 25 (by decide +kernel) (by decide) (fun c3 => ?_) (fun c3 => ?_)
      · rw [if_pos c3] at h
        refine Go.iconst (n := 0) (0 : Int32) (by decide +kernel) rfl ?_
        refine Go.sub [0, 2] [(0, .ref (ad E 58)), (2, .int x2)] rfl ?_
        exact t_j_Pa_stationsReached_26 hG hE d hd (fun z0 z1 => l_Pa_stationsReached_4 n z0 z1 P) (fun z0 z1 q => ih z0 z1 q) x2 x1 (0 : Int32) h
      · rw [if_neg c3] at h
        refine Go.iconst (n := 1) (1 : Int32) (by decide +kernel) rfl ?_
        refine Go.iload_n (k := 2) (i := 2) 2 (by decide +kernel) rfl rfl ?_
        refine Go.ishl (by decide +kernel) ?_
        refine Go.goto (off := 4) 26 (by decide +kernel) (by decide) ?_
        refine Go.sub [0, 2] [(0, .ref (ad E 58)), (2, .int x2)] rfl ?_
        exact t_j_Pa_stationsReached_26 hG hE d hd (fun z0 z1 => l_Pa_stationsReached_4 n z0 z1 P) (fun z0 z1 q => ih z0 z1 q) x2 x1 ((1 : Int32) <<< (x2 &&& 31)) h
theorem t_f_Pa_stationsReached {G : GX} (hG : GOK G) {E : EV} (hE : E0 E) (d : Nat) (hd : 2 ≤ d) {P : PM} {Q : QT} (h : St E (rI P) (f_Pa_stationsReached P) Q) : Go G c_Pa_stationsReached "YawnRoute$Passings" 3 (some .int) false d nOb nOb Q 0 [(0, .ref (ad E 58))] [] P E := by
  rw [f_Pa_stationsReached] at h
  refine Go.iconst (n := 0) (0 : Int32) (by decide +kernel) rfl ?_
  refine Go.istore_n (k := 1) (i := 1) [(1, .int (0 : Int32)), (0, .ref (ad E 58))] (by decide +kernel) rfl (by decide) rfl ?_
  refine Go.iconst (n := 0) (0 : Int32) (by decide +kernel) rfl ?_
  refine Go.istore_n (k := 2) (i := 2) [(2, .int (0 : Int32)), (1, .int (0 : Int32)), (0, .ref (ad E 58))] (by decide +kernel) rfl (by decide) rfl ?_
  refine Go.sub [2, 1, 0] [(0, .ref (ad E 58)), (1, .int (0 : Int32)), (2, .int (0 : Int32))] rfl ?_
  exact t_l_Pa_stationsReached_4 hG hE d hd FU (0 : Int32) (0 : Int32) h
theorem e_Pa_stationsReached {G : GX} (hG : GOK G) {E : EV} (hE : E0 E) (d : Nat) (hd : 2 ≤ d) (P : PM) {Q : QT} (h : St E (rI P) (f_Pa_stationsReached P) Q) : Con G y_Pa_stationsReached cw_Pa_stationsReached d nOb nOb [.ref (ad E 58)] P E Q :=
  Con.of hG (by decide +kernel) rfl (fun h => by cases h) hE.2 (Nat.le_of_ble_eq_true rfl) (t_f_Pa_stationsReached hG hE d hd h)
abbrev c_Yr_reach : ByteArray := prog_1_method_21_code
abbrev y_Yr_reach : MethodName := ⟨"YawnRoute", "reach", "()I"⟩
abbrev cw_Yr_reach : Cond := .code y_Yr_reach c_Yr_reach 2 (some .int)
theorem w_Yr_reach : VW 11 y_Yr_reach c_Yr_reach 2 (some .int) 0 := ⟨by decide, lk1039, lk1040, lk1, lk1041, ⟨by decide, by decide, by decide +kernel⟩, by decide⟩
noncomputable def f_Yr_reach (P : PM) : Option (Int32 × PM) := lb (f_Yr_refusal (1 : Int32) (1 : Int32) P) (fun y1 => if y1 = (0 : Int32) then ((f_Pa_explore (f_Sa_place 21 P) (P.1 21 3) P).bind (fun P3 => (f_Pa_stationsReached P3).bind (fun v4 => some (v4, P3)))) else (some (y1, P)))
theorem t_f_Yr_reach {G : GX} (hG : GOK G) {E : EV} (hE : E0 E) (d : Nat) (hd : 6 ≤ d) {Q : QT} (P : PM) (h : St E rIP (f_Yr_reach P) Q) : Go G c_Yr_reach "YawnRoute" 2 (some .int) false d nOb nOb Q 0 [(0, .ref (ad E 0))] [] P E := by
  rw [f_Yr_reach] at h
  refine Go.aload_n (k := 0) (i := 0) 0 (by decide +kernel) rfl rfl ?_
  refine Go.iconst (n := 1) (1 : Int32) (by decide +kernel) rfl ?_
  refine Go.iconst (n := 1) (1 : Int32) (by decide +kernel) rfl ?_
  refine Go.cV_i (P1 := P) (v := (f_Yr_refusal (1 : Int32) (1 : Int32) P)) (d - 1) 0 [.int (1 : Int32), .int (1 : Int32)] sh0 hE w_Yr_refusal (e_Yr_refusal hG hE (d - 1) (by omega) (1 : Int32) (1 : Int32) P ⟨rfl, rfl, rfl⟩) lk912 rfl (by omega) (Nat.le_of_ble_eq_true rfl) (by decide +kernel) _ rfl ?_
  obtain ⟨y1, hy1, h⟩ := St.lb h
  refine Go.eqi y1 hy1 ?_
  refine Go.istore_n (k := 1) (i := 1) [(1, .int y1), (0, .ref (ad E 0))] (by decide +kernel) rfl (by decide) rfl ?_
  refine Go.iload_n (k := 1) (i := 1) 0 (by decide +kernel) rfl rfl ?_
  refine Go.if_eq (off := 5) 13 (by decide +kernel) (by decide) (fun c2 => ?_) (fun c2 => ?_)
  · rw [if_pos c2] at h
    refine Go.aload_n (k := 0) (i := 0) 1 (by decide +kernel) rfl rfl ?_
    refine Go.get 0 6 (.ref (ad E 58)) (by decide) (by decide) sh0 (ltO hE sh0) (vlR hE rfl rfl) lk396 (by decide +kernel) ?_
    refine Go.aload_n (k := 0) (i := 0) 1 (by decide +kernel) rfl rfl ?_
    refine Go.get 0 3 (.ref (ad E 21)) (by decide) (by decide) sh0 (ltO hE sh0) (vlR hE rfl rfl) lk393 (by decide +kernel) ?_
    refine Go.cV_i (P1 := P) (v := (f_Sa_place 21 P)) (d - 1) 21 [] sh21 hE w_Sa_place (e_Sa_place hG hE (d - 1) (by omega) 21 sh21 P ⟨rfl, rfl, rfl⟩) lk1028 rfl (by omega) (Nat.le_of_ble_eq_true rfl) (by decide +kernel) _ rfl ?_
    refine Go.aload_n (k := 0) (i := 0) 1 (by decide +kernel) rfl rfl ?_
    refine Go.get 0 3 (.ref (ad E 21)) (by decide) (by decide) sh0 (ltO hE sh0) (vlR hE rfl rfl) lk393 (by decide +kernel) ?_
    refine Go.get 21 3 (.int (P.1 21 3)) (by decide) (by decide) sh21 (ltO hE sh21) rfl lk169 (by decide +kernel) ?_
    obtain ⟨P3, hP3, h⟩ := St.bind h
    refine Go.cV_v (P1 := P3) (d - 1) 58 [.int (f_Sa_place 21 P), .int (P.1 21 3)] sh58 hE w_Pa_explore (e_Pa_explore hG hE (d - 1) (by omega) (f_Sa_place 21 P) (P.1 21 3) P ⟨_, hP3, rfl, rfl, rfl⟩) lk1029 rfl (by omega) (Nat.le_of_ble_eq_true rfl) (by decide +kernel) _ rfl ?_
    refine Go.aload_n (k := 0) (i := 0) 1 (by decide +kernel) rfl rfl ?_
    refine Go.get 0 6 (.ref (ad E 58)) (by decide) (by decide) sh0 (ltO hE sh0) (vlR hE rfl rfl) lk396 (by decide +kernel) ?_
    obtain ⟨v4, hv4, h⟩ := St.bind h
    refine Go.cV_i (P1 := P3) (v := v4) (d - 1) 58 [] sh58 hE w_Pa_stationsReached (e_Pa_stationsReached hG hE (d - 1) (by omega) P3 ⟨_, hv4, rfl, rfl, rfl⟩) lk1042 rfl (by omega) (Nat.le_of_ble_eq_true rfl) (by decide +kernel) _ rfl ?_
    exact Go.iret rfl rfl hE.2 (by decide +kernel) (St.fIP h)
  · rw [if_neg c2] at h
    refine Go.iload_n (k := 1) (i := 1) 0 (by decide +kernel) rfl rfl ?_
    exact Go.iret rfl rfl hE.2 (by decide +kernel) (St.fIP h)
theorem e_Yr_reach {G : GX} (hG : GOK G) {E : EV} (hE : E0 E) (d : Nat) (hd : 6 ≤ d) (P : PM) {Q : QT} (h : St E rIP (f_Yr_reach P) Q) : Con G y_Yr_reach cw_Yr_reach d nOb nOb [.ref (ad E 0)] P E Q :=
  Con.of hG (by decide +kernel) rfl (fun h => by cases h) hE.2 (Nat.le_of_ble_eq_true rfl) (t_f_Yr_reach hG hE d hd P h)
abbrev c_Ro_comesTo : ByteArray := prog_7_method_13_code
abbrev y_Ro_comesTo : MethodName := ⟨"YawnRoute$Routes", "comesTo", "(II)Z"⟩
abbrev cw_Ro_comesTo : Cond := .code y_Ro_comesTo c_Ro_comesTo 3 (some .boolean)
theorem w_Ro_comesTo : VW 5 y_Ro_comesTo c_Ro_comesTo 3 (some .boolean) 2 := ⟨by decide, lk1056, lp34_, lk11, lk1057, ⟨by decide, by decide, by decide +kernel⟩, by decide⟩
noncomputable def f_Ro_comesTo (a1 : Int32) (a2 : Int32) (P : PM) : Option (Int32 × PM) := (f_Pa_explore (f_Sa_place 21 P) ((P.1 21 3) ||| a2) P).bind (fun P1 => (f_Pa_isReached a1 P1).bind (fun v2 => ck (isz v2) (some (v2, P1))))
theorem t_f_Ro_comesTo {G : GX} (hG : GOK G) {E : EV} (hE : E0 E) (d : Nat) (hd : 6 ≤ d) {Q : QT} (a1 : Int32) (a2 : Int32) (P : PM) (h : St E rIP (f_Ro_comesTo a1 a2 P) Q) : Go G c_Ro_comesTo "YawnRoute$Routes" 3 (some .boolean) false d nOb nOb Q 0 [(0, .ref (ad E 63)), (1, .int a1), (2, .int a2)] [] P E := by
  rw [f_Ro_comesTo] at h
  refine Go.aload_n (k := 0) (i := 0) 0 (by decide +kernel) rfl rfl ?_
  refine Go.get 63 2 (.ref (ad E 58)) (by decide) (by decide) sh63 (ltO hE sh63) (vlR hE rfl rfl) lk323 (by decide +kernel) ?_
  refine Go.aload_n (k := 0) (i := 0) 0 (by decide +kernel) rfl rfl ?_
  refine Go.get 63 1 (.ref (ad E 21)) (by decide) (by decide) sh63 (ltO hE sh63) (vlR hE rfl rfl) lk322 (by decide +kernel) ?_
  refine Go.cV_i (P1 := P) (v := (f_Sa_place 21 P)) (d - 1) 21 [] sh21 hE w_Sa_place (e_Sa_place hG hE (d - 1) (by omega) 21 sh21 P ⟨rfl, rfl, rfl⟩) lk920 rfl (by omega) (Nat.le_of_ble_eq_true rfl) (by decide +kernel) _ rfl ?_
  refine Go.aload_n (k := 0) (i := 0) 0 (by decide +kernel) rfl rfl ?_
  refine Go.get 63 1 (.ref (ad E 21)) (by decide) (by decide) sh63 (ltO hE sh63) (vlR hE rfl rfl) lk322 (by decide +kernel) ?_
  refine Go.get 21 3 (.int (P.1 21 3)) (by decide) (by decide) sh21 (ltO hE sh21) rfl lk166 (by decide +kernel) ?_
  refine Go.iload_n (k := 2) (i := 2) 2 (by decide +kernel) rfl rfl ?_
  refine Go.ior (by decide +kernel) ?_
  obtain ⟨P1, hP1, h⟩ := St.bind h
  refine Go.cV_v (P1 := P1) (d - 1) 58 [.int (f_Sa_place 21 P), .int ((P.1 21 3) ||| a2)] sh58 hE w_Pa_explore (e_Pa_explore hG hE (d - 1) (by omega) (f_Sa_place 21 P) ((P.1 21 3) ||| a2) P ⟨_, hP1, rfl, rfl, rfl⟩) lk927 rfl (by omega) (Nat.le_of_ble_eq_true rfl) (by decide +kernel) _ rfl ?_
  refine Go.aload_n (k := 0) (i := 0) 0 (by decide +kernel) rfl rfl ?_
  refine Go.get 63 2 (.ref (ad E 58)) (by decide) (by decide) sh63 (ltO hE sh63) (vlR hE rfl rfl) lk323 (by decide +kernel) ?_
  refine Go.iload_n (k := 1) (i := 1) 1 (by decide +kernel) rfl rfl ?_
  obtain ⟨v2, hv2, h⟩ := St.bind h
  refine Go.cV_i (P1 := P1) (v := v2) (d - 1) 58 [.int a1] sh58 hE w_Pa_isReached (e_Pa_isReached hG hE (d - 1) (by omega) a1 P1 ⟨_, hv2, rfl, rfl, rfl⟩) lk1058 rfl (by omega) (Nat.le_of_ble_eq_true rfl) (by decide +kernel) _ rfl ?_
  obtain ⟨b3, h⟩ := St.ck h
  exact Go.iret rfl (isz_b b3).1 hE.2 (by decide +kernel) (St.fIP h)
theorem e_Ro_comesTo {G : GX} (hG : GOK G) {E : EV} (hE : E0 E) (d : Nat) (hd : 6 ≤ d) (a1 : Int32) (a2 : Int32) (P : PM) {Q : QT} (h : St E rIP (f_Ro_comesTo a1 a2 P) Q) : Con G y_Ro_comesTo cw_Ro_comesTo d nOb nOb [.ref (ad E 63), .int a1, .int a2] P E Q :=
  Con.of hG (by decide +kernel) rfl (fun h => by cases h) hE.2 (Nat.le_of_ble_eq_true rfl) (t_f_Ro_comesTo hG hE d hd a1 a2 P h)
abbrev c_Ro_without : ByteArray := prog_7_method_10_code
abbrev y_Ro_without : MethodName := ⟨"YawnRoute$Routes", "without", "(I)I"⟩
abbrev cw_Ro_without : Cond := .code y_Ro_without c_Ro_without 5 (some .int)
theorem w_Ro_without : VW 5 y_Ro_without c_Ro_without 5 (some .int) 1 := ⟨by decide, lk1051, lk1052, lk11, lk1053, ⟨by decide, by decide, by decide +kernel⟩, by decide⟩
noncomputable def j_Ro_without_73 (k15 : Int32 → Int32 → Int32 → PM → Option (Int32 × PM)) (x1 : Int32) (x3 : Int32) (s0 : Int32) (s1 : Int32) (P : PM) : Option (Int32 × PM) := lb (s0 ||| s1) (fun y1 => k15 x1 y1 (x3 + (1 : Int32)) P)
noncomputable def j_Ro_without_72 (k15 : Int32 → Int32 → Int32 → PM → Option (Int32 × PM)) (x1 : Int32) (x3 : Int32) (s0 : Int32) (P : PM) : Option (Int32 × PM) := j_Ro_without_73 k15 x1 x3 s0 (0 : Int32) P
noncomputable def j_Ro_without_47 (k15 : Int32 → Int32 → Int32 → PM → Option (Int32 × PM)) (x1 : Int32) (x2 : Int32) (x3 : Int32) (s0 : Int32) (P : PM) : Option (Int32 × PM) := if s0 = (0 : Int32) then (j_Ro_without_72 k15 x1 x3 x2 P) else (bd2 (f_Ro_comesTo x1 ((1 : Int32) <<< (x3 &&& 31)) P) (fun v2 P3 => if v2 = (0 : Int32) then (j_Ro_without_73 k15 x1 x3 x2 ((1 : Int32) <<< (x3 &&& 31)) P3) else (j_Ro_without_72 k15 x1 x3 x2 P3)))
noncomputable def j_Ro_without_46 (k15 : Int32 → Int32 → Int32 → PM → Option (Int32 × PM)) (x1 : Int32) (x2 : Int32) (x3 : Int32) (P : PM) : Option (Int32 × PM) := j_Ro_without_47 k15 x1 x2 x3 (0 : Int32) P
noncomputable def l_Ro_without_15 : Nat → Int32 → Int32 → Int32 → PM → Option (Int32 × PM)
  | 0, _, _, _, _ => none
  | n + 1, x1, x2, x3, P => if (P.1 14 0) ≤ x3 then (some (x2, P)) else (if x3 = x1 then (j_Ro_without_46 (fun z0 z1 z2 Pz => l_Ro_without_15 n z0 z1 z2 Pz) x1 x2 x3 P) else (if x3 = (P.1 21 0) then (j_Ro_without_46 (fun z0 z1 z2 Pz => l_Ro_without_15 n z0 z1 z2 Pz) x1 x2 x3 P) else (j_Ro_without_47 (fun z0 z1 z2 Pz => l_Ro_without_15 n z0 z1 z2 Pz) x1 x2 x3 (1 : Int32) P)))
noncomputable def f_Ro_without (a1 : Int32) (P : PM) : Option (Int32 × PM) := bd2 (f_Ro_comesTo a1 (0 : Int32) P) (fun v1 P2 => if v1 = (0 : Int32) then (some ((0 : Int32), P2)) else (l_Ro_without_15 FU a1 (0 : Int32) (0 : Int32) P2))
theorem t_j_Ro_without_73 {G : GX} (hG : GOK G) {E : EV} (hE : E0 E) (d : Nat) (hd : 7 ≤ d) {Q : QT} (k15 : Int32 → Int32 → Int32 → PM → Option (Int32 × PM)) (hk15 : ∀ (x1 : Int32) (x2 : Int32) (x3 : Int32) (P : PM), St E rIP (k15 x1 x2 x3 P) Q → Go G c_Ro_without "YawnRoute$Routes" 5 (some .int) false d nOb nOb Q 15 [(0, .ref (ad E 63)), (1, .int x1), (2, .int x2), (3, .int x3)] [] P E) (x1 : Int32) (x3 : Int32) (s0 : Int32) (s1 : Int32) (P : PM) (h : St E rIP (j_Ro_without_73 k15 x1 x3 s0 s1 P) Q) : Go G c_Ro_without "YawnRoute$Routes" 5 (some .int) false d nOb nOb Q 73 [(0, .ref (ad E 63)), (1, .int x1), (3, .int x3)] [.int s1, .int s0] P E := by
  rw [j_Ro_without_73] at h
  refine Go.ior (by decide +kernel) ?_
  obtain ⟨y1, hy1, h⟩ := St.lb h
  refine Go.eqi y1 hy1 ?_
  refine Go.istore_n (k := 2) (i := 2) [(2, .int y1), (0, .ref (ad E 63)), (1, .int x1), (3, .int x3)] (by decide +kernel) rfl (by decide) rfl ?_
  refine Go.iinc (i := 3) (n := 1) 3 (x3 + (1 : Int32)) [(3, .int (x3 + (1 : Int32))), (2, .int y1), (0, .ref (ad E 63)), (1, .int x1)] (by decide +kernel) rfl rfl (by decide) rfl ?_
  refine Go.goto (off := -63) 15 (by decide +kernel) (by decide) ?_
  refine Go.sub [2, 3, 1, 0] [(0, .ref (ad E 63)), (1, .int x1), (2, .int y1), (3, .int (x3 + (1 : Int32)))] rfl ?_
  exact hk15 x1 y1 (x3 + (1 : Int32)) P h
theorem t_j_Ro_without_72 {G : GX} (hG : GOK G) {E : EV} (hE : E0 E) (d : Nat) (hd : 7 ≤ d) {Q : QT} (k15 : Int32 → Int32 → Int32 → PM → Option (Int32 × PM)) (hk15 : ∀ (x1 : Int32) (x2 : Int32) (x3 : Int32) (P : PM), St E rIP (k15 x1 x2 x3 P) Q → Go G c_Ro_without "YawnRoute$Routes" 5 (some .int) false d nOb nOb Q 15 [(0, .ref (ad E 63)), (1, .int x1), (2, .int x2), (3, .int x3)] [] P E) (x1 : Int32) (x3 : Int32) (s0 : Int32) (P : PM) (h : St E rIP (j_Ro_without_72 k15 x1 x3 s0 P) Q) : Go G c_Ro_without "YawnRoute$Routes" 5 (some .int) false d nOb nOb Q 72 [(0, .ref (ad E 63)), (1, .int x1), (3, .int x3)] [.int s0] P E := by
  rw [j_Ro_without_72] at h
  refine Go.iconst (n := 0) (0 : Int32) (by decide +kernel) rfl ?_
  exact t_j_Ro_without_73 hG hE d hd k15 hk15 x1 x3 s0 (0 : Int32) P h
theorem t_j_Ro_without_47 {G : GX} (hG : GOK G) {E : EV} (hE : E0 E) (d : Nat) (hd : 7 ≤ d) {Q : QT} (k15 : Int32 → Int32 → Int32 → PM → Option (Int32 × PM)) (hk15 : ∀ (x1 : Int32) (x2 : Int32) (x3 : Int32) (P : PM), St E rIP (k15 x1 x2 x3 P) Q → Go G c_Ro_without "YawnRoute$Routes" 5 (some .int) false d nOb nOb Q 15 [(0, .ref (ad E 63)), (1, .int x1), (2, .int x2), (3, .int x3)] [] P E) (x1 : Int32) (x2 : Int32) (x3 : Int32) (s0 : Int32) (P : PM) (h : St E rIP (j_Ro_without_47 k15 x1 x2 x3 s0 P) Q) : Go G c_Ro_without "YawnRoute$Routes" 5 (some .int) false d nOb nOb Q 47 [(0, .ref (ad E 63)), (1, .int x1), (2, .int x2), (3, .int x3)] [.int s0] P E := by
  rw [j_Ro_without_47] at h
  refine Go.istore (i := 4) [(4, .int s0), (0, .ref (ad E 63)), (1, .int x1), (2, .int x2), (3, .int x3)] (by decide +kernel) (by decide) rfl ?_
  refine Go.iload_n (k := 2) (i := 2) 3 (by decide +kernel) rfl rfl ?_
  refine Go.iload (i := 4) 0 (by decide +kernel) rfl ?_
  refine Go.if_eq (off := 20) 72 (by decide +kernel) (by decide) (fun c1 => ?_) (fun c1 => ?_)
  · rw [if_pos c1] at h
    refine Go.sub [1, 2, 4] [(0, .ref (ad E 63)), (1, .int x1), (3, .int x3)] rfl ?_
    exact t_j_Ro_without_72 hG hE d hd k15 hk15 x1 x3 x2 P h
  · rw [if_neg c1] at h
    refine Go.aload_n (k := 0) (i := 0) 1 (by decide +kernel) rfl rfl ?_
    refine Go.iload_n (k := 1) (i := 1) 2 (by decide +kernel) rfl rfl ?_
    refine Go.iconst (n := 1) (1 : Int32) (by decide +kernel) rfl ?_
    refine Go.iload_n (k := 3) (i := 3) 4 (by decide +kernel) rfl rfl ?_
    refine Go.ishl (by decide +kernel) ?_
    obtain ⟨v2, P3, hv2, h⟩ := St.bd2 h
    refine Go.cV_i (P1 := P3) (v := v2) (d - 1) 63 [.int x1, .int ((1 : Int32) <<< (x3 &&& 31))] sh63 hE w_Ro_comesTo (e_Ro_comesTo hG hE (d - 1) (by omega) x1 ((1 : Int32) <<< (x3 &&& 31)) P ⟨_, hv2, rfl, rfl, rfl⟩) lk1054 rfl (by omega) (Nat.le_of_ble_eq_true rfl) (by decide +kernel) _ rfl ?_
    refine Go.if_ne (off := 9) 72 (by decide +kernel) (by decide) (fun c4 => ?_) (fun c4 => ?_)
    · rw [if_neg c4] at h
      refine Go.sub [1, 2, 4] [(0, .ref (ad E 63)), (1, .int x1), (3, .int x3)] rfl ?_
      exact t_j_Ro_without_72 hG hE d hd k15 hk15 x1 x3 x2 P3 h
    · rw [if_pos c4] at h
      refine Go.iconst (n := 1) (1 : Int32) (by decide +kernel) rfl ?_
      refine Go.iload_n (k := 3) (i := 3) 4 (by decide +kernel) rfl rfl ?_
      refine Go.ishl (by decide +kernel) ?_
      refine Go.goto (off := 4) 73 (by decide +kernel) (by decide) ?_
      refine Go.sub [1, 2, 4] [(0, .ref (ad E 63)), (1, .int x1), (3, .int x3)] rfl ?_
      exact t_j_Ro_without_73 hG hE d hd k15 hk15 x1 x3 x2 ((1 : Int32) <<< (x3 &&& 31)) P3 h
theorem t_j_Ro_without_46 {G : GX} (hG : GOK G) {E : EV} (hE : E0 E) (d : Nat) (hd : 7 ≤ d) {Q : QT} (k15 : Int32 → Int32 → Int32 → PM → Option (Int32 × PM)) (hk15 : ∀ (x1 : Int32) (x2 : Int32) (x3 : Int32) (P : PM), St E rIP (k15 x1 x2 x3 P) Q → Go G c_Ro_without "YawnRoute$Routes" 5 (some .int) false d nOb nOb Q 15 [(0, .ref (ad E 63)), (1, .int x1), (2, .int x2), (3, .int x3)] [] P E) (x1 : Int32) (x2 : Int32) (x3 : Int32) (P : PM) (h : St E rIP (j_Ro_without_46 k15 x1 x2 x3 P) Q) : Go G c_Ro_without "YawnRoute$Routes" 5 (some .int) false d nOb nOb Q 46 [(0, .ref (ad E 63)), (1, .int x1), (2, .int x2), (3, .int x3)] [] P E := by
  rw [j_Ro_without_46] at h
  refine Go.iconst (n := 0) (0 : Int32) (by decide +kernel) rfl ?_
  exact t_j_Ro_without_47 hG hE d hd k15 hk15 x1 x2 x3 (0 : Int32) P h
theorem t_l_Ro_without_15 {G : GX} (hG : GOK G) {E : EV} (hE : E0 E) (d : Nat) (hd : 7 ≤ d) {Q : QT} : ∀ (n : Nat) (x1 : Int32) (x2 : Int32) (x3 : Int32) (P : PM), St E rIP (l_Ro_without_15 n x1 x2 x3 P) Q → Go G c_Ro_without "YawnRoute$Routes" 5 (some .int) false d nOb nOb Q 15 [(0, .ref (ad E 63)), (1, .int x1), (2, .int x2), (3, .int x3)] [] P E := by
  intro n
  induction n with
  | zero =>
    intro x1 x2 x3 P h
    rw [l_Ro_without_15] at h
    exact St.none_ h
  | succ n ih =>
    intro x1 x2 x3 P h
    rw [l_Ro_without_15] at h
    refine Go.iload_n (k := 3) (i := 3) 3 (by decide +kernel) rfl rfl ?_
    refine Go.aload_n (k := 0) (i := 0) 0 (by decide +kernel) rfl rfl ?_
    refine Go.get 63 0 (.ref (ad E 14)) (by decide) (by decide) sh63 (ltO hE sh63) (vlR hE rfl rfl) lk321 (by decide +kernel) ?_
    refine Go.get 14 0 (.int (P.1 14 0)) (by decide) (by decide) sh14 (ltO hE sh14) rfl lk91 (by decide +kernel) ?_
    refine Go.icmp_ge (off := 58) 81 (by decide +kernel) (by decide) (fun c1 => ?_) (fun c1 => ?_)
    · rw [if_pos c1] at h
      refine Go.iload_n (k := 2) (i := 2) 2 (by decide +kernel) rfl rfl ?_
      exact Go.iret rfl rfl hE.2 (by decide +kernel) (St.fIP h)
    · rw [if_neg c1] at h
      refine Go.iload_n (k := 3) (i := 3) 3 (by decide +kernel) rfl rfl ?_
      refine Go.iload_n (k := 1) (i := 1) 1 (by decide +kernel) rfl rfl ?_
      refine Go.icmp_eq (off := 18) 46 (by decide +kernel) (by decide) (fun c2 => ?_) (fun c2 => ?_)
      · rw [if_pos c2] at h
        exact t_j_Ro_without_46 hG hE d hd (fun z0 z1 z2 Pz => l_Ro_without_15 n z0 z1 z2 Pz) (fun z0 z1 z2 Pz q => ih z0 z1 z2 Pz q) x1 x2 x3 P h
      · rw [if_neg c2] at h
        refine Go.iload_n (k := 3) (i := 3) 3 (by decide +kernel) rfl rfl ?_
        refine Go.aload_n (k := 0) (i := 0) 0 (by decide +kernel) rfl rfl ?_
        refine Go.get 63 1 (.ref (ad E 21)) (by decide) (by decide) sh63 (ltO hE sh63) (vlR hE rfl rfl) lk322 (by decide +kernel) ?_
        refine Go.get 21 0 (.int (P.1 21 0)) (by decide) (by decide) sh21 (ltO hE sh21) rfl lk154 (by decide +kernel) ?_
        refine Go.icmp_eq (off := 7) 46 (by decide +kernel) (by decide) (fun c3 => ?_) (fun c3 => ?_)
        · rw [if_pos c3] at h
          exact t_j_Ro_without_46 hG hE d hd (fun z0 z1 z2 Pz => l_Ro_without_15 n z0 z1 z2 Pz) (fun z0 z1 z2 Pz q => ih z0 z1 z2 Pz q) x1 x2 x3 P h
        · rw [if_neg c3] at h
          refine Go.iconst (n := 1) (1 : Int32) (by decide +kernel) rfl ?_
          refine Go.goto (off := 4) 47 (by decide +kernel) (by decide) ?_
          exact t_j_Ro_without_47 hG hE d hd (fun z0 z1 z2 Pz => l_Ro_without_15 n z0 z1 z2 Pz) (fun z0 z1 z2 Pz q => ih z0 z1 z2 Pz q) x1 x2 x3 (1 : Int32) P h
theorem t_f_Ro_without {G : GX} (hG : GOK G) {E : EV} (hE : E0 E) (d : Nat) (hd : 7 ≤ d) {Q : QT} (a1 : Int32) (P : PM) (h : St E rIP (f_Ro_without a1 P) Q) : Go G c_Ro_without "YawnRoute$Routes" 5 (some .int) false d nOb nOb Q 0 [(0, .ref (ad E 63)), (1, .int a1)] [] P E := by
  rw [f_Ro_without] at h
  refine Go.iconst (n := 0) (0 : Int32) (by decide +kernel) rfl ?_
  refine Go.istore_n (k := 2) (i := 2) [(2, .int (0 : Int32)), (0, .ref (ad E 63)), (1, .int a1)] (by decide +kernel) rfl (by decide) rfl ?_
  refine Go.aload_n (k := 0) (i := 0) 1 (by decide +kernel) rfl rfl ?_
  refine Go.iload_n (k := 1) (i := 1) 2 (by decide +kernel) rfl rfl ?_
  refine Go.iconst (n := 0) (0 : Int32) (by decide +kernel) rfl ?_
  obtain ⟨v1, P2, hv1, h⟩ := St.bd2 h
  refine Go.cV_i (P1 := P2) (v := v1) (d - 1) 63 [.int a1, .int (0 : Int32)] sh63 hE w_Ro_comesTo (e_Ro_comesTo hG hE (d - 1) (by omega) a1 (0 : Int32) P ⟨_, hv1, rfl, rfl, rfl⟩) lk1054 rfl (by omega) (Nat.le_of_ble_eq_true rfl) (by decide +kernel) _ rfl ?_
  refine Go.if_ne (off := 5) 13 (by decide +kernel) (by decide) (fun c3 => ?_) (fun c3 => ?_)
  · rw [if_neg c3] at h
    refine Go.iconst (n := 0) (0 : Int32) (by decide +kernel) rfl ?_
    refine Go.istore_n (k := 3) (i := 3) [(3, .int (0 : Int32)), (2, .int (0 : Int32)), (0, .ref (ad E 63)), (1, .int a1)] (by decide +kernel) rfl (by decide) rfl ?_
    refine Go.sub [2, 3, 1, 0] [(0, .ref (ad E 63)), (1, .int a1), (2, .int (0 : Int32)), (3, .int (0 : Int32))] rfl ?_
    exact t_l_Ro_without_15 hG hE d hd FU a1 (0 : Int32) (0 : Int32) P2 h
  · rw [if_pos c3] at h
    refine Go.iload_n (k := 2) (i := 2) 0 (by decide +kernel) rfl rfl ?_
    exact Go.iret rfl rfl hE.2 (by decide +kernel) (St.fIP h)
theorem e_Ro_without {G : GX} (hG : GOK G) {E : EV} (hE : E0 E) (d : Nat) (hd : 7 ≤ d) (a1 : Int32) (P : PM) {Q : QT} (h : St E rIP (f_Ro_without a1 P) Q) : Con G y_Ro_without cw_Ro_without d nOb nOb [.ref (ad E 63), .int a1] P E Q :=
  Con.of hG (by decide +kernel) rfl (fun h => by cases h) hE.2 (Nat.le_of_ble_eq_true rfl) (t_f_Ro_without hG hE d hd a1 P h)
abbrev c_Yr_needed : ByteArray := prog_1_method_22_code
abbrev y_Yr_needed : MethodName := ⟨"YawnRoute", "needed", "(I)I"⟩
abbrev cw_Yr_needed : Cond := .code y_Yr_needed c_Yr_needed 3 (some .int)
theorem w_Yr_needed : VW 11 y_Yr_needed c_Yr_needed 3 (some .int) 1 := ⟨by decide, lk1047, lk1048, lk1, lk1049, ⟨by decide, by decide, by decide +kernel⟩, by decide⟩
noncomputable def f_Yr_needed (a1 : Int32) (P : PM) : Option (Int32 × PM) := lb (f_Yr_refusal (f_Ne_isStation 14 a1 P) (1 : Int32) P) (fun y1 => if y1 = (0 : Int32) then (bd2 (f_Ro_without a1 P) (fun v3 P4 => some (v3, P4))) else (some (y1, P)))
theorem t_f_Yr_needed {G : GX} (hG : GOK G) {E : EV} (hE : E0 E) (d : Nat) (hd : 8 ≤ d) {Q : QT} (a1 : Int32) (P : PM) (h : St E rIP (f_Yr_needed a1 P) Q) : Go G c_Yr_needed "YawnRoute" 3 (some .int) false d nOb nOb Q 0 [(0, .ref (ad E 0)), (1, .int a1)] [] P E := by
  rw [f_Yr_needed] at h
  refine Go.aload_n (k := 0) (i := 0) 0 (by decide +kernel) rfl rfl ?_
  refine Go.aload_n (k := 0) (i := 0) 0 (by decide +kernel) rfl rfl ?_
  refine Go.get 0 2 (.ref (ad E 14)) (by decide) (by decide) sh0 (ltO hE sh0) (vlR hE rfl rfl) lk392 (by decide +kernel) ?_
  refine Go.iload_n (k := 1) (i := 1) 1 (by decide +kernel) rfl rfl ?_
  refine Go.cV_i (P1 := P) (v := (f_Ne_isStation 14 a1 P)) (d - 1) 14 [.int a1] sh14 hE w_Ne_isStation (e_Ne_isStation hG hE (d - 1) (by omega) 14 sh14 a1 P ⟨rfl, rfl, rfl⟩) lk726 rfl (by omega) (Nat.le_of_ble_eq_true rfl) (by decide +kernel) _ rfl ?_
  refine Go.iconst (n := 1) (1 : Int32) (by decide +kernel) rfl ?_
  refine Go.cV_i (P1 := P) (v := (f_Yr_refusal (f_Ne_isStation 14 a1 P) (1 : Int32) P)) (d - 1) 0 [.int (f_Ne_isStation 14 a1 P), .int (1 : Int32)] sh0 hE w_Yr_refusal (e_Yr_refusal hG hE (d - 1) (by omega) (f_Ne_isStation 14 a1 P) (1 : Int32) P ⟨rfl, rfl, rfl⟩) lk912 rfl (by omega) (Nat.le_of_ble_eq_true rfl) (by decide +kernel) _ rfl ?_
  obtain ⟨y1, hy1, h⟩ := St.lb h
  refine Go.eqi y1 hy1 ?_
  refine Go.istore_n (k := 2) (i := 2) [(2, .int y1), (0, .ref (ad E 0)), (1, .int a1)] (by decide +kernel) rfl (by decide) rfl ?_
  refine Go.iload_n (k := 2) (i := 2) 0 (by decide +kernel) rfl rfl ?_
  refine Go.if_eq (off := 7) 22 (by decide +kernel) (by decide) (fun c2 => ?_) (fun c2 => ?_)
  · rw [if_pos c2] at h
    refine Go.aload_n (k := 0) (i := 0) 1 (by decide +kernel) rfl rfl ?_
    refine Go.get 0 7 (.ref (ad E 63)) (by decide) (by decide) sh0 (ltO hE sh0) (vlR hE rfl rfl) lk397 (by decide +kernel) ?_
    refine Go.iload_n (k := 1) (i := 1) 2 (by decide +kernel) rfl rfl ?_
    obtain ⟨v3, P4, hv3, h⟩ := St.bd2 h
    refine Go.cV_i (P1 := P4) (v := v3) (d - 1) 63 [.int a1] sh63 hE w_Ro_without (e_Ro_without hG hE (d - 1) (by omega) a1 P ⟨_, hv3, rfl, rfl, rfl⟩) lk1050 rfl (by omega) (Nat.le_of_ble_eq_true rfl) (by decide +kernel) _ rfl ?_
    exact Go.iret rfl rfl hE.2 (by decide +kernel) (St.fIP h)
  · rw [if_neg c2] at h
    refine Go.iload_n (k := 2) (i := 2) 0 (by decide +kernel) rfl rfl ?_
    refine Go.goto (off := 11) 30 (by decide +kernel) (by decide) ?_
    exact Go.iret rfl rfl hE.2 (by decide +kernel) (St.fIP h)
theorem e_Yr_needed {G : GX} (hG : GOK G) {E : EV} (hE : E0 E) (d : Nat) (hd : 8 ≤ d) (a1 : Int32) (P : PM) {Q : QT} (h : St E rIP (f_Yr_needed a1 P) Q) : Con G y_Yr_needed cw_Yr_needed d nOb nOb [.ref (ad E 0), .int a1] P E Q :=
  Con.of hG (by decide +kernel) rfl (fun h => by cases h) hE.2 (Nat.le_of_ble_eq_true rfl) (t_f_Yr_needed hG hE d hd a1 P h)
abbrev c_Ro_canSleep : ByteArray := prog_7_method_12_code
abbrev y_Ro_canSleep : MethodName := ⟨"YawnRoute$Routes", "canSleep", "(II)Z"⟩
abbrev cw_Ro_canSleep : Cond := .code y_Ro_canSleep c_Ro_canSleep 3 (some .boolean)
theorem w_Ro_canSleep : VW 5 y_Ro_canSleep c_Ro_canSleep 3 (some .boolean) 2 := ⟨by decide, lk1075, lp35_, lk11, lk1076, ⟨by decide, by decide, by decide +kernel⟩, by decide⟩
noncomputable def j_Ro_canSleep_39 (P : PM) : Int32 := (0 : Int32)
noncomputable def f_Ro_canSleep (a1 : Int32) (a2 : Int32) (P : PM) : Int32 := if ((1 : Int32) <<< ((P.1 14 0) &&& 31)) ≤ a1 then (j_Ro_canSleep_39 P) else (if (f_Yr_has a1 a2 P) = (0 : Int32) then (if (f_Yr_has a1 (P.1 21 0) P) = (0 : Int32) then ((1 : Int32)) else (j_Ro_canSleep_39 P)) else (j_Ro_canSleep_39 P))
theorem t_j_Ro_canSleep_39 {G : GX} (hG : GOK G) {E : EV} (hE : E0 E) (d : Nat) (hd : 2 ≤ d) {P : PM} {Q : QT} (h : Q (some (.int (j_Ro_canSleep_39 P))) P E) : Go G c_Ro_canSleep "YawnRoute$Routes" 3 (some .boolean) false d nOb nOb Q 39 [] [] P E := by
  rw [j_Ro_canSleep_39] at h
  refine Go.iconst (n := 0) (0 : Int32) (by decide +kernel) rfl ?_
  exact Go.iret rfl rfl hE.2 (by decide +kernel) h
theorem t_f_Ro_canSleep {G : GX} (hG : GOK G) {E : EV} (hE : E0 E) (d : Nat) (hd : 2 ≤ d) {P : PM} {Q : QT} (a1 : Int32) (a2 : Int32) (h : Q (some (.int (f_Ro_canSleep a1 a2 P))) P E) : Go G c_Ro_canSleep "YawnRoute$Routes" 3 (some .boolean) false d nOb nOb Q 0 [(0, .ref (ad E 63)), (1, .int a1), (2, .int a2)] [] P E := by
  rw [f_Ro_canSleep] at h
  refine Go.iload_n (k := 1) (i := 1) 1 (by decide +kernel) rfl rfl ?_
  refine Go.iconst (n := 1) (1 : Int32) (by decide +kernel) rfl ?_
  refine Go.aload_n (k := 0) (i := 0) 0 (by decide +kernel) rfl rfl ?_
  refine Go.get 63 0 (.ref (ad E 14)) (by decide) (by decide) sh63 (ltO hE sh63) (vlR hE rfl rfl) lk321 (by decide +kernel) ?_
  refine Go.get 14 0 (.int (P.1 14 0)) (by decide) (by decide) sh14 (ltO hE sh14) rfl lk91 (by decide +kernel) ?_
  refine Go.ishl (by decide +kernel) ?_
  refine Go.icmp_ge (off := 29) 39 (by decide +kernel) (by decide) (fun c1 => ?_) (fun c1 => ?_)
  · rw [if_pos c1] at h
    refine Go.sub [] [] rfl ?_
    exact t_j_Ro_canSleep_39 hG hE d hd h
  · rw [if_neg c1] at h
    refine Go.iload_n (k := 1) (i := 1) 1 (by decide +kernel) rfl rfl ?_
    refine Go.iload_n (k := 2) (i := 2) 2 (by decide +kernel) rfl rfl ?_
    refine Go.cSN_i (P1 := P) (v := (f_Yr_has a1 a2 P)) (d - 1) [.int a1, .int a2] hE w_Yr_has (e_Yr_has hG hE (d - 1) (by omega) a1 a2 P ⟨rfl, rfl, rfl⟩) nw20 rfl (by omega) (Nat.le_of_ble_eq_true rfl) (by decide +kernel) _ rfl ?_
    refine Go.if_ne (off := 21) 39 (by decide +kernel) (by decide) (fun c2 => ?_) (fun c2 => ?_)
    · rw [if_neg c2] at h
      refine Go.sub [] [] rfl ?_
      exact t_j_Ro_canSleep_39 hG hE d hd h
    · rw [if_pos c2] at h
      refine Go.iload_n (k := 1) (i := 1) 1 (by decide +kernel) rfl rfl ?_
      refine Go.aload_n (k := 0) (i := 0) 0 (by decide +kernel) rfl rfl ?_
      refine Go.get 63 1 (.ref (ad E 21)) (by decide) (by decide) sh63 (ltO hE sh63) (vlR hE rfl rfl) lk322 (by decide +kernel) ?_
      refine Go.get 21 0 (.int (P.1 21 0)) (by decide) (by decide) sh21 (ltO hE sh21) rfl lk154 (by decide +kernel) ?_
      refine Go.cSN_i (P1 := P) (v := (f_Yr_has a1 (P.1 21 0) P)) (d - 1) [.int a1, .int (P.1 21 0)] hE w_Yr_has (e_Yr_has hG hE (d - 1) (by omega) a1 (P.1 21 0) P ⟨rfl, rfl, rfl⟩) nw20 rfl (by omega) (Nat.le_of_ble_eq_true rfl) (by decide +kernel) _ rfl ?_
      refine Go.if_ne (off := 7) 39 (by decide +kernel) (by decide) (fun c3 => ?_) (fun c3 => ?_)
      · rw [if_neg c3] at h
        refine Go.sub [] [] rfl ?_
        exact t_j_Ro_canSleep_39 hG hE d hd h
      · rw [if_pos c3] at h
        refine Go.iconst (n := 1) (1 : Int32) (by decide +kernel) rfl ?_
        refine Go.goto (off := 4) 40 (by decide +kernel) (by decide) ?_
        exact Go.iret rfl rfl hE.2 (by decide +kernel) h
theorem e_Ro_canSleep {G : GX} (hG : GOK G) {E : EV} (hE : E0 E) (d : Nat) (hd : 2 ≤ d) (a1 : Int32) (a2 : Int32) (P : PM) {Q : QT} (h : Q (some (.int (f_Ro_canSleep a1 a2 P))) P E) : Con G y_Ro_canSleep cw_Ro_canSleep d nOb nOb [.ref (ad E 63), .int a1, .int a2] P E Q :=
  Con.of hG (by decide +kernel) rfl (fun h => by cases h) hE.2 (Nat.le_of_ble_eq_true rfl) (t_f_Ro_canSleep hG hE d hd a1 a2 h)
