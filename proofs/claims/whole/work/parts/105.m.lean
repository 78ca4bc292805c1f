/-! methods as functions, by program: Yr_net Yr_fault Ne_hoursOf Ne_waysFrom Sa_dullOf Yr_has Sa_isAsleep Yr_station Ne_oddsOf Yr_way Ne_isValue -/
abbrev c_Yr_net : ByteArray := prog_1_method_3_code
abbrev y_Yr_net : MethodName := ⟨"YawnRoute", "net", "(I)I"⟩
abbrev cw_Yr_net : Cond := .code y_Yr_net c_Yr_net 3 (some .int)
theorem w_Yr_net : VW 11 y_Yr_net c_Yr_net 3 (some .int) 1 := ⟨by decide, lk440, lk441, lk1, lk442, ⟨by decide, by decide, by decide +kernel⟩, by decide⟩
noncomputable def f_Yr_net (a1 : Int32) (P : PM) : Option (Int32 × PM) := if a1 < (0 : Int32) then (some ((-3 : Int32), P)) else (if a1 ≤ (P.1 1 1) then (bd2 (f_Nr_read a1 P) (fun v3 P4 => if v3 = (0 : Int32) then (some (((-30 : Int32) - ((u1 P4 1 1 (0 : Int32)).1 1 7)), (u1 P4 1 1 (0 : Int32)))) else ((f_Yr_takeOver 4 11 (u1 P4 1 1 (0 : Int32))).bind (fun P6 => some ((P6.1 14 1), P6))))) else (some ((-3 : Int32), P)))
theorem t_f_Yr_net {G : GX} (hG : GOK G) {E : EV} (hE : E0 E) (d : Nat) (hd : 111 ≤ d) {Q : QT} (a1 : Int32) (P : PM) (h : St E rIP (f_Yr_net a1 P) Q) : Go G c_Yr_net "YawnRoute" 3 (some .int) false d nOb nOb Q 0 [(0, .ref (ad E 0)), (1, .int a1)] [] P E := by
  rw [f_Yr_net] at h
  refine Go.iload_n (k := 1) (i := 1) 1 (by decide +kernel) rfl rfl ?_
  refine Go.if_lt (off := 14) 15 (by decide +kernel) (by decide) (fun c1 => ?_) (fun c1 => ?_)
  · rw [if_pos c1] at h
    refine Go.bipush (n := -3) (-3 : Int32) (by decide +kernel) (by decide) ?_
    exact Go.iret rfl rfl hE.2 (by decide +kernel) (St.fIP h)
  · rw [if_neg c1] at h
    refine Go.iload_n (k := 1) (i := 1) 1 (by decide +kernel) rfl rfl ?_
    refine Go.aload_n (k := 0) (i := 0) 0 (by decide +kernel) rfl rfl ?_
    refine Go.get 0 0 (.ref (ad E 1)) (by decide) (by decide) sh0 (ltO hE sh0) (vlR hE rfl rfl) lk390 (by decide +kernel) ?_
    refine Go.get 1 1 (.int (P.1 1 1)) (by decide) (by decide) sh1 (ltO hE sh1) rfl lk38 (by decide +kernel) ?_
    refine Go.icmp_le (off := 6) 18 (by decide +kernel) (by decide) (fun c2 => ?_) (fun c2 => ?_)
    · rw [if_pos c2] at h
      refine Go.aload_n (k := 0) (i := 0) 0 (by decide +kernel) rfl rfl ?_
      refine Go.get 0 1 (.ref (ad E 3)) (by decide) (by decide) sh0 (ltO hE sh0) (vlR hE rfl rfl) lk391 (by decide +kernel) ?_
      refine Go.iload_n (k := 1) (i := 1) 1 (by decide +kernel) rfl rfl ?_
      obtain ⟨v3, P4, hv3, h⟩ := St.bd2 h
      refine Go.cV_i (P1 := P4) (v := v3) (d - 1) 3 [.int a1] sh3 hE w_Nr_read (e_Nr_read hG hE (d - 1) (by omega) a1 P ⟨_, hv3, rfl, rfl, rfl⟩) lk443 rfl (by omega) (Nat.le_of_ble_eq_true rfl) (by decide +kernel) _ rfl ?_
      refine Go.istore_n (k := 2) (i := 2) [(2, .int v3), (0, .ref (ad E 0)), (1, .int a1)] (by decide +kernel) rfl (by decide) rfl ?_
      refine Go.aload_n (k := 0) (i := 0) 1 (by decide +kernel) rfl rfl ?_
      refine Go.get 0 0 (.ref (ad E 1)) (by decide) (by decide) sh0 (ltO hE sh0) (vlR hE rfl rfl) lk390 (by decide +kernel) ?_
      refine Go.iconst (n := 0) (0 : Int32) (by decide +kernel) rfl ?_
      refine Go.put 1 1 (by decide) (by decide) sh1 (ltO hE sh1) (Or.inl rfl) rfl rfl rfl lk38 (by decide +kernel) ?_
      refine Go.iload_n (k := 2) (i := 2) 0 (by decide +kernel) rfl rfl ?_
      refine Go.if_ne (off := 14) 50 (by decide +kernel) (by decide) (fun c5 => ?_) (fun c5 => ?_)
      · rw [if_neg c5] at h
        refine Go.aload_n (k := 0) (i := 0) 1 (by decide +kernel) rfl rfl ?_
        refine Go.aload_n (k := 0) (i := 0) 1 (by decide +kernel) rfl rfl ?_
        refine Go.get 0 1 (.ref (ad E 3)) (by decide) (by decide) sh0 (ltO hE sh0) (vlR hE rfl rfl) lk391 (by decide +kernel) ?_
        refine Go.get 3 1 (.ref (ad E 4)) (by decide) (by decide) sh3 (ltO hE sh3) (vlR hE rfl rfl) lk197 (by decide +kernel) ?_
        refine Go.aload_n (k := 0) (i := 0) 1 (by decide +kernel) rfl rfl ?_
        refine Go.get 0 1 (.ref (ad E 3)) (by decide) (by decide) sh0 (ltO hE sh0) (vlR hE rfl rfl) lk391 (by decide +kernel) ?_
        refine Go.get 3 2 (.ref (ad E 11)) (by decide) (by decide) sh3 (ltO hE sh3) (vlR hE rfl rfl) lk199 (by decide +kernel) ?_
        obtain ⟨P6, hP6, h⟩ := St.bind h
        refine Go.cV_v (P1 := P6) (d - 1) 0 [.ref (ad E 4), .ref (ad E 11)] sh0 hE w_Yr_takeOver (e_Yr_takeOver hG hE (d - 1) (by omega) 4 sh4 11 sh11 (u1 P4 1 1 (0 : Int32)) ⟨_, hP6, rfl, rfl, rfl⟩) lk697 rfl (by omega) (Nat.le_of_ble_eq_true rfl) (by decide +kernel) _ rfl ?_
        refine Go.aload_n (k := 0) (i := 0) 1 (by decide +kernel) rfl rfl ?_
        refine Go.get 0 2 (.ref (ad E 14)) (by decide) (by decide) sh0 (ltO hE sh0) (vlR hE rfl rfl) lk392 (by decide +kernel) ?_
        refine Go.get 14 1 (.int (P6.1 14 1)) (by decide) (by decide) sh14 (ltO hE sh14) rfl lk96 (by decide +kernel) ?_
        exact Go.iret rfl rfl hE.2 (by decide +kernel) (St.fIP h)
      · rw [if_pos c5] at h
        refine Go.bipush (n := -30) (-30 : Int32) (by decide +kernel) (by decide) ?_
        refine Go.aload_n (k := 0) (i := 0) 1 (by decide +kernel) rfl rfl ?_
        refine Go.get 0 0 (.ref (ad E 1)) (by decide) (by decide) sh0 (ltO hE sh0) (vlR hE rfl rfl) lk390 (by decide +kernel) ?_
        refine Go.get 1 7 (.int ((u1 P4 1 1 (0 : Int32)).1 1 7)) (by decide) (by decide) sh1 (ltO hE sh1) rfl lk51 (by decide +kernel) ?_
        refine Go.isub (by decide +kernel) ?_
        exact Go.iret rfl rfl hE.2 (by decide +kernel) (St.fIP h)
    · rw [if_neg c2] at h
      refine Go.bipush (n := -3) (-3 : Int32) (by decide +kernel) (by decide) ?_
      exact Go.iret rfl rfl hE.2 (by decide +kernel) (St.fIP h)
theorem e_Yr_net {G : GX} (hG : GOK G) {E : EV} (hE : E0 E) (d : Nat) (hd : 111 ≤ d) (a1 : Int32) (P : PM) {Q : QT} (h : St E rIP (f_Yr_net a1 P) Q) : Con G y_Yr_net cw_Yr_net d nOb nOb [.ref (ad E 0), .int a1] P E Q :=
  Con.of hG (by decide +kernel) rfl (fun h => by cases h) hE.2 (Nat.le_of_ble_eq_true rfl) (t_f_Yr_net hG hE d hd a1 P h)
abbrev c_Yr_fault : ByteArray := prog_1_method_4_code
abbrev y_Yr_fault : MethodName := ⟨"YawnRoute", "fault", "(I)I"⟩
abbrev cw_Yr_fault : Cond := .code y_Yr_fault c_Yr_fault 2 (some .int)
theorem w_Yr_fault : VW 11 y_Yr_fault c_Yr_fault 2 (some .int) 1 := ⟨by decide, lk719, lk720, lk1, lk721, ⟨by decide, by decide, by decide +kernel⟩, by decide⟩
noncomputable def f_Yr_fault (a1 : Int32) (P : PM) : Int32 := if a1 = (0 : Int32) then ((P.1 1 7)) else (if a1 = (1 : Int32) then ((P.1 1 8)) else ((-1 : Int32)))
theorem t_f_Yr_fault {G : GX} (hG : GOK G) {E : EV} (hE : E0 E) (d : Nat) (hd : 1 ≤ d) {P : PM} {Q : QT} (a1 : Int32) (h : Q (some (.int (f_Yr_fault a1 P))) P E) : Go G c_Yr_fault "YawnRoute" 2 (some .int) false d nOb nOb Q 0 [(0, .ref (ad E 0)), (1, .int a1)] [] P E := by
  rw [f_Yr_fault] at h
  refine Go.iload_n (k := 1) (i := 1) 1 (by decide +kernel) rfl rfl ?_
  refine Go.if_ne (off := 11) 12 (by decide +kernel) (by decide) (fun c1 => ?_) (fun c1 => ?_)
  · rw [if_neg c1] at h
    refine Go.iload_n (k := 1) (i := 1) 1 (by decide +kernel) rfl rfl ?_
    refine Go.iconst (n := 1) (1 : Int32) (by decide +kernel) rfl ?_
    refine Go.icmp_ne (off := 13) 27 (by decide +kernel) (by decide) (fun c2 => ?_) (fun c2 => ?_)
    · rw [if_neg c2] at h
      refine Go.iconst (n := -1) (-1 : Int32) (by decide +kernel) rfl ?_
      exact Go.iret rfl rfl hE.2 (by decide +kernel) h
    · rw [if_pos c2] at h
      refine Go.aload_n (k := 0) (i := 0) 0 (by decide +kernel) rfl rfl ?_
      refine Go.get 0 0 (.ref (ad E 1)) (by decide) (by decide) sh0 (ltO hE sh0) (vlR hE rfl rfl) lk390 (by decide +kernel) ?_
      refine Go.get 1 8 (.int (P.1 1 8)) (by decide) (by decide) sh1 (ltO hE sh1) rfl lk53 (by decide +kernel) ?_
      refine Go.goto (off := 4) 28 (by decide +kernel) (by decide) ?_
      exact Go.iret rfl rfl hE.2 (by decide +kernel) h
  · rw [if_pos c1] at h
    refine Go.aload_n (k := 0) (i := 0) 0 (by decide +kernel) rfl rfl ?_
    refine Go.get 0 0 (.ref (ad E 1)) (by decide) (by decide) sh0 (ltO hE sh0) (vlR hE rfl rfl) lk390 (by decide +kernel) ?_
    refine Go.get 1 7 (.int (P.1 1 7)) (by decide) (by decide) sh1 (ltO hE sh1) rfl lk51 (by decide +kernel) ?_
    exact Go.iret rfl rfl hE.2 (by decide +kernel) h
theorem e_Yr_fault {G : GX} (hG : GOK G) {E : EV} (hE : E0 E) (d : Nat) (hd : 1 ≤ d) (a1 : Int32) (P : PM) {Q : QT} (h : Q (some (.int (f_Yr_fault a1 P))) P E) : Con G y_Yr_fault cw_Yr_fault d nOb nOb [.ref (ad E 0), .int a1] P E Q :=
  Con.of hG (by decide +kernel) rfl (fun h => by cases h) hE.2 (Nat.le_of_ble_eq_true rfl) (t_f_Yr_fault hG hE d hd a1 h)
abbrev c_Ne_hoursOf : ByteArray := prog_4_method_5_code
abbrev y_Ne_hoursOf : MethodName := ⟨"YawnRoute$Net", "hoursOf", "(II)I"⟩
abbrev cw_Ne_hoursOf : Cond := .code y_Ne_hoursOf c_Ne_hoursOf 3 (some .int)
theorem w_Ne_hoursOf : VW 2 y_Ne_hoursOf c_Ne_hoursOf 3 (some .int) 2 := ⟨by decide, lk743, lk744, lk4, lk745, ⟨by decide, by decide, by decide +kernel⟩, by decide⟩
noncomputable def j_Ne_hoursOf_30 (this : Nat) (P : PM) : Option Int32 := some (0 : Int32)
noncomputable def f_Ne_hoursOf (this : Nat) (a1 : Int32) (a2 : Int32) (P : PM) : Option Int32 := if (f_Ne_isStation this a1 P) = (0 : Int32) then (j_Ne_hoursOf_30 this P) else (if (f_Ne_isStation this a2 P) = (0 : Int32) then (j_Ne_hoursOf_30 this P) else (ck (inb ((a1 * (7 : Int32)) + a2) 49) (some (P.1 (this + 2) ((a1 * (7 : Int32)) + a2).toNatClampNeg))))
theorem t_j_Ne_hoursOf_30 {G : GX} (hG : GOK G) {E : EV} (hE : E0 E) (d : Nat) (hd : 2 ≤ d) {P : PM} {Q : QT} (this : Nat) (hthis : sh this = .inl 2) (h : St E (rI P) (j_Ne_hoursOf_30 this P) Q) : Go G c_Ne_hoursOf "YawnRoute$Net" 3 (some .int) false d nOb nOb Q 30 [] [] P E := by
  rw [j_Ne_hoursOf_30] at h
  refine Go.iconst (n := 0) (0 : Int32) (by decide +kernel) rfl ?_
  exact Go.iret rfl rfl hE.2 (by decide +kernel) (St.fI h)
theorem t_f_Ne_hoursOf {G : GX} (hG : GOK G) {E : EV} (hE : E0 E) (d : Nat) (hd : 2 ≤ d) {P : PM} {Q : QT} (this : Nat) (hthis : sh this = .inl 2) (a1 : Int32) (a2 : Int32) (h : St E (rI P) (f_Ne_hoursOf this a1 a2 P) Q) : Go G c_Ne_hoursOf "YawnRoute$Net" 3 (some .int) false d nOb nOb Q 0 [(0, .ref (ad E this)), (1, .int a1), (2, .int a2)] [] P E := by
  rw [f_Ne_hoursOf] at h
  refine Go.aload_n (k := 0) (i := 0) 0 (by decide +kernel) rfl rfl ?_
  refine Go.iload_n (k := 1) (i := 1) 1 (by decide +kernel) rfl rfl ?_
  refine Go.cV_i (P1 := P) (v := (f_Ne_isStation this a1 P)) (d - 1) this [.int a1] hthis hE w_Ne_isStation (e_Ne_isStation hG hE (d - 1) (by omega) this hthis a1 P ⟨rfl, rfl, rfl⟩) lk636 rfl (by omega) (Nat.le_of_ble_eq_true rfl) (by decide +kernel) _ rfl ?_
  refine Go.if_eq (off := 25) 30 (by decide +kernel) (by decide) (fun c1 => ?_) (fun c1 => ?_)
  · rw [if_pos c1] at h
    refine Go.sub [] [] rfl ?_
    exact t_j_Ne_hoursOf_30 hG hE d hd this hthis h
  · rw [if_neg c1] at h
    refine Go.aload_n (k := 0) (i := 0) 0 (by decide +kernel) rfl rfl ?_
    refine Go.iload_n (k := 2) (i := 2) 2 (by decide +kernel) rfl rfl ?_
    refine Go.cV_i (P1 := P) (v := (f_Ne_isStation this a2 P)) (d - 1) this [.int a2] hthis hE w_Ne_isStation (e_Ne_isStation hG hE (d - 1) (by omega) this hthis a2 P ⟨rfl, rfl, rfl⟩) lk636 rfl (by omega) (Nat.le_of_ble_eq_true rfl) (by decide +kernel) _ rfl ?_
    refine Go.if_eq (off := 17) 30 (by decide +kernel) (by decide) (fun c2 => ?_) (fun c2 => ?_)
    · rw [if_pos c2] at h
      refine Go.sub [] [] rfl ?_
      exact t_j_Ne_hoursOf_30 hG hE d hd this hthis h
    · rw [if_neg c2] at h
      refine Go.aload_n (k := 0) (i := 0) 0 (by decide +kernel) rfl rfl ?_
      refine Go.get this 3 (.ref (ad E (this + 2))) (by decide) (by decide) hthis (ltO hE hthis) (vlR hE rfl (rfNe_3 hthis)) lk100 (by decide +kernel) ?_
      refine Go.iload_n (k := 1) (i := 1) 1 (by decide +kernel) rfl rfl ?_
      refine Go.bipush (n := 7) (7 : Int32) (by decide +kernel) (by decide) ?_
      refine Go.imul (by decide +kernel) ?_
      refine Go.iload_n (k := 2) (i := 2) 2 (by decide +kernel) rfl rfl ?_
      refine Go.iadd (by decide +kernel) ?_
      obtain ⟨b3, h⟩ := St.ck h
      refine Go.iaload (this + 2) 49 (shNe_3 hthis) (ltA hE (shNe_3 hthis) (by decide)) (inb_in b3) (by decide +kernel) ?_
      refine Go.goto (off := 4) 31 (by decide +kernel) (by decide) ?_
      exact Go.iret rfl rfl hE.2 (by decide +kernel) (St.fI h)
theorem e_Ne_hoursOf {G : GX} (hG : GOK G) {E : EV} (hE : E0 E) (d : Nat) (hd : 2 ≤ d) (this : Nat) (hthis : sh this = .inl 2) (a1 : Int32) (a2 : Int32) (P : PM) {Q : QT} (h : St E (rI P) (f_Ne_hoursOf this a1 a2 P) Q) : Con G y_Ne_hoursOf cw_Ne_hoursOf d nOb nOb [.ref (ad E this), .int a1, .int a2] P E Q :=
  Con.of hG (by decide +kernel) rfl (fun h => by cases h) hE.2 (Nat.le_of_ble_eq_true rfl) (t_f_Ne_hoursOf hG hE d hd this hthis a1 a2 h)
abbrev c_Ne_waysFrom : ByteArray := prog_4_method_8_code
abbrev y_Ne_waysFrom : MethodName := ⟨"YawnRoute$Net", "waysFrom", "(I)I"⟩
abbrev cw_Ne_waysFrom : Cond := .code y_Ne_waysFrom c_Ne_waysFrom 4 (some .int)
theorem w_Ne_waysFrom : VW 2 y_Ne_waysFrom c_Ne_waysFrom 4 (some .int) 1 := ⟨by decide, lk739, lk740, lk4, lk741, ⟨by decide, by decide, by decide +kernel⟩, by decide⟩
noncomputable def j_Ne_waysFrom_29 (this : Nat) (k4 : Int32 → Int32 → Int32 → Option Int32) (x1 : Int32) (x3 : Int32) (s0 : Int32) (s1 : Int32) (P : PM) : Option Int32 := lb (s0 ||| s1) (fun y1 => k4 x1 y1 (x3 + (1 : Int32)))
noncomputable def l_Ne_waysFrom_4 (this : Nat) : Nat → Int32 → Int32 → Int32 → PM → Option Int32
  | 0, _, _, _, _ => none
  | n + 1, x1, x2, x3, P => if (P.1 this 0) ≤ x3 then (some x2) else ((f_Ne_hoursOf this x1 x3 P).bind (fun v2 => if v2 ≤ (0 : Int32) then (j_Ne_waysFrom_29 this (fun z0 z1 z2 => l_Ne_waysFrom_4 this n z0 z1 z2 P) x1 x3 x2 (0 : Int32) P) else (j_Ne_waysFrom_29 this (fun z0 z1 z2 => l_Ne_waysFrom_4 this n z0 z1 z2 P) x1 x3 x2 ((1 : Int32) <<< (x3 &&& 31)) P)))
noncomputable def f_Ne_waysFrom (this : Nat) (a1 : Int32) (P : PM) : Option Int32 := l_Ne_waysFrom_4 this FU a1 (0 : Int32) (0 : Int32) P
theorem t_j_Ne_waysFrom_29 {G : GX} (hG : GOK G) {E : EV} (hE : E0 E) (d : Nat) (hd : 3 ≤ d) {P : PM} {Q : QT} (this : Nat) (hthis : sh this = .inl 2) (k4 : Int32 → Int32 → Int32 → Option Int32) (hk4 : ∀ (x1 : Int32) (x2 : Int32) (x3 : Int32), St E (rI P) (k4 x1 x2 x3) Q → Go G c_Ne_waysFrom "YawnRoute$Net" 4 (some .int) false d nOb nOb Q 4 [(0, .ref (ad E this)), (1, .int x1), (2, .int x2), (3, .int x3)] [] P E) (x1 : Int32) (x3 : Int32) (s0 : Int32) (s1 : Int32) (h : St E (rI P) (j_Ne_waysFrom_29 this k4 x1 x3 s0 s1 P) Q) : Go G c_Ne_waysFrom "YawnRoute$Net" 4 (some .int) false d nOb nOb Q 29 [(0, .ref (ad E this)), (1, .int x1), (3, .int x3)] [.int s1, .int s0] P E := by
  rw [j_Ne_waysFrom_29] at h
  refine Go.ior (by decide +kernel) ?_
  obtain ⟨y1, hy1, h⟩ := St.lb h
  refine Go.eqi y1 hy1 ?_
  refine Go.istore_n (k := 2) (i := 2) [(2, .int y1), (0, .ref (ad E this)), (1, .int x1), (3, .int x3)] (by decide +kernel) rfl (by decide) rfl ?_
  refine Go.iinc (i := 3) (n := 1) 3 (x3 + (1 : Int32)) [(3, .int (x3 + (1 : Int32))), (2, .int y1), (0, .ref (ad E this)), (1, .int x1)] (by decide +kernel) rfl rfl (by decide) rfl ?_
  refine Go.goto (off := -30) 4 (by decide +kernel) (by decide) ?_
  refine Go.sub [2, 3, 1, 0] [(0, .ref (ad E this)), (1, .int x1), (2, .int y1), (3, .int (x3 + (1 : Int32)))] rfl ?_
  exact hk4 x1 y1 (x3 + (1 : Int32)) h
theorem t_l_Ne_waysFrom_4 {G : GX} (hG : GOK G) {E : EV} (hE : E0 E) (d : Nat) (hd : 3 ≤ d) {P : PM} {Q : QT} (this : Nat) (hthis : sh this = .inl 2) : ∀ (n : Nat) (x1 : Int32) (x2 : Int32) (x3 : Int32), St E (rI P) (l_Ne_waysFrom_4 this n x1 x2 x3 P) Q → Go G c_Ne_waysFrom "YawnRoute$Net" 4 (some .int) false d nOb nOb Q 4 [(0, .ref (ad E this)), (1, .int x1), (2, .int x2), (3, .int x3)] [] P E := by
  intro n
  induction n with
  | zero =>
    intro x1 x2 x3 h
    rw [l_Ne_waysFrom_4] at h
    exact St.none_ h
  | succ n ih =>
    intro x1 x2 x3 h
    rw [l_Ne_waysFrom_4] at h
    refine Go.iload_n (k := 3) (i := 3) 3 (by decide +kernel) rfl rfl ?_
    refine Go.aload_n (k := 0) (i := 0) 0 (by decide +kernel) rfl rfl ?_
    refine Go.get this 0 (.int (P.1 this 0)) (by decide) (by decide) hthis (ltO hE hthis) rfl lk86 (by decide +kernel) ?_
    refine Go.icmp_ge (off := 28) 37 (by decide +kernel) (by decide) (fun c1 => ?_) (fun c1 => ?_)
    · rw [if_pos c1] at h
      refine Go.iload_n (k := 2) (i := 2) 2 (by decide +kernel) rfl rfl ?_
      exact Go.iret rfl rfl hE.2 (by decide +kernel) (St.fI h)
    · rw [if_neg c1] at h
      refine Go.iload_n (k := 2) (i := 2) 2 (by decide +kernel) rfl rfl ?_
      refine Go.aload_n (k := 0) (i := 0) 0 (by decide +kernel) rfl rfl ?_
      refine Go.iload_n (k := 1) (i := 1) 1 (by decide +kernel) rfl rfl ?_
      refine Go.iload_n (k := 3) (i := 3) 3 (by decide +kernel) rfl rfl ?_
      obtain ⟨v2, hv2, h⟩ := St.bind h
      refine Go.cV_i (P1 := P) (v := v2) (d - 1) this [.int x1, .int x3] hthis hE w_Ne_hoursOf (e_Ne_hoursOf hG hE (d - 1) (by omega) this hthis x1 x3 P ⟨_, hv2, rfl, rfl, rfl⟩) lk742 rfl (by omega) (Nat.le_of_ble_eq_true rfl) (by decide +kernel) _ rfl ?_
      refine Go.if_le (off := 9) 28 (by decide +kernel) (by decide) (fun c3 => ?_) (fun c3 => ?_)
      · rw [if_pos c3] at h
        refine Go.iconst (n := 0) (0 : Int32) (by decide +kernel) rfl ?_
        refine Go.sub [0, 1, 3] [(0, .ref (ad E this)), (1, .int x1), (3, .int x3)] rfl ?_
        exact t_j_Ne_waysFrom_29 hG hE d hd this hthis (fun z0 z1 z2 => l_Ne_waysFrom_4 this n z0 z1 z2 P) (fun z0 z1 z2 q => ih z0 z1 z2 q) x1 x3 x2 (0 : Int32) h
      · rw [if_neg c3] at h
        refine Go.iconst (n := 1) (1 : Int32) (by decide +kernel) rfl ?_
        refine Go.iload_n (k := 3) (i := 3) 3 (by decide +kernel) rfl rfl ?_
        refine Go.ishl (by decide +kernel) ?_
        refine Go.goto (off := 4) 29 (by decide +kernel) (by decide) ?_
        refine Go.sub [0, 1, 3] [(0, .ref (ad E this)), (1, .int x1), (3, .int x3)] rfl ?_
        exact t_j_Ne_waysFrom_29 hG hE d hd this hthis (fun z0 z1 z2 => l_Ne_waysFrom_4 this n z0 z1 z2 P) (fun z0 z1 z2 q => ih z0 z1 z2 q) x1 x3 x2 ((1 : Int32) <<< (x3 &&& 31)) h
theorem t_f_Ne_waysFrom {G : GX} (hG : GOK G) {E : EV} (hE : E0 E) (d : Nat) (hd : 3 ≤ d) {P : PM} {Q : QT} (this : Nat) (hthis : sh this = .inl 2) (a1 : Int32) (h : St E (rI P) (f_Ne_waysFrom this a1 P) Q) : Go G c_Ne_waysFrom "YawnRoute$Net" 4 (some .int) false d nOb nOb Q 0 [(0, .ref (ad E this)), (1, .int a1)] [] P E := by
  rw [f_Ne_waysFrom] at h
  refine Go.iconst (n := 0) (0 : Int32) (by decide +kernel) rfl ?_
  refine Go.istore_n (k := 2) (i := 2) [(2, .int (0 : Int32)), (0, .ref (ad E this)), (1, .int a1)] (by decide +kernel) rfl (by decide) rfl ?_
  refine Go.iconst (n := 0) (0 : Int32) (by decide +kernel) rfl ?_
  refine Go.istore_n (k := 3) (i := 3) [(3, .int (0 : Int32)), (2, .int (0 : Int32)), (0, .ref (ad E this)), (1, .int a1)] (by decide +kernel) rfl (by decide) rfl ?_
  refine Go.sub [2, 3, 1, 0] [(0, .ref (ad E this)), (1, .int a1), (2, .int (0 : Int32)), (3, .int (0 : Int32))] rfl ?_
  exact t_l_Ne_waysFrom_4 hG hE d hd this hthis FU a1 (0 : Int32) (0 : Int32) h
theorem e_Ne_waysFrom {G : GX} (hG : GOK G) {E : EV} (hE : E0 E) (d : Nat) (hd : 3 ≤ d) (this : Nat) (hthis : sh this = .inl 2) (a1 : Int32) (P : PM) {Q : QT} (h : St E (rI P) (f_Ne_waysFrom this a1 P) Q) : Con G y_Ne_waysFrom cw_Ne_waysFrom d nOb nOb [.ref (ad E this), .int a1] P E Q :=
  Con.of hG (by decide +kernel) rfl (fun h => by cases h) hE.2 (Nat.le_of_ble_eq_true rfl) (t_f_Ne_waysFrom hG hE d hd this hthis a1 h)
abbrev c_Sa_dullOf : ByteArray := prog_9_method_5_code
abbrev y_Sa_dullOf : MethodName := ⟨"YawnRoute$State", "dullOf", "(I)I"⟩
abbrev cw_Sa_dullOf : Cond := .code y_Sa_dullOf c_Sa_dullOf 2 (some .int)
theorem w_Sa_dullOf : VW 7 y_Sa_dullOf c_Sa_dullOf 2 (some .int) 1 := ⟨by decide, lk728, lk729, lk5, lk730, ⟨by decide, by decide, by decide +kernel⟩, by decide⟩
noncomputable def j_Sa_dullOf_19 (this : Nat) (P : PM) : Option Int32 := some (0 : Int32)
noncomputable def f_Sa_dullOf (this : Nat) (a1 : Int32) (P : PM) : Option Int32 := if a1 < (0 : Int32) then (j_Sa_dullOf_19 this P) else (if (7 : Int32) ≤ a1 then (j_Sa_dullOf_19 this P) else (ck (inb a1 7) (some (P.1 (this + 1) a1.toNatClampNeg))))
theorem t_j_Sa_dullOf_19 {G : GX} (hG : GOK G) {E : EV} (hE : E0 E) (d : Nat) (hd : 1 ≤ d) {P : PM} {Q : QT} (this : Nat) (hthis : sh this = .inl 7) (h : St E (rI P) (j_Sa_dullOf_19 this P) Q) : Go G c_Sa_dullOf "YawnRoute$State" 2 (some .int) false d nOb nOb Q 19 [] [] P E := by
  rw [j_Sa_dullOf_19] at h
  refine Go.iconst (n := 0) (0 : Int32) (by decide +kernel) rfl ?_
  exact Go.iret rfl rfl hE.2 (by decide +kernel) (St.fI h)
theorem t_f_Sa_dullOf {G : GX} (hG : GOK G) {E : EV} (hE : E0 E) (d : Nat) (hd : 1 ≤ d) {P : PM} {Q : QT} (this : Nat) (hthis : sh this = .inl 7) (a1 : Int32) (h : St E (rI P) (f_Sa_dullOf this a1 P) Q) : Go G c_Sa_dullOf "YawnRoute$State" 2 (some .int) false d nOb nOb Q 0 [(0, .ref (ad E this)), (1, .int a1)] [] P E := by
  rw [f_Sa_dullOf] at h
  refine Go.iload_n (k := 1) (i := 1) 1 (by decide +kernel) rfl rfl ?_
  refine Go.if_lt (off := 18) 19 (by decide +kernel) (by decide) (fun c1 => ?_) (fun c1 => ?_)
  · rw [if_pos c1] at h
    refine Go.sub [] [] rfl ?_
    exact t_j_Sa_dullOf_19 hG hE d hd this hthis h
  · rw [if_neg c1] at h
    refine Go.iload_n (k := 1) (i := 1) 1 (by decide +kernel) rfl rfl ?_
    refine Go.bipush (n := 7) (7 : Int32) (by decide +kernel) (by decide) ?_
    refine Go.icmp_ge (off := 12) 19 (by decide +kernel) (by decide) (fun c2 => ?_) (fun c2 => ?_)
    · rw [if_pos c2] at h
      refine Go.sub [] [] rfl ?_
      exact t_j_Sa_dullOf_19 hG hE d hd this hthis h
    · rw [if_neg c2] at h
      refine Go.aload_n (k := 0) (i := 0) 0 (by decide +kernel) rfl rfl ?_
      refine Go.get this 4 (.ref (ad E (this + 1))) (by decide) (by decide) hthis (ltO hE hthis) (vlR hE rfl (rfSa_4 hthis)) lk170 (by decide +kernel) ?_
      refine Go.iload_n (k := 1) (i := 1) 1 (by decide +kernel) rfl rfl ?_
      obtain ⟨b3, h⟩ := St.ck h
      refine Go.iaload (this + 1) 7 (shSa_4 hthis) (ltA hE (shSa_4 hthis) (by decide)) (inb_in b3) (by decide +kernel) ?_
      refine Go.goto (off := 4) 20 (by decide +kernel) (by decide) ?_
      exact Go.iret rfl rfl hE.2 (by decide +kernel) (St.fI h)
theorem e_Sa_dullOf {G : GX} (hG : GOK G) {E : EV} (hE : E0 E) (d : Nat) (hd : 1 ≤ d) (this : Nat) (hthis : sh this = .inl 7) (a1 : Int32) (P : PM) {Q : QT} (h : St E (rI P) (f_Sa_dullOf this a1 P) Q) : Con G y_Sa_dullOf cw_Sa_dullOf d nOb nOb [.ref (ad E this), .int a1] P E Q :=
  Con.of hG (by decide +kernel) rfl (fun h => by cases h) hE.2 (Nat.le_of_ble_eq_true rfl) (t_f_Sa_dullOf hG hE d hd this hthis a1 h)
abbrev c_Yr_has : ByteArray := prog_1_method_52_code
abbrev y_Yr_has : MethodName := ⟨"YawnRoute", "has", "(II)Z"⟩
abbrev cw_Yr_has : Cond := .code y_Yr_has c_Yr_has 2 (some .boolean)
theorem w_Yr_has : SW y_Yr_has c_Yr_has 2 (some .boolean) 2 := ⟨lk736, lk1, lk737, ⟨by decide, by decide, by decide +kernel⟩, by decide⟩
noncomputable def f_Yr_has (a0 : Int32) (a1 : Int32) (P : PM) : Int32 := if (((a0.toUInt32 >>> (a1.toUInt32 &&& Int32.toUInt32 31)).toInt32) &&& (1 : Int32)) = (0 : Int32) then ((0 : Int32)) else ((1 : Int32))
theorem t_f_Yr_has {G : GX} (hG : GOK G) {E : EV} (hE : E0 E) (d : Nat) (hd : 1 ≤ d) {P : PM} {Q : QT} (a0 : Int32) (a1 : Int32) (h : Q (some (.int (f_Yr_has a0 a1 P))) P E) : Go G c_Yr_has "YawnRoute" 2 (some .boolean) false d nOb nOb Q 0 [(0, .int a0), (1, .int a1)] [] P E := by
  rw [f_Yr_has] at h
  refine Go.iload_n (k := 0) (i := 0) 0 (by decide +kernel) rfl rfl ?_
  refine Go.iload_n (k := 1) (i := 1) 1 (by decide +kernel) rfl rfl ?_
  refine Go.iushr (by decide +kernel) ?_
  refine Go.iconst (n := 1) (1 : Int32) (by decide +kernel) rfl ?_
  refine Go.iand (by decide +kernel) ?_
  refine Go.if_eq (off := 7) 12 (by decide +kernel) (by decide) (fun c1 => ?_) (fun c1 => ?_)
  · rw [if_pos c1] at h
    refine Go.iconst (n := 0) (0 : Int32) (by decide +kernel) rfl ?_
    exact Go.iret rfl rfl hE.2 (by decide +kernel) h
  · rw [if_neg c1] at h
    refine Go.iconst (n := 1) (1 : Int32) (by decide +kernel) rfl ?_
    refine Go.goto (off := 4) 13 (by decide +kernel) (by decide) ?_
    exact Go.iret rfl rfl hE.2 (by decide +kernel) h
theorem e_Yr_has {G : GX} (hG : GOK G) {E : EV} (hE : E0 E) (d : Nat) (hd : 1 ≤ d) (a0 : Int32) (a1 : Int32) (P : PM) {Q : QT} (h : Q (some (.int (f_Yr_has a0 a1 P))) P E) : Con G y_Yr_has cw_Yr_has d nOb nOb [.int a0, .int a1] P E Q :=
  Con.of hG (by decide +kernel) rfl (fun h => by cases h) hE.2 (Nat.le_of_ble_eq_true rfl) (t_f_Yr_has hG hE d hd a0 a1 h)
abbrev c_Sa_isAsleep : ByteArray := prog_9_method_4_code
abbrev y_Sa_isAsleep : MethodName := ⟨"YawnRoute$State", "isAsleep", "(I)Z"⟩
abbrev cw_Sa_isAsleep : Cond := .code y_Sa_isAsleep c_Sa_isAsleep 2 (some .boolean)
theorem w_Sa_isAsleep : VW 7 y_Sa_isAsleep c_Sa_isAsleep 2 (some .boolean) 1 := ⟨by decide, lk732, lk733, lk5, lk734, ⟨by decide, by decide, by decide +kernel⟩, by decide⟩
noncomputable def j_Sa_isAsleep_25 (this : Nat) (P : PM) : Int32 := (0 : Int32)
noncomputable def f_Sa_isAsleep (this : Nat) (a1 : Int32) (P : PM) : Int32 := if a1 < (0 : Int32) then (j_Sa_isAsleep_25 this P) else (if (7 : Int32) ≤ a1 then (j_Sa_isAsleep_25 this P) else (if (f_Yr_has (P.1 this 3) a1 P) = (0 : Int32) then (j_Sa_isAsleep_25 this P) else ((1 : Int32))))
theorem t_j_Sa_isAsleep_25 {G : GX} (hG : GOK G) {E : EV} (hE : E0 E) (d : Nat) (hd : 2 ≤ d) {P : PM} {Q : QT} (this : Nat) (hthis : sh this = .inl 7) (h : Q (some (.int (j_Sa_isAsleep_25 this P))) P E) : Go G c_Sa_isAsleep "YawnRoute$State" 2 (some .boolean) false d nOb nOb Q 25 [] [] P E := by
  rw [j_Sa_isAsleep_25] at h
  refine Go.iconst (n := 0) (0 : Int32) (by decide +kernel) rfl ?_
  exact Go.iret rfl rfl hE.2 (by decide +kernel) h
theorem t_f_Sa_isAsleep {G : GX} (hG : GOK G) {E : EV} (hE : E0 E) (d : Nat) (hd : 2 ≤ d) {P : PM} {Q : QT} (this : Nat) (hthis : sh this = .inl 7) (a1 : Int32) (h : Q (some (.int (f_Sa_isAsleep this a1 P))) P E) : Go G c_Sa_isAsleep "YawnRoute$State" 2 (some .boolean) false d nOb nOb Q 0 [(0, .ref (ad E this)), (1, .int a1)] [] P E := by
  rw [f_Sa_isAsleep] at h
  refine Go.iload_n (k := 1) (i := 1) 1 (by decide +kernel) rfl rfl ?_
  refine Go.if_lt (off := 24) 25 (by decide +kernel) (by decide) (fun c1 => ?_) (fun c1 => ?_)
  · rw [if_pos c1] at h
    refine Go.sub [] [] rfl ?_
    exact t_j_Sa_isAsleep_25 hG hE d hd this hthis h
  · rw [if_neg c1] at h
    refine Go.iload_n (k := 1) (i := 1) 1 (by decide +kernel) rfl rfl ?_
    refine Go.bipush (n := 7) (7 : Int32) (by decide +kernel) (by decide) ?_
    refine Go.icmp_ge (off := 18) 25 (by decide +kernel) (by decide) (fun c2 => ?_) (fun c2 => ?_)
    · rw [if_pos c2] at h
      refine Go.sub [] [] rfl ?_
      exact t_j_Sa_isAsleep_25 hG hE d hd this hthis h
    · rw [if_neg c2] at h
      refine Go.aload_n (k := 0) (i := 0) 0 (by decide +kernel) rfl rfl ?_
      refine Go.get this 3 (.int (P.1 this 3)) (by decide) (by decide) hthis (ltO hE hthis) rfl lk165 (by decide +kernel) ?_
      refine Go.iload_n (k := 1) (i := 1) 1 (by decide +kernel) rfl rfl ?_
      refine Go.cSN_i (P1 := P) (v := (f_Yr_has (P.1 this 3) a1 P)) (d - 1) [.int (P.1 this 3), .int a1] hE w_Yr_has (e_Yr_has hG hE (d - 1) (by omega) (P.1 this 3) a1 P ⟨rfl, rfl, rfl⟩) nw9 rfl (by omega) (Nat.le_of_ble_eq_true rfl) (by decide +kernel) _ rfl ?_
      refine Go.if_eq (off := 7) 25 (by decide +kernel) (by decide) (fun c3 => ?_) (fun c3 => ?_)
      · rw [if_pos c3] at h
        refine Go.sub [] [] rfl ?_
        exact t_j_Sa_isAsleep_25 hG hE d hd this hthis h
      · rw [if_neg c3] at h
        refine Go.iconst (n := 1) (1 : Int32) (by decide +kernel) rfl ?_
        refine Go.goto (off := 4) 26 (by decide +kernel) (by decide) ?_
        exact Go.iret rfl rfl hE.2 (by decide +kernel) h
theorem e_Sa_isAsleep {G : GX} (hG : GOK G) {E : EV} (hE : E0 E) (d : Nat) (hd : 2 ≤ d) (this : Nat) (hthis : sh this = .inl 7) (a1 : Int32) (P : PM) {Q : QT} (h : Q (some (.int (f_Sa_isAsleep this a1 P))) P E) : Con G y_Sa_isAsleep cw_Sa_isAsleep d nOb nOb [.ref (ad E this), .int a1] P E Q :=
  Con.of hG (by decide +kernel) rfl (fun h => by cases h) hE.2 (Nat.le_of_ble_eq_true rfl) (t_f_Sa_isAsleep hG hE d hd this hthis a1 h)
abbrev c_Yr_station : ByteArray := prog_1_method_5_code
abbrev y_Yr_station : MethodName := ⟨"YawnRoute", "station", "(II)I"⟩
abbrev cw_Yr_station : Cond := .code y_Yr_station c_Yr_station 3 (some .int)
theorem w_Yr_station : VW 11 y_Yr_station c_Yr_station 3 (some .int) 2 := ⟨by decide, lk723, lk724, lk1, lk725, ⟨by decide, by decide, by decide +kernel⟩, by decide⟩
noncomputable def f_Yr_station (a1 : Int32) (a2 : Int32) (P : PM) : Option Int32 := if (f_Ne_isStation 14 a1 P) = (0 : Int32) then (some (-2 : Int32)) else (if a2 = (0 : Int32) then ((f_Sa_dullOf 21 a1 P).bind (fun v3 => some v3)) else (if a2 = (1 : Int32) then (ck (inb a1 7) (some (P.1 15 a1.toNatClampNeg))) else (if a2 = (2 : Int32) then (if (f_Sa_isAsleep 21 a1 P) = (0 : Int32) then (some (0 : Int32)) else (some (1 : Int32))) else (if a2 = (3 : Int32) then ((f_Ne_waysFrom 14 a1 P).bind (fun v9 => some v9)) else (if a2 = (4 : Int32) then (if (P.1 21 0) = a1 then (some (1 : Int32)) else (some (0 : Int32))) else (some (-2 : Int32)))))))
theorem t_f_Yr_station {G : GX} (hG : GOK G) {E : EV} (hE : E0 E) (d : Nat) (hd : 4 ≤ d) {P : PM} {Q : QT} (a1 : Int32) (a2 : Int32) (h : St E (rI P) (f_Yr_station a1 a2 P) Q) : Go G c_Yr_station "YawnRoute" 3 (some .int) false d nOb nOb Q 0 [(0, .ref (ad E 0)), (1, .int a1), (2, .int a2)] [] P E := by
  rw [f_Yr_station] at h
  refine Go.aload_n (k := 0) (i := 0) 0 (by decide +kernel) rfl rfl ?_
  refine Go.get 0 2 (.ref (ad E 14)) (by decide) (by decide) sh0 (ltO hE sh0) (vlR hE rfl rfl) lk392 (by decide +kernel) ?_
  refine Go.iload_n (k := 1) (i := 1) 1 (by decide +kernel) rfl rfl ?_
  refine Go.cV_i (P1 := P) (v := (f_Ne_isStation 14 a1 P)) (d - 1) 14 [.int a1] sh14 hE w_Ne_isStation (e_Ne_isStation hG hE (d - 1) (by omega) 14 sh14 a1 P ⟨rfl, rfl, rfl⟩) lk726 rfl (by omega) (Nat.le_of_ble_eq_true rfl) (by decide +kernel) _ rfl ?_
  refine Go.if_ne (off := 6) 14 (by decide +kernel) (by decide) (fun c1 => ?_) (fun c1 => ?_)
  · rw [if_neg c1] at h
    refine Go.iload_n (k := 2) (i := 2) 2 (by decide +kernel) rfl rfl ?_
    by_cases c2 : a2 = (0 : Int32)
    · rw [if_pos c2] at h
      refine Go.tabIn (dflt := 95) (lo := 0) (hi := 4) (offs := #[33, 42, 52, 69, 78]) (len := 33) (off := 33) 48 (by decide +kernel) (by rw [c2]; decide) (by rw [c2]; decide) (by rw [c2]; rfl) (by decide) ?_
      refine Go.aload_n (k := 0) (i := 0) 0 (by decide +kernel) rfl rfl ?_
      refine Go.get 0 3 (.ref (ad E 21)) (by decide) (by decide) sh0 (ltO hE sh0) (vlR hE rfl rfl) lk393 (by decide +kernel) ?_
      refine Go.iload_n (k := 1) (i := 1) 1 (by decide +kernel) rfl rfl ?_
      obtain ⟨v3, hv3, h⟩ := St.bind h
      refine Go.cV_i (P1 := P) (v := v3) (d - 1) 21 [.int a1] sh21 hE w_Sa_dullOf (e_Sa_dullOf hG hE (d - 1) (by omega) 21 sh21 a1 P ⟨_, hv3, rfl, rfl, rfl⟩) lk727 rfl (by omega) (Nat.le_of_ble_eq_true rfl) (by decide +kernel) _ rfl ?_
      exact Go.iret rfl rfl hE.2 (by decide +kernel) (St.fI h)
    · rw [if_neg c2] at h
      by_cases c4 : a2 = (1 : Int32)
      · rw [if_pos c4] at h
        refine Go.tabIn (dflt := 95) (lo := 0) (hi := 4) (offs := #[33, 42, 52, 69, 78]) (len := 33) (off := 42) 57 (by decide +kernel) (by rw [c4]; decide) (by rw [c4]; decide) (by rw [c4]; rfl) (by decide) ?_
        refine Go.aload_n (k := 0) (i := 0) 0 (by decide +kernel) rfl rfl ?_
        refine Go.get 0 2 (.ref (ad E 14)) (by decide) (by decide) sh0 (ltO hE sh0) (vlR hE rfl rfl) lk392 (by decide +kernel) ?_
        refine Go.get 14 2 (.ref (ad E 15)) (by decide) (by decide) sh14 (ltO hE sh14) (vlR hE rfl rfl) lk99 (by decide +kernel) ?_
        refine Go.iload_n (k := 1) (i := 1) 1 (by decide +kernel) rfl rfl ?_
        obtain ⟨b5, h⟩ := St.ck h
        refine Go.iaload 15 7 sh15 (ltA hE sh15 (by decide)) (inb_in b5) (by decide +kernel) ?_
        exact Go.iret rfl rfl hE.2 (by decide +kernel) (St.fI h)
      · rw [if_neg c4] at h
        by_cases c6 : a2 = (2 : Int32)
        · rw [if_pos c6] at h
          refine Go.tabIn (dflt := 95) (lo := 0) (hi := 4) (offs := #[33, 42, 52, 69, 78]) (len := 33) (off := 52) 67 (by decide +kernel) (by rw [c6]; decide) (by rw [c6]; decide) (by rw [c6]; rfl) (by decide) ?_
          refine Go.aload_n (k := 0) (i := 0) 0 (by decide +kernel) rfl rfl ?_
          refine Go.get 0 3 (.ref (ad E 21)) (by decide) (by decide) sh0 (ltO hE sh0) (vlR hE rfl rfl) lk393 (by decide +kernel) ?_
          refine Go.iload_n (k := 1) (i := 1) 1 (by decide +kernel) rfl rfl ?_
          refine Go.cV_i (P1 := P) (v := (f_Sa_isAsleep 21 a1 P)) (d - 1) 21 [.int a1] sh21 hE w_Sa_isAsleep (e_Sa_isAsleep hG hE (d - 1) (by omega) 21 sh21 a1 P ⟨rfl, rfl, rfl⟩) lk731 rfl (by omega) (Nat.le_of_ble_eq_true rfl) (by decide +kernel) _ rfl ?_
          refine Go.if_eq (off := 7) 82 (by decide +kernel) (by decide) (fun c7 => ?_) (fun c7 => ?_)
          · rw [if_pos c7] at h
            refine Go.iconst (n := 0) (0 : Int32) (by decide +kernel) rfl ?_
            exact Go.iret rfl rfl hE.2 (by decide +kernel) (St.fI h)
          · rw [if_neg c7] at h
            refine Go.iconst (n := 1) (1 : Int32) (by decide +kernel) rfl ?_
            refine Go.goto (off := 4) 83 (by decide +kernel) (by decide) ?_
            exact Go.iret rfl rfl hE.2 (by decide +kernel) (St.fI h)
        · rw [if_neg c6] at h
          by_cases c8 : a2 = (3 : Int32)
          · rw [if_pos c8] at h
            refine Go.tabIn (dflt := 95) (lo := 0) (hi := 4) (offs := #[33, 42, 52, 69, 78]) (len := 33) (off := 69) 84 (by decide +kernel) (by rw [c8]; decide) (by rw [c8]; decide) (by rw [c8]; rfl) (by decide) ?_
            refine Go.aload_n (k := 0) (i := 0) 0 (by decide +kernel) rfl rfl ?_
            refine Go.get 0 2 (.ref (ad E 14)) (by decide) (by decide) sh0 (ltO hE sh0) (vlR hE rfl rfl) lk392 (by decide +kernel) ?_
            refine Go.iload_n (k := 1) (i := 1) 1 (by decide +kernel) rfl rfl ?_
            obtain ⟨v9, hv9, h⟩ := St.bind h
            refine Go.cV_i (P1 := P) (v := v9) (d - 1) 14 [.int a1] sh14 hE w_Ne_waysFrom (e_Ne_waysFrom hG hE (d - 1) (by omega) 14 sh14 a1 P ⟨_, hv9, rfl, rfl, rfl⟩) lk738 rfl (by omega) (Nat.le_of_ble_eq_true rfl) (by decide +kernel) _ rfl ?_
            exact Go.iret rfl rfl hE.2 (by decide +kernel) (St.fI h)
          · rw [if_neg c8] at h
            by_cases c10 : a2 = (4 : Int32)
            · rw [if_pos c10] at h
              refine Go.tabIn (dflt := 95) (lo := 0) (hi := 4) (offs := #[33, 42, 52, 69, 78]) (len := 33) (off := 78) 93 (by decide +kernel) (by rw [c10]; decide) (by rw [c10]; decide) (by rw [c10]; rfl) (by decide) ?_
              refine Go.aload_n (k := 0) (i := 0) 0 (by decide +kernel) rfl rfl ?_
              refine Go.get 0 3 (.ref (ad E 21)) (by decide) (by decide) sh0 (ltO hE sh0) (vlR hE rfl rfl) lk393 (by decide +kernel) ?_
              refine Go.get 21 0 (.int (P.1 21 0)) (by decide) (by decide) sh21 (ltO hE sh21) rfl lk151 (by decide +kernel) ?_
              refine Go.iload_n (k := 1) (i := 1) 1 (by decide +kernel) rfl rfl ?_
              refine Go.icmp_ne (off := 7) 108 (by decide +kernel) (by decide) (fun c11 => ?_) (fun c11 => ?_)
              · rw [if_neg c11] at h
                refine Go.iconst (n := 0) (0 : Int32) (by decide +kernel) rfl ?_
                exact Go.iret rfl rfl hE.2 (by decide +kernel) (St.fI h)
              · rw [if_pos c11] at h
                refine Go.iconst (n := 1) (1 : Int32) (by decide +kernel) rfl ?_
                refine Go.goto (off := 4) 109 (by decide +kernel) (by decide) ?_
                exact Go.iret rfl rfl hE.2 (by decide +kernel) (St.fI h)
            · rw [if_neg c10] at h
              have qc2 := lv_neT (k := (0 : Int32)) (a := 0) c2 (by decide)
              have qc4 := lv_neT (k := (1 : Int32)) (a := 1) c4 (by decide)
              have qc6 := lv_neT (k := (2 : Int32)) (a := 2) c6 (by decide)
              have qc8 := lv_neT (k := (3 : Int32)) (a := 3) c8 (by decide)
              have qc10 := lv_neT (k := (4 : Int32)) (a := 4) c10 (by decide)
              refine Go.tabOut (dflt := 95) (lo := 0) (hi := 4) (offs := #[33, 42, 52, 69, 78]) (len := 33) 110 (by decide +kernel) (by omega) (by decide) ?_
              refine Go.bipush (n := -2) (-2 : Int32) (by decide +kernel) (by decide) ?_
              exact Go.iret rfl rfl hE.2 (by decide +kernel) (St.fI h)
  · rw [if_pos c1] at h
    refine Go.bipush (n := -2) (-2 : Int32) (by decide +kernel) (by decide) ?_
    exact Go.iret rfl rfl hE.2 (by decide +kernel) (St.fI h)
theorem e_Yr_station {G : GX} (hG : GOK G) {E : EV} (hE : E0 E) (d : Nat) (hd : 4 ≤ d) (a1 : Int32) (a2 : Int32) (P : PM) {Q : QT} (h : St E (rI P) (f_Yr_station a1 a2 P) Q) : Con G y_Yr_station cw_Yr_station d nOb nOb [.ref (ad E 0), .int a1, .int a2] P E Q :=
  Con.of hG (by decide +kernel) rfl (fun h => by cases h) hE.2 (Nat.le_of_ble_eq_true rfl) (t_f_Yr_station hG hE d hd a1 a2 h)
abbrev c_Ne_oddsOf : ByteArray := prog_4_method_6_code
abbrev y_Ne_oddsOf : MethodName := ⟨"YawnRoute$Net", "oddsOf", "(II)I"⟩
abbrev cw_Ne_oddsOf : Cond := .code y_Ne_oddsOf c_Ne_oddsOf 3 (some .int)
theorem w_Ne_oddsOf : VW 2 y_Ne_oddsOf c_Ne_oddsOf 3 (some .int) 2 := ⟨by decide, lk752, lk753, lk4, lk754, ⟨by decide, by decide, by decide +kernel⟩, by decide⟩
noncomputable def j_Ne_oddsOf_30 (this : Nat) (P : PM) : Option Int32 := some (0 : Int32)
noncomputable def f_Ne_oddsOf (this : Nat) (a1 : Int32) (a2 : Int32) (P : PM) : Option Int32 := if (f_Ne_isStation this a1 P) = (0 : Int32) then (j_Ne_oddsOf_30 this P) else (if (f_Ne_isStation this a2 P) = (0 : Int32) then (j_Ne_oddsOf_30 this P) else (ck (inb ((a1 * (7 : Int32)) + a2) 49) (some (P.1 (this + 3) ((a1 * (7 : Int32)) + a2).toNatClampNeg))))
theorem t_j_Ne_oddsOf_30 {G : GX} (hG : GOK G) {E : EV} (hE : E0 E) (d : Nat) (hd : 2 ≤ d) {P : PM} {Q : QT} (this : Nat) (hthis : sh this = .inl 2) (h : St E (rI P) (j_Ne_oddsOf_30 this P) Q) : Go G c_Ne_oddsOf "YawnRoute$Net" 3 (some .int) false d nOb nOb Q 30 [] [] P E := by
  rw [j_Ne_oddsOf_30] at h
  refine Go.iconst (n := 0) (0 : Int32) (by decide +kernel) rfl ?_
  exact Go.iret rfl rfl hE.2 (by decide +kernel) (St.fI h)
theorem t_f_Ne_oddsOf {G : GX} (hG : GOK G) {E : EV} (hE : E0 E) (d : Nat) (hd : 2 ≤ d) {P : PM} {Q : QT} (this : Nat) (hthis : sh this = .inl 2) (a1 : Int32) (a2 : Int32) (h : St E (rI P) (f_Ne_oddsOf this a1 a2 P) Q) : Go G c_Ne_oddsOf "YawnRoute$Net" 3 (some .int) false d nOb nOb Q 0 [(0, .ref (ad E this)), (1, .int a1), (2, .int a2)] [] P E := by
  rw [f_Ne_oddsOf] at h
  refine Go.aload_n (k := 0) (i := 0) 0 (by decide +kernel) rfl rfl ?_
  refine Go.iload_n (k := 1) (i := 1) 1 (by decide +kernel) rfl rfl ?_
  refine Go.cV_i (P1 := P) (v := (f_Ne_isStation this a1 P)) (d - 1) this [.int a1] hthis hE w_Ne_isStation (e_Ne_isStation hG hE (d - 1) (by omega) this hthis a1 P ⟨rfl, rfl, rfl⟩) lk636 rfl (by omega) (Nat.le_of_ble_eq_true rfl) (by decide +kernel) _ rfl ?_
  refine Go.if_eq (off := 25) 30 (by decide +kernel) (by decide) (fun c1 => ?_) (fun c1 => ?_)
  · rw [if_pos c1] at h
    refine Go.sub [] [] rfl ?_
    exact t_j_Ne_oddsOf_30 hG hE d hd this hthis h
  · rw [if_neg c1] at h
    refine Go.aload_n (k := 0) (i := 0) 0 (by decide +kernel) rfl rfl ?_
    refine Go.iload_n (k := 2) (i := 2) 2 (by decide +kernel) rfl rfl ?_
    refine Go.cV_i (P1 := P) (v := (f_Ne_isStation this a2 P)) (d - 1) this [.int a2] hthis hE w_Ne_isStation (e_Ne_isStation hG hE (d - 1) (by omega) this hthis a2 P ⟨rfl, rfl, rfl⟩) lk636 rfl (by omega) (Nat.le_of_ble_eq_true rfl) (by decide +kernel) _ rfl ?_
    refine Go.if_eq (off := 17) 30 (by decide +kernel) (by decide) (fun c2 => ?_) (fun c2 => ?_)
    · rw [if_pos c2] at h
      refine Go.sub [] [] rfl ?_
      exact t_j_Ne_oddsOf_30 hG hE d hd this hthis h
    · rw [if_neg c2] at h
      refine Go.aload_n (k := 0) (i := 0) 0 (by decide +kernel) rfl rfl ?_
      refine Go.get this 4 (.ref (ad E (this + 3))) (by decide) (by decide) hthis (ltO hE hthis) (vlR hE rfl (rfNe_4 hthis)) lk101 (by decide +kernel) ?_
      refine Go.iload_n (k := 1) (i := 1) 1 (by decide +kernel) rfl rfl ?_
      refine Go.bipush (n := 7) (7 : Int32) (by decide +kernel) (by decide) ?_
      refine Go.imul (by decide +kernel) ?_
      refine Go.iload_n (k := 2) (i := 2) 2 (by decide +kernel) rfl rfl ?_
      refine Go.iadd (by decide +kernel) ?_
      obtain ⟨b3, h⟩ := St.ck h
      refine Go.iaload (this + 3) 49 (shNe_4 hthis) (ltA hE (shNe_4 hthis) (by decide)) (inb_in b3) (by decide +kernel) ?_
      refine Go.goto (off := 4) 31 (by decide +kernel) (by decide) ?_
      exact Go.iret rfl rfl hE.2 (by decide +kernel) (St.fI h)
theorem e_Ne_oddsOf {G : GX} (hG : GOK G) {E : EV} (hE : E0 E) (d : Nat) (hd : 2 ≤ d) (this : Nat) (hthis : sh this = .inl 2) (a1 : Int32) (a2 : Int32) (P : PM) {Q : QT} (h : St E (rI P) (f_Ne_oddsOf this a1 a2 P) Q) : Con G y_Ne_oddsOf cw_Ne_oddsOf d nOb nOb [.ref (ad E this), .int a1, .int a2] P E Q :=
  Con.of hG (by decide +kernel) rfl (fun h => by cases h) hE.2 (Nat.le_of_ble_eq_true rfl) (t_f_Ne_oddsOf hG hE d hd this hthis a1 a2 h)
abbrev c_Yr_way : ByteArray := prog_1_method_6_code
abbrev y_Yr_way : MethodName := ⟨"YawnRoute", "way", "(III)I"⟩
abbrev cw_Yr_way : Cond := .code y_Yr_way c_Yr_way 4 (some .int)
theorem w_Yr_way : VW 11 y_Yr_way c_Yr_way 4 (some .int) 3 := ⟨by decide, lk747, lk748, lk1, lk749, ⟨by decide, by decide, by decide +kernel⟩, by decide⟩
noncomputable def f_Yr_way (a1 : Int32) (a2 : Int32) (a3 : Int32) (P : PM) : Option Int32 := if (f_Ne_isStation 14 a1 P) = (0 : Int32) then (some (-2 : Int32)) else (if (f_Ne_isStation 14 a2 P) = (0 : Int32) then (some (-2 : Int32)) else (if a1 = a2 then (some (-2 : Int32)) else (if a3 < (0 : Int32) then (some (-2 : Int32)) else (if a3 ≤ (1 : Int32) then ((f_Ne_hoursOf 14 a1 a2 P).bind (fun v6 => if v6 = (0 : Int32) then (some (-1 : Int32)) else (if a3 = (0 : Int32) then ((f_Ne_hoursOf 14 a1 a2 P).bind (fun v10 => some v10)) else ((f_Ne_oddsOf 14 a1 a2 P).bind (fun v9 => some v9))))) else (some (-2 : Int32))))))
theorem t_f_Yr_way {G : GX} (hG : GOK G) {E : EV} (hE : E0 E) (d : Nat) (hd : 3 ≤ d) {P : PM} {Q : QT} (a1 : Int32) (a2 : Int32) (a3 : Int32) (h : St E (rI P) (f_Yr_way a1 a2 a3 P) Q) : Go G c_Yr_way "YawnRoute" 4 (some .int) false d nOb nOb Q 0 [(0, .ref (ad E 0)), (1, .int a1), (2, .int a2), (3, .int a3)] [] P E := by
  rw [f_Yr_way] at h
  refine Go.aload_n (k := 0) (i := 0) 0 (by decide +kernel) rfl rfl ?_
  refine Go.get 0 2 (.ref (ad E 14)) (by decide) (by decide) sh0 (ltO hE sh0) (vlR hE rfl rfl) lk392 (by decide +kernel) ?_
  refine Go.iload_n (k := 1) (i := 1) 1 (by decide +kernel) rfl rfl ?_
  refine Go.cV_i (P1 := P) (v := (f_Ne_isStation 14 a1 P)) (d - 1) 14 [.int a1] sh14 hE w_Ne_isStation (e_Ne_isStation hG hE (d - 1) (by omega) 14 sh14 a1 P ⟨rfl, rfl, rfl⟩) lk726 rfl (by omega) (Nat.le_of_ble_eq_true rfl) (by decide +kernel) _ rfl ?_
  refine Go.if_eq (off := 28) 36 (by decide +kernel) (by decide) (fun c1 => ?_) (fun c1 => ?_)
  · rw [if_pos c1] at h
    refine Go.bipush (n := -2) (-2 : Int32) (by decide +kernel) (by decide) ?_
    exact Go.iret rfl rfl hE.2 (by decide +kernel) (St.fI h)
  · rw [if_neg c1] at h
    refine Go.aload_n (k := 0) (i := 0) 0 (by decide +kernel) rfl rfl ?_
    refine Go.get 0 2 (.ref (ad E 14)) (by decide) (by decide) sh0 (ltO hE sh0) (vlR hE rfl rfl) lk392 (by decide +kernel) ?_
    refine Go.iload_n (k := 2) (i := 2) 2 (by decide +kernel) rfl rfl ?_
    refine Go.cV_i (P1 := P) (v := (f_Ne_isStation 14 a2 P)) (d - 1) 14 [.int a2] sh14 hE w_Ne_isStation (e_Ne_isStation hG hE (d - 1) (by omega) 14 sh14 a2 P ⟨rfl, rfl, rfl⟩) lk726 rfl (by omega) (Nat.le_of_ble_eq_true rfl) (by decide +kernel) _ rfl ?_
    refine Go.if_eq (off := 17) 36 (by decide +kernel) (by decide) (fun c2 => ?_) (fun c2 => ?_)
    · rw [if_pos c2] at h
      refine Go.bipush (n := -2) (-2 : Int32) (by decide +kernel) (by decide) ?_
      exact Go.iret rfl rfl hE.2 (by decide +kernel) (St.fI h)
    · rw [if_neg c2] at h
      refine Go.iload_n (k := 1) (i := 1) 1 (by decide +kernel) rfl rfl ?_
      refine Go.iload_n (k := 2) (i := 2) 2 (by decide +kernel) rfl rfl ?_
      refine Go.icmp_eq (off := 12) 36 (by decide +kernel) (by decide) (fun c3 => ?_) (fun c3 => ?_)
      · rw [if_pos c3] at h
        refine Go.bipush (n := -2) (-2 : Int32) (by decide +kernel) (by decide) ?_
        exact Go.iret rfl rfl hE.2 (by decide +kernel) (St.fI h)
      · rw [if_neg c3] at h
        refine Go.iload_n (k := 3) (i := 3) 3 (by decide +kernel) rfl rfl ?_
        refine Go.if_lt (off := 8) 36 (by decide +kernel) (by decide) (fun c4 => ?_) (fun c4 => ?_)
        · rw [if_pos c4] at h
          refine Go.bipush (n := -2) (-2 : Int32) (by decide +kernel) (by decide) ?_
          exact Go.iret rfl rfl hE.2 (by decide +kernel) (St.fI h)
        · rw [if_neg c4] at h
          refine Go.iload_n (k := 3) (i := 3) 3 (by decide +kernel) rfl rfl ?_
          refine Go.iconst (n := 1) (1 : Int32) (by decide +kernel) rfl ?_
          refine Go.icmp_le (off := 6) 39 (by decide +kernel) (by decide) (fun c5 => ?_) (fun c5 => ?_)
          · rw [if_pos c5] at h
            refine Go.aload_n (k := 0) (i := 0) 0 (by decide +kernel) rfl rfl ?_
            refine Go.get 0 2 (.ref (ad E 14)) (by decide) (by decide) sh0 (ltO hE sh0) (vlR hE rfl rfl) lk392 (by decide +kernel) ?_
            refine Go.iload_n (k := 1) (i := 1) 1 (by decide +kernel) rfl rfl ?_
            refine Go.iload_n (k := 2) (i := 2) 2 (by decide +kernel) rfl rfl ?_
            obtain ⟨v6, hv6, h⟩ := St.bind h
            refine Go.cV_i (P1 := P) (v := v6) (d - 1) 14 [.int a1, .int a2] sh14 hE w_Ne_hoursOf (e_Ne_hoursOf hG hE (d - 1) (by omega) 14 sh14 a1 a2 P ⟨_, hv6, rfl, rfl, rfl⟩) lk750 rfl (by omega) (Nat.le_of_ble_eq_true rfl) (by decide +kernel) _ rfl ?_
            refine Go.if_ne (off := 5) 53 (by decide +kernel) (by decide) (fun c7 => ?_) (fun c7 => ?_)
            · rw [if_neg c7] at h
              refine Go.iload_n (k := 3) (i := 3) 3 (by decide +kernel) rfl rfl ?_
              refine Go.if_ne (off := 15) 69 (by decide +kernel) (by decide) (fun c8 => ?_) (fun c8 => ?_)
              · rw [if_neg c8] at h
                refine Go.aload_n (k := 0) (i := 0) 0 (by decide +kernel) rfl rfl ?_
                refine Go.get 0 2 (.ref (ad E 14)) (by decide) (by decide) sh0 (ltO hE sh0) (vlR hE rfl rfl) lk392 (by decide +kernel) ?_
                refine Go.iload_n (k := 1) (i := 1) 1 (by decide +kernel) rfl rfl ?_
                refine Go.iload_n (k := 2) (i := 2) 2 (by decide +kernel) rfl rfl ?_
                obtain ⟨v9, hv9, h⟩ := St.bind h
                refine Go.cV_i (P1 := P) (v := v9) (d - 1) 14 [.int a1, .int a2] sh14 hE w_Ne_oddsOf (e_Ne_oddsOf hG hE (d - 1) (by omega) 14 sh14 a1 a2 P ⟨_, hv9, rfl, rfl, rfl⟩) lk751 rfl (by omega) (Nat.le_of_ble_eq_true rfl) (by decide +kernel) _ rfl ?_
                exact Go.iret rfl rfl hE.2 (by decide +kernel) (St.fI h)
              · rw [if_pos c8] at h
                refine Go.aload_n (k := 0) (i := 0) 0 (by decide +kernel) rfl rfl ?_
                refine Go.get 0 2 (.ref (ad E 14)) (by decide) (by decide) sh0 (ltO hE sh0) (vlR hE rfl rfl) lk392 (by decide +kernel) ?_
                refine Go.iload_n (k := 1) (i := 1) 1 (by decide +kernel) rfl rfl ?_
                refine Go.iload_n (k := 2) (i := 2) 2 (by decide +kernel) rfl rfl ?_
                obtain ⟨v10, hv10, h⟩ := St.bind h
                refine Go.cV_i (P1 := P) (v := v10) (d - 1) 14 [.int a1, .int a2] sh14 hE w_Ne_hoursOf (e_Ne_hoursOf hG hE (d - 1) (by omega) 14 sh14 a1 a2 P ⟨_, hv10, rfl, rfl, rfl⟩) lk750 rfl (by omega) (Nat.le_of_ble_eq_true rfl) (by decide +kernel) _ rfl ?_
                refine Go.goto (off := 12) 78 (by decide +kernel) (by decide) ?_
                exact Go.iret rfl rfl hE.2 (by decide +kernel) (St.fI h)
            · rw [if_pos c7] at h
              refine Go.iconst (n := -1) (-1 : Int32) (by decide +kernel) rfl ?_
              exact Go.iret rfl rfl hE.2 (by decide +kernel) (St.fI h)
          · rw [if_neg c5] at h
            refine Go.bipush (n := -2) (-2 : Int32) (by decide +kernel) (by decide) ?_
            exact Go.iret rfl rfl hE.2 (by decide +kernel) (St.fI h)
theorem e_Yr_way {G : GX} (hG : GOK G) {E : EV} (hE : E0 E) (d : Nat) (hd : 3 ≤ d) (a1 : Int32) (a2 : Int32) (a3 : Int32) (P : PM) {Q : QT} (h : St E (rI P) (f_Yr_way a1 a2 a3 P) Q) : Con G y_Yr_way cw_Yr_way d nOb nOb [.ref (ad E 0), .int a1, .int a2, .int a3] P E Q :=
  Con.of hG (by decide +kernel) rfl (fun h => by cases h) hE.2 (Nat.le_of_ble_eq_true rfl) (t_f_Yr_way hG hE d hd a1 a2 a3 h)
abbrev c_Ne_isValue : ByteArray := prog_4_method_13_code
abbrev y_Ne_isValue : MethodName := ⟨"YawnRoute$Net", "isValue", "(I)Z"⟩
abbrev cw_Ne_isValue : Cond := .code y_Ne_isValue c_Ne_isValue 1 (some .boolean)
theorem w_Ne_isValue : SW y_Ne_isValue c_Ne_isValue 1 (some .boolean) 1 := ⟨lk774, lk4, lk775, ⟨by decide, by decide, by decide +kernel⟩, by decide⟩
noncomputable def j_Ne_isValue_20 (P : PM) : Int32 := (1 : Int32)
noncomputable def j_Ne_isValue_24 (P : PM) : Int32 := (0 : Int32)
noncomputable def f_Ne_isValue (a0 : Int32) (P : PM) : Int32 := if (0 : Int32) ≤ a0 then (j_Ne_isValue_20 P) else (if (-a0) < (200 : Int32) then (j_Ne_isValue_24 P) else (if (205 : Int32) < (-a0) then (j_Ne_isValue_24 P) else (j_Ne_isValue_20 P)))
theorem t_j_Ne_isValue_20 {G : GX} (hG : GOK G) {E : EV} (hE : E0 E) (d : Nat) (hd : 1 ≤ d) {P : PM} {Q : QT} (h : Q (some (.int (j_Ne_isValue_20 P))) P E) : Go G c_Ne_isValue "YawnRoute$Net" 1 (some .boolean) false d nOb nOb Q 20 [] [] P E := by
  rw [j_Ne_isValue_20] at h
  refine Go.iconst (n := 1) (1 : Int32) (by decide +kernel) rfl ?_
  refine Go.goto (off := 4) 25 (by decide +kernel) (by decide) ?_
  exact Go.iret rfl rfl hE.2 (by decide +kernel) h
theorem t_j_Ne_isValue_24 {G : GX} (hG : GOK G) {E : EV} (hE : E0 E) (d : Nat) (hd : 1 ≤ d) {P : PM} {Q : QT} (h : Q (some (.int (j_Ne_isValue_24 P))) P E) : Go G c_Ne_isValue "YawnRoute$Net" 1 (some .boolean) false d nOb nOb Q 24 [] [] P E := by
  rw [j_Ne_isValue_24] at h
  refine Go.iconst (n := 0) (0 : Int32) (by decide +kernel) rfl ?_
  exact Go.iret rfl rfl hE.2 (by decide +kernel) h
theorem t_f_Ne_isValue {G : GX} (hG : GOK G) {E : EV} (hE : E0 E) (d : Nat) (hd : 1 ≤ d) {P : PM} {Q : QT} (a0 : Int32) (h : Q (some (.int (f_Ne_isValue a0 P))) P E) : Go G c_Ne_isValue "YawnRoute$Net" 1 (some .boolean) false d nOb nOb Q 0 [(0, .int a0)] [] P E := by
  rw [f_Ne_isValue] at h
  refine Go.iload_n (k := 0) (i := 0) 0 (by decide +kernel) rfl rfl ?_
  refine Go.if_ge (off := 19) 20 (by decide +kernel) (by decide) (fun c1 => ?_) (fun c1 => ?_)
  · rw [if_pos c1] at h
    refine Go.sub [] [] rfl ?_
    exact t_j_Ne_isValue_20 hG hE d hd h
  · rw [if_neg c1] at h
    refine Go.iload_n (k := 0) (i := 0) 0 (by decide +kernel) rfl rfl ?_
    refine Go.ineg (by decide +kernel) ?_
    refine Go.sipush (n := 200) (200 : Int32) (by decide +kernel) (by decide) ?_
    refine Go.icmp_lt (off := 15) 24 (by decide +kernel) (by decide) (fun c2 => ?_) (fun c2 => ?_)
    · rw [if_pos c2] at h
      refine Go.sub [] [] rfl ?_
      exact t_j_Ne_isValue_24 hG hE d hd h
    · rw [if_neg c2] at h
      refine Go.iload_n (k := 0) (i := 0) 0 (by decide +kernel) rfl rfl ?_
      refine Go.ineg (by decide +kernel) ?_
      refine Go.sipush (n := 205) (205 : Int32) (by decide +kernel) (by decide) ?_
      refine Go.icmp_gt (off := 7) 24 (by decide +kernel) (by decide) (fun c3 => ?_) (fun c3 => ?_)
      · rw [if_pos c3] at h
        refine Go.sub [] [] rfl ?_
        exact t_j_Ne_isValue_24 hG hE d hd h
      · rw [if_neg c3] at h
        refine Go.sub [] [] rfl ?_
        exact t_j_Ne_isValue_20 hG hE d hd h
theorem e_Ne_isValue {G : GX} (hG : GOK G) {E : EV} (hE : E0 E) (d : Nat) (hd : 1 ≤ d) (a0 : Int32) (P : PM) {Q : QT} (h : Q (some (.int (f_Ne_isValue a0 P))) P E) : Con G y_Ne_isValue cw_Ne_isValue d nOb nOb [.int a0] P E Q :=
  Con.of hG (by decide +kernel) rfl (fun h => by cases h) hE.2 (Nat.le_of_ble_eq_true rfl) (t_f_Ne_isValue hG hE d hd a0 h)
