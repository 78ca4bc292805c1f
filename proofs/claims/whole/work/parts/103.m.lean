/-! methods as functions, by program: Nr_readPasses Sa_setDull Nr_readFlag Nr_readStation Nr_readTakes Ne_isStation Ne_setWay Nr_readWay Sa_clear Ta_open -/
abbrev c_Nr_readPasses : ByteArray := prog_5_method_8_code
abbrev y_Nr_readPasses : MethodName := ⟨"YawnRoute$NetReader", "readPasses", "()V"⟩
abbrev cw_Nr_readPasses : Cond := .code y_Nr_readPasses c_Nr_readPasses 1 none
theorem w_Nr_readPasses : VW 3 y_Nr_readPasses c_Nr_readPasses 1 none 0 := ⟨by decide, lk694, lp18_, lk3, lk695, ⟨by decide, by decide, by decide +kernel⟩, by decide⟩
noncomputable def f_Nr_readPasses (P : PM) : Option PM := (f_Ta_next P).bind (fun P1 => (f_Ta_skip (58 : Int32) P1).bind (fun P2 => (g_Lr_readSum (0 : Int32) (u1 P2 4 9 (P2.1 4 6))).bind (fun P3 => some (u1 P3 4 10 (P3.1 4 6)))))
theorem t_f_Nr_readPasses {G : GX} (hG : GOK G) {E : EV} (hE : E0 E) (d : Nat) (hd : 109 ≤ d) {Q : QT} (P : PM) (h : St E rP (f_Nr_readPasses P) Q) : Go G c_Nr_readPasses "YawnRoute$NetReader" 1 none false d nOb nOb Q 0 [(0, .ref (ad E 3))] [] P E := by
  rw [f_Nr_readPasses] at h
  refine Go.aload_n (k := 0) (i := 0) 0 (by decide +kernel) rfl rfl ?_
  refine Go.get 3 0 (.ref (ad E 1)) (by decide) (by decide) sh3 (ltO hE sh3) (vlR hE rfl rfl) lk195 (by decide +kernel) ?_
  obtain ⟨P1, hP1, h⟩ := St.bind h
  refine Go.cV_v (P1 := P1) (d - 1) 1 [] sh1 hE w_Ta_next (e_Ta_next hG hE (d - 1) (by omega) P ⟨_, hP1, rfl, rfl, rfl⟩) lk611 rfl (by omega) (Nat.le_of_ble_eq_true rfl) (by decide +kernel) _ rfl ?_
  refine Go.aload_n (k := 0) (i := 0) 0 (by decide +kernel) rfl rfl ?_
  refine Go.get 3 0 (.ref (ad E 1)) (by decide) (by decide) sh3 (ltO hE sh3) (vlR hE rfl rfl) lk195 (by decide +kernel) ?_
  refine Go.bipush (n := 58) (58 : Int32) (by decide +kernel) (by decide) ?_
  obtain ⟨P2, hP2, h⟩ := St.bind h
  refine Go.cV_v (P1 := P2) (d - 1) 1 [.int (58 : Int32)] sh1 hE w_Ta_skip (e_Ta_skip hG hE (d - 1) (by omega) (58 : Int32) P1 ⟨_, hP2, rfl, rfl, rfl⟩) lk602 rfl (by omega) (Nat.le_of_ble_eq_true rfl) (by decide +kernel) _ rfl ?_
  refine Go.aload_n (k := 0) (i := 0) 0 (by decide +kernel) rfl rfl ?_
  refine Go.get 3 1 (.ref (ad E 4)) (by decide) (by decide) sh3 (ltO hE sh3) (vlR hE rfl rfl) lk196 (by decide +kernel) ?_
  refine Go.aload_n (k := 0) (i := 0) 0 (by decide +kernel) rfl rfl ?_
  refine Go.get 3 1 (.ref (ad E 4)) (by decide) (by decide) sh3 (ltO hE sh3) (vlR hE rfl rfl) lk196 (by decide +kernel) ?_
  refine Go.get 4 6 (.int (P2.1 4 6)) (by decide) (by decide) sh4 (ltO hE sh4) rfl lk104 (by decide +kernel) ?_
  refine Go.put 4 9 (by decide) (by decide) sh4 (ltO hE sh4) (Or.inl rfl) rfl rfl rfl lk110 (by decide +kernel) ?_
  refine Go.aload_n (k := 0) (i := 0) 0 (by decide +kernel) rfl rfl ?_
  refine Go.get 3 3 (.ref (ad E 13)) (by decide) (by decide) sh3 (ltO hE sh3) (vlR hE rfl rfl) lk200 (by decide +kernel) ?_
  refine Go.iconst (n := 0) (0 : Int32) (by decide +kernel) rfl ?_
  obtain ⟨P3, hP3, h⟩ := St.bind h
  refine Go.cVN_v (P1 := P3) (d - 1) 13 [.int (0 : Int32)] sh13 hE w_Lr_readSum (e_Lr_readSum hG hE (d - 1) (by omega) (0 : Int32) (u1 P2 4 9 (P2.1 4 6)) ⟨_, hP3, rfl, rfl, rfl⟩) nw8 rfl (by omega) (Nat.le_of_ble_eq_true rfl) (by decide +kernel) _ rfl ?_
  refine Go.aload_n (k := 0) (i := 0) 0 (by decide +kernel) rfl rfl ?_
  refine Go.get 3 1 (.ref (ad E 4)) (by decide) (by decide) sh3 (ltO hE sh3) (vlR hE rfl rfl) lk196 (by decide +kernel) ?_
  refine Go.aload_n (k := 0) (i := 0) 0 (by decide +kernel) rfl rfl ?_
  refine Go.get 3 1 (.ref (ad E 4)) (by decide) (by decide) sh3 (ltO hE sh3) (vlR hE rfl rfl) lk196 (by decide +kernel) ?_
  refine Go.get 4 6 (.int (P3.1 4 6)) (by decide) (by decide) sh4 (ltO hE sh4) rfl lk104 (by decide +kernel) ?_
  refine Go.put 4 10 (by decide) (by decide) sh4 (ltO hE sh4) (Or.inl rfl) rfl rfl rfl lk112 (by decide +kernel) ?_
  exact Go.vret rfl hE.2 (by decide +kernel) (St.fP h)
theorem e_Nr_readPasses {G : GX} (hG : GOK G) {E : EV} (hE : E0 E) (d : Nat) (hd : 109 ≤ d) (P : PM) {Q : QT} (h : St E rP (f_Nr_readPasses P) Q) : Con G y_Nr_readPasses cw_Nr_readPasses d nOb nOb [.ref (ad E 3)] P E Q :=
  Con.of hG (by decide +kernel) rfl (fun h => by cases h) hE.2 (Nat.le_of_ble_eq_true rfl) (t_f_Nr_readPasses hG hE d hd P h)
abbrev c_Sa_setDull : ByteArray := prog_9_method_6_code
abbrev y_Sa_setDull : MethodName := ⟨"YawnRoute$State", "setDull", "(II)V"⟩
abbrev cw_Sa_setDull : Cond := .code y_Sa_setDull c_Sa_setDull 3 none
theorem w_Sa_setDull : VW 7 y_Sa_setDull c_Sa_setDull 3 none 2 := ⟨by decide, lk621, lk622, lk5, lk623, ⟨by decide, by decide, by decide +kernel⟩, by decide⟩
noncomputable def f_Sa_setDull (this : Nat) (a1 : Int32) (a2 : Int32) (P : PM) : Option PM := if a1 < (0 : Int32) then (some P) else (if (7 : Int32) ≤ a1 then (some P) else (ck (inb a1 7) (some (u1 P (this + 1) a1.toNatClampNeg a2))))
theorem t_f_Sa_setDull {G : GX} (hG : GOK G) {E : EV} (hE : E0 E) (d : Nat) (hd : 1 ≤ d) {Q : QT} (this : Nat) (hthis : sh this = .inl 7) (a1 : Int32) (a2 : Int32) (P : PM) (h : St E rP (f_Sa_setDull this a1 a2 P) Q) : Go G c_Sa_setDull "YawnRoute$State" 3 none false d nOb nOb Q 0 [(0, .ref (ad E this)), (1, .int a1), (2, .int a2)] [] P E := by
  rw [f_Sa_setDull] at h
  refine Go.iload_n (k := 1) (i := 1) 1 (by decide +kernel) rfl rfl ?_
  refine Go.if_lt (off := 16) 17 (by decide +kernel) (by decide) (fun c1 => ?_) (fun c1 => ?_)
  · rw [if_pos c1] at h
    exact Go.vret rfl hE.2 (by decide +kernel) (St.fP h)
  · rw [if_neg c1] at h
    refine Go.iload_n (k := 1) (i := 1) 1 (by decide +kernel) rfl rfl ?_
    refine Go.bipush (n := 7) (7 : Int32) (by decide +kernel) (by decide) ?_
    refine Go.icmp_ge (off := 10) 17 (by decide +kernel) (by decide) (fun c2 => ?_) (fun c2 => ?_)
    · rw [if_pos c2] at h
      exact Go.vret rfl hE.2 (by decide +kernel) (St.fP h)
    · rw [if_neg c2] at h
      refine Go.aload_n (k := 0) (i := 0) 0 (by decide +kernel) rfl rfl ?_
      refine Go.get this 4 (.ref (ad E (this + 1))) (by decide) (by decide) hthis (ltO hE hthis) (vlR hE rfl (rfSa_4 hthis)) lk170 (by decide +kernel) ?_
      refine Go.iload_n (k := 1) (i := 1) 1 (by decide +kernel) rfl rfl ?_
      refine Go.iload_n (k := 2) (i := 2) 2 (by decide +kernel) rfl rfl ?_
      obtain ⟨b3, h⟩ := St.ck h
      refine Go.iastore (this + 1) 7 (shSa_4 hthis) (ltA hE (shSa_4 hthis) (by decide)) (inb_in b3) (by decide +kernel) ?_
      exact Go.vret rfl hE.2 (by decide +kernel) (St.fP h)
theorem e_Sa_setDull {G : GX} (hG : GOK G) {E : EV} (hE : E0 E) (d : Nat) (hd : 1 ≤ d) (this : Nat) (hthis : sh this = .inl 7) (a1 : Int32) (a2 : Int32) (P : PM) {Q : QT} (h : St E rP (f_Sa_setDull this a1 a2 P) Q) : Con G y_Sa_setDull cw_Sa_setDull d nOb nOb [.ref (ad E this), .int a1, .int a2] P E Q :=
  Con.of hG (by decide +kernel) rfl (fun h => by cases h) hE.2 (Nat.le_of_ble_eq_true rfl) (t_f_Sa_setDull hG hE d hd this hthis a1 a2 P h)
abbrev c_Nr_readFlag : ByteArray := prog_5_method_4_code
abbrev y_Nr_readFlag : MethodName := ⟨"YawnRoute$NetReader", "readFlag", "(I)Z"⟩
abbrev cw_Nr_readFlag : Cond := .code y_Nr_readFlag c_Nr_readFlag 3 (some .boolean)
theorem w_Nr_readFlag : VW 3 y_Nr_readFlag c_Nr_readFlag 3 (some .boolean) 1 := ⟨by decide, lk614, lp4_, lk3, lk615, ⟨by decide, by decide, by decide +kernel⟩, by decide⟩
noncomputable def j_Nr_readFlag_29 (x1 : Int32) (x2 : Int32) (P : PM) : Option (Int32 × PM) := if x1 < (0 : Int32) then (some ((0 : Int32), P)) else (if x1 < (7 : Int32) then ((f_Ta_next P).bind (fun P3 => if x2 = (201 : Int32) then (bd2 (f_Ta_takeNumber (0 : Int32) (9 : Int32) P3) (fun v9 P10 => (f_Sa_setDull 11 x1 v9 P10).bind (fun P11 => some ((1 : Int32), P11)))) else (if x2 = (202 : Int32) then (bd2 (f_Ta_takeNumber (0 : Int32) (9 : Int32) P3) (fun v6 P7 => ck (inb x1 7) (some ((1 : Int32), (u1 P7 5 x1.toNatClampNeg v6))))) else (some ((1 : Int32), (u1 P3 11 3 ((P3.1 11 3) ||| ((1 : Int32) <<< (x1 &&& 31))))))))) else (some ((0 : Int32), P)))
noncomputable def f_Nr_readFlag (a1 : Int32) (P : PM) : Option (Int32 × PM) := lb (P.1 1 5) (fun y1 => if y1 = (201 : Int32) then (j_Nr_readFlag_29 a1 y1 P) else (if y1 = (202 : Int32) then (j_Nr_readFlag_29 a1 y1 P) else (if y1 = (211 : Int32) then (j_Nr_readFlag_29 a1 y1 P) else (some ((0 : Int32), P)))))
theorem t_j_Nr_readFlag_29 {G : GX} (hG : GOK G) {E : EV} (hE : E0 E) (d : Nat) (hd : 8 ≤ d) {Q : QT} (x1 : Int32) (x2 : Int32) (P : PM) (h : St E rIP (j_Nr_readFlag_29 x1 x2 P) Q) : Go G c_Nr_readFlag "YawnRoute$NetReader" 3 (some .boolean) false d nOb nOb Q 29 [(0, .ref (ad E 3)), (1, .int x1), (2, .int x2)] [] P E := by
  rw [j_Nr_readFlag_29] at h
  refine Go.iload_n (k := 1) (i := 1) 1 (by decide +kernel) rfl rfl ?_
  refine Go.if_lt (off := 9) 39 (by decide +kernel) (by decide) (fun c1 => ?_) (fun c1 => ?_)
  · rw [if_pos c1] at h
    refine Go.iconst (n := 0) (0 : Int32) (by decide +kernel) rfl ?_
    exact Go.iret rfl rfl hE.2 (by decide +kernel) (St.fIP h)
  · rw [if_neg c1] at h
    refine Go.iload_n (k := 1) (i := 1) 1 (by decide +kernel) rfl rfl ?_
    refine Go.bipush (n := 7) (7 : Int32) (by decide +kernel) (by decide) ?_
    refine Go.icmp_lt (off := 5) 41 (by decide +kernel) (by decide) (fun c2 => ?_) (fun c2 => ?_)
    · rw [if_pos c2] at h
      refine Go.aload_n (k := 0) (i := 0) 0 (by decide +kernel) rfl rfl ?_
      refine Go.get 3 0 (.ref (ad E 1)) (by decide) (by decide) sh3 (ltO hE sh3) (vlR hE rfl rfl) lk195 (by decide +kernel) ?_
      obtain ⟨P3, hP3, h⟩ := St.bind h
      refine Go.cV_v (P1 := P3) (d - 1) 1 [] sh1 hE w_Ta_next (e_Ta_next hG hE (d - 1) (by omega) P ⟨_, hP3, rfl, rfl, rfl⟩) lk611 rfl (by omega) (Nat.le_of_ble_eq_true rfl) (by decide +kernel) _ rfl ?_
      refine Go.iload_n (k := 2) (i := 2) 2 (by decide +kernel) rfl rfl ?_
      refine Go.sipush (n := 201) (201 : Int32) (by decide +kernel) (by decide) ?_
      refine Go.icmp_ne (off := 24) 76 (by decide +kernel) (by decide) (fun c4 => ?_) (fun c4 => ?_)
      · rw [if_neg c4] at h
        refine Go.iload_n (k := 2) (i := 2) 2 (by decide +kernel) rfl rfl ?_
        refine Go.sipush (n := 202) (202 : Int32) (by decide +kernel) (by decide) ?_
        refine Go.icmp_ne (off := 25) 105 (by decide +kernel) (by decide) (fun c5 => ?_) (fun c5 => ?_)
        · rw [if_neg c5] at h
          refine Go.aload_n (k := 0) (i := 0) 0 (by decide +kernel) rfl rfl ?_
          refine Go.get 3 2 (.ref (ad E 11)) (by decide) (by decide) sh3 (ltO hE sh3) (vlR hE rfl rfl) lk198 (by decide +kernel) ?_
          refine Go.dup (by decide +kernel) rfl ?_
          refine Go.get 11 3 (.int (P3.1 11 3)) (by decide) (by decide) sh11 (ltO hE sh11) rfl lk167 (by decide +kernel) ?_
          refine Go.iconst (n := 1) (1 : Int32) (by decide +kernel) rfl ?_
          refine Go.iload_n (k := 1) (i := 1) 1 (by decide +kernel) rfl rfl ?_
          refine Go.ishl (by decide +kernel) ?_
          refine Go.ior (by decide +kernel) ?_
          refine Go.put 11 3 (by decide) (by decide) sh11 (ltO hE sh11) (Or.inl rfl) rfl rfl rfl lk167 (by decide +kernel) ?_
          refine Go.iconst (n := 1) (1 : Int32) (by decide +kernel) rfl ?_
          exact Go.iret rfl rfl hE.2 (by decide +kernel) (St.fIP h)
        · rw [if_pos c5] at h
          refine Go.aload_n (k := 0) (i := 0) 0 (by decide +kernel) rfl rfl ?_
          refine Go.get 3 1 (.ref (ad E 4)) (by decide) (by decide) sh3 (ltO hE sh3) (vlR hE rfl rfl) lk196 (by decide +kernel) ?_
          refine Go.get 4 2 (.ref (ad E 5)) (by decide) (by decide) sh4 (ltO hE sh4) (vlR hE rfl rfl) lk98 (by decide +kernel) ?_
          refine Go.iload_n (k := 1) (i := 1) 1 (by decide +kernel) rfl rfl ?_
          refine Go.aload_n (k := 0) (i := 0) 0 (by decide +kernel) rfl rfl ?_
          refine Go.get 3 0 (.ref (ad E 1)) (by decide) (by decide) sh3 (ltO hE sh3) (vlR hE rfl rfl) lk195 (by decide +kernel) ?_
          refine Go.iconst (n := 0) (0 : Int32) (by decide +kernel) rfl ?_
          refine Go.bipush (n := 9) (9 : Int32) (by decide +kernel) (by decide) ?_
          obtain ⟨v6, P7, hv6, h⟩ := St.bd2 h
          refine Go.cV_i (P1 := P7) (v := v6) (d - 1) 1 [.int (0 : Int32), .int (9 : Int32)] sh1 hE w_Ta_takeNumber (e_Ta_takeNumber hG hE (d - 1) (by omega) (0 : Int32) (9 : Int32) P3 ⟨_, hv6, rfl, rfl, rfl⟩) lk616 rfl (by omega) (Nat.le_of_ble_eq_true rfl) (by decide +kernel) _ rfl ?_
          obtain ⟨b8, h⟩ := St.ck h
          refine Go.iastore 5 7 sh5 (ltA hE sh5 (by decide)) (inb_in b8) (by decide +kernel) ?_
          refine Go.goto (off := 18) 120 (by decide +kernel) (by decide) ?_
          refine Go.iconst (n := 1) (1 : Int32) (by decide +kernel) rfl ?_
          exact Go.iret rfl rfl hE.2 (by decide +kernel) (St.fIP h)
      · rw [if_pos c4] at h
        refine Go.aload_n (k := 0) (i := 0) 0 (by decide +kernel) rfl rfl ?_
        refine Go.get 3 2 (.ref (ad E 11)) (by decide) (by decide) sh3 (ltO hE sh3) (vlR hE rfl rfl) lk198 (by decide +kernel) ?_
        refine Go.iload_n (k := 1) (i := 1) 1 (by decide +kernel) rfl rfl ?_
        refine Go.aload_n (k := 0) (i := 0) 0 (by decide +kernel) rfl rfl ?_
        refine Go.get 3 0 (.ref (ad E 1)) (by decide) (by decide) sh3 (ltO hE sh3) (vlR hE rfl rfl) lk195 (by decide +kernel) ?_
        refine Go.iconst (n := 0) (0 : Int32) (by decide +kernel) rfl ?_
        refine Go.bipush (n := 9) (9 : Int32) (by decide +kernel) (by decide) ?_
        obtain ⟨v9, P10, hv9, h⟩ := St.bd2 h
        refine Go.cV_i (P1 := P10) (v := v9) (d - 1) 1 [.int (0 : Int32), .int (9 : Int32)] sh1 hE w_Ta_takeNumber (e_Ta_takeNumber hG hE (d - 1) (by omega) (0 : Int32) (9 : Int32) P3 ⟨_, hv9, rfl, rfl, rfl⟩) lk616 rfl (by omega) (Nat.le_of_ble_eq_true rfl) (by decide +kernel) _ rfl ?_
        obtain ⟨P11, hP11, h⟩ := St.bind h
        refine Go.cV_v (P1 := P11) (d - 1) 11 [.int x1, .int v9] sh11 hE w_Sa_setDull (e_Sa_setDull hG hE (d - 1) (by omega) 11 sh11 x1 v9 P10 ⟨_, hP11, rfl, rfl, rfl⟩) lk620 rfl (by omega) (Nat.le_of_ble_eq_true rfl) (by decide +kernel) _ rfl ?_
        refine Go.goto (off := 47) 120 (by decide +kernel) (by decide) ?_
        refine Go.iconst (n := 1) (1 : Int32) (by decide +kernel) rfl ?_
        exact Go.iret rfl rfl hE.2 (by decide +kernel) (St.fIP h)
    · rw [if_neg c2] at h
      refine Go.iconst (n := 0) (0 : Int32) (by decide +kernel) rfl ?_
      exact Go.iret rfl rfl hE.2 (by decide +kernel) (St.fIP h)
theorem t_f_Nr_readFlag {G : GX} (hG : GOK G) {E : EV} (hE : E0 E) (d : Nat) (hd : 8 ≤ d) {Q : QT} (a1 : Int32) (P : PM) (h : St E rIP (f_Nr_readFlag a1 P) Q) : Go G c_Nr_readFlag "YawnRoute$NetReader" 3 (some .boolean) false d nOb nOb Q 0 [(0, .ref (ad E 3)), (1, .int a1)] [] P E := by
  rw [f_Nr_readFlag] at h
  refine Go.aload_n (k := 0) (i := 0) 0 (by decide +kernel) rfl rfl ?_
  refine Go.get 3 0 (.ref (ad E 1)) (by decide) (by decide) sh3 (ltO hE sh3) (vlR hE rfl rfl) lk195 (by decide +kernel) ?_
  refine Go.get 1 5 (.int (P.1 1 5)) (by decide) (by decide) sh1 (ltO hE sh1) rfl lk44 (by decide +kernel) ?_
  obtain ⟨y1, hy1, h⟩ := St.lb h
  refine Go.eqi y1 hy1 ?_
  refine Go.istore_n (k := 2) (i := 2) [(2, .int y1), (0, .ref (ad E 3)), (1, .int a1)] (by decide +kernel) rfl (by decide) rfl ?_
  refine Go.iload_n (k := 2) (i := 2) 0 (by decide +kernel) rfl rfl ?_
  refine Go.sipush (n := 201) (201 : Int32) (by decide +kernel) (by decide) ?_
  refine Go.icmp_eq (off := 17) 29 (by decide +kernel) (by decide) (fun c2 => ?_) (fun c2 => ?_)
  · rw [if_pos c2] at h
    refine Go.sub [1, 2, 0] [(0, .ref (ad E 3)), (1, .int a1), (2, .int y1)] rfl ?_
    exact t_j_Nr_readFlag_29 hG hE d hd a1 y1 P h
  · rw [if_neg c2] at h
    refine Go.iload_n (k := 2) (i := 2) 0 (by decide +kernel) rfl rfl ?_
    refine Go.sipush (n := 202) (202 : Int32) (by decide +kernel) (by decide) ?_
    refine Go.icmp_eq (off := 10) 29 (by decide +kernel) (by decide) (fun c3 => ?_) (fun c3 => ?_)
    · rw [if_pos c3] at h
      refine Go.sub [1, 2, 0] [(0, .ref (ad E 3)), (1, .int a1), (2, .int y1)] rfl ?_
      exact t_j_Nr_readFlag_29 hG hE d hd a1 y1 P h
    · rw [if_neg c3] at h
      refine Go.iload_n (k := 2) (i := 2) 0 (by decide +kernel) rfl rfl ?_
      refine Go.sipush (n := 211) (211 : Int32) (by decide +kernel) (by decide) ?_
      refine Go.icmp_ne (off := 13) 39 (by decide +kernel) (by decide) (fun c4 => ?_) (fun c4 => ?_)
      · rw [if_neg c4] at h
        refine Go.iconst (n := 0) (0 : Int32) (by decide +kernel) rfl ?_
        exact Go.iret rfl rfl hE.2 (by decide +kernel) (St.fIP h)
      · rw [if_pos c4] at h
        refine Go.sub [1, 2, 0] [(0, .ref (ad E 3)), (1, .int a1), (2, .int y1)] rfl ?_
        exact t_j_Nr_readFlag_29 hG hE d hd a1 y1 P h
theorem e_Nr_readFlag {G : GX} (hG : GOK G) {E : EV} (hE : E0 E) (d : Nat) (hd : 8 ≤ d) (a1 : Int32) (P : PM) {Q : QT} (h : St E rIP (f_Nr_readFlag a1 P) Q) : Con G y_Nr_readFlag cw_Nr_readFlag d nOb nOb [.ref (ad E 3), .int a1] P E Q :=
  Con.of hG (by decide +kernel) rfl (fun h => by cases h) hE.2 (Nat.le_of_ble_eq_true rfl) (t_f_Nr_readFlag hG hE d hd a1 P h)
abbrev c_Nr_readStation : ByteArray := prog_5_method_3_code
abbrev y_Nr_readStation : MethodName := ⟨"YawnRoute$NetReader", "readStation", "()V"⟩
abbrev cw_Nr_readStation : Cond := .code y_Nr_readStation c_Nr_readStation 4 none
theorem w_Nr_readStation : VW 3 y_Nr_readStation c_Nr_readStation 4 none 0 := ⟨by decide, lk608, lp3_, lk3, lk609, ⟨by decide, by decide, by decide +kernel⟩, by decide⟩
noncomputable def l_Nr_readStation_47 : Nat → Int32 → Int32 → Int32 → PM → Option PM
  | 0, _, _, _, _ => none
  | n + 1, x1, x2, x3, P => if (900 : Int32) ≤ x3 then (some P) else (if x2 = (0 : Int32) then (some P) else (bd2 (f_Nr_readFlag x1 P) (fun v3 P4 => l_Nr_readStation_47 n x1 v3 (x3 + (1 : Int32)) P4)))
noncomputable def f_Nr_readStation (P : PM) : Option PM := lb (P.1 4 0) (fun y1 => if y1 < (7 : Int32) then ((f_Ta_next P).bind (fun P3 => l_Nr_readStation_47 FU y1 (1 : Int32) (0 : Int32) (u1 P3 4 0 ((P3.1 4 0) + (1 : Int32))))) else ((f_Ta_fail (4 : Int32) P).bind (fun P4 => some P4)))
theorem t_l_Nr_readStation_47 {G : GX} (hG : GOK G) {E : EV} (hE : E0 E) (d : Nat) (hd : 9 ≤ d) {Q : QT} : ∀ (n : Nat) (x1 : Int32) (x2 : Int32) (x3 : Int32) (P : PM), St E rP (l_Nr_readStation_47 n x1 x2 x3 P) Q → Go G c_Nr_readStation "YawnRoute$NetReader" 4 none false d nOb nOb Q 47 [(0, .ref (ad E 3)), (1, .int x1), (2, .int x2), (3, .int x3)] [] P E := by
  intro n
  induction n with
  | zero =>
    intro x1 x2 x3 P h
    rw [l_Nr_readStation_47] at h
    exact St.none_ h
  | succ n ih =>
    intro x1 x2 x3 P h
    rw [l_Nr_readStation_47] at h
    refine Go.iload_n (k := 3) (i := 3) 3 (by decide +kernel) rfl rfl ?_
    refine Go.sipush (n := 900) (900 : Int32) (by decide +kernel) (by decide) ?_
    refine Go.icmp_ge (off := 19) 70 (by decide +kernel) (by decide) (fun c1 => ?_) (fun c1 => ?_)
    · rw [if_pos c1] at h
      exact Go.vret rfl hE.2 (by decide +kernel) (St.fP h)
    · rw [if_neg c1] at h
      refine Go.iload_n (k := 2) (i := 2) 2 (by decide +kernel) rfl rfl ?_
      refine Go.if_eq (off := 15) 70 (by decide +kernel) (by decide) (fun c2 => ?_) (fun c2 => ?_)
      · rw [if_pos c2] at h
        exact Go.vret rfl hE.2 (by decide +kernel) (St.fP h)
      · rw [if_neg c2] at h
        refine Go.aload_n (k := 0) (i := 0) 0 (by decide +kernel) rfl rfl ?_
        refine Go.iload_n (k := 1) (i := 1) 1 (by decide +kernel) rfl rfl ?_
        obtain ⟨v3, P4, hv3, h⟩ := St.bd2 h
        refine Go.cV_i (P1 := P4) (v := v3) (d - 1) 3 [.int x1] sh3 hE w_Nr_readFlag (e_Nr_readFlag hG hE (d - 1) (by omega) x1 P ⟨_, hv3, rfl, rfl, rfl⟩) lk612 rfl (by omega) (Nat.le_of_ble_eq_true rfl) (by decide +kernel) _ rfl ?_
        refine Go.istore_n (k := 2) (i := 2) [(2, .int v3), (0, .ref (ad E 3)), (1, .int x1), (3, .int x3)] (by decide +kernel) rfl (by decide) rfl ?_
        refine Go.iinc (i := 3) (n := 1) 3 (x3 + (1 : Int32)) [(3, .int (x3 + (1 : Int32))), (2, .int v3), (0, .ref (ad E 3)), (1, .int x1)] (by decide +kernel) rfl rfl (by decide) rfl ?_
        refine Go.goto (off := -20) 47 (by decide +kernel) (by decide) ?_
        refine Go.sub [2, 3, 1, 0] [(0, .ref (ad E 3)), (1, .int x1), (2, .int v3), (3, .int (x3 + (1 : Int32)))] rfl ?_
        exact ih x1 v3 (x3 + (1 : Int32)) P4 h
theorem t_f_Nr_readStation {G : GX} (hG : GOK G) {E : EV} (hE : E0 E) (d : Nat) (hd : 9 ≤ d) {Q : QT} (P : PM) (h : St E rP (f_Nr_readStation P) Q) : Go G c_Nr_readStation "YawnRoute$NetReader" 4 none false d nOb nOb Q 0 [(0, .ref (ad E 3))] [] P E := by
  rw [f_Nr_readStation] at h
  refine Go.aload_n (k := 0) (i := 0) 0 (by decide +kernel) rfl rfl ?_
  refine Go.get 3 1 (.ref (ad E 4)) (by decide) (by decide) sh3 (ltO hE sh3) (vlR hE rfl rfl) lk196 (by decide +kernel) ?_
  refine Go.get 4 0 (.int (P.1 4 0)) (by decide) (by decide) sh4 (ltO hE sh4) rfl lk87 (by decide +kernel) ?_
  obtain ⟨y1, hy1, h⟩ := St.lb h
  refine Go.eqi y1 hy1 ?_
  refine Go.istore_n (k := 1) (i := 1) [(1, .int y1), (0, .ref (ad E 3))] (by decide +kernel) rfl (by decide) rfl ?_
  refine Go.iload_n (k := 1) (i := 1) 0 (by decide +kernel) rfl rfl ?_
  refine Go.bipush (n := 7) (7 : Int32) (by decide +kernel) (by decide) ?_
  refine Go.icmp_lt (off := 12) 23 (by decide +kernel) (by decide) (fun c2 => ?_) (fun c2 => ?_)
  · rw [if_pos c2] at h
    refine Go.aload_n (k := 0) (i := 0) 1 (by decide +kernel) rfl rfl ?_
    refine Go.get 3 0 (.ref (ad E 1)) (by decide) (by decide) sh3 (ltO hE sh3) (vlR hE rfl rfl) lk195 (by decide +kernel) ?_
    obtain ⟨P3, hP3, h⟩ := St.bind h
    refine Go.cV_v (P1 := P3) (d - 1) 1 [] sh1 hE w_Ta_next (e_Ta_next hG hE (d - 1) (by omega) P ⟨_, hP3, rfl, rfl, rfl⟩) lk611 rfl (by omega) (Nat.le_of_ble_eq_true rfl) (by decide +kernel) _ rfl ?_
    refine Go.aload_n (k := 0) (i := 0) 1 (by decide +kernel) rfl rfl ?_
    refine Go.get 3 1 (.ref (ad E 4)) (by decide) (by decide) sh3 (ltO hE sh3) (vlR hE rfl rfl) lk196 (by decide +kernel) ?_
    refine Go.dup (by decide +kernel) rfl ?_
    refine Go.get 4 0 (.int (P3.1 4 0)) (by decide) (by decide) sh4 (ltO hE sh4) rfl lk87 (by decide +kernel) ?_
    refine Go.iconst (n := 1) (1 : Int32) (by decide +kernel) rfl ?_
    refine Go.iadd (by decide +kernel) ?_
    refine Go.put 4 0 (by decide) (by decide) sh4 (ltO hE sh4) (Or.inl rfl) rfl rfl rfl lk87 (by decide +kernel) ?_
    refine Go.iconst (n := 1) (1 : Int32) (by decide +kernel) rfl ?_
    refine Go.istore_n (k := 2) (i := 2) [(2, .int (1 : Int32)), (1, .int y1), (0, .ref (ad E 3))] (by decide +kernel) rfl (by decide) rfl ?_
    refine Go.iconst (n := 0) (0 : Int32) (by decide +kernel) rfl ?_
    refine Go.istore_n (k := 3) (i := 3) [(3, .int (0 : Int32)), (2, .int (1 : Int32)), (1, .int y1), (0, .ref (ad E 3))] (by decide +kernel) rfl (by decide) rfl ?_
    refine Go.sub [3, 2, 1, 0] [(0, .ref (ad E 3)), (1, .int y1), (2, .int (1 : Int32)), (3, .int (0 : Int32))] rfl ?_
    exact t_l_Nr_readStation_47 hG hE d hd FU y1 (1 : Int32) (0 : Int32) (u1 P3 4 0 ((P3.1 4 0) + (1 : Int32))) h
  · rw [if_neg c2] at h
    refine Go.aload_n (k := 0) (i := 0) 1 (by decide +kernel) rfl rfl ?_
    refine Go.get 3 0 (.ref (ad E 1)) (by decide) (by decide) sh3 (ltO hE sh3) (vlR hE rfl rfl) lk195 (by decide +kernel) ?_
    refine Go.iconst (n := 4) (4 : Int32) (by decide +kernel) rfl ?_
    obtain ⟨P4, hP4, h⟩ := St.bind h
    refine Go.cV_v (P1 := P4) (d - 1) 1 [.int (4 : Int32)] sh1 hE w_Ta_fail (e_Ta_fail hG hE (d - 1) (by omega) (4 : Int32) P ⟨_, hP4, rfl, rfl, rfl⟩) lk610 rfl (by omega) (Nat.le_of_ble_eq_true rfl) (by decide +kernel) _ rfl ?_
    exact Go.vret rfl hE.2 (by decide +kernel) (St.fP h)
theorem e_Nr_readStation {G : GX} (hG : GOK G) {E : EV} (hE : E0 E) (d : Nat) (hd : 9 ≤ d) (P : PM) {Q : QT} (h : St E rP (f_Nr_readStation P) Q) : Con G y_Nr_readStation cw_Nr_readStation d nOb nOb [.ref (ad E 3)] P E Q :=
  Con.of hG (by decide +kernel) rfl (fun h => by cases h) hE.2 (Nat.le_of_ble_eq_true rfl) (t_f_Nr_readStation hG hE d hd P h)
abbrev c_Nr_readTakes : ByteArray := prog_5_method_7_code
abbrev y_Nr_readTakes : MethodName := ⟨"YawnRoute$NetReader", "readTakes", "()V"⟩
abbrev cw_Nr_readTakes : Cond := .code y_Nr_readTakes c_Nr_readTakes 1 none
theorem w_Nr_readTakes : VW 3 y_Nr_readTakes c_Nr_readTakes 1 none 0 := ⟨by decide, lk646, lp8_, lk3, lk647, ⟨by decide, by decide, by decide +kernel⟩, by decide⟩
noncomputable def f_Nr_readTakes (P : PM) : Option PM := (f_Ta_next P).bind (fun P1 => (f_Ta_skip (58 : Int32) P1).bind (fun P2 => (g_Lr_readTruth (0 : Int32) (u1 P2 4 7 (P2.1 4 6))).bind (fun P3 => some (u1 P3 4 8 (P3.1 4 6)))))
theorem t_f_Nr_readTakes {G : GX} (hG : GOK G) {E : EV} (hE : E0 E) (d : Nat) (hd : 109 ≤ d) {Q : QT} (P : PM) (h : St E rP (f_Nr_readTakes P) Q) : Go G c_Nr_readTakes "YawnRoute$NetReader" 1 none false d nOb nOb Q 0 [(0, .ref (ad E 3))] [] P E := by
  rw [f_Nr_readTakes] at h
  refine Go.aload_n (k := 0) (i := 0) 0 (by decide +kernel) rfl rfl ?_
  refine Go.get 3 0 (.ref (ad E 1)) (by decide) (by decide) sh3 (ltO hE sh3) (vlR hE rfl rfl) lk195 (by decide +kernel) ?_
  obtain ⟨P1, hP1, h⟩ := St.bind h
  refine Go.cV_v (P1 := P1) (d - 1) 1 [] sh1 hE w_Ta_next (e_Ta_next hG hE (d - 1) (by omega) P ⟨_, hP1, rfl, rfl, rfl⟩) lk611 rfl (by omega) (Nat.le_of_ble_eq_true rfl) (by decide +kernel) _ rfl ?_
  refine Go.aload_n (k := 0) (i := 0) 0 (by decide +kernel) rfl rfl ?_
  refine Go.get 3 0 (.ref (ad E 1)) (by decide) (by decide) sh3 (ltO hE sh3) (vlR hE rfl rfl) lk195 (by decide +kernel) ?_
  refine Go.bipush (n := 58) (58 : Int32) (by decide +kernel) (by decide) ?_
  obtain ⟨P2, hP2, h⟩ := St.bind h
  refine Go.cV_v (P1 := P2) (d - 1) 1 [.int (58 : Int32)] sh1 hE w_Ta_skip (e_Ta_skip hG hE (d - 1) (by omega) (58 : Int32) P1 ⟨_, hP2, rfl, rfl, rfl⟩) lk602 rfl (by omega) (Nat.le_of_ble_eq_true rfl) (by decide +kernel) _ rfl ?_
  refine Go.aload_n (k := 0) (i := 0) 0 (by decide +kernel) rfl rfl ?_
  refine Go.get 3 1 (.ref (ad E 4)) (by decide) (by decide) sh3 (ltO hE sh3) (vlR hE rfl rfl) lk196 (by decide +kernel) ?_
  refine Go.aload_n (k := 0) (i := 0) 0 (by decide +kernel) rfl rfl ?_
  refine Go.get 3 1 (.ref (ad E 4)) (by decide) (by decide) sh3 (ltO hE sh3) (vlR hE rfl rfl) lk196 (by decide +kernel) ?_
  refine Go.get 4 6 (.int (P2.1 4 6)) (by decide) (by decide) sh4 (ltO hE sh4) rfl lk104 (by decide +kernel) ?_
  refine Go.put 4 7 (by decide) (by decide) sh4 (ltO hE sh4) (Or.inl rfl) rfl rfl rfl lk106 (by decide +kernel) ?_
  refine Go.aload_n (k := 0) (i := 0) 0 (by decide +kernel) rfl rfl ?_
  refine Go.get 3 3 (.ref (ad E 13)) (by decide) (by decide) sh3 (ltO hE sh3) (vlR hE rfl rfl) lk200 (by decide +kernel) ?_
  refine Go.iconst (n := 0) (0 : Int32) (by decide +kernel) rfl ?_
  obtain ⟨P3, hP3, h⟩ := St.bind h
  refine Go.cVN_v (P1 := P3) (d - 1) 13 [.int (0 : Int32)] sh13 hE w_Lr_readTruth (e_Lr_readTruth hG hE (d - 1) (by omega) (0 : Int32) (u1 P2 4 7 (P2.1 4 6)) ⟨_, hP3, rfl, rfl, rfl⟩) nw7 rfl (by omega) (Nat.le_of_ble_eq_true rfl) (by decide +kernel) _ rfl ?_
  refine Go.aload_n (k := 0) (i := 0) 0 (by decide +kernel) rfl rfl ?_
  refine Go.get 3 1 (.ref (ad E 4)) (by decide) (by decide) sh3 (ltO hE sh3) (vlR hE rfl rfl) lk196 (by decide +kernel) ?_
  refine Go.aload_n (k := 0) (i := 0) 0 (by decide +kernel) rfl rfl ?_
  refine Go.get 3 1 (.ref (ad E 4)) (by decide) (by decide) sh3 (ltO hE sh3) (vlR hE rfl rfl) lk196 (by decide +kernel) ?_
  refine Go.get 4 6 (.int (P3.1 4 6)) (by decide) (by decide) sh4 (ltO hE sh4) rfl lk104 (by decide +kernel) ?_
  refine Go.put 4 8 (by decide) (by decide) sh4 (ltO hE sh4) (Or.inl rfl) rfl rfl rfl lk108 (by decide +kernel) ?_
  exact Go.vret rfl hE.2 (by decide +kernel) (St.fP h)
theorem e_Nr_readTakes {G : GX} (hG : GOK G) {E : EV} (hE : E0 E) (d : Nat) (hd : 109 ≤ d) (P : PM) {Q : QT} (h : St E rP (f_Nr_readTakes P) Q) : Con G y_Nr_readTakes cw_Nr_readTakes d nOb nOb [.ref (ad E 3)] P E Q :=
  Con.of hG (by decide +kernel) rfl (fun h => by cases h) hE.2 (Nat.le_of_ble_eq_true rfl) (t_f_Nr_readTakes hG hE d hd P h)
abbrev c_Ne_isStation : ByteArray := prog_4_method_4_code
abbrev y_Ne_isStation : MethodName := ⟨"YawnRoute$Net", "isStation", "(I)Z"⟩
abbrev cw_Ne_isStation : Cond := .code y_Ne_isStation c_Ne_isStation 2 (some .boolean)
theorem w_Ne_isStation : VW 2 y_Ne_isStation c_Ne_isStation 2 (some .boolean) 1 := ⟨by decide, lk637, lk638, lk4, lk639, ⟨by decide, by decide, by decide +kernel⟩, by decide⟩
noncomputable def j_Ne_isStation_16 (this : Nat) (P : PM) : Int32 := (0 : Int32)
noncomputable def f_Ne_isStation (this : Nat) (a1 : Int32) (P : PM) : Int32 := if a1 < (0 : Int32) then (j_Ne_isStation_16 this P) else (if (P.1 this 0) ≤ a1 then (j_Ne_isStation_16 this P) else ((1 : Int32)))
theorem t_j_Ne_isStation_16 {G : GX} (hG : GOK G) {E : EV} (hE : E0 E) (d : Nat) (hd : 1 ≤ d) {P : PM} {Q : QT} (this : Nat) (hthis : sh this = .inl 2) (h : Q (some (.int (j_Ne_isStation_16 this P))) P E) : Go G c_Ne_isStation "YawnRoute$Net" 2 (some .boolean) false d nOb nOb Q 16 [] [] P E := by
  rw [j_Ne_isStation_16] at h
  refine Go.iconst (n := 0) (0 : Int32) (by decide +kernel) rfl ?_
  exact Go.iret rfl rfl hE.2 (by decide +kernel) h
theorem t_f_Ne_isStation {G : GX} (hG : GOK G) {E : EV} (hE : E0 E) (d : Nat) (hd : 1 ≤ d) {P : PM} {Q : QT} (this : Nat) (hthis : sh this = .inl 2) (a1 : Int32) (h : Q (some (.int (f_Ne_isStation this a1 P))) P E) : Go G c_Ne_isStation "YawnRoute$Net" 2 (some .boolean) false d nOb nOb Q 0 [(0, .ref (ad E this)), (1, .int a1)] [] P E := by
  rw [f_Ne_isStation] at h
  refine Go.iload_n (k := 1) (i := 1) 1 (by decide +kernel) rfl rfl ?_
  refine Go.if_lt (off := 15) 16 (by decide +kernel) (by decide) (fun c1 => ?_) (fun c1 => ?_)
  · rw [if_pos c1] at h
    refine Go.sub [] [] rfl ?_
    exact t_j_Ne_isStation_16 hG hE d hd this hthis h
  · rw [if_neg c1] at h
    refine Go.iload_n (k := 1) (i := 1) 1 (by decide +kernel) rfl rfl ?_
    refine Go.aload_n (k := 0) (i := 0) 0 (by decide +kernel) rfl rfl ?_
    refine Go.get this 0 (.int (P.1 this 0)) (by decide) (by decide) hthis (ltO hE hthis) rfl lk86 (by decide +kernel) ?_
    refine Go.icmp_ge (off := 7) 16 (by decide +kernel) (by decide) (fun c2 => ?_) (fun c2 => ?_)
    · rw [if_pos c2] at h
      refine Go.sub [] [] rfl ?_
      exact t_j_Ne_isStation_16 hG hE d hd this hthis h
    · rw [if_neg c2] at h
      refine Go.iconst (n := 1) (1 : Int32) (by decide +kernel) rfl ?_
      refine Go.goto (off := 4) 17 (by decide +kernel) (by decide) ?_
      exact Go.iret rfl rfl hE.2 (by decide +kernel) h
theorem e_Ne_isStation {G : GX} (hG : GOK G) {E : EV} (hE : E0 E) (d : Nat) (hd : 1 ≤ d) (this : Nat) (hthis : sh this = .inl 2) (a1 : Int32) (P : PM) {Q : QT} (h : Q (some (.int (f_Ne_isStation this a1 P))) P E) : Con G y_Ne_isStation cw_Ne_isStation d nOb nOb [.ref (ad E this), .int a1] P E Q :=
  Con.of hG (by decide +kernel) rfl (fun h => by cases h) hE.2 (Nat.le_of_ble_eq_true rfl) (t_f_Ne_isStation hG hE d hd this hthis a1 h)
abbrev c_Ne_setWay : ByteArray := prog_4_method_7_code
abbrev y_Ne_setWay : MethodName := ⟨"YawnRoute$Net", "setWay", "(IIII)V"⟩
abbrev cw_Ne_setWay : Cond := .code y_Ne_setWay c_Ne_setWay 5 none
theorem w_Ne_setWay : VW 2 y_Ne_setWay c_Ne_setWay 5 none 4 := ⟨by decide, lk633, lk634, lk4, lk635, ⟨by decide, by decide, by decide +kernel⟩, by decide⟩
noncomputable def f_Ne_setWay (this : Nat) (a1 : Int32) (a2 : Int32) (a3 : Int32) (a4 : Int32) (P : PM) : Option PM := if (f_Ne_isStation this a1 P) = (0 : Int32) then (some P) else (if (f_Ne_isStation this a2 P) = (0 : Int32) then (some P) else (ck (inb ((a1 * (7 : Int32)) + a2) 49) (ck (inb ((a1 * (7 : Int32)) + a2) 49) (some (u1 (u1 P (this + 2) ((a1 * (7 : Int32)) + a2).toNatClampNeg a3) (this + 3) ((a1 * (7 : Int32)) + a2).toNatClampNeg a4)))))
theorem t_f_Ne_setWay {G : GX} (hG : GOK G) {E : EV} (hE : E0 E) (d : Nat) (hd : 2 ≤ d) {Q : QT} (this : Nat) (hthis : sh this = .inl 2) (a1 : Int32) (a2 : Int32) (a3 : Int32) (a4 : Int32) (P : PM) (h : St E rP (f_Ne_setWay this a1 a2 a3 a4 P) Q) : Go G c_Ne_setWay "YawnRoute$Net" 5 none false d nOb nOb Q 0 [(0, .ref (ad E this)), (1, .int a1), (2, .int a2), (3, .int a3), (4, .int a4)] [] P E := by
  rw [f_Ne_setWay] at h
  refine Go.aload_n (k := 0) (i := 0) 0 (by decide +kernel) rfl rfl ?_
  refine Go.iload_n (k := 1) (i := 1) 1 (by decide +kernel) rfl rfl ?_
  refine Go.cV_i (P1 := P) (v := (f_Ne_isStation this a1 P)) (d - 1) this [.int a1] hthis hE w_Ne_isStation (e_Ne_isStation hG hE (d - 1) (by omega) this hthis a1 P ⟨rfl, rfl, rfl⟩) lk636 rfl (by omega) (Nat.le_of_ble_eq_true rfl) (by decide +kernel) _ rfl ?_
  refine Go.if_eq (off := 36) 41 (by decide +kernel) (by decide) (fun c1 => ?_) (fun c1 => ?_)
  · rw [if_pos c1] at h
    exact Go.vret rfl hE.2 (by decide +kernel) (St.fP h)
  · rw [if_neg c1] at h
    refine Go.aload_n (k := 0) (i := 0) 0 (by decide +kernel) rfl rfl ?_
    refine Go.iload_n (k := 2) (i := 2) 2 (by decide +kernel) rfl rfl ?_
    refine Go.cV_i (P1 := P) (v := (f_Ne_isStation this a2 P)) (d - 1) this [.int a2] hthis hE w_Ne_isStation (e_Ne_isStation hG hE (d - 1) (by omega) this hthis a2 P ⟨rfl, rfl, rfl⟩) lk636 rfl (by omega) (Nat.le_of_ble_eq_true rfl) (by decide +kernel) _ rfl ?_
    refine Go.if_eq (off := 28) 41 (by decide +kernel) (by decide) (fun c2 => ?_) (fun c2 => ?_)
    · rw [if_pos c2] at h
      exact Go.vret rfl hE.2 (by decide +kernel) (St.fP h)
    · rw [if_neg c2] at h
      refine Go.aload_n (k := 0) (i := 0) 0 (by decide +kernel) rfl rfl ?_
      refine Go.get this 3 (.ref (ad E (this + 2))) (by decide) (by decide) hthis (ltO hE hthis) (vlR hE rfl (rfNe_3 hthis)) lk100 (by decide +kernel) ?_
      refine Go.iload_n (k := 1) (i := 1) 1 (by decide +kernel) rfl rfl ?_
      refine Go.bipush (n := 7) (7 : Int32) (by decide +kernel) (by decide) ?_
      refine Go.imul (by decide +kernel) ?_
      refine Go.iload_n (k := 2) (i := 2) 2 (by decide +kernel) rfl rfl ?_
      refine Go.iadd (by decide +kernel) ?_
      refine Go.iload_n (k := 3) (i := 3) 3 (by decide +kernel) rfl rfl ?_
      obtain ⟨b3, h⟩ := St.ck h
      refine Go.iastore (this + 2) 49 (shNe_3 hthis) (ltA hE (shNe_3 hthis) (by decide)) (inb_in b3) (by decide +kernel) ?_
      refine Go.aload_n (k := 0) (i := 0) 0 (by decide +kernel) rfl rfl ?_
      refine Go.get this 4 (.ref (ad E (this + 3))) (by decide) (by decide) hthis (ltO hE hthis) (vlR hE rfl (rfNe_4 hthis)) lk101 (by decide +kernel) ?_
      refine Go.iload_n (k := 1) (i := 1) 1 (by decide +kernel) rfl rfl ?_
      refine Go.bipush (n := 7) (7 : Int32) (by decide +kernel) (by decide) ?_
      refine Go.imul (by decide +kernel) ?_
      refine Go.iload_n (k := 2) (i := 2) 2 (by decide +kernel) rfl rfl ?_
      refine Go.iadd (by decide +kernel) ?_
      refine Go.iload (i := 4) 4 (by decide +kernel) rfl ?_
      obtain ⟨b4, h⟩ := St.ck h
      refine Go.iastore (this + 3) 49 (shNe_4 hthis) (ltA hE (shNe_4 hthis) (by decide)) (inb_in b4) (by decide +kernel) ?_
      exact Go.vret rfl hE.2 (by decide +kernel) (St.fP h)
theorem e_Ne_setWay {G : GX} (hG : GOK G) {E : EV} (hE : E0 E) (d : Nat) (hd : 2 ≤ d) (this : Nat) (hthis : sh this = .inl 2) (a1 : Int32) (a2 : Int32) (a3 : Int32) (a4 : Int32) (P : PM) {Q : QT} (h : St E rP (f_Ne_setWay this a1 a2 a3 a4 P) Q) : Con G y_Ne_setWay cw_Ne_setWay d nOb nOb [.ref (ad E this), .int a1, .int a2, .int a3, .int a4] P E Q :=
  Con.of hG (by decide +kernel) rfl (fun h => by cases h) hE.2 (Nat.le_of_ble_eq_true rfl) (t_f_Ne_setWay hG hE d hd this hthis a1 a2 a3 a4 P h)
abbrev c_Nr_readWay : ByteArray := prog_5_method_5_code
abbrev y_Nr_readWay : MethodName := ⟨"YawnRoute$NetReader", "readWay", "()V"⟩
abbrev cw_Nr_readWay : Cond := .code y_Nr_readWay c_Nr_readWay 7 none
theorem w_Nr_readWay : VW 3 y_Nr_readWay c_Nr_readWay 7 none 0 := ⟨by decide, lk626, lp5_, lk3, lk627, ⟨by decide, by decide, by decide +kernel⟩, by decide⟩
noncomputable def j_Nr_readWay_119 (k27 : Int32 → Int32 → Int32 → Int32 → Int32 → PM → Option PM) (x1 : Int32) (x2 : Int32) (x3 : Int32) (x4 : Int32) (x5 : Int32) (P : PM) : Option PM := k27 x1 x2 x3 x4 (x5 + (1 : Int32)) P
noncomputable def j_Nr_readWay_79 (k27 : Int32 → Int32 → Int32 → Int32 → Int32 → PM → Option PM) (x1 : Int32) (x2 : Int32) (x3 : Int32) (x4 : Int32) (x5 : Int32) (s0 : Int32) (P : PM) : Option PM := (f_Ta_next P).bind (fun P1 => if s0 = (0 : Int32) then (bd2 (f_Ta_takeNumber (0 : Int32) (10 : Int32) P1) (fun v3 P4 => j_Nr_readWay_119 k27 x1 x2 x3 v3 x5 P4)) else (bd2 (f_Ta_takeNumber (1 : Int32) (9 : Int32) P1) (fun v5 P6 => j_Nr_readWay_119 k27 x1 x2 v5 x4 x5 P6)))
noncomputable def j_Nr_readWay_61 (k27 : Int32 → Int32 → Int32 → Int32 → Int32 → PM → Option PM) (x1 : Int32) (x2 : Int32) (x3 : Int32) (x4 : Int32) (x5 : Int32) (P : PM) : Option PM := if (P.1 1 5) = (205 : Int32) then (j_Nr_readWay_79 k27 x1 x2 x3 x4 x5 (1 : Int32) P) else (j_Nr_readWay_79 k27 x1 x2 x3 x4 x5 (0 : Int32) P)
noncomputable def j_Nr_readWay_125 (x1 : Int32) (x2 : Int32) (x3 : Int32) (x4 : Int32) (P : PM) : Option PM := (f_Ne_setWay 4 x1 x2 x3 x4 P).bind (fun P1 => some P1)
noncomputable def l_Nr_readWay_27 : Nat → Int32 → Int32 → Int32 → Int32 → Int32 → PM → Option PM
  | 0, _, _, _, _, _, _ => none
  | n + 1, x1, x2, x3, x4, x5, P => if (900 : Int32) ≤ x5 then (j_Nr_readWay_125 x1 x2 x3 x4 P) else (if (P.1 1 5) = (205 : Int32) then (j_Nr_readWay_61 (fun z0 z1 z2 z3 z4 Pz => l_Nr_readWay_27 n z0 z1 z2 z3 z4 Pz) x1 x2 x3 x4 x5 P) else (if (P.1 1 5) = (212 : Int32) then (j_Nr_readWay_61 (fun z0 z1 z2 z3 z4 Pz => l_Nr_readWay_27 n z0 z1 z2 z3 z4 Pz) x1 x2 x3 x4 x5 P) else (j_Nr_readWay_125 x1 x2 x3 x4 P)))
noncomputable def f_Nr_readWay (P : PM) : Option PM := (f_Ta_next P).bind (fun P1 => bd2 (f_Nr_readTold (-1 : Int32) P1) (fun v2 P3 => bd2 (f_Nr_readTold v2 P3) (fun v4 P5 => l_Nr_readWay_27 FU v2 v4 (1 : Int32) (1 : Int32) (0 : Int32) P5)))
theorem t_j_Nr_readWay_119 {G : GX} (hG : GOK G) {E : EV} (hE : E0 E) (d : Nat) (hd : 9 ≤ d) {Q : QT} (k27 : Int32 → Int32 → Int32 → Int32 → Int32 → PM → Option PM) (hk27 : ∀ (x1 : Int32) (x2 : Int32) (x3 : Int32) (x4 : Int32) (x5 : Int32) (P : PM), St E rP (k27 x1 x2 x3 x4 x5 P) Q → Go G c_Nr_readWay "YawnRoute$NetReader" 7 none false d nOb nOb Q 27 [(0, .ref (ad E 3)), (1, .int x1), (2, .int x2), (3, .int x3), (4, .int x4), (5, .int x5)] [] P E) (x1 : Int32) (x2 : Int32) (x3 : Int32) (x4 : Int32) (x5 : Int32) (P : PM) (h : St E rP (j_Nr_readWay_119 k27 x1 x2 x3 x4 x5 P) Q) : Go G c_Nr_readWay "YawnRoute$NetReader" 7 none false d nOb nOb Q 119 [(0, .ref (ad E 3)), (1, .int x1), (2, .int x2), (3, .int x3), (4, .int x4), (5, .int x5)] [] P E := by
  rw [j_Nr_readWay_119] at h
  refine Go.iinc (i := 5) (n := 1) 5 (x5 + (1 : Int32)) [(5, .int (x5 + (1 : Int32))), (0, .ref (ad E 3)), (1, .int x1), (2, .int x2), (3, .int x3), (4, .int x4)] (by decide +kernel) rfl rfl (by decide) rfl ?_
  refine Go.goto (off := -95) 27 (by decide +kernel) (by decide) ?_
  refine Go.sub [1, 2, 3, 4, 5, 0] [(0, .ref (ad E 3)), (1, .int x1), (2, .int x2), (3, .int x3), (4, .int x4), (5, .int (x5 + (1 : Int32)))] rfl ?_
  exact hk27 x1 x2 x3 x4 (x5 + (1 : Int32)) P h
theorem t_j_Nr_readWay_79 {G : GX} (hG : GOK G) {E : EV} (hE : E0 E) (d : Nat) (hd : 9 ≤ d) {Q : QT} (k27 : Int32 → Int32 → Int32 → Int32 → Int32 → PM → Option PM) (hk27 : ∀ (x1 : Int32) (x2 : Int32) (x3 : Int32) (x4 : Int32) (x5 : Int32) (P : PM), St E rP (k27 x1 x2 x3 x4 x5 P) Q → Go G c_Nr_readWay "YawnRoute$NetReader" 7 none false d nOb nOb Q 27 [(0, .ref (ad E 3)), (1, .int x1), (2, .int x2), (3, .int x3), (4, .int x4), (5, .int x5)] [] P E) (x1 : Int32) (x2 : Int32) (x3 : Int32) (x4 : Int32) (x5 : Int32) (s0 : Int32) (P : PM) (h : St E rP (j_Nr_readWay_79 k27 x1 x2 x3 x4 x5 s0 P) Q) : Go G c_Nr_readWay "YawnRoute$NetReader" 7 none false d nOb nOb Q 79 [(0, .ref (ad E 3)), (1, .int x1), (2, .int x2), (3, .int x3), (4, .int x4), (5, .int x5)] [.int s0] P E := by
  rw [j_Nr_readWay_79] at h
  refine Go.istore (i := 6) [(6, .int s0), (0, .ref (ad E 3)), (1, .int x1), (2, .int x2), (3, .int x3), (4, .int x4), (5, .int x5)] (by decide +kernel) (by decide) rfl ?_
  refine Go.aload_n (k := 0) (i := 0) 1 (by decide +kernel) rfl rfl ?_
  refine Go.get 3 0 (.ref (ad E 1)) (by decide) (by decide) sh3 (ltO hE sh3) (vlR hE rfl rfl) lk195 (by decide +kernel) ?_
  obtain ⟨P1, hP1, h⟩ := St.bind h
  refine Go.cV_v (P1 := P1) (d - 1) 1 [] sh1 hE w_Ta_next (e_Ta_next hG hE (d - 1) (by omega) P ⟨_, hP1, rfl, rfl, rfl⟩) lk611 rfl (by omega) (Nat.le_of_ble_eq_true rfl) (by decide +kernel) _ rfl ?_
  refine Go.iload (i := 6) 0 (by decide +kernel) rfl ?_
  refine Go.if_eq (off := 17) 107 (by decide +kernel) (by decide) (fun c2 => ?_) (fun c2 => ?_)
  · rw [if_pos c2] at h
    refine Go.aload_n (k := 0) (i := 0) 1 (by decide +kernel) rfl rfl ?_
    refine Go.get 3 0 (.ref (ad E 1)) (by decide) (by decide) sh3 (ltO hE sh3) (vlR hE rfl rfl) lk195 (by decide +kernel) ?_
    refine Go.iconst (n := 0) (0 : Int32) (by decide +kernel) rfl ?_
    refine Go.bipush (n := 10) (10 : Int32) (by decide +kernel) (by decide) ?_
    obtain ⟨v3, P4, hv3, h⟩ := St.bd2 h
    refine Go.cV_i (P1 := P4) (v := v3) (d - 1) 1 [.int (0 : Int32), .int (10 : Int32)] sh1 hE w_Ta_takeNumber (e_Ta_takeNumber hG hE (d - 1) (by omega) (0 : Int32) (10 : Int32) P1 ⟨_, hv3, rfl, rfl, rfl⟩) lk616 rfl (by omega) (Nat.le_of_ble_eq_true rfl) (by decide +kernel) _ rfl ?_
    refine Go.istore (i := 4) [(4, .int v3), (6, .int s0), (0, .ref (ad E 3)), (1, .int x1), (2, .int x2), (3, .int x3), (5, .int x5)] (by decide +kernel) (by decide) rfl ?_
    refine Go.sub [2, 3, 4, 5, 0, 6] [(0, .ref (ad E 3)), (1, .int x1), (2, .int x2), (3, .int x3), (4, .int v3), (5, .int x5)] rfl ?_
    exact t_j_Nr_readWay_119 hG hE d hd k27 hk27 x1 x2 x3 v3 x5 P4 h
  · rw [if_neg c2] at h
    refine Go.aload_n (k := 0) (i := 0) 1 (by decide +kernel) rfl rfl ?_
    refine Go.get 3 0 (.ref (ad E 1)) (by decide) (by decide) sh3 (ltO hE sh3) (vlR hE rfl rfl) lk195 (by decide +kernel) ?_
    refine Go.iconst (n := 1) (1 : Int32) (by decide +kernel) rfl ?_
    refine Go.bipush (n := 9) (9 : Int32) (by decide +kernel) (by decide) ?_
    obtain ⟨v5, P6, hv5, h⟩ := St.bd2 h
    refine Go.cV_i (P1 := P6) (v := v5) (d - 1) 1 [.int (1 : Int32), .int (9 : Int32)] sh1 hE w_Ta_takeNumber (e_Ta_takeNumber hG hE (d - 1) (by omega) (1 : Int32) (9 : Int32) P1 ⟨_, hv5, rfl, rfl, rfl⟩) lk616 rfl (by omega) (Nat.le_of_ble_eq_true rfl) (by decide +kernel) _ rfl ?_
    refine Go.istore_n (k := 3) (i := 3) [(3, .int v5), (6, .int s0), (0, .ref (ad E 3)), (1, .int x1), (2, .int x2), (4, .int x4), (5, .int x5)] (by decide +kernel) rfl (by decide) rfl ?_
    refine Go.goto (off := 15) 119 (by decide +kernel) (by decide) ?_
    refine Go.sub [2, 3, 4, 0, 5, 6] [(0, .ref (ad E 3)), (1, .int x1), (2, .int x2), (3, .int v5), (4, .int x4), (5, .int x5)] rfl ?_
    exact t_j_Nr_readWay_119 hG hE d hd k27 hk27 x1 x2 v5 x4 x5 P6 h
theorem t_j_Nr_readWay_61 {G : GX} (hG : GOK G) {E : EV} (hE : E0 E) (d : Nat) (hd : 9 ≤ d) {Q : QT} (k27 : Int32 → Int32 → Int32 → Int32 → Int32 → PM → Option PM) (hk27 : ∀ (x1 : Int32) (x2 : Int32) (x3 : Int32) (x4 : Int32) (x5 : Int32) (P : PM), St E rP (k27 x1 x2 x3 x4 x5 P) Q → Go G c_Nr_readWay "YawnRoute$NetReader" 7 none false d nOb nOb Q 27 [(0, .ref (ad E 3)), (1, .int x1), (2, .int x2), (3, .int x3), (4, .int x4), (5, .int x5)] [] P E) (x1 : Int32) (x2 : Int32) (x3 : Int32) (x4 : Int32) (x5 : Int32) (P : PM) (h : St E rP (j_Nr_readWay_61 k27 x1 x2 x3 x4 x5 P) Q) : Go G c_Nr_readWay "YawnRoute$NetReader" 7 none false d nOb nOb Q 61 [(0, .ref (ad E 3)), (1, .int x1), (2, .int x2), (3, .int x3), (4, .int x4), (5, .int x5)] [] P E := by
  rw [j_Nr_readWay_61] at h
  refine Go.aload_n (k := 0) (i := 0) 0 (by decide +kernel) rfl rfl ?_
  refine Go.get 3 0 (.ref (ad E 1)) (by decide) (by decide) sh3 (ltO hE sh3) (vlR hE rfl rfl) lk195 (by decide +kernel) ?_
  refine Go.get 1 5 (.int (P.1 1 5)) (by decide) (by decide) sh1 (ltO hE sh1) rfl lk44 (by decide +kernel) ?_
  refine Go.sipush (n := 205) (205 : Int32) (by decide +kernel) (by decide) ?_
  refine Go.icmp_ne (off := 7) 78 (by decide +kernel) (by decide) (fun c1 => ?_) (fun c1 => ?_)
  · rw [if_neg c1] at h
    refine Go.iconst (n := 0) (0 : Int32) (by decide +kernel) rfl ?_
    exact t_j_Nr_readWay_79 hG hE d hd k27 hk27 x1 x2 x3 x4 x5 (0 : Int32) P h
  · rw [if_pos c1] at h
    refine Go.iconst (n := 1) (1 : Int32) (by decide +kernel) rfl ?_
    refine Go.goto (off := 4) 79 (by decide +kernel) (by decide) ?_
    exact t_j_Nr_readWay_79 hG hE d hd k27 hk27 x1 x2 x3 x4 x5 (1 : Int32) P h
theorem t_j_Nr_readWay_125 {G : GX} (hG : GOK G) {E : EV} (hE : E0 E) (d : Nat) (hd : 9 ≤ d) {Q : QT} (x1 : Int32) (x2 : Int32) (x3 : Int32) (x4 : Int32) (P : PM) (h : St E rP (j_Nr_readWay_125 x1 x2 x3 x4 P) Q) : Go G c_Nr_readWay "YawnRoute$NetReader" 7 none false d nOb nOb Q 125 [(0, .ref (ad E 3)), (1, .int x1), (2, .int x2), (3, .int x3), (4, .int x4)] [] P E := by
  rw [j_Nr_readWay_125] at h
  refine Go.aload_n (k := 0) (i := 0) 0 (by decide +kernel) rfl rfl ?_
  refine Go.get 3 1 (.ref (ad E 4)) (by decide) (by decide) sh3 (ltO hE sh3) (vlR hE rfl rfl) lk196 (by decide +kernel) ?_
  refine Go.iload_n (k := 1) (i := 1) 1 (by decide +kernel) rfl rfl ?_
  refine Go.iload_n (k := 2) (i := 2) 2 (by decide +kernel) rfl rfl ?_
  refine Go.iload_n (k := 3) (i := 3) 3 (by decide +kernel) rfl rfl ?_
  refine Go.iload (i := 4) 4 (by decide +kernel) rfl ?_
  obtain ⟨P1, hP1, h⟩ := St.bind h
  refine Go.cV_v (P1 := P1) (d - 1) 4 [.int x1, .int x2, .int x3, .int x4] sh4 hE w_Ne_setWay (e_Ne_setWay hG hE (d - 1) (by omega) 4 sh4 x1 x2 x3 x4 P ⟨_, hP1, rfl, rfl, rfl⟩) lk632 rfl (by omega) (Nat.le_of_ble_eq_true rfl) (by decide +kernel) _ rfl ?_
  exact Go.vret rfl hE.2 (by decide +kernel) (St.fP h)
theorem t_l_Nr_readWay_27 {G : GX} (hG : GOK G) {E : EV} (hE : E0 E) (d : Nat) (hd : 9 ≤ d) {Q : QT} : ∀ (n : Nat) (x1 : Int32) (x2 : Int32) (x3 : Int32) (x4 : Int32) (x5 : Int32) (P : PM), St E rP (l_Nr_readWay_27 n x1 x2 x3 x4 x5 P) Q → Go G c_Nr_readWay "YawnRoute$NetReader" 7 none false d nOb nOb Q 27 [(0, .ref (ad E 3)), (1, .int x1), (2, .int x2), (3, .int x3), (4, .int x4), (5, .int x5)] [] P E := by
  intro n
  induction n with
  | zero =>
    intro x1 x2 x3 x4 x5 P h
    rw [l_Nr_readWay_27] at h
    exact St.none_ h
  | succ n ih =>
    intro x1 x2 x3 x4 x5 P h
    rw [l_Nr_readWay_27] at h
    refine Go.iload (i := 5) 5 (by decide +kernel) rfl ?_
    refine Go.sipush (n := 900) (900 : Int32) (by decide +kernel) (by decide) ?_
    refine Go.icmp_ge (off := 93) 125 (by decide +kernel) (by decide) (fun c1 => ?_) (fun c1 => ?_)
    · rw [if_pos c1] at h
      refine Go.sub [0, 1, 2, 3, 4] [(0, .ref (ad E 3)), (1, .int x1), (2, .int x2), (3, .int x3), (4, .int x4)] rfl ?_
      exact t_j_Nr_readWay_125 hG hE d hd x1 x2 x3 x4 P h
    · rw [if_neg c1] at h
      refine Go.aload_n (k := 0) (i := 0) 0 (by decide +kernel) rfl rfl ?_
      refine Go.get 3 0 (.ref (ad E 1)) (by decide) (by decide) sh3 (ltO hE sh3) (vlR hE rfl rfl) lk195 (by decide +kernel) ?_
      refine Go.get 1 5 (.int (P.1 1 5)) (by decide) (by decide) sh1 (ltO hE sh1) rfl lk44 (by decide +kernel) ?_
      refine Go.sipush (n := 205) (205 : Int32) (by decide +kernel) (by decide) ?_
      refine Go.icmp_eq (off := 16) 61 (by decide +kernel) (by decide) (fun c2 => ?_) (fun c2 => ?_)
      · rw [if_pos c2] at h
        exact t_j_Nr_readWay_61 hG hE d hd (fun z0 z1 z2 z3 z4 Pz => l_Nr_readWay_27 n z0 z1 z2 z3 z4 Pz) (fun z0 z1 z2 z3 z4 Pz q => ih z0 z1 z2 z3 z4 Pz q) x1 x2 x3 x4 x5 P h
      · rw [if_neg c2] at h
        refine Go.aload_n (k := 0) (i := 0) 0 (by decide +kernel) rfl rfl ?_
        refine Go.get 3 0 (.ref (ad E 1)) (by decide) (by decide) sh3 (ltO hE sh3) (vlR hE rfl rfl) lk195 (by decide +kernel) ?_
        refine Go.get 1 5 (.int (P.1 1 5)) (by decide) (by decide) sh1 (ltO hE sh1) rfl lk44 (by decide +kernel) ?_
        refine Go.sipush (n := 212) (212 : Int32) (by decide +kernel) (by decide) ?_
        refine Go.icmp_ne (off := 67) 125 (by decide +kernel) (by decide) (fun c3 => ?_) (fun c3 => ?_)
        · rw [if_neg c3] at h
          refine Go.sub [0, 1, 2, 3, 4] [(0, .ref (ad E 3)), (1, .int x1), (2, .int x2), (3, .int x3), (4, .int x4)] rfl ?_
          exact t_j_Nr_readWay_125 hG hE d hd x1 x2 x3 x4 P h
        · rw [if_pos c3] at h
          exact t_j_Nr_readWay_61 hG hE d hd (fun z0 z1 z2 z3 z4 Pz => l_Nr_readWay_27 n z0 z1 z2 z3 z4 Pz) (fun z0 z1 z2 z3 z4 Pz q => ih z0 z1 z2 z3 z4 Pz q) x1 x2 x3 x4 x5 P h
theorem t_f_Nr_readWay {G : GX} (hG : GOK G) {E : EV} (hE : E0 E) (d : Nat) (hd : 9 ≤ d) {Q : QT} (P : PM) (h : St E rP (f_Nr_readWay P) Q) : Go G c_Nr_readWay "YawnRoute$NetReader" 7 none false d nOb nOb Q 0 [(0, .ref (ad E 3))] [] P E := by
  rw [f_Nr_readWay] at h
  refine Go.aload_n (k := 0) (i := 0) 0 (by decide +kernel) rfl rfl ?_
  refine Go.get 3 0 (.ref (ad E 1)) (by decide) (by decide) sh3 (ltO hE sh3) (vlR hE rfl rfl) lk195 (by decide +kernel) ?_
  obtain ⟨P1, hP1, h⟩ := St.bind h
  refine Go.cV_v (P1 := P1) (d - 1) 1 [] sh1 hE w_Ta_next (e_Ta_next hG hE (d - 1) (by omega) P ⟨_, hP1, rfl, rfl, rfl⟩) lk611 rfl (by omega) (Nat.le_of_ble_eq_true rfl) (by decide +kernel) _ rfl ?_
  refine Go.aload_n (k := 0) (i := 0) 0 (by decide +kernel) rfl rfl ?_
  refine Go.iconst (n := -1) (-1 : Int32) (by decide +kernel) rfl ?_
  obtain ⟨v2, P3, hv2, h⟩ := St.bd2 h
  refine Go.cV_i (P1 := P3) (v := v2) (d - 1) 3 [.int (-1 : Int32)] sh3 hE w_Nr_readTold (e_Nr_readTold hG hE (d - 1) (by omega) (-1 : Int32) P1 ⟨_, hv2, rfl, rfl, rfl⟩) lk628 rfl (by omega) (Nat.le_of_ble_eq_true rfl) (by decide +kernel) _ rfl ?_
  refine Go.istore_n (k := 1) (i := 1) [(1, .int v2), (0, .ref (ad E 3))] (by decide +kernel) rfl (by decide) rfl ?_
  refine Go.aload_n (k := 0) (i := 0) 1 (by decide +kernel) rfl rfl ?_
  refine Go.iload_n (k := 1) (i := 1) 0 (by decide +kernel) rfl rfl ?_
  obtain ⟨v4, P5, hv4, h⟩ := St.bd2 h
  refine Go.cV_i (P1 := P5) (v := v4) (d - 1) 3 [.int v2] sh3 hE w_Nr_readTold (e_Nr_readTold hG hE (d - 1) (by omega) v2 P3 ⟨_, hv4, rfl, rfl, rfl⟩) lk628 rfl (by omega) (Nat.le_of_ble_eq_true rfl) (by decide +kernel) _ rfl ?_
  refine Go.istore_n (k := 2) (i := 2) [(2, .int v4), (1, .int v2), (0, .ref (ad E 3))] (by decide +kernel) rfl (by decide) rfl ?_
  refine Go.iconst (n := 1) (1 : Int32) (by decide +kernel) rfl ?_
  refine Go.istore_n (k := 3) (i := 3) [(3, .int (1 : Int32)), (2, .int v4), (1, .int v2), (0, .ref (ad E 3))] (by decide +kernel) rfl (by decide) rfl ?_
  refine Go.iconst (n := 1) (1 : Int32) (by decide +kernel) rfl ?_
  refine Go.istore (i := 4) [(4, .int (1 : Int32)), (3, .int (1 : Int32)), (2, .int v4), (1, .int v2), (0, .ref (ad E 3))] (by decide +kernel) (by decide) rfl ?_
  refine Go.iconst (n := 0) (0 : Int32) (by decide +kernel) rfl ?_
  refine Go.istore (i := 5) [(5, .int (0 : Int32)), (4, .int (1 : Int32)), (3, .int (1 : Int32)), (2, .int v4), (1, .int v2), (0, .ref (ad E 3))] (by decide +kernel) (by decide) rfl ?_
  refine Go.sub [5, 4, 3, 2, 1, 0] [(0, .ref (ad E 3)), (1, .int v2), (2, .int v4), (3, .int (1 : Int32)), (4, .int (1 : Int32)), (5, .int (0 : Int32))] rfl ?_
  exact t_l_Nr_readWay_27 hG hE d hd FU v2 v4 (1 : Int32) (1 : Int32) (0 : Int32) P5 h
theorem e_Nr_readWay {G : GX} (hG : GOK G) {E : EV} (hE : E0 E) (d : Nat) (hd : 9 ≤ d) (P : PM) {Q : QT} (h : St E rP (f_Nr_readWay P) Q) : Con G y_Nr_readWay cw_Nr_readWay d nOb nOb [.ref (ad E 3)] P E Q :=
  Con.of hG (by decide +kernel) rfl (fun h => by cases h) hE.2 (Nat.le_of_ble_eq_true rfl) (t_f_Nr_readWay hG hE d hd P h)
abbrev c_Sa_clear : ByteArray := prog_9_method_2_code
abbrev y_Sa_clear : MethodName := ⟨"YawnRoute$State", "clear", "()V"⟩
abbrev cw_Sa_clear : Cond := .code y_Sa_clear c_Sa_clear 1 none
theorem w_Sa_clear : VW 7 y_Sa_clear c_Sa_clear 1 none 0 := ⟨by decide, lk455, lk456, lk5, lk457, ⟨by decide, by decide, by decide +kernel⟩, by decide⟩
noncomputable def f_Sa_clear (this : Nat) (P : PM) : Option PM := (f_Ja_fill_AII (this + 1) 7 (0 : Int32) (u1 (u1 (u1 (u1 P this 0 (-1 : Int32)) this 1 (0 : Int32)) this 2 (0 : Int32)) this 3 (0 : Int32))).bind (fun P1 => some P1)
theorem t_f_Sa_clear {G : GX} (hG : GOK G) {E : EV} (hE : E0 E) (d : Nat) (hd : 2 ≤ d) {Q : QT} (this : Nat) (hthis : sh this = .inl 7) (P : PM) (h : St E rP (f_Sa_clear this P) Q) : Go G c_Sa_clear "YawnRoute$State" 1 none false d nOb nOb Q 0 [(0, .ref (ad E this))] [] P E := by
  rw [f_Sa_clear] at h
  refine Go.aload_n (k := 0) (i := 0) 0 (by decide +kernel) rfl rfl ?_
  refine Go.iconst (n := -1) (-1 : Int32) (by decide +kernel) rfl ?_
  refine Go.put this 0 (by decide) (by decide) hthis (ltO hE hthis) (Or.inl rfl) rfl rfl rfl lk149 (by decide +kernel) ?_
  refine Go.aload_n (k := 0) (i := 0) 0 (by decide +kernel) rfl rfl ?_
  refine Go.iconst (n := 0) (0 : Int32) (by decide +kernel) rfl ?_
  refine Go.put this 1 (by decide) (by decide) hthis (ltO hE hthis) (Or.inl rfl) rfl rfl rfl lk155 (by decide +kernel) ?_
  refine Go.aload_n (k := 0) (i := 0) 0 (by decide +kernel) rfl rfl ?_
  refine Go.iconst (n := 0) (0 : Int32) (by decide +kernel) rfl ?_
  refine Go.put this 2 (by decide) (by decide) hthis (ltO hE hthis) (Or.inl rfl) rfl rfl rfl lk160 (by decide +kernel) ?_
  refine Go.aload_n (k := 0) (i := 0) 0 (by decide +kernel) rfl rfl ?_
  refine Go.iconst (n := 0) (0 : Int32) (by decide +kernel) rfl ?_
  refine Go.put this 3 (by decide) (by decide) hthis (ltO hE hthis) (Or.inl rfl) rfl rfl rfl lk165 (by decide +kernel) ?_
  refine Go.aload_n (k := 0) (i := 0) 0 (by decide +kernel) rfl rfl ?_
  refine Go.get this 4 (.ref (ad E (this + 1))) (by decide) (by decide) hthis (ltO hE hthis) (vlR hE rfl (rfSa_4 hthis)) lk170 (by decide +kernel) ?_
  refine Go.iconst (n := 0) (0 : Int32) (by decide +kernel) rfl ?_
  obtain ⟨P1, hP1, h⟩ := St.bind h
  refine Go.cS_v (P1 := P1) (d - 1) [.ref (ad E (this + 1)), .int (0 : Int32)] hE w_Ja_fill_AII (e_Ja_fill_AII hG hE (d - 1) (by omega) (this + 1) 7 (shSa_4 hthis) (0 : Int32) (u1 (u1 (u1 (u1 P this 0 (-1 : Int32)) this 1 (0 : Int32)) this 2 (0 : Int32)) this 3 (0 : Int32)) ⟨_, hP1, rfl, rfl, rfl⟩) lk458 rfl (by omega) (Nat.le_of_ble_eq_true rfl) (by decide +kernel) _ rfl ?_
  exact Go.vret rfl hE.2 (by decide +kernel) (St.fP h)
theorem e_Sa_clear {G : GX} (hG : GOK G) {E : EV} (hE : E0 E) (d : Nat) (hd : 2 ≤ d) (this : Nat) (hthis : sh this = .inl 7) (P : PM) {Q : QT} (h : St E rP (f_Sa_clear this P) Q) : Con G y_Sa_clear cw_Sa_clear d nOb nOb [.ref (ad E this)] P E Q :=
  Con.of hG (by decide +kernel) rfl (fun h => by cases h) hE.2 (Nat.le_of_ble_eq_true rfl) (t_f_Sa_clear hG hE d hd this hthis P h)
abbrev c_Ta_open : ByteArray := prog_11_method_3_code
abbrev y_Ta_open : MethodName := ⟨"YawnRoute$Tape", "open", "(I)V"⟩
abbrev cw_Ta_open : Cond := .code y_Ta_open c_Ta_open 2 none
theorem w_Ta_open : VW 9 y_Ta_open c_Ta_open 2 none 1 := ⟨by decide, lk460, lk461, lk2, lk462, ⟨by decide, by decide, by decide +kernel⟩, by decide⟩
noncomputable def f_Ta_open (a1 : Int32) (P : PM) : Option PM := (f_Ta_next (u1 (u1 (u1 (u1 P 1 2 (mn a1 (900 : Int32))) 1 3 (0 : Int32)) 1 7 (0 : Int32)) 1 8 (-1 : Int32))).bind (fun P1 => some P1)
theorem t_f_Ta_open {G : GX} (hG : GOK G) {E : EV} (hE : E0 E) (d : Nat) (hd : 7 ≤ d) {Q : QT} (a1 : Int32) (P : PM) (h : St E rP (f_Ta_open a1 P) Q) : Go G c_Ta_open "YawnRoute$Tape" 2 none false d nOb nOb Q 0 [(0, .ref (ad E 1)), (1, .int a1)] [] P E := by
  rw [f_Ta_open] at h
  refine Go.aload_n (k := 0) (i := 0) 0 (by decide +kernel) rfl rfl ?_
  refine Go.iload_n (k := 1) (i := 1) 1 (by decide +kernel) rfl rfl ?_
  refine Go.sipush (n := 900) (900 : Int32) (by decide +kernel) (by decide) ?_
  refine Go.mmin lk463 (Nat.le_of_eq hE.2) (by omega) (Nat.le_of_ble_eq_true rfl) (by decide +kernel) ?_
  refine Go.put 1 2 (by decide) (by decide) sh1 (ltO hE sh1) (Or.inl rfl) rfl rfl rfl lk40 (by decide +kernel) ?_
  refine Go.aload_n (k := 0) (i := 0) 0 (by decide +kernel) rfl rfl ?_
  refine Go.iconst (n := 0) (0 : Int32) (by decide +kernel) rfl ?_
  refine Go.put 1 3 (by decide) (by decide) sh1 (ltO hE sh1) (Or.inl rfl) rfl rfl rfl lk41 (by decide +kernel) ?_
  refine Go.aload_n (k := 0) (i := 0) 0 (by decide +kernel) rfl rfl ?_
  refine Go.iconst (n := 0) (0 : Int32) (by decide +kernel) rfl ?_
  refine Go.put 1 7 (by decide) (by decide) sh1 (ltO hE sh1) (Or.inl rfl) rfl rfl rfl lk50 (by decide +kernel) ?_
  refine Go.aload_n (k := 0) (i := 0) 0 (by decide +kernel) rfl rfl ?_
  refine Go.iconst (n := -1) (-1 : Int32) (by decide +kernel) rfl ?_
  refine Go.put 1 8 (by decide) (by decide) sh1 (ltO hE sh1) (Or.inl rfl) rfl rfl rfl lk52 (by decide +kernel) ?_
  refine Go.aload_n (k := 0) (i := 0) 0 (by decide +kernel) rfl rfl ?_
  obtain ⟨P1, hP1, h⟩ := St.bind h
  refine Go.cV_v (P1 := P1) (d - 1) 1 [] sh1 hE w_Ta_next (e_Ta_next hG hE (d - 1) (by omega) (u1 (u1 (u1 (u1 P 1 2 (mn a1 (900 : Int32))) 1 3 (0 : Int32)) 1 7 (0 : Int32)) 1 8 (-1 : Int32)) ⟨_, hP1, rfl, rfl, rfl⟩) lk466 rfl (by omega) (Nat.le_of_ble_eq_true rfl) (by decide +kernel) _ rfl ?_
  exact Go.vret rfl hE.2 (by decide +kernel) (St.fP h)
theorem e_Ta_open {G : GX} (hG : GOK G) {E : EV} (hE : E0 E) (d : Nat) (hd : 7 ≤ d) (a1 : Int32) (P : PM) {Q : QT} (h : St E rP (f_Ta_open a1 P) Q) : Con G y_Ta_open cw_Ta_open d nOb nOb [.ref (ad E 1), .int a1] P E Q :=
  Con.of hG (by decide +kernel) rfl (fun h => by cases h) hE.2 (Nat.le_of_ble_eq_true rfl) (t_f_Ta_open hG hE d hd a1 P h)
