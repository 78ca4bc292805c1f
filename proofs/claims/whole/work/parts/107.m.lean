/-! methods as functions, by program: Ne_carried De_sizeAt Yr_brings De_note De_tryPass De_keep Yr_answered Yr_pass Yr_isSize De_tryOff Yr_off De_trySleep -/
abbrev c_Ne_carried : ByteArray := prog_4_method_11_code
abbrev y_Ne_carried : MethodName := ⟨"YawnRoute$Net", "carried", "(IIII)I"⟩
abbrev cw_Ne_carried : Cond := .code y_Ne_carried c_Ne_carried 6 (some .int)
theorem w_Ne_carried : VW 2 y_Ne_carried c_Ne_carried 6 (some .int) 4 := ⟨by decide, lk766, lk767, lk4, lk768, ⟨by decide, by decide, by decide +kernel⟩, by decide⟩
noncomputable def j_Ne_carried_92 (this : Nat) (x2 : Int32) (P : PM) : Option (Int32 × PM) := if (P.1 this 9) = (P.1 this 10) then (some (x2, P)) else (bd2 (f_Ne_valueOf this (P.1 this 9) (P.1 this 10) P) (fun v2 P3 => some ((mx (0 : Int32) (mn (40 : Int32) v2)), P3)))
noncomputable def f_Ne_carried (this : Nat) (a1 : Int32) (a2 : Int32) (a3 : Int32) (a4 : Int32) (P : PM) : Option (Int32 × PM) := (f_Ne_hoursOf this a1 a3 P).bind (fun v1 => if v1 = (0 : Int32) then (some ((-1 : Int32), P)) else (ck (inb a3 7) (if ((u1 (u1 (u1 (u1 (u1 (u1 P (this + 5) (0 : Int32).toNatClampNeg a3) (this + 5) (1 : Int32).toNatClampNeg a4) (this + 5) (2 : Int32).toNatClampNeg ((u1 (u1 P (this + 5) (0 : Int32).toNatClampNeg a3) (this + 5) (1 : Int32).toNatClampNeg a4).1 (this + 1) a3.toNatClampNeg)) (this + 5) (3 : Int32).toNatClampNeg a2) (this + 5) (4 : Int32).toNatClampNeg a1) (this + 5) (5 : Int32).toNatClampNeg v1).1 this 8) ≤ ((u1 (u1 (u1 (u1 (u1 (u1 P (this + 5) (0 : Int32).toNatClampNeg a3) (this + 5) (1 : Int32).toNatClampNeg a4) (this + 5) (2 : Int32).toNatClampNeg ((u1 (u1 P (this + 5) (0 : Int32).toNatClampNeg a3) (this + 5) (1 : Int32).toNatClampNeg a4).1 (this + 1) a3.toNatClampNeg)) (this + 5) (3 : Int32).toNatClampNeg a2) (this + 5) (4 : Int32).toNatClampNeg a1) (this + 5) (5 : Int32).toNatClampNeg v1).1 this 7) then (j_Ne_carried_92 this a2 (u1 (u1 (u1 (u1 (u1 (u1 P (this + 5) (0 : Int32).toNatClampNeg a3) (this + 5) (1 : Int32).toNatClampNeg a4) (this + 5) (2 : Int32).toNatClampNeg ((u1 (u1 P (this + 5) (0 : Int32).toNatClampNeg a3) (this + 5) (1 : Int32).toNatClampNeg a4).1 (this + 1) a3.toNatClampNeg)) (this + 5) (3 : Int32).toNatClampNeg a2) (this + 5) (4 : Int32).toNatClampNeg a1) (this + 5) (5 : Int32).toNatClampNeg v1)) else (bd2 (f_Ne_valueOf this ((u1 (u1 (u1 (u1 (u1 (u1 P (this + 5) (0 : Int32).toNatClampNeg a3) (this + 5) (1 : Int32).toNatClampNeg a4) (this + 5) (2 : Int32).toNatClampNeg ((u1 (u1 P (this + 5) (0 : Int32).toNatClampNeg a3) (this + 5) (1 : Int32).toNatClampNeg a4).1 (this + 1) a3.toNatClampNeg)) (this + 5) (3 : Int32).toNatClampNeg a2) (this + 5) (4 : Int32).toNatClampNeg a1) (this + 5) (5 : Int32).toNatClampNeg v1).1 this 7) ((u1 (u1 (u1 (u1 (u1 (u1 P (this + 5) (0 : Int32).toNatClampNeg a3) (this + 5) (1 : Int32).toNatClampNeg a4) (this + 5) (2 : Int32).toNatClampNeg ((u1 (u1 P (this + 5) (0 : Int32).toNatClampNeg a3) (this + 5) (1 : Int32).toNatClampNeg a4).1 (this + 1) a3.toNatClampNeg)) (this + 5) (3 : Int32).toNatClampNeg a2) (this + 5) (4 : Int32).toNatClampNeg a1) (this + 5) (5 : Int32).toNatClampNeg v1).1 this 8) (u1 (u1 (u1 (u1 (u1 (u1 P (this + 5) (0 : Int32).toNatClampNeg a3) (this + 5) (1 : Int32).toNatClampNeg a4) (this + 5) (2 : Int32).toNatClampNeg ((u1 (u1 P (this + 5) (0 : Int32).toNatClampNeg a3) (this + 5) (1 : Int32).toNatClampNeg a4).1 (this + 1) a3.toNatClampNeg)) (this + 5) (3 : Int32).toNatClampNeg a2) (this + 5) (4 : Int32).toNatClampNeg a1) (this + 5) (5 : Int32).toNatClampNeg v1)) (fun v5 P6 => if v5 = (0 : Int32) then (some ((-1 : Int32), P6)) else (j_Ne_carried_92 this a2 P6))))))
theorem t_j_Ne_carried_92 {G : GX} (hG : GOK G) {E : EV} (hE : E0 E) (d : Nat) (hd : 3 ≤ d) {Q : QT} (this : Nat) (hthis : sh this = .inl 2) (x2 : Int32) (P : PM) (h : St E rIP (j_Ne_carried_92 this x2 P) Q) : Go G c_Ne_carried "YawnRoute$Net" 6 (some .int) false d nOb nOb Q 92 [(0, .ref (ad E this)), (2, .int x2)] [] P E := by
  rw [j_Ne_carried_92] at h
  refine Go.aload_n (k := 0) (i := 0) 0 (by decide +kernel) rfl rfl ?_
  refine Go.get this 9 (.int (P.1 this 9)) (by decide) (by decide) hthis (ltO hE hthis) rfl lk109 (by decide +kernel) ?_
  refine Go.aload_n (k := 0) (i := 0) 0 (by decide +kernel) rfl rfl ?_
  refine Go.get this 10 (.int (P.1 this 10)) (by decide) (by decide) hthis (ltO hE hthis) rfl lk111 (by decide +kernel) ?_
  refine Go.icmp_ne (off := 5) 105 (by decide +kernel) (by decide) (fun c1 => ?_) (fun c1 => ?_)
  · rw [if_neg c1] at h
    refine Go.iconst (n := 0) (0 : Int32) (by decide +kernel) rfl ?_
    refine Go.bipush (n := 40) (40 : Int32) (by decide +kernel) (by decide) ?_
    refine Go.aload_n (k := 0) (i := 0) 0 (by decide +kernel) rfl rfl ?_
    refine Go.aload_n (k := 0) (i := 0) 0 (by decide +kernel) rfl rfl ?_
    refine Go.get this 9 (.int (P.1 this 9)) (by decide) (by decide) hthis (ltO hE hthis) rfl lk109 (by decide +kernel) ?_
    refine Go.aload_n (k := 0) (i := 0) 0 (by decide +kernel) rfl rfl ?_
    refine Go.get this 10 (.int (P.1 this 10)) (by decide) (by decide) hthis (ltO hE hthis) rfl lk111 (by decide +kernel) ?_
    obtain ⟨v2, P3, hv2, h⟩ := St.bd2 h
    refine Go.cV_i (P1 := P3) (v := v2) (d - 1) this [.int (P.1 this 9), .int (P.1 this 10)] hthis hE w_Ne_valueOf (e_Ne_valueOf hG hE (d - 1) (by omega) this hthis (P.1 this 9) (P.1 this 10) P ⟨_, hv2, rfl, rfl, rfl⟩) lk769 rfl (by omega) (Nat.le_of_ble_eq_true rfl) (by decide +kernel) _ rfl ?_
    refine Go.mmin lk781 (Nat.le_of_eq hE.2) (by omega) (Nat.le_of_ble_eq_true rfl) (by decide +kernel) ?_
    refine Go.mmax lk782 (Nat.le_of_eq hE.2) (by omega) (Nat.le_of_ble_eq_true rfl) (by decide +kernel) ?_
    exact Go.iret rfl rfl hE.2 (by decide +kernel) (St.fIP h)
  · rw [if_pos c1] at h
    refine Go.iload_n (k := 2) (i := 2) 1 (by decide +kernel) rfl rfl ?_
    exact Go.iret rfl rfl hE.2 (by decide +kernel) (St.fIP h)
theorem t_f_Ne_carried {G : GX} (hG : GOK G) {E : EV} (hE : E0 E) (d : Nat) (hd : 3 ≤ d) {Q : QT} (this : Nat) (hthis : sh this = .inl 2) (a1 : Int32) (a2 : Int32) (a3 : Int32) (a4 : Int32) (P : PM) (h : St E rIP (f_Ne_carried this a1 a2 a3 a4 P) Q) : Go G c_Ne_carried "YawnRoute$Net" 6 (some .int) false d nOb nOb Q 0 [(0, .ref (ad E this)), (1, .int a1), (2, .int a2), (3, .int a3), (4, .int a4)] [] P E := by
  rw [f_Ne_carried] at h
  refine Go.aload_n (k := 0) (i := 0) 0 (by decide +kernel) rfl rfl ?_
  refine Go.iload_n (k := 1) (i := 1) 1 (by decide +kernel) rfl rfl ?_
  refine Go.iload_n (k := 3) (i := 3) 3 (by decide +kernel) rfl rfl ?_
  obtain ⟨v1, hv1, h⟩ := St.bind h
  refine Go.cV_i (P1 := P) (v := v1) (d - 1) this [.int a1, .int a3] hthis hE w_Ne_hoursOf (e_Ne_hoursOf hG hE (d - 1) (by omega) this hthis a1 a3 P ⟨_, hv1, rfl, rfl, rfl⟩) lk742 rfl (by omega) (Nat.le_of_ble_eq_true rfl) (by decide +kernel) _ rfl ?_
  refine Go.istore (i := 5) [(5, .int v1), (0, .ref (ad E this)), (1, .int a1), (2, .int a2), (3, .int a3), (4, .int a4)] (by decide +kernel) (by decide) rfl ?_
  refine Go.iload (i := 5) 0 (by decide +kernel) rfl ?_
  refine Go.if_ne (off := 5) 15 (by decide +kernel) (by decide) (fun c2 => ?_) (fun c2 => ?_)
  · rw [if_neg c2] at h
    refine Go.aload_n (k := 0) (i := 0) 1 (by decide +kernel) rfl rfl ?_
    refine Go.get this 11 (.ref (ad E (this + 5))) (by decide) (by decide) hthis (ltO hE hthis) (vlR hE rfl (rfNe_11 hthis)) lk113 (by decide +kernel) ?_
    refine Go.iconst (n := 0) (0 : Int32) (by decide +kernel) rfl ?_
    refine Go.iload_n (k := 3) (i := 3) 4 (by decide +kernel) rfl rfl ?_
    refine Go.iastore (this + 5) 6 (shNe_11 hthis) (ltA hE (shNe_11 hthis) (by decide)) (vp_in_iff.mpr (by decide)) (by decide +kernel) ?_
    refine Go.aload_n (k := 0) (i := 0) 1 (by decide +kernel) rfl rfl ?_
    refine Go.get this 11 (.ref (ad E (this + 5))) (by decide) (by decide) hthis (ltO hE hthis) (vlR hE rfl (rfNe_11 hthis)) lk113 (by decide +kernel) ?_
    refine Go.iconst (n := 1) (1 : Int32) (by decide +kernel) rfl ?_
    refine Go.iload (i := 4) 5 (by decide +kernel) rfl ?_
    refine Go.iastore (this + 5) 6 (shNe_11 hthis) (ltA hE (shNe_11 hthis) (by decide)) (vp_in_iff.mpr (by decide)) (by decide +kernel) ?_
    refine Go.aload_n (k := 0) (i := 0) 1 (by decide +kernel) rfl rfl ?_
    refine Go.get this 11 (.ref (ad E (this + 5))) (by decide) (by decide) hthis (ltO hE hthis) (vlR hE rfl (rfNe_11 hthis)) lk113 (by decide +kernel) ?_
    refine Go.iconst (n := 2) (2 : Int32) (by decide +kernel) rfl ?_
    refine Go.aload_n (k := 0) (i := 0) 1 (by decide +kernel) rfl rfl ?_
    refine Go.get this 2 (.ref (ad E (this + 1))) (by decide) (by decide) hthis (ltO hE hthis) (vlR hE rfl (rfNe_2 hthis)) lk97 (by decide +kernel) ?_
    refine Go.iload_n (k := 3) (i := 3) 4 (by decide +kernel) rfl rfl ?_
    obtain ⟨b3, h⟩ := St.ck h
    refine Go.iaload (this + 1) 7 (shNe_2 hthis) (ltA hE (shNe_2 hthis) (by decide)) (inb_in b3) (by decide +kernel) ?_
    refine Go.iastore (this + 5) 6 (shNe_11 hthis) (ltA hE (shNe_11 hthis) (by decide)) (vp_in_iff.mpr (by decide)) (by decide +kernel) ?_
    refine Go.aload_n (k := 0) (i := 0) 1 (by decide +kernel) rfl rfl ?_
    refine Go.get this 11 (.ref (ad E (this + 5))) (by decide) (by decide) hthis (ltO hE hthis) (vlR hE rfl (rfNe_11 hthis)) lk113 (by decide +kernel) ?_
    refine Go.iconst (n := 3) (3 : Int32) (by decide +kernel) rfl ?_
    refine Go.iload_n (k := 2) (i := 2) 3 (by decide +kernel) rfl rfl ?_
    refine Go.iastore (this + 5) 6 (shNe_11 hthis) (ltA hE (shNe_11 hthis) (by decide)) (vp_in_iff.mpr (by decide)) (by decide +kernel) ?_
    refine Go.aload_n (k := 0) (i := 0) 1 (by decide +kernel) rfl rfl ?_
    refine Go.get this 11 (.ref (ad E (this + 5))) (by decide) (by decide) hthis (ltO hE hthis) (vlR hE rfl (rfNe_11 hthis)) lk113 (by decide +kernel) ?_
    refine Go.iconst (n := 4) (4 : Int32) (by decide +kernel) rfl ?_
    refine Go.iload_n (k := 1) (i := 1) 2 (by decide +kernel) rfl rfl ?_
    refine Go.iastore (this + 5) 6 (shNe_11 hthis) (ltA hE (shNe_11 hthis) (by decide)) (vp_in_iff.mpr (by decide)) (by decide +kernel) ?_
    refine Go.aload_n (k := 0) (i := 0) 1 (by decide +kernel) rfl rfl ?_
    refine Go.get this 11 (.ref (ad E (this + 5))) (by decide) (by decide) hthis (ltO hE hthis) (vlR hE rfl (rfNe_11 hthis)) lk113 (by decide +kernel) ?_
    refine Go.iconst (n := 5) (5 : Int32) (by decide +kernel) rfl ?_
    refine Go.iload (i := 5) 0 (by decide +kernel) rfl ?_
    refine Go.iastore (this + 5) 6 (shNe_11 hthis) (ltA hE (shNe_11 hthis) (by decide)) (vp_in_iff.mpr (by decide)) (by decide +kernel) ?_
    refine Go.aload_n (k := 0) (i := 0) 1 (by decide +kernel) rfl rfl ?_
    refine Go.get this 7 (.int ((u1 (u1 (u1 (u1 (u1 (u1 P (this + 5) (0 : Int32).toNatClampNeg a3) (this + 5) (1 : Int32).toNatClampNeg a4) (this + 5) (2 : Int32).toNatClampNeg ((u1 (u1 P (this + 5) (0 : Int32).toNatClampNeg a3) (this + 5) (1 : Int32).toNatClampNeg a4).1 (this + 1) a3.toNatClampNeg)) (this + 5) (3 : Int32).toNatClampNeg a2) (this + 5) (4 : Int32).toNatClampNeg a1) (this + 5) (5 : Int32).toNatClampNeg v1).1 this 7)) (by decide) (by decide) hthis (ltO hE hthis) rfl lk105 (by decide +kernel) ?_
    refine Go.aload_n (k := 0) (i := 0) 1 (by decide +kernel) rfl rfl ?_
    refine Go.get this 8 (.int ((u1 (u1 (u1 (u1 (u1 (u1 P (this + 5) (0 : Int32).toNatClampNeg a3) (this + 5) (1 : Int32).toNatClampNeg a4) (this + 5) (2 : Int32).toNatClampNeg ((u1 (u1 P (this + 5) (0 : Int32).toNatClampNeg a3) (this + 5) (1 : Int32).toNatClampNeg a4).1 (this + 1) a3.toNatClampNeg)) (this + 5) (3 : Int32).toNatClampNeg a2) (this + 5) (4 : Int32).toNatClampNeg a1) (this + 5) (5 : Int32).toNatClampNeg v1).1 this 8)) (by decide) (by decide) hthis (ltO hE hthis) rfl lk107 (by decide +kernel) ?_
    refine Go.icmp_ge (off := 20) 92 (by decide +kernel) (by decide) (fun c4 => ?_) (fun c4 => ?_)
    · rw [if_pos c4] at h
      refine Go.sub [1, 3] [(0, .ref (ad E this)), (2, .int a2)] rfl ?_
      exact t_j_Ne_carried_92 hG hE d hd this hthis a2 (u1 (u1 (u1 (u1 (u1 (u1 P (this + 5) (0 : Int32).toNatClampNeg a3) (this + 5) (1 : Int32).toNatClampNeg a4) (this + 5) (2 : Int32).toNatClampNeg ((u1 (u1 P (this + 5) (0 : Int32).toNatClampNeg a3) (this + 5) (1 : Int32).toNatClampNeg a4).1 (this + 1) a3.toNatClampNeg)) (this + 5) (3 : Int32).toNatClampNeg a2) (this + 5) (4 : Int32).toNatClampNeg a1) (this + 5) (5 : Int32).toNatClampNeg v1) h
    · rw [if_neg c4] at h
      refine Go.aload_n (k := 0) (i := 0) 1 (by decide +kernel) rfl rfl ?_
      refine Go.aload_n (k := 0) (i := 0) 1 (by decide +kernel) rfl rfl ?_
      refine Go.get this 7 (.int ((u1 (u1 (u1 (u1 (u1 (u1 P (this + 5) (0 : Int32).toNatClampNeg a3) (this + 5) (1 : Int32).toNatClampNeg a4) (this + 5) (2 : Int32).toNatClampNeg ((u1 (u1 P (this + 5) (0 : Int32).toNatClampNeg a3) (this + 5) (1 : Int32).toNatClampNeg a4).1 (this + 1) a3.toNatClampNeg)) (this + 5) (3 : Int32).toNatClampNeg a2) (this + 5) (4 : Int32).toNatClampNeg a1) (this + 5) (5 : Int32).toNatClampNeg v1).1 this 7)) (by decide) (by decide) hthis (ltO hE hthis) rfl lk105 (by decide +kernel) ?_
      refine Go.aload_n (k := 0) (i := 0) 1 (by decide +kernel) rfl rfl ?_
      refine Go.get this 8 (.int ((u1 (u1 (u1 (u1 (u1 (u1 P (this + 5) (0 : Int32).toNatClampNeg a3) (this + 5) (1 : Int32).toNatClampNeg a4) (this + 5) (2 : Int32).toNatClampNeg ((u1 (u1 P (this + 5) (0 : Int32).toNatClampNeg a3) (this + 5) (1 : Int32).toNatClampNeg a4).1 (this + 1) a3.toNatClampNeg)) (this + 5) (3 : Int32).toNatClampNeg a2) (this + 5) (4 : Int32).toNatClampNeg a1) (this + 5) (5 : Int32).toNatClampNeg v1).1 this 8)) (by decide) (by decide) hthis (ltO hE hthis) rfl lk107 (by decide +kernel) ?_
      obtain ⟨v5, P6, hv5, h⟩ := St.bd2 h
      refine Go.cV_i (P1 := P6) (v := v5) (d - 1) this [.int ((u1 (u1 (u1 (u1 (u1 (u1 P (this + 5) (0 : Int32).toNatClampNeg a3) (this + 5) (1 : Int32).toNatClampNeg a4) (this + 5) (2 : Int32).toNatClampNeg ((u1 (u1 P (this + 5) (0 : Int32).toNatClampNeg a3) (this + 5) (1 : Int32).toNatClampNeg a4).1 (this + 1) a3.toNatClampNeg)) (this + 5) (3 : Int32).toNatClampNeg a2) (this + 5) (4 : Int32).toNatClampNeg a1) (this + 5) (5 : Int32).toNatClampNeg v1).1 this 7), .int ((u1 (u1 (u1 (u1 (u1 (u1 P (this + 5) (0 : Int32).toNatClampNeg a3) (this + 5) (1 : Int32).toNatClampNeg a4) (this + 5) (2 : Int32).toNatClampNeg ((u1 (u1 P (this + 5) (0 : Int32).toNatClampNeg a3) (this + 5) (1 : Int32).toNatClampNeg a4).1 (this + 1) a3.toNatClampNeg)) (this + 5) (3 : Int32).toNatClampNeg a2) (this + 5) (4 : Int32).toNatClampNeg a1) (this + 5) (5 : Int32).toNatClampNeg v1).1 this 8)] hthis hE w_Ne_valueOf (e_Ne_valueOf hG hE (d - 1) (by omega) this hthis ((u1 (u1 (u1 (u1 (u1 (u1 P (this + 5) (0 : Int32).toNatClampNeg a3) (this + 5) (1 : Int32).toNatClampNeg a4) (this + 5) (2 : Int32).toNatClampNeg ((u1 (u1 P (this + 5) (0 : Int32).toNatClampNeg a3) (this + 5) (1 : Int32).toNatClampNeg a4).1 (this + 1) a3.toNatClampNeg)) (this + 5) (3 : Int32).toNatClampNeg a2) (this + 5) (4 : Int32).toNatClampNeg a1) (this + 5) (5 : Int32).toNatClampNeg v1).1 this 7) ((u1 (u1 (u1 (u1 (u1 (u1 P (this + 5) (0 : Int32).toNatClampNeg a3) (this + 5) (1 : Int32).toNatClampNeg a4) (this + 5) (2 : Int32).toNatClampNeg ((u1 (u1 P (this + 5) (0 : Int32).toNatClampNeg a3) (this + 5) (1 : Int32).toNatClampNeg a4).1 (this + 1) a3.toNatClampNeg)) (this + 5) (3 : Int32).toNatClampNeg a2) (this + 5) (4 : Int32).toNatClampNeg a1) (this + 5) (5 : Int32).toNatClampNeg v1).1 this 8) (u1 (u1 (u1 (u1 (u1 (u1 P (this + 5) (0 : Int32).toNatClampNeg a3) (this + 5) (1 : Int32).toNatClampNeg a4) (this + 5) (2 : Int32).toNatClampNeg ((u1 (u1 P (this + 5) (0 : Int32).toNatClampNeg a3) (this + 5) (1 : Int32).toNatClampNeg a4).1 (this + 1) a3.toNatClampNeg)) (this + 5) (3 : Int32).toNatClampNeg a2) (this + 5) (4 : Int32).toNatClampNeg a1) (this + 5) (5 : Int32).toNatClampNeg v1) ⟨_, hv5, rfl, rfl, rfl⟩) lk769 rfl (by omega) (Nat.le_of_ble_eq_true rfl) (by decide +kernel) _ rfl ?_
      refine Go.if_ne (off := 5) 92 (by decide +kernel) (by decide) (fun c7 => ?_) (fun c7 => ?_)
      · rw [if_neg c7] at h
        refine Go.sub [1, 3] [(0, .ref (ad E this)), (2, .int a2)] rfl ?_
        exact t_j_Ne_carried_92 hG hE d hd this hthis a2 P6 h
      · rw [if_pos c7] at h
        refine Go.iconst (n := -1) (-1 : Int32) (by decide +kernel) rfl ?_
        exact Go.iret rfl rfl hE.2 (by decide +kernel) (St.fIP h)
  · rw [if_pos c2] at h
    refine Go.iconst (n := -1) (-1 : Int32) (by decide +kernel) rfl ?_
    exact Go.iret rfl rfl hE.2 (by decide +kernel) (St.fIP h)
theorem e_Ne_carried {G : GX} (hG : GOK G) {E : EV} (hE : E0 E) (d : Nat) (hd : 3 ≤ d) (this : Nat) (hthis : sh this = .inl 2) (a1 : Int32) (a2 : Int32) (a3 : Int32) (a4 : Int32) (P : PM) {Q : QT} (h : St E rIP (f_Ne_carried this a1 a2 a3 a4 P) Q) : Con G y_Ne_carried cw_Ne_carried d nOb nOb [.ref (ad E this), .int a1, .int a2, .int a3, .int a4] P E Q :=
  Con.of hG (by decide +kernel) rfl (fun h => by cases h) hE.2 (Nat.le_of_ble_eq_true rfl) (t_f_Ne_carried hG hE d hd this hthis a1 a2 a3 a4 P h)
abbrev c_De_sizeAt : ByteArray := prog_2_method_6_code
abbrev y_De_sizeAt : MethodName := ⟨"YawnRoute$Deeds", "sizeAt", "(I)I"⟩
abbrev cw_De_sizeAt : Cond := .code y_De_sizeAt c_De_sizeAt 2 (some .int)
theorem w_De_sizeAt : VW 0 y_De_sizeAt c_De_sizeAt 2 (some .int) 1 := ⟨by decide, lk760, lk761, lk8, lk762, ⟨by decide, by decide, by decide +kernel⟩, by decide⟩
noncomputable def f_De_sizeAt (a1 : Int32) (P : PM) : Option (Int32 × PM) := if (P.1 21 0) = (-1 : Int32) then (some ((-1 : Int32), P)) else (if (f_Sa_isAsleep 21 a1 P) = (0 : Int32) then ((f_Sa_dullOf 21 a1 P).bind (fun v3 => bd2 (f_Ne_carried 14 (P.1 21 0) (P.1 21 1) a1 v3 P) (fun v4 P5 => some (v4, P5)))) else (some ((-1 : Int32), P)))
theorem t_f_De_sizeAt {G : GX} (hG : GOK G) {E : EV} (hE : E0 E) (d : Nat) (hd : 4 ≤ d) {Q : QT} (a1 : Int32) (P : PM) (h : St E rIP (f_De_sizeAt a1 P) Q) : Go G c_De_sizeAt "YawnRoute$Deeds" 2 (some .int) false d nOb nOb Q 0 [(0, .ref (ad E 31)), (1, .int a1)] [] P E := by
  rw [f_De_sizeAt] at h
  refine Go.aload_n (k := 0) (i := 0) 0 (by decide +kernel) rfl rfl ?_
  refine Go.get 31 1 (.ref (ad E 21)) (by decide) (by decide) sh31 (ltO hE sh31) (vlR hE rfl rfl) lk243 (by decide +kernel) ?_
  refine Go.get 21 0 (.int (P.1 21 0)) (by decide) (by decide) sh21 (ltO hE sh21) rfl lk152 (by decide +kernel) ?_
  refine Go.iconst (n := -1) (-1 : Int32) (by decide +kernel) rfl ?_
  refine Go.icmp_eq (off := 14) 22 (by decide +kernel) (by decide) (fun c1 => ?_) (fun c1 => ?_)
  · rw [if_pos c1] at h
    refine Go.iconst (n := -1) (-1 : Int32) (by decide +kernel) rfl ?_
    exact Go.iret rfl rfl hE.2 (by decide +kernel) (St.fIP h)
  · rw [if_neg c1] at h
    refine Go.aload_n (k := 0) (i := 0) 0 (by decide +kernel) rfl rfl ?_
    refine Go.get 31 1 (.ref (ad E 21)) (by decide) (by decide) sh31 (ltO hE sh31) (vlR hE rfl rfl) lk243 (by decide +kernel) ?_
    refine Go.iload_n (k := 1) (i := 1) 1 (by decide +kernel) rfl rfl ?_
    refine Go.cV_i (P1 := P) (v := (f_Sa_isAsleep 21 a1 P)) (d - 1) 21 [.int a1] sh21 hE w_Sa_isAsleep (e_Sa_isAsleep hG hE (d - 1) (by omega) 21 sh21 a1 P ⟨rfl, rfl, rfl⟩) lk763 rfl (by omega) (Nat.le_of_ble_eq_true rfl) (by decide +kernel) _ rfl ?_
    refine Go.if_eq (off := 5) 24 (by decide +kernel) (by decide) (fun c2 => ?_) (fun c2 => ?_)
    · rw [if_pos c2] at h
      refine Go.aload_n (k := 0) (i := 0) 0 (by decide +kernel) rfl rfl ?_
      refine Go.get 31 0 (.ref (ad E 14)) (by decide) (by decide) sh31 (ltO hE sh31) (vlR hE rfl rfl) lk242 (by decide +kernel) ?_
      refine Go.aload_n (k := 0) (i := 0) 0 (by decide +kernel) rfl rfl ?_
      refine Go.get 31 1 (.ref (ad E 21)) (by decide) (by decide) sh31 (ltO hE sh31) (vlR hE rfl rfl) lk243 (by decide +kernel) ?_
      refine Go.get 21 0 (.int (P.1 21 0)) (by decide) (by decide) sh21 (ltO hE sh21) rfl lk152 (by decide +kernel) ?_
      refine Go.aload_n (k := 0) (i := 0) 0 (by decide +kernel) rfl rfl ?_
      refine Go.get 31 1 (.ref (ad E 21)) (by decide) (by decide) sh31 (ltO hE sh31) (vlR hE rfl rfl) lk243 (by decide +kernel) ?_
      refine Go.get 21 1 (.int (P.1 21 1)) (by decide) (by decide) sh21 (ltO hE sh21) rfl lk157 (by decide +kernel) ?_
      refine Go.iload_n (k := 1) (i := 1) 1 (by decide +kernel) rfl rfl ?_
      refine Go.aload_n (k := 0) (i := 0) 0 (by decide +kernel) rfl rfl ?_
      refine Go.get 31 1 (.ref (ad E 21)) (by decide) (by decide) sh31 (ltO hE sh31) (vlR hE rfl rfl) lk243 (by decide +kernel) ?_
      refine Go.iload_n (k := 1) (i := 1) 1 (by decide +kernel) rfl rfl ?_
      obtain ⟨v3, hv3, h⟩ := St.bind h
      refine Go.cV_i (P1 := P) (v := v3) (d - 1) 21 [.int a1] sh21 hE w_Sa_dullOf (e_Sa_dullOf hG hE (d - 1) (by omega) 21 sh21 a1 P ⟨_, hv3, rfl, rfl, rfl⟩) lk764 rfl (by omega) (Nat.le_of_ble_eq_true rfl) (by decide +kernel) _ rfl ?_
      obtain ⟨v4, P5, hv4, h⟩ := St.bd2 h
      refine Go.cV_i (P1 := P5) (v := v4) (d - 1) 14 [.int (P.1 21 0), .int (P.1 21 1), .int a1, .int v3] sh14 hE w_Ne_carried (e_Ne_carried hG hE (d - 1) (by omega) 14 sh14 (P.1 21 0) (P.1 21 1) a1 v3 P ⟨_, hv4, rfl, rfl, rfl⟩) lk765 rfl (by omega) (Nat.le_of_ble_eq_true rfl) (by decide +kernel) _ rfl ?_
      exact Go.iret rfl rfl hE.2 (by decide +kernel) (St.fIP h)
    · rw [if_neg c2] at h
      refine Go.iconst (n := -1) (-1 : Int32) (by decide +kernel) rfl ?_
      exact Go.iret rfl rfl hE.2 (by decide +kernel) (St.fIP h)
theorem e_De_sizeAt {G : GX} (hG : GOK G) {E : EV} (hE : E0 E) (d : Nat) (hd : 4 ≤ d) (a1 : Int32) (P : PM) {Q : QT} (h : St E rIP (f_De_sizeAt a1 P) Q) : Con G y_De_sizeAt cw_De_sizeAt d nOb nOb [.ref (ad E 31), .int a1] P E Q :=
  Con.of hG (by decide +kernel) rfl (fun h => by cases h) hE.2 (Nat.le_of_ble_eq_true rfl) (t_f_De_sizeAt hG hE d hd a1 P h)
abbrev c_Yr_brings : ByteArray := prog_1_method_7_code
abbrev y_Yr_brings : MethodName := ⟨"YawnRoute", "brings", "(I)I"⟩
abbrev cw_Yr_brings : Cond := .code y_Yr_brings c_Yr_brings 3 (some .int)
theorem w_Yr_brings : VW 11 y_Yr_brings c_Yr_brings 3 (some .int) 1 := ⟨by decide, lk756, lk757, lk1, lk758, ⟨by decide, by decide, by decide +kernel⟩, by decide⟩
noncomputable def f_Yr_brings (a1 : Int32) (P : PM) : Option (Int32 × PM) := if (f_Ne_isStation 14 a1 P) = (0 : Int32) then (some ((-2 : Int32), P)) else (bd2 (f_De_sizeAt a1 P) (fun v2 P3 => if v2 = (-1 : Int32) then (some ((-5 : Int32), P3)) else (some (v2, P3))))
theorem t_f_Yr_brings {G : GX} (hG : GOK G) {E : EV} (hE : E0 E) (d : Nat) (hd : 5 ≤ d) {Q : QT} (a1 : Int32) (P : PM) (h : St E rIP (f_Yr_brings a1 P) Q) : Go G c_Yr_brings "YawnRoute" 3 (some .int) false d nOb nOb Q 0 [(0, .ref (ad E 0)), (1, .int a1)] [] P E := by
  rw [f_Yr_brings] at h
  refine Go.aload_n (k := 0) (i := 0) 0 (by decide +kernel) rfl rfl ?_
  refine Go.get 0 2 (.ref (ad E 14)) (by decide) (by decide) sh0 (ltO hE sh0) (vlR hE rfl rfl) lk392 (by decide +kernel) ?_
  refine Go.iload_n (k := 1) (i := 1) 1 (by decide +kernel) rfl rfl ?_
  refine Go.cV_i (P1 := P) (v := (f_Ne_isStation 14 a1 P)) (d - 1) 14 [.int a1] sh14 hE w_Ne_isStation (e_Ne_isStation hG hE (d - 1) (by omega) 14 sh14 a1 P ⟨rfl, rfl, rfl⟩) lk726 rfl (by omega) (Nat.le_of_ble_eq_true rfl) (by decide +kernel) _ rfl ?_
  refine Go.if_ne (off := 6) 14 (by decide +kernel) (by decide) (fun c1 => ?_) (fun c1 => ?_)
  · rw [if_neg c1] at h
    refine Go.aload_n (k := 0) (i := 0) 0 (by decide +kernel) rfl rfl ?_
    refine Go.get 0 5 (.ref (ad E 31)) (by decide) (by decide) sh0 (ltO hE sh0) (vlR hE rfl rfl) lk395 (by decide +kernel) ?_
    refine Go.iload_n (k := 1) (i := 1) 1 (by decide +kernel) rfl rfl ?_
    obtain ⟨v2, P3, hv2, h⟩ := St.bd2 h
    refine Go.cV_i (P1 := P3) (v := v2) (d - 1) 31 [.int a1] sh31 hE w_De_sizeAt (e_De_sizeAt hG hE (d - 1) (by omega) a1 P ⟨_, hv2, rfl, rfl, rfl⟩) lk759 rfl (by omega) (Nat.le_of_ble_eq_true rfl) (by decide +kernel) _ rfl ?_
    refine Go.istore_n (k := 2) (i := 2) [(2, .int v2), (0, .ref (ad E 0)), (1, .int a1)] (by decide +kernel) rfl (by decide) rfl ?_
    refine Go.iload_n (k := 2) (i := 2) 0 (by decide +kernel) rfl rfl ?_
    refine Go.iconst (n := -1) (-1 : Int32) (by decide +kernel) rfl ?_
    refine Go.icmp_ne (off := 8) 33 (by decide +kernel) (by decide) (fun c4 => ?_) (fun c4 => ?_)
    · rw [if_neg c4] at h
      refine Go.iload_n (k := 2) (i := 2) 0 (by decide +kernel) rfl rfl ?_
      exact Go.iret rfl rfl hE.2 (by decide +kernel) (St.fIP h)
    · rw [if_pos c4] at h
      refine Go.bipush (n := -5) (-5 : Int32) (by decide +kernel) (by decide) ?_
      refine Go.goto (off := 4) 34 (by decide +kernel) (by decide) ?_
      exact Go.iret rfl rfl hE.2 (by decide +kernel) (St.fIP h)
  · rw [if_pos c1] at h
    refine Go.bipush (n := -2) (-2 : Int32) (by decide +kernel) (by decide) ?_
    exact Go.iret rfl rfl hE.2 (by decide +kernel) (St.fIP h)
theorem e_Yr_brings {G : GX} (hG : GOK G) {E : EV} (hE : E0 E) (d : Nat) (hd : 5 ≤ d) (a1 : Int32) (P : PM) {Q : QT} (h : St E rIP (f_Yr_brings a1 P) Q) : Con G y_Yr_brings cw_Yr_brings d nOb nOb [.ref (ad E 0), .int a1] P E Q :=
  Con.of hG (by decide +kernel) rfl (fun h => by cases h) hE.2 (Nat.le_of_ble_eq_true rfl) (t_f_Yr_brings hG hE d hd a1 P h)
abbrev c_De_note : ByteArray := prog_2_method_2_code
abbrev y_De_note : MethodName := ⟨"YawnRoute$Deeds", "note", "()V"⟩
abbrev cw_De_note : Cond := .code y_De_note c_De_note 1 none
theorem w_De_note : VW 0 y_De_note c_De_note 1 none 0 := ⟨by decide, lk788, lk789, lk8, lk790, ⟨by decide, by decide, by decide +kernel⟩, by decide⟩
noncomputable def f_De_note (P : PM) : Option PM := ck (inb (P.1 31 7) 11) ((f_Sa_copy (36 + 2 * (P.1 31 7).toNatClampNeg) 21 P).bind (fun P2 => some P2))
theorem t_f_De_note {G : GX} (hG : GOK G) {E : EV} (hE : E0 E) (d : Nat) (hd : 2 ≤ d) {Q : QT} (P : PM) (h : St E rP (f_De_note P) Q) : Go G c_De_note "YawnRoute$Deeds" 1 none false d nOb nOb Q 0 [(0, .ref (ad E 31))] [] P E := by
  rw [f_De_note] at h
  refine Go.aload_n (k := 0) (i := 0) 0 (by decide +kernel) rfl rfl ?_
  refine Go.get 31 6 (.ref (ad E 34)) (by decide) (by decide) sh31 (ltO hE sh31) (vlR hE rfl rfl) lk251 (by decide +kernel) ?_
  refine Go.aload_n (k := 0) (i := 0) 0 (by decide +kernel) rfl rfl ?_
  refine Go.get 31 7 (.int (P.1 31 7)) (by decide) (by decide) sh31 (ltO hE sh31) rfl lk252 (by decide +kernel) ?_
  obtain ⟨b1, h⟩ := St.ck h
  refine Go.aaload 34 4 11 (36 + 2 * (P.1 31 7).toNatClampNeg) sh34 (by decide) (ltA hE sh34 (by decide)) (inb_in b1) (by rw [hE.1]; exact raR34 b1) (by decide +kernel) ?_
  refine Go.aload_n (k := 0) (i := 0) 0 (by decide +kernel) rfl rfl ?_
  refine Go.get 31 1 (.ref (ad E 21)) (by decide) (by decide) sh31 (ltO hE sh31) (vlR hE rfl rfl) lk243 (by decide +kernel) ?_
  obtain ⟨P2, hP2, h⟩ := St.bind h
  refine Go.cV_v (P1 := P2) (d - 1) (36 + 2 * (P.1 31 7).toNatClampNeg) [.ref (ad E 21)] (raS34 b1) hE w_Sa_copy (e_Sa_copy hG hE (d - 1) (by omega) (36 + 2 * (P.1 31 7).toNatClampNeg) (raS34 b1) 21 sh21 P ⟨_, hP2, rfl, rfl, rfl⟩) lk791 rfl (by omega) (Nat.le_of_ble_eq_true rfl) (by decide +kernel) _ rfl ?_
  exact Go.vret rfl hE.2 (by decide +kernel) (St.fP h)
theorem e_De_note {G : GX} (hG : GOK G) {E : EV} (hE : E0 E) (d : Nat) (hd : 2 ≤ d) (P : PM) {Q : QT} (h : St E rP (f_De_note P) Q) : Con G y_De_note cw_De_note d nOb nOb [.ref (ad E 31)] P E Q :=
  Con.of hG (by decide +kernel) rfl (fun h => by cases h) hE.2 (Nat.le_of_ble_eq_true rfl) (t_f_De_note hG hE d hd P h)
abbrev c_De_tryPass : ByteArray := prog_2_method_7_code
abbrev y_De_tryPass : MethodName := ⟨"YawnRoute$Deeds", "tryPass", "(LYawnRoute$State;I)I"⟩
abbrev cw_De_tryPass : Cond := .code y_De_tryPass c_De_tryPass 5 (some .int)
theorem w_De_tryPass : VW 0 y_De_tryPass c_De_tryPass 5 (some .int) 2 := ⟨by decide, lk793, lk794, lk8, lk795, ⟨by decide, by decide, by decide +kernel⟩, by decide⟩
noncomputable def j_De_tryPass_84 (a1 : Nat) (x3 : Int32) (x4 : Int32) (s1 : Int32) (P : PM) : Option (Int32 × PM) := some ((0 : Int32), (u1 (u1 (u1 P a1 0 s1) a1 1 x4) a1 2 (((u1 (u1 P a1 0 s1) a1 1 x4).1 a1 2) + x3)))
noncomputable def f_De_tryPass (a1 : Nat) (a2 : Int32) (P : PM) : Option (Int32 × PM) := if (f_Ne_isStation 14 a2 P) = (0 : Int32) then (some ((1 : Int32), P)) else ((f_Ne_hoursOf 14 (P.1 a1 0) a2 P).bind (fun v2 => if v2 = (0 : Int32) then (some ((2 : Int32), P)) else (if (f_Sa_isAsleep a1 a2 P) = (0 : Int32) then ((f_Sa_dullOf a1 a2 P).bind (fun v5 => bd2 (f_Ne_carried 14 (P.1 a1 0) (P.1 a1 1) a2 v5 P) (fun v6 P7 => if v6 = (-1 : Int32) then (some ((4 : Int32), P7)) else (if v6 ≤ (0 : Int32) then (j_De_tryPass_84 a1 v2 v6 (-1 : Int32) P7) else (j_De_tryPass_84 a1 v2 v6 a2 P7))))) else (some ((3 : Int32), P)))))
theorem t_j_De_tryPass_84 {G : GX} (hG : GOK G) {E : EV} (hE : E0 E) (d : Nat) (hd : 4 ≤ d) {Q : QT} (a1 : Nat) (ha1 : sh a1 = .inl 7) (x3 : Int32) (x4 : Int32) (s1 : Int32) (P : PM) (h : St E rIP (j_De_tryPass_84 a1 x3 x4 s1 P) Q) : Go G c_De_tryPass "YawnRoute$Deeds" 5 (some .int) false d nOb nOb Q 84 [(1, .ref (ad E a1)), (3, .int x3), (4, .int x4)] [.int s1, .ref (ad E a1)] P E := by
  rw [j_De_tryPass_84] at h
  refine Go.put a1 0 (by decide) (by decide) ha1 (ltO hE ha1) (Or.inl rfl) rfl rfl rfl lk152 (by decide +kernel) ?_
  refine Go.aload_n (k := 1) (i := 1) 0 (by decide +kernel) rfl rfl ?_
  refine Go.iload (i := 4) 2 (by decide +kernel) rfl ?_
  refine Go.put a1 1 (by decide) (by decide) ha1 (ltO hE ha1) (Or.inl rfl) rfl rfl rfl lk157 (by decide +kernel) ?_
  refine Go.aload_n (k := 1) (i := 1) 0 (by decide +kernel) rfl rfl ?_
  refine Go.dup (by decide +kernel) rfl ?_
  refine Go.get a1 2 (.int ((u1 (u1 P a1 0 s1) a1 1 x4).1 a1 2)) (by decide) (by decide) ha1 (ltO hE ha1) rfl lk161 (by decide +kernel) ?_
  refine Go.iload_n (k := 3) (i := 3) 1 (by decide +kernel) rfl rfl ?_
  refine Go.iadd (by decide +kernel) ?_
  refine Go.put a1 2 (by decide) (by decide) ha1 (ltO hE ha1) (Or.inl rfl) rfl rfl rfl lk161 (by decide +kernel) ?_
  refine Go.iconst (n := 0) (0 : Int32) (by decide +kernel) rfl ?_
  exact Go.iret rfl rfl hE.2 (by decide +kernel) (St.fIP h)
theorem t_f_De_tryPass {G : GX} (hG : GOK G) {E : EV} (hE : E0 E) (d : Nat) (hd : 4 ≤ d) {Q : QT} (a1 : Nat) (ha1 : sh a1 = .inl 7) (a2 : Int32) (P : PM) (h : St E rIP (f_De_tryPass a1 a2 P) Q) : Go G c_De_tryPass "YawnRoute$Deeds" 5 (some .int) false d nOb nOb Q 0 [(0, .ref (ad E 31)), (1, .ref (ad E a1)), (2, .int a2)] [] P E := by
  rw [f_De_tryPass] at h
  refine Go.aload_n (k := 0) (i := 0) 0 (by decide +kernel) rfl rfl ?_
  refine Go.get 31 0 (.ref (ad E 14)) (by decide) (by decide) sh31 (ltO hE sh31) (vlR hE rfl rfl) lk242 (by decide +kernel) ?_
  refine Go.iload_n (k := 2) (i := 2) 2 (by decide +kernel) rfl rfl ?_
  refine Go.cV_i (P1 := P) (v := (f_Ne_isStation 14 a2 P)) (d - 1) 14 [.int a2] sh14 hE w_Ne_isStation (e_Ne_isStation hG hE (d - 1) (by omega) 14 sh14 a2 P ⟨rfl, rfl, rfl⟩) lk796 rfl (by omega) (Nat.le_of_ble_eq_true rfl) (by decide +kernel) _ rfl ?_
  refine Go.if_ne (off := 5) 13 (by decide +kernel) (by decide) (fun c1 => ?_) (fun c1 => ?_)
  · rw [if_neg c1] at h
    refine Go.aload_n (k := 0) (i := 0) 0 (by decide +kernel) rfl rfl ?_
    refine Go.get 31 0 (.ref (ad E 14)) (by decide) (by decide) sh31 (ltO hE sh31) (vlR hE rfl rfl) lk242 (by decide +kernel) ?_
    refine Go.aload_n (k := 1) (i := 1) 1 (by decide +kernel) rfl rfl ?_
    refine Go.get a1 0 (.int (P.1 a1 0)) (by decide) (by decide) ha1 (ltO hE ha1) rfl lk152 (by decide +kernel) ?_
    refine Go.iload_n (k := 2) (i := 2) 2 (by decide +kernel) rfl rfl ?_
    obtain ⟨v2, hv2, h⟩ := St.bind h
    refine Go.cV_i (P1 := P) (v := v2) (d - 1) 14 [.int (P.1 a1 0), .int a2] sh14 hE w_Ne_hoursOf (e_Ne_hoursOf hG hE (d - 1) (by omega) 14 sh14 (P.1 a1 0) a2 P ⟨_, hv2, rfl, rfl, rfl⟩) lk797 rfl (by omega) (Nat.le_of_ble_eq_true rfl) (by decide +kernel) _ rfl ?_
    refine Go.istore_n (k := 3) (i := 3) [(3, .int v2), (0, .ref (ad E 31)), (1, .ref (ad E a1)), (2, .int a2)] (by decide +kernel) rfl (by decide) rfl ?_
    refine Go.iload_n (k := 3) (i := 3) 0 (by decide +kernel) rfl rfl ?_
    refine Go.if_ne (off := 5) 32 (by decide +kernel) (by decide) (fun c3 => ?_) (fun c3 => ?_)
    · rw [if_neg c3] at h
      refine Go.aload_n (k := 1) (i := 1) 2 (by decide +kernel) rfl rfl ?_
      refine Go.iload_n (k := 2) (i := 2) 3 (by decide +kernel) rfl rfl ?_
      refine Go.cV_i (P1 := P) (v := (f_Sa_isAsleep a1 a2 P)) (d - 1) a1 [.int a2] ha1 hE w_Sa_isAsleep (e_Sa_isAsleep hG hE (d - 1) (by omega) a1 ha1 a2 P ⟨rfl, rfl, rfl⟩) lk763 rfl (by omega) (Nat.le_of_ble_eq_true rfl) (by decide +kernel) _ rfl ?_
      refine Go.if_eq (off := 5) 42 (by decide +kernel) (by decide) (fun c4 => ?_) (fun c4 => ?_)
      · rw [if_pos c4] at h
        refine Go.aload_n (k := 0) (i := 0) 1 (by decide +kernel) rfl rfl ?_
        refine Go.get 31 0 (.ref (ad E 14)) (by decide) (by decide) sh31 (ltO hE sh31) (vlR hE rfl rfl) lk242 (by decide +kernel) ?_
        refine Go.aload_n (k := 1) (i := 1) 2 (by decide +kernel) rfl rfl ?_
        refine Go.get a1 0 (.int (P.1 a1 0)) (by decide) (by decide) ha1 (ltO hE ha1) rfl lk152 (by decide +kernel) ?_
        refine Go.aload_n (k := 1) (i := 1) 2 (by decide +kernel) rfl rfl ?_
        refine Go.get a1 1 (.int (P.1 a1 1)) (by decide) (by decide) ha1 (ltO hE ha1) rfl lk157 (by decide +kernel) ?_
        refine Go.iload_n (k := 2) (i := 2) 3 (by decide +kernel) rfl rfl ?_
        refine Go.aload_n (k := 1) (i := 1) 2 (by decide +kernel) rfl rfl ?_
        refine Go.iload_n (k := 2) (i := 2) 3 (by decide +kernel) rfl rfl ?_
        obtain ⟨v5, hv5, h⟩ := St.bind h
        refine Go.cV_i (P1 := P) (v := v5) (d - 1) a1 [.int a2] ha1 hE w_Sa_dullOf (e_Sa_dullOf hG hE (d - 1) (by omega) a1 ha1 a2 P ⟨_, hv5, rfl, rfl, rfl⟩) lk764 rfl (by omega) (Nat.le_of_ble_eq_true rfl) (by decide +kernel) _ rfl ?_
        obtain ⟨v6, P7, hv6, h⟩ := St.bd2 h
        refine Go.cV_i (P1 := P7) (v := v6) (d - 1) 14 [.int (P.1 a1 0), .int (P.1 a1 1), .int a2, .int v5] sh14 hE w_Ne_carried (e_Ne_carried hG hE (d - 1) (by omega) 14 sh14 (P.1 a1 0) (P.1 a1 1) a2 v5 P ⟨_, hv6, rfl, rfl, rfl⟩) lk765 rfl (by omega) (Nat.le_of_ble_eq_true rfl) (by decide +kernel) _ rfl ?_
        refine Go.istore (i := 4) [(4, .int v6), (3, .int v2), (0, .ref (ad E 31)), (1, .ref (ad E a1)), (2, .int a2)] (by decide +kernel) (by decide) rfl ?_
        refine Go.iload (i := 4) 0 (by decide +kernel) rfl ?_
        refine Go.iconst (n := -1) (-1 : Int32) (by decide +kernel) rfl ?_
        refine Go.icmp_ne (off := 5) 73 (by decide +kernel) (by decide) (fun c8 => ?_) (fun c8 => ?_)
        · rw [if_neg c8] at h
          refine Go.aload_n (k := 1) (i := 1) 3 (by decide +kernel) rfl rfl ?_
          refine Go.iload (i := 4) 0 (by decide +kernel) rfl ?_
          refine Go.if_le (off := 7) 83 (by decide +kernel) (by decide) (fun c9 => ?_) (fun c9 => ?_)
          · rw [if_pos c9] at h
            refine Go.iconst (n := -1) (-1 : Int32) (by decide +kernel) rfl ?_
            refine Go.sub [3, 1, 0] [(1, .ref (ad E a1)), (3, .int v2), (4, .int v6)] rfl ?_
            exact t_j_De_tryPass_84 hG hE d hd a1 ha1 v2 v6 (-1 : Int32) P7 h
          · rw [if_neg c9] at h
            refine Go.iload_n (k := 2) (i := 2) 4 (by decide +kernel) rfl rfl ?_
            refine Go.goto (off := 4) 84 (by decide +kernel) (by decide) ?_
            refine Go.sub [3, 1, 0] [(1, .ref (ad E a1)), (3, .int v2), (4, .int v6)] rfl ?_
            exact t_j_De_tryPass_84 hG hE d hd a1 ha1 v2 v6 a2 P7 h
        · rw [if_pos c8] at h
          refine Go.iconst (n := 4) (4 : Int32) (by decide +kernel) rfl ?_
          exact Go.iret rfl rfl hE.2 (by decide +kernel) (St.fIP h)
      · rw [if_neg c4] at h
        refine Go.iconst (n := 3) (3 : Int32) (by decide +kernel) rfl ?_
        exact Go.iret rfl rfl hE.2 (by decide +kernel) (St.fIP h)
    · rw [if_pos c3] at h
      refine Go.iconst (n := 2) (2 : Int32) (by decide +kernel) rfl ?_
      exact Go.iret rfl rfl hE.2 (by decide +kernel) (St.fIP h)
  · rw [if_pos c1] at h
    refine Go.iconst (n := 1) (1 : Int32) (by decide +kernel) rfl ?_
    exact Go.iret rfl rfl hE.2 (by decide +kernel) (St.fIP h)
theorem e_De_tryPass {G : GX} (hG : GOK G) {E : EV} (hE : E0 E) (d : Nat) (hd : 4 ≤ d) (a1 : Nat) (ha1 : sh a1 = .inl 7) (a2 : Int32) (P : PM) {Q : QT} (h : St E rIP (f_De_tryPass a1 a2 P) Q) : Con G y_De_tryPass cw_De_tryPass d nOb nOb [.ref (ad E 31), .ref (ad E a1), .int a2] P E Q :=
  Con.of hG (by decide +kernel) rfl (fun h => by cases h) hE.2 (Nat.le_of_ble_eq_true rfl) (t_f_De_tryPass hG hE d hd a1 ha1 a2 P h)
abbrev c_De_keep : ByteArray := prog_2_method_3_code
abbrev y_De_keep : MethodName := ⟨"YawnRoute$Deeds", "keep", "()V"⟩
abbrev cw_De_keep : Cond := .code y_De_keep c_De_keep 1 none
theorem w_De_keep : VW 0 y_De_keep c_De_keep 1 none 0 := ⟨by decide, lk803, lk804, lk8, lk805, ⟨by decide, by decide, by decide +kernel⟩, by decide⟩
noncomputable def f_De_keep (P : PM) : Option PM := some (u1 (u1 P 31 7 (((P.1 31 7) + (1 : Int32)) - ((P.1 31 7) + (1 : Int32)) / (11 : Int32) * (11 : Int32))) 31 5 (mn (((u1 P 31 7 (((P.1 31 7) + (1 : Int32)) - ((P.1 31 7) + (1 : Int32)) / (11 : Int32) * (11 : Int32))).1 31 5) + (1 : Int32)) (10 : Int32)))
theorem t_f_De_keep {G : GX} (hG : GOK G) {E : EV} (hE : E0 E) (d : Nat) (hd : 1 ≤ d) {Q : QT} (P : PM) (h : St E rP (f_De_keep P) Q) : Go G c_De_keep "YawnRoute$Deeds" 1 none false d nOb nOb Q 0 [(0, .ref (ad E 31))] [] P E := by
  rw [f_De_keep] at h
  refine Go.aload_n (k := 0) (i := 0) 0 (by decide +kernel) rfl rfl ?_
  refine Go.aload_n (k := 0) (i := 0) 0 (by decide +kernel) rfl rfl ?_
  refine Go.get 31 7 (.int (P.1 31 7)) (by decide) (by decide) sh31 (ltO hE sh31) rfl lk252 (by decide +kernel) ?_
  refine Go.iconst (n := 1) (1 : Int32) (by decide +kernel) rfl ?_
  refine Go.iadd (by decide +kernel) ?_
  refine Go.bipush (n := 11) (11 : Int32) (by decide +kernel) (by decide) ?_
  refine Go.irem (by decide +kernel) (by decide) ?_
  refine Go.put 31 7 (by decide) (by decide) sh31 (ltO hE sh31) (Or.inl rfl) rfl rfl rfl lk252 (by decide +kernel) ?_
  refine Go.aload_n (k := 0) (i := 0) 0 (by decide +kernel) rfl rfl ?_
  refine Go.aload_n (k := 0) (i := 0) 0 (by decide +kernel) rfl rfl ?_
  refine Go.get 31 5 (.int ((u1 P 31 7 (((P.1 31 7) + (1 : Int32)) - ((P.1 31 7) + (1 : Int32)) / (11 : Int32) * (11 : Int32))).1 31 5)) (by decide) (by decide) sh31 (ltO hE sh31) rfl lk249 (by decide +kernel) ?_
  refine Go.iconst (n := 1) (1 : Int32) (by decide +kernel) rfl ?_
  refine Go.iadd (by decide +kernel) ?_
  refine Go.bipush (n := 10) (10 : Int32) (by decide +kernel) (by decide) ?_
  refine Go.mmin lk806 (Nat.le_of_eq hE.2) (by omega) (Nat.le_of_ble_eq_true rfl) (by decide +kernel) ?_
  refine Go.put 31 5 (by decide) (by decide) sh31 (ltO hE sh31) (Or.inl rfl) rfl rfl rfl lk249 (by decide +kernel) ?_
  exact Go.vret rfl hE.2 (by decide +kernel) (St.fP h)
theorem e_De_keep {G : GX} (hG : GOK G) {E : EV} (hE : E0 E) (d : Nat) (hd : 1 ≤ d) (P : PM) {Q : QT} (h : St E rP (f_De_keep P) Q) : Con G y_De_keep cw_De_keep d nOb nOb [.ref (ad E 31)] P E Q :=
  Con.of hG (by decide +kernel) rfl (fun h => by cases h) hE.2 (Nat.le_of_ble_eq_true rfl) (t_f_De_keep hG hE d hd P h)
abbrev c_Yr_answered : ByteArray := prog_1_method_45_code
abbrev y_Yr_answered : MethodName := ⟨"YawnRoute", "answered", "(II)I"⟩
abbrev cw_Yr_answered : Cond := .code y_Yr_answered c_Yr_answered 3 (some .int)
theorem w_Yr_answered : VW 11 y_Yr_answered c_Yr_answered 3 (some .int) 2 := ⟨by decide, lk800, lp21_, lk1, lk801, ⟨by decide, by decide, by decide +kernel⟩, by decide⟩
noncomputable def f_Yr_answered (a1 : Int32) (a2 : Int32) (P : PM) : Option (Int32 × PM) := if a1 = (0 : Int32) then ((f_De_keep P).bind (fun P2 => some (a2, P2))) else (some (((-10 : Int32) - a1), P))
theorem t_f_Yr_answered {G : GX} (hG : GOK G) {E : EV} (hE : E0 E) (d : Nat) (hd : 2 ≤ d) {Q : QT} (a1 : Int32) (a2 : Int32) (P : PM) (h : St E rIP (f_Yr_answered a1 a2 P) Q) : Go G c_Yr_answered "YawnRoute" 3 (some .int) false d nOb nOb Q 0 [(0, .ref (ad E 0)), (1, .int a1), (2, .int a2)] [] P E := by
  rw [f_Yr_answered] at h
  refine Go.iload_n (k := 1) (i := 1) 1 (by decide +kernel) rfl rfl ?_
  refine Go.if_eq (off := 8) 9 (by decide +kernel) (by decide) (fun c1 => ?_) (fun c1 => ?_)
  · rw [if_pos c1] at h
    refine Go.aload_n (k := 0) (i := 0) 0 (by decide +kernel) rfl rfl ?_
    refine Go.get 0 5 (.ref (ad E 31)) (by decide) (by decide) sh0 (ltO hE sh0) (vlR hE rfl rfl) lk395 (by decide +kernel) ?_
    obtain ⟨P2, hP2, h⟩ := St.bind h
    refine Go.cV_v (P1 := P2) (d - 1) 31 [] sh31 hE w_De_keep (e_De_keep hG hE (d - 1) (by omega) P ⟨_, hP2, rfl, rfl, rfl⟩) lk802 rfl (by omega) (Nat.le_of_ble_eq_true rfl) (by decide +kernel) _ rfl ?_
    refine Go.iload_n (k := 2) (i := 2) 2 (by decide +kernel) rfl rfl ?_
    exact Go.iret rfl rfl hE.2 (by decide +kernel) (St.fIP h)
  · rw [if_neg c1] at h
    refine Go.bipush (n := -10) (-10 : Int32) (by decide +kernel) (by decide) ?_
    refine Go.iload_n (k := 1) (i := 1) 1 (by decide +kernel) rfl rfl ?_
    refine Go.isub (by decide +kernel) ?_
    exact Go.iret rfl rfl hE.2 (by decide +kernel) (St.fIP h)
theorem e_Yr_answered {G : GX} (hG : GOK G) {E : EV} (hE : E0 E) (d : Nat) (hd : 2 ≤ d) (a1 : Int32) (a2 : Int32) (P : PM) {Q : QT} (h : St E rIP (f_Yr_answered a1 a2 P) Q) : Con G y_Yr_answered cw_Yr_answered d nOb nOb [.ref (ad E 0), .int a1, .int a2] P E Q :=
  Con.of hG (by decide +kernel) rfl (fun h => by cases h) hE.2 (Nat.le_of_ble_eq_true rfl) (t_f_Yr_answered hG hE d hd a1 a2 P h)
abbrev c_Yr_pass : ByteArray := prog_1_method_8_code
abbrev y_Yr_pass : MethodName := ⟨"YawnRoute", "pass", "(I)I"⟩
abbrev cw_Yr_pass : Cond := .code y_Yr_pass c_Yr_pass 3 (some .int)
theorem w_Yr_pass : VW 11 y_Yr_pass c_Yr_pass 3 (some .int) 1 := ⟨by decide, lk784, lk785, lk1, lk786, ⟨by decide, by decide, by decide +kernel⟩, by decide⟩
noncomputable def f_Yr_pass (a1 : Int32) (P : PM) : Option (Int32 × PM) := (f_De_note P).bind (fun P1 => bd2 (f_De_tryPass 21 a1 P1) (fun v2 P3 => bd2 (f_Yr_answered v2 (P3.1 21 1) P3) (fun v4 P5 => some (v4, P5))))
theorem t_f_Yr_pass {G : GX} (hG : GOK G) {E : EV} (hE : E0 E) (d : Nat) (hd : 5 ≤ d) {Q : QT} (a1 : Int32) (P : PM) (h : St E rIP (f_Yr_pass a1 P) Q) : Go G c_Yr_pass "YawnRoute" 3 (some .int) false d nOb nOb Q 0 [(0, .ref (ad E 0)), (1, .int a1)] [] P E := by
  rw [f_Yr_pass] at h
  refine Go.aload_n (k := 0) (i := 0) 0 (by decide +kernel) rfl rfl ?_
  refine Go.get 0 5 (.ref (ad E 31)) (by decide) (by decide) sh0 (ltO hE sh0) (vlR hE rfl rfl) lk395 (by decide +kernel) ?_
  obtain ⟨P1, hP1, h⟩ := St.bind h
  refine Go.cV_v (P1 := P1) (d - 1) 31 [] sh31 hE w_De_note (e_De_note hG hE (d - 1) (by omega) P ⟨_, hP1, rfl, rfl, rfl⟩) lk787 rfl (by omega) (Nat.le_of_ble_eq_true rfl) (by decide +kernel) _ rfl ?_
  refine Go.aload_n (k := 0) (i := 0) 0 (by decide +kernel) rfl rfl ?_
  refine Go.get 0 5 (.ref (ad E 31)) (by decide) (by decide) sh0 (ltO hE sh0) (vlR hE rfl rfl) lk395 (by decide +kernel) ?_
  refine Go.aload_n (k := 0) (i := 0) 0 (by decide +kernel) rfl rfl ?_
  refine Go.get 0 3 (.ref (ad E 21)) (by decide) (by decide) sh0 (ltO hE sh0) (vlR hE rfl rfl) lk393 (by decide +kernel) ?_
  refine Go.iload_n (k := 1) (i := 1) 1 (by decide +kernel) rfl rfl ?_
  obtain ⟨v2, P3, hv2, h⟩ := St.bd2 h
  refine Go.cV_i (P1 := P3) (v := v2) (d - 1) 31 [.ref (ad E 21), .int a1] sh31 hE w_De_tryPass (e_De_tryPass hG hE (d - 1) (by omega) 21 sh21 a1 P1 ⟨_, hv2, rfl, rfl, rfl⟩) lk792 rfl (by omega) (Nat.le_of_ble_eq_true rfl) (by decide +kernel) _ rfl ?_
  refine Go.istore_n (k := 2) (i := 2) [(2, .int v2), (0, .ref (ad E 0)), (1, .int a1)] (by decide +kernel) rfl (by decide) rfl ?_
  refine Go.aload_n (k := 0) (i := 0) 1 (by decide +kernel) rfl rfl ?_
  refine Go.iload_n (k := 2) (i := 2) 0 (by decide +kernel) rfl rfl ?_
  refine Go.aload_n (k := 0) (i := 0) 1 (by decide +kernel) rfl rfl ?_
  refine Go.get 0 3 (.ref (ad E 21)) (by decide) (by decide) sh0 (ltO hE sh0) (vlR hE rfl rfl) lk393 (by decide +kernel) ?_
  refine Go.get 21 1 (.int (P3.1 21 1)) (by decide) (by decide) sh21 (ltO hE sh21) rfl lk159 (by decide +kernel) ?_
  obtain ⟨v4, P5, hv4, h⟩ := St.bd2 h
  refine Go.cV_i (P1 := P5) (v := v4) (d - 1) 0 [.int v2, .int (P3.1 21 1)] sh0 hE w_Yr_answered (e_Yr_answered hG hE (d - 1) (by omega) v2 (P3.1 21 1) P3 ⟨_, hv4, rfl, rfl, rfl⟩) lk798 rfl (by omega) (Nat.le_of_ble_eq_true rfl) (by decide +kernel) _ rfl ?_
  exact Go.iret rfl rfl hE.2 (by decide +kernel) (St.fIP h)
theorem e_Yr_pass {G : GX} (hG : GOK G) {E : EV} (hE : E0 E) (d : Nat) (hd : 5 ≤ d) (a1 : Int32) (P : PM) {Q : QT} (h : St E rIP (f_Yr_pass a1 P) Q) : Con G y_Yr_pass cw_Yr_pass d nOb nOb [.ref (ad E 0), .int a1] P E Q :=
  Con.of hG (by decide +kernel) rfl (fun h => by cases h) hE.2 (Nat.le_of_ble_eq_true rfl) (t_f_Yr_pass hG hE d hd a1 P h)
abbrev c_Yr_isSize : ByteArray := prog_1_method_49_code
abbrev y_Yr_isSize : MethodName := ⟨"YawnRoute", "isSize", "(I)Z"⟩
abbrev cw_Yr_isSize : Cond := .code y_Yr_isSize c_Yr_isSize 1 (some .boolean)
theorem w_Yr_isSize : SW y_Yr_isSize c_Yr_isSize 1 (some .boolean) 1 := ⟨lk816, lk1, lk817, ⟨by decide, by decide, by decide +kernel⟩, by decide⟩
noncomputable def j_Yr_isSize_15 (P : PM) : Int32 := (0 : Int32)
noncomputable def f_Yr_isSize (a0 : Int32) (P : PM) : Int32 := if a0 < (1 : Int32) then (j_Yr_isSize_15 P) else (if (40 : Int32) < a0 then (j_Yr_isSize_15 P) else ((1 : Int32)))
theorem t_j_Yr_isSize_15 {G : GX} (hG : GOK G) {E : EV} (hE : E0 E) (d : Nat) (hd : 1 ≤ d) {P : PM} {Q : QT} (h : Q (some (.int (j_Yr_isSize_15 P))) P E) : Go G c_Yr_isSize "YawnRoute" 1 (some .boolean) false d nOb nOb Q 15 [] [] P E := by
  rw [j_Yr_isSize_15] at h
  refine Go.iconst (n := 0) (0 : Int32) (by decide +kernel) rfl ?_
  exact Go.iret rfl rfl hE.2 (by decide +kernel) h
theorem t_f_Yr_isSize {G : GX} (hG : GOK G) {E : EV} (hE : E0 E) (d : Nat) (hd : 1 ≤ d) {P : PM} {Q : QT} (a0 : Int32) (h : Q (some (.int (f_Yr_isSize a0 P))) P E) : Go G c_Yr_isSize "YawnRoute" 1 (some .boolean) false d nOb nOb Q 0 [(0, .int a0)] [] P E := by
  rw [f_Yr_isSize] at h
  refine Go.iload_n (k := 0) (i := 0) 0 (by decide +kernel) rfl rfl ?_
  refine Go.iconst (n := 1) (1 : Int32) (by decide +kernel) rfl ?_
  refine Go.icmp_lt (off := 13) 15 (by decide +kernel) (by decide) (fun c1 => ?_) (fun c1 => ?_)
  · rw [if_pos c1] at h
    refine Go.sub [] [] rfl ?_
    exact t_j_Yr_isSize_15 hG hE d hd h
  · rw [if_neg c1] at h
    refine Go.iload_n (k := 0) (i := 0) 0 (by decide +kernel) rfl rfl ?_
    refine Go.bipush (n := 40) (40 : Int32) (by decide +kernel) (by decide) ?_
    refine Go.icmp_gt (off := 7) 15 (by decide +kernel) (by decide) (fun c2 => ?_) (fun c2 => ?_)
    · rw [if_pos c2] at h
      refine Go.sub [] [] rfl ?_
      exact t_j_Yr_isSize_15 hG hE d hd h
    · rw [if_neg c2] at h
      refine Go.iconst (n := 1) (1 : Int32) (by decide +kernel) rfl ?_
      refine Go.goto (off := 4) 16 (by decide +kernel) (by decide) ?_
      exact Go.iret rfl rfl hE.2 (by decide +kernel) h
theorem e_Yr_isSize {G : GX} (hG : GOK G) {E : EV} (hE : E0 E) (d : Nat) (hd : 1 ≤ d) (a0 : Int32) (P : PM) {Q : QT} (h : Q (some (.int (f_Yr_isSize a0 P))) P E) : Con G y_Yr_isSize cw_Yr_isSize d nOb nOb [.int a0] P E Q :=
  Con.of hG (by decide +kernel) rfl (fun h => by cases h) hE.2 (Nat.le_of_ble_eq_true rfl) (t_f_Yr_isSize hG hE d hd a0 h)
abbrev c_De_tryOff : ByteArray := prog_2_method_8_code
abbrev y_De_tryOff : MethodName := ⟨"YawnRoute$Deeds", "tryOff", "(LYawnRoute$State;II)I"⟩
abbrev cw_De_tryOff : Cond := .code y_De_tryOff c_De_tryOff 4 (some .int)
theorem w_De_tryOff : VW 0 y_De_tryOff c_De_tryOff 4 (some .int) 3 := ⟨by decide, lk812, lk813, lk8, lk814, ⟨by decide, by decide, by decide +kernel⟩, by decide⟩
noncomputable def f_De_tryOff (a1 : Nat) (a2 : Int32) (a3 : Int32) (P : PM) : Option (Int32 × PM) := if (f_Ne_isStation 14 a2 P) = (0 : Int32) then (some ((1 : Int32), P)) else (if (f_Yr_isSize a3 P) = (0 : Int32) then (some ((1 : Int32), P)) else (some ((0 : Int32), (u1 (u1 P a1 0 a2) a1 1 a3))))
theorem t_f_De_tryOff {G : GX} (hG : GOK G) {E : EV} (hE : E0 E) (d : Nat) (hd : 2 ≤ d) {Q : QT} (a1 : Nat) (ha1 : sh a1 = .inl 7) (a2 : Int32) (a3 : Int32) (P : PM) (h : St E rIP (f_De_tryOff a1 a2 a3 P) Q) : Go G c_De_tryOff "YawnRoute$Deeds" 4 (some .int) false d nOb nOb Q 0 [(0, .ref (ad E 31)), (1, .ref (ad E a1)), (2, .int a2), (3, .int a3)] [] P E := by
  rw [f_De_tryOff] at h
  refine Go.aload_n (k := 0) (i := 0) 0 (by decide +kernel) rfl rfl ?_
  refine Go.get 31 0 (.ref (ad E 14)) (by decide) (by decide) sh31 (ltO hE sh31) (vlR hE rfl rfl) lk242 (by decide +kernel) ?_
  refine Go.iload_n (k := 2) (i := 2) 2 (by decide +kernel) rfl rfl ?_
  refine Go.cV_i (P1 := P) (v := (f_Ne_isStation 14 a2 P)) (d - 1) 14 [.int a2] sh14 hE w_Ne_isStation (e_Ne_isStation hG hE (d - 1) (by omega) 14 sh14 a2 P ⟨rfl, rfl, rfl⟩) lk796 rfl (by omega) (Nat.le_of_ble_eq_true rfl) (by decide +kernel) _ rfl ?_
  refine Go.if_eq (off := 10) 18 (by decide +kernel) (by decide) (fun c1 => ?_) (fun c1 => ?_)
  · rw [if_pos c1] at h
    refine Go.iconst (n := 1) (1 : Int32) (by decide +kernel) rfl ?_
    exact Go.iret rfl rfl hE.2 (by decide +kernel) (St.fIP h)
  · rw [if_neg c1] at h
    refine Go.iload_n (k := 3) (i := 3) 3 (by decide +kernel) rfl rfl ?_
    refine Go.cSN_i (P1 := P) (v := (f_Yr_isSize a3 P)) (d - 1) [.int a3] hE w_Yr_isSize (e_Yr_isSize hG hE (d - 1) (by omega) a3 P ⟨rfl, rfl, rfl⟩) nw10 rfl (by omega) (Nat.le_of_ble_eq_true rfl) (by decide +kernel) _ rfl ?_
    refine Go.if_ne (off := 5) 20 (by decide +kernel) (by decide) (fun c2 => ?_) (fun c2 => ?_)
    · rw [if_neg c2] at h
      refine Go.aload_n (k := 1) (i := 1) 1 (by decide +kernel) rfl rfl ?_
      refine Go.iload_n (k := 2) (i := 2) 2 (by decide +kernel) rfl rfl ?_
      refine Go.put a1 0 (by decide) (by decide) ha1 (ltO hE ha1) (Or.inl rfl) rfl rfl rfl lk152 (by decide +kernel) ?_
      refine Go.aload_n (k := 1) (i := 1) 1 (by decide +kernel) rfl rfl ?_
      refine Go.iload_n (k := 3) (i := 3) 3 (by decide +kernel) rfl rfl ?_
      refine Go.put a1 1 (by decide) (by decide) ha1 (ltO hE ha1) (Or.inl rfl) rfl rfl rfl lk157 (by decide +kernel) ?_
      refine Go.iconst (n := 0) (0 : Int32) (by decide +kernel) rfl ?_
      exact Go.iret rfl rfl hE.2 (by decide +kernel) (St.fIP h)
    · rw [if_pos c2] at h
      refine Go.iconst (n := 1) (1 : Int32) (by decide +kernel) rfl ?_
      exact Go.iret rfl rfl hE.2 (by decide +kernel) (St.fIP h)
theorem e_De_tryOff {G : GX} (hG : GOK G) {E : EV} (hE : E0 E) (d : Nat) (hd : 2 ≤ d) (a1 : Nat) (ha1 : sh a1 = .inl 7) (a2 : Int32) (a3 : Int32) (P : PM) {Q : QT} (h : St E rIP (f_De_tryOff a1 a2 a3 P) Q) : Con G y_De_tryOff cw_De_tryOff d nOb nOb [.ref (ad E 31), .ref (ad E a1), .int a2, .int a3] P E Q :=
  Con.of hG (by decide +kernel) rfl (fun h => by cases h) hE.2 (Nat.le_of_ble_eq_true rfl) (t_f_De_tryOff hG hE d hd a1 ha1 a2 a3 P h)
abbrev c_Yr_off : ByteArray := prog_1_method_9_code
abbrev y_Yr_off : MethodName := ⟨"YawnRoute", "off", "(II)I"⟩
abbrev cw_Yr_off : Cond := .code y_Yr_off c_Yr_off 4 (some .int)
theorem w_Yr_off : VW 11 y_Yr_off c_Yr_off 4 (some .int) 2 := ⟨by decide, lk808, lk809, lk1, lk810, ⟨by decide, by decide, by decide +kernel⟩, by decide⟩
noncomputable def f_Yr_off (a1 : Int32) (a2 : Int32) (P : PM) : Option (Int32 × PM) := (f_De_note P).bind (fun P1 => bd2 (f_De_tryOff 21 a1 a2 P1) (fun v2 P3 => bd2 (f_Yr_answered v2 (P3.1 21 2) P3) (fun v4 P5 => some (v4, P5))))
theorem t_f_Yr_off {G : GX} (hG : GOK G) {E : EV} (hE : E0 E) (d : Nat) (hd : 3 ≤ d) {Q : QT} (a1 : Int32) (a2 : Int32) (P : PM) (h : St E rIP (f_Yr_off a1 a2 P) Q) : Go G c_Yr_off "YawnRoute" 4 (some .int) false d nOb nOb Q 0 [(0, .ref (ad E 0)), (1, .int a1), (2, .int a2)] [] P E := by
  rw [f_Yr_off] at h
  refine Go.aload_n (k := 0) (i := 0) 0 (by decide +kernel) rfl rfl ?_
  refine Go.get 0 5 (.ref (ad E 31)) (by decide) (by decide) sh0 (ltO hE sh0) (vlR hE rfl rfl) lk395 (by decide +kernel) ?_
  obtain ⟨P1, hP1, h⟩ := St.bind h
  refine Go.cV_v (P1 := P1) (d - 1) 31 [] sh31 hE w_De_note (e_De_note hG hE (d - 1) (by omega) P ⟨_, hP1, rfl, rfl, rfl⟩) lk787 rfl (by omega) (Nat.le_of_ble_eq_true rfl) (by decide +kernel) _ rfl ?_
  refine Go.aload_n (k := 0) (i := 0) 0 (by decide +kernel) rfl rfl ?_
  refine Go.get 0 5 (.ref (ad E 31)) (by decide) (by decide) sh0 (ltO hE sh0) (vlR hE rfl rfl) lk395 (by decide +kernel) ?_
  refine Go.aload_n (k := 0) (i := 0) 0 (by decide +kernel) rfl rfl ?_
  refine Go.get 0 3 (.ref (ad E 21)) (by decide) (by decide) sh0 (ltO hE sh0) (vlR hE rfl rfl) lk393 (by decide +kernel) ?_
  refine Go.iload_n (k := 1) (i := 1) 1 (by decide +kernel) rfl rfl ?_
  refine Go.iload_n (k := 2) (i := 2) 2 (by decide +kernel) rfl rfl ?_
  obtain ⟨v2, P3, hv2, h⟩ := St.bd2 h
  refine Go.cV_i (P1 := P3) (v := v2) (d - 1) 31 [.ref (ad E 21), .int a1, .int a2] sh31 hE w_De_tryOff (e_De_tryOff hG hE (d - 1) (by omega) 21 sh21 a1 a2 P1 ⟨_, hv2, rfl, rfl, rfl⟩) lk811 rfl (by omega) (Nat.le_of_ble_eq_true rfl) (by decide +kernel) _ rfl ?_
  refine Go.istore_n (k := 3) (i := 3) [(3, .int v2), (0, .ref (ad E 0)), (1, .int a1), (2, .int a2)] (by decide +kernel) rfl (by decide) rfl ?_
  refine Go.aload_n (k := 0) (i := 0) 1 (by decide +kernel) rfl rfl ?_
  refine Go.iload_n (k := 3) (i := 3) 0 (by decide +kernel) rfl rfl ?_
  refine Go.aload_n (k := 0) (i := 0) 1 (by decide +kernel) rfl rfl ?_
  refine Go.get 0 3 (.ref (ad E 21)) (by decide) (by decide) sh0 (ltO hE sh0) (vlR hE rfl rfl) lk393 (by decide +kernel) ?_
  refine Go.get 21 2 (.int (P3.1 21 2)) (by decide) (by decide) sh21 (ltO hE sh21) rfl lk162 (by decide +kernel) ?_
  obtain ⟨v4, P5, hv4, h⟩ := St.bd2 h
  refine Go.cV_i (P1 := P5) (v := v4) (d - 1) 0 [.int v2, .int (P3.1 21 2)] sh0 hE w_Yr_answered (e_Yr_answered hG hE (d - 1) (by omega) v2 (P3.1 21 2) P3 ⟨_, hv4, rfl, rfl, rfl⟩) lk798 rfl (by omega) (Nat.le_of_ble_eq_true rfl) (by decide +kernel) _ rfl ?_
  exact Go.iret rfl rfl hE.2 (by decide +kernel) (St.fIP h)
theorem e_Yr_off {G : GX} (hG : GOK G) {E : EV} (hE : E0 E) (d : Nat) (hd : 3 ≤ d) (a1 : Int32) (a2 : Int32) (P : PM) {Q : QT} (h : St E rIP (f_Yr_off a1 a2 P) Q) : Con G y_Yr_off cw_Yr_off d nOb nOb [.ref (ad E 0), .int a1, .int a2] P E Q :=
  Con.of hG (by decide +kernel) rfl (fun h => by cases h) hE.2 (Nat.le_of_ble_eq_true rfl) (t_f_Yr_off hG hE d hd a1 a2 P h)
abbrev c_De_trySleep : ByteArray := prog_2_method_9_code
abbrev y_De_trySleep : MethodName := ⟨"YawnRoute$Deeds", "trySleep", "(LYawnRoute$State;I)I"⟩
abbrev cw_De_trySleep : Cond := .code y_De_trySleep c_De_trySleep 3 (some .int)
theorem w_De_trySleep : VW 0 y_De_trySleep c_De_trySleep 3 (some .int) 2 := ⟨by decide, lk823, lk824, lk8, lk825, ⟨by decide, by decide, by decide +kernel⟩, by decide⟩
noncomputable def f_De_trySleep (a1 : Nat) (a2 : Int32) (P : PM) : Option (Int32 × PM) := if (f_Ne_isStation 14 a2 P) = (0 : Int32) then (some ((1 : Int32), P)) else (some ((0 : Int32), (u1 P a1 3 ((P.1 a1 3) ^^^ ((1 : Int32) <<< (a2 &&& 31))))))
theorem t_f_De_trySleep {G : GX} (hG : GOK G) {E : EV} (hE : E0 E) (d : Nat) (hd : 2 ≤ d) {Q : QT} (a1 : Nat) (ha1 : sh a1 = .inl 7) (a2 : Int32) (P : PM) (h : St E rIP (f_De_trySleep a1 a2 P) Q) : Go G c_De_trySleep "YawnRoute$Deeds" 3 (some .int) false d nOb nOb Q 0 [(0, .ref (ad E 31)), (1, .ref (ad E a1)), (2, .int a2)] [] P E := by
  rw [f_De_trySleep] at h
  refine Go.aload_n (k := 0) (i := 0) 0 (by decide +kernel) rfl rfl ?_
  refine Go.get 31 0 (.ref (ad E 14)) (by decide) (by decide) sh31 (ltO hE sh31) (vlR hE rfl rfl) lk242 (by decide +kernel) ?_
  refine Go.iload_n (k := 2) (i := 2) 2 (by decide +kernel) rfl rfl ?_
  refine Go.cV_i (P1 := P) (v := (f_Ne_isStation 14 a2 P)) (d - 1) 14 [.int a2] sh14 hE w_Ne_isStation (e_Ne_isStation hG hE (d - 1) (by omega) 14 sh14 a2 P ⟨rfl, rfl, rfl⟩) lk796 rfl (by omega) (Nat.le_of_ble_eq_true rfl) (by decide +kernel) _ rfl ?_
  refine Go.if_ne (off := 5) 13 (by decide +kernel) (by decide) (fun c1 => ?_) (fun c1 => ?_)
  · rw [if_neg c1] at h
    refine Go.aload_n (k := 1) (i := 1) 1 (by decide +kernel) rfl rfl ?_
    refine Go.dup (by decide +kernel) rfl ?_
    refine Go.get a1 3 (.int (P.1 a1 3)) (by decide) (by decide) ha1 (ltO hE ha1) rfl lk168 (by decide +kernel) ?_
    refine Go.iconst (n := 1) (1 : Int32) (by decide +kernel) rfl ?_
    refine Go.iload_n (k := 2) (i := 2) 2 (by decide +kernel) rfl rfl ?_
    refine Go.ishl (by decide +kernel) ?_
    refine Go.ixor (by decide +kernel) ?_
    refine Go.put a1 3 (by decide) (by decide) ha1 (ltO hE ha1) (Or.inl rfl) rfl rfl rfl lk168 (by decide +kernel) ?_
    refine Go.iconst (n := 0) (0 : Int32) (by decide +kernel) rfl ?_
    exact Go.iret rfl rfl hE.2 (by decide +kernel) (St.fIP h)
  · rw [if_pos c1] at h
    refine Go.iconst (n := 1) (1 : Int32) (by decide +kernel) rfl ?_
    exact Go.iret rfl rfl hE.2 (by decide +kernel) (St.fIP h)
theorem e_De_trySleep {G : GX} (hG : GOK G) {E : EV} (hE : E0 E) (d : Nat) (hd : 2 ≤ d) (a1 : Nat) (ha1 : sh a1 = .inl 7) (a2 : Int32) (P : PM) {Q : QT} (h : St E rIP (f_De_trySleep a1 a2 P) Q) : Con G y_De_trySleep cw_De_trySleep d nOb nOb [.ref (ad E 31), .ref (ad E a1), .int a2] P E Q :=
  Con.of hG (by decide +kernel) rfl (fun h => by cases h) hE.2 (Nat.le_of_ble_eq_true rfl) (t_f_De_trySleep hG hE d hd a1 ha1 a2 P h)
