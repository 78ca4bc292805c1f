/-! methods as functions, by program: Mo_reckons Mo_whyBy Mo_passedTo Mo_station -/
abbrev c_Mo_reckons : ByteArray := prog_14_method_40_code
abbrev y_Mo_reckons : MethodName := ⟨"YawnRouteModel", "reckons", "(IIII)I"⟩
abbrev cw_Mo_reckons : Cond := .code y_Mo_reckons c_Mo_reckons 8 (some .int)
theorem w_Mo_reckons : VW 12 y_Mo_reckons c_Mo_reckons 8 (some .int) 4 := ⟨by decide, lk1584, lp74_, lk14, lk1585, ⟨by decide, by decide, by decide +kernel⟩, by decide⟩
noncomputable def j_Mo_reckons_273 (k73 : Int32 → Int32 → Int32 → PM → Option (Int32 × PM)) (x1 : Int32) (x5 : Int32) (x6 : Int32) (P : PM) : Option (Int32 × PM) := k73 x1 x5 (x6 + (1 : Int32)) P
noncomputable def j_Mo_reckons_147 (k73 : Int32 → Int32 → Int32 → PM → Option (Int32 × PM)) (x1 : Int32) (x5 : Int32) (x6 : Int32) (s1 : Int32) (s2 : Int32) (P : PM) : Option (Int32 × PM) := ck (inb s1 900) (j_Mo_reckons_273 k73 x1 (x5 + (1 : Int32)) x6 (u1 P 114 s1.toNatClampNeg s2))
noncomputable def j_Mo_reckons_236 (k73 : Int32 → Int32 → Int32 → PM → Option (Int32 × PM)) (x1 : Int32) (x5 : Int32) (x6 : Int32) (s1 : Int32) (s2 : Int32) (P : PM) : Option (Int32 × PM) := ck (inb s1 900) (j_Mo_reckons_273 k73 x1 x5 x6 (u1 P 114 s1.toNatClampNeg s2))
noncomputable def l_Mo_reckons_73 : Nat → Int32 → Int32 → Int32 → PM → Option (Int32 × PM)
  | 0, _, _, _, _ => none
  | n + 1, x1, x5, x6, P => ck (inb ((6 : Int32) + x1) 3408) (if (P.1 110 ((6 : Int32) + x1).toNatClampNeg) ≤ x6 then (some ((P.1 114 (0 : Int32).toNatClampNeg), P)) else (ck (inb ((4 : Int32) + x1) 3408) (ck (inb (((236 : Int32) + (P.1 110 ((4 : Int32) + x1).toNatClampNeg)) + x6) 3408) (lb (P.1 110 (((236 : Int32) + (P.1 110 ((4 : Int32) + x1).toNatClampNeg)) + x6).toNatClampNeg) (fun y5 => if (3000 : Int32) ≤ y5 then (if y5 = (3006 : Int32) then (ck (inb (x5 - (1 : Int32)) 900) (ck (inb (x5 - (1 : Int32)) 900) (j_Mo_reckons_273 (fun z0 z1 z2 Pz => l_Mo_reckons_73 n z0 z1 z2 Pz) x1 x5 x6 (u1 P 114 (x5 - (1 : Int32)).toNatClampNeg ((1 : Int32) - (P.1 114 (x5 - (1 : Int32)).toNatClampNeg)))))) else (if y5 = (3009 : Int32) then (ck (inb ((x5 + (-2 : Int32)) - (1 : Int32)) 900) (if (P.1 114 ((x5 + (-2 : Int32)) - (1 : Int32)).toNatClampNeg) = (1 : Int32) then (ck (inb (x5 + (-2 : Int32)) 900) (j_Mo_reckons_236 (fun z0 z1 z2 Pz => l_Mo_reckons_73 n z0 z1 z2 Pz) x1 (x5 + (-2 : Int32)) x6 ((x5 + (-2 : Int32)) - (1 : Int32)) (P.1 114 (x5 + (-2 : Int32)).toNatClampNeg) P)) else (ck (inb ((x5 + (-2 : Int32)) + (1 : Int32)) 900) (j_Mo_reckons_236 (fun z0 z1 z2 Pz => l_Mo_reckons_73 n z0 z1 z2 Pz) x1 (x5 + (-2 : Int32)) x6 ((x5 + (-2 : Int32)) - (1 : Int32)) (P.1 114 ((x5 + (-2 : Int32)) + (1 : Int32)).toNatClampNeg) P)))) else (ck (inb ((x5 + (-1 : Int32)) - (1 : Int32)) 900) (ck (inb (x5 + (-1 : Int32)) 900) (ck (inb ((x5 + (-1 : Int32)) - (1 : Int32)) 900) (j_Mo_reckons_273 (fun z0 z1 z2 Pz => l_Mo_reckons_73 n z0 z1 z2 Pz) x1 (x5 + (-1 : Int32)) x6 (u1 P 114 ((x5 + (-1 : Int32)) - (1 : Int32)).toNatClampNeg (f_Mo_between y5 (P.1 114 ((x5 + (-1 : Int32)) - (1 : Int32)).toNatClampNeg) (P.1 114 (x5 + (-1 : Int32)).toNatClampNeg) P)))))))) else (if (1000 : Int32) ≤ y5 then (ck (inb (y5 - (1000 : Int32)) 6) (j_Mo_reckons_147 (fun z0 z1 z2 Pz => l_Mo_reckons_73 n z0 z1 z2 Pz) x1 x5 x6 x5 (P.1 115 (y5 - (1000 : Int32)).toNatClampNeg) P)) else (j_Mo_reckons_147 (fun z0 z1 z2 Pz => l_Mo_reckons_73 n z0 z1 z2 Pz) x1 x5 x6 x5 y5 P)))))))
noncomputable def f_Mo_reckons (a1 : Int32) (a2 : Int32) (a3 : Int32) (a4 : Int32) (P : PM) : Option (Int32 × PM) := ck (inb ((117 : Int32) + a4) 3408) (ck (inb ((8 : Int32) + a4) 3408) ((f_Mo_hoursOf a2 a4 (u1 (u1 (u1 (u1 (u1 P 115 (0 : Int32).toNatClampNeg a4) 115 (1 : Int32).toNatClampNeg ((u1 P 115 (0 : Int32).toNatClampNeg a4).1 110 ((117 : Int32) + a4).toNatClampNeg)) 115 (2 : Int32).toNatClampNeg ((u1 (u1 P 115 (0 : Int32).toNatClampNeg a4) 115 (1 : Int32).toNatClampNeg ((u1 P 115 (0 : Int32).toNatClampNeg a4).1 110 ((117 : Int32) + a4).toNatClampNeg)).1 110 ((8 : Int32) + a4).toNatClampNeg)) 115 (3 : Int32).toNatClampNeg a3) 115 (4 : Int32).toNatClampNeg a2)).bind (fun v3 => l_Mo_reckons_73 FU a1 (0 : Int32) (0 : Int32) (u1 (u1 (u1 (u1 (u1 (u1 P 115 (0 : Int32).toNatClampNeg a4) 115 (1 : Int32).toNatClampNeg ((u1 P 115 (0 : Int32).toNatClampNeg a4).1 110 ((117 : Int32) + a4).toNatClampNeg)) 115 (2 : Int32).toNatClampNeg ((u1 (u1 P 115 (0 : Int32).toNatClampNeg a4) 115 (1 : Int32).toNatClampNeg ((u1 P 115 (0 : Int32).toNatClampNeg a4).1 110 ((117 : Int32) + a4).toNatClampNeg)).1 110 ((8 : Int32) + a4).toNatClampNeg)) 115 (3 : Int32).toNatClampNeg a3) 115 (4 : Int32).toNatClampNeg a2) 115 (5 : Int32).toNatClampNeg v3))))
theorem t_j_Mo_reckons_273 {G : GX} (hG : GOK G) {E : EV} (hE : E0 E) (d : Nat) (hd : 2 ≤ d) {Q : QT} (k73 : Int32 → Int32 → Int32 → PM → Option (Int32 × PM)) (hk73 : ∀ (x1 : Int32) (x5 : Int32) (x6 : Int32) (P : PM), St E rIP (k73 x1 x5 x6 P) Q → Go G c_Mo_reckons "YawnRouteModel" 8 (some .int) false d nOb nOb Q 73 [(0, .ref (ad E 109)), (1, .int x1), (5, .int x5), (6, .int x6)] [] P E) (x1 : Int32) (x5 : Int32) (x6 : Int32) (P : PM) (h : St E rIP (j_Mo_reckons_273 k73 x1 x5 x6 P) Q) : Go G c_Mo_reckons "YawnRouteModel" 8 (some .int) false d nOb nOb Q 273 [(0, .ref (ad E 109)), (1, .int x1), (5, .int x5), (6, .int x6)] [] P E := by
  rw [j_Mo_reckons_273] at h
  refine Go.iinc (i := 6) (n := 1) 3 (x6 + (1 : Int32)) [(6, .int (x6 + (1 : Int32))), (0, .ref (ad E 109)), (1, .int x1), (5, .int x5)] (by decide +kernel) rfl rfl (by decide) rfl ?_
  refine Go.goto (off := -203) 73 (by decide +kernel) (by decide) ?_
  refine Go.sub [1, 2, 3, 0] [(0, .ref (ad E 109)), (1, .int x1), (5, .int x5), (6, .int (x6 + (1 : Int32)))] rfl ?_
  exact hk73 x1 x5 (x6 + (1 : Int32)) P h
theorem t_j_Mo_reckons_147 {G : GX} (hG : GOK G) {E : EV} (hE : E0 E) (d : Nat) (hd : 2 ≤ d) {Q : QT} (k73 : Int32 → Int32 → Int32 → PM → Option (Int32 × PM)) (hk73 : ∀ (x1 : Int32) (x5 : Int32) (x6 : Int32) (P : PM), St E rIP (k73 x1 x5 x6 P) Q → Go G c_Mo_reckons "YawnRouteModel" 8 (some .int) false d nOb nOb Q 73 [(0, .ref (ad E 109)), (1, .int x1), (5, .int x5), (6, .int x6)] [] P E) (x1 : Int32) (x5 : Int32) (x6 : Int32) (s1 : Int32) (s2 : Int32) (P : PM) (h : St E rIP (j_Mo_reckons_147 k73 x1 x5 x6 s1 s2 P) Q) : Go G c_Mo_reckons "YawnRouteModel" 8 (some .int) false d nOb nOb Q 147 [(0, .ref (ad E 109)), (1, .int x1), (5, .int x5), (6, .int x6)] [.int s2, .int s1, .ref (ad E 114)] P E := by
  rw [j_Mo_reckons_147] at h
  obtain ⟨b1, h⟩ := St.ck h
  refine Go.iastore 114 900 sh114 (ltA hE sh114 (by decide)) (inb_in b1) (by decide +kernel) ?_
  refine Go.iinc (i := 5) (n := 1) 2 (x5 + (1 : Int32)) [(5, .int (x5 + (1 : Int32))), (0, .ref (ad E 109)), (1, .int x1), (6, .int x6)] (by decide +kernel) rfl rfl (by decide) rfl ?_
  refine Go.goto (off := 122) 273 (by decide +kernel) (by decide) ?_
  refine Go.sub [1, 2, 0, 3] [(0, .ref (ad E 109)), (1, .int x1), (5, .int (x5 + (1 : Int32))), (6, .int x6)] rfl ?_
  exact t_j_Mo_reckons_273 hG hE d hd k73 hk73 x1 (x5 + (1 : Int32)) x6 (u1 P 114 s1.toNatClampNeg s2) h
theorem t_j_Mo_reckons_236 {G : GX} (hG : GOK G) {E : EV} (hE : E0 E) (d : Nat) (hd : 2 ≤ d) {Q : QT} (k73 : Int32 → Int32 → Int32 → PM → Option (Int32 × PM)) (hk73 : ∀ (x1 : Int32) (x5 : Int32) (x6 : Int32) (P : PM), St E rIP (k73 x1 x5 x6 P) Q → Go G c_Mo_reckons "YawnRouteModel" 8 (some .int) false d nOb nOb Q 73 [(0, .ref (ad E 109)), (1, .int x1), (5, .int x5), (6, .int x6)] [] P E) (x1 : Int32) (x5 : Int32) (x6 : Int32) (s1 : Int32) (s2 : Int32) (P : PM) (h : St E rIP (j_Mo_reckons_236 k73 x1 x5 x6 s1 s2 P) Q) : Go G c_Mo_reckons "YawnRouteModel" 8 (some .int) false d nOb nOb Q 236 [(0, .ref (ad E 109)), (1, .int x1), (5, .int x5), (6, .int x6)] [.int s2, .int s1, .ref (ad E 114)] P E := by
  rw [j_Mo_reckons_236] at h
  obtain ⟨b1, h⟩ := St.ck h
  refine Go.iastore 114 900 sh114 (ltA hE sh114 (by decide)) (inb_in b1) (by decide +kernel) ?_
  refine Go.goto (off := 36) 273 (by decide +kernel) (by decide) ?_
  exact t_j_Mo_reckons_273 hG hE d hd k73 hk73 x1 x5 x6 (u1 P 114 s1.toNatClampNeg s2) h
theorem t_l_Mo_reckons_73 {G : GX} (hG : GOK G) {E : EV} (hE : E0 E) (d : Nat) (hd : 2 ≤ d) {Q : QT} : ∀ (n : Nat) (x1 : Int32) (x5 : Int32) (x6 : Int32) (P : PM), St E rIP (l_Mo_reckons_73 n x1 x5 x6 P) Q → Go G c_Mo_reckons "YawnRouteModel" 8 (some .int) false d nOb nOb Q 73 [(0, .ref (ad E 109)), (1, .int x1), (5, .int x5), (6, .int x6)] [] P E := by
  intro n
  induction n with
  | zero =>
    intro x1 x5 x6 P h
    rw [l_Mo_reckons_73] at h
    exact St.none_ h
  | succ n ih =>
    intro x1 x5 x6 P h
    rw [l_Mo_reckons_73] at h
    refine Go.iload (i := 6) 3 (by decide +kernel) rfl ?_
    refine Go.aload_n (k := 0) (i := 0) 0 (by decide +kernel) rfl rfl ?_
    refine Go.get 109 1 (.ref (ad E 110)) (by decide) (by decide) sh109 (ltO hE sh109) (vlR hE rfl rfl) lk1331 (by decide +kernel) ?_
    refine Go.bipush (n := 6) (6 : Int32) (by decide +kernel) (by decide) ?_
    refine Go.iload_n (k := 1) (i := 1) 1 (by decide +kernel) rfl rfl ?_
    refine Go.iadd (by decide +kernel) ?_
    obtain ⟨b1, h⟩ := St.ck h
    refine Go.iaload 110 3408 sh110 (ltA hE sh110 (by decide)) (inb_in b1) (by decide +kernel) ?_
    refine Go.icmp_ge (off := 195) 279 (by decide +kernel) (by decide) (fun c2 => ?_) (fun c2 => ?_)
    · rw [if_pos c2] at h
      refine Go.aload_n (k := 0) (i := 0) 0 (by decide +kernel) rfl rfl ?_
      refine Go.get 109 15 (.ref (ad E 114)) (by decide) (by decide) sh109 (ltO hE sh109) (vlR hE rfl rfl) lk1345 (by decide +kernel) ?_
      refine Go.iconst (n := 0) (0 : Int32) (by decide +kernel) rfl ?_
      refine Go.iaload 114 900 sh114 (ltA hE sh114 (by decide)) (vp_in_iff.mpr (by decide)) (by decide +kernel) ?_
      exact Go.iret rfl rfl hE.2 (by decide +kernel) (St.fIP h)
    · rw [if_neg c2] at h
      refine Go.aload_n (k := 0) (i := 0) 0 (by decide +kernel) rfl rfl ?_
      refine Go.get 109 1 (.ref (ad E 110)) (by decide) (by decide) sh109 (ltO hE sh109) (vlR hE rfl rfl) lk1331 (by decide +kernel) ?_
      refine Go.sipush (n := 236) (236 : Int32) (by decide +kernel) (by decide) ?_
      refine Go.aload_n (k := 0) (i := 0) 0 (by decide +kernel) rfl rfl ?_
      refine Go.get 109 1 (.ref (ad E 110)) (by decide) (by decide) sh109 (ltO hE sh109) (vlR hE rfl rfl) lk1331 (by decide +kernel) ?_
      refine Go.iconst (n := 4) (4 : Int32) (by decide +kernel) rfl ?_
      refine Go.iload_n (k := 1) (i := 1) 1 (by decide +kernel) rfl rfl ?_
      refine Go.iadd (by decide +kernel) ?_
      obtain ⟨b3, h⟩ := St.ck h
      refine Go.iaload 110 3408 sh110 (ltA hE sh110 (by decide)) (inb_in b3) (by decide +kernel) ?_
      refine Go.iadd (by decide +kernel) ?_
      refine Go.iload (i := 6) 3 (by decide +kernel) rfl ?_
      refine Go.iadd (by decide +kernel) ?_
      obtain ⟨b4, h⟩ := St.ck h
      refine Go.iaload 110 3408 sh110 (ltA hE sh110 (by decide)) (inb_in b4) (by decide +kernel) ?_
      obtain ⟨y5, hy5, h⟩ := St.lb h
      refine Go.eqi y5 hy5 ?_
      refine Go.istore (i := 7) [(7, .int y5), (0, .ref (ad E 109)), (1, .int x1), (5, .int x5), (6, .int x6)] (by decide +kernel) (by decide) rfl ?_
      refine Go.iload (i := 7) 0 (by decide +kernel) rfl ?_
      refine Go.sipush (n := 3000) (3000 : Int32) (by decide +kernel) (by decide) ?_
      refine Go.icmp_ge (off := 40) 154 (by decide +kernel) (by decide) (fun c6 => ?_) (fun c6 => ?_)
      · rw [if_pos c6] at h
        refine Go.iload (i := 7) 0 (by decide +kernel) rfl ?_
        refine Go.sipush (n := 3006) (3006 : Int32) (by decide +kernel) (by decide) ?_
        refine Go.icmp_ne (off := 26) 185 (by decide +kernel) (by decide) (fun c7 => ?_) (fun c7 => ?_)
        · rw [if_neg c7] at h
          refine Go.iload (i := 7) 0 (by decide +kernel) rfl ?_
          refine Go.sipush (n := 3009) (3009 : Int32) (by decide +kernel) (by decide) ?_
          refine Go.icmp_ne (off := 50) 240 (by decide +kernel) (by decide) (fun c8 => ?_) (fun c8 => ?_)
          · rw [if_neg c8] at h
            refine Go.iinc (i := 5) (n := -1) 3 (x5 + (-1 : Int32)) [(5, .int (x5 + (-1 : Int32))), (7, .int y5), (0, .ref (ad E 109)), (1, .int x1), (6, .int x6)] (by decide +kernel) rfl rfl (by decide) rfl ?_
            refine Go.aload_n (k := 0) (i := 0) 2 (by decide +kernel) rfl rfl ?_
            refine Go.get 109 15 (.ref (ad E 114)) (by decide) (by decide) sh109 (ltO hE sh109) (vlR hE rfl rfl) lk1345 (by decide +kernel) ?_
            refine Go.iload (i := 5) 0 (by decide +kernel) rfl ?_
            refine Go.iconst (n := 1) (1 : Int32) (by decide +kernel) rfl ?_
            refine Go.isub (by decide +kernel) ?_
            refine Go.iload (i := 7) 1 (by decide +kernel) rfl ?_
            refine Go.aload_n (k := 0) (i := 0) 2 (by decide +kernel) rfl rfl ?_
            refine Go.get 109 15 (.ref (ad E 114)) (by decide) (by decide) sh109 (ltO hE sh109) (vlR hE rfl rfl) lk1345 (by decide +kernel) ?_
            refine Go.iload (i := 5) 0 (by decide +kernel) rfl ?_
            refine Go.iconst (n := 1) (1 : Int32) (by decide +kernel) rfl ?_
            refine Go.isub (by decide +kernel) ?_
            obtain ⟨b9, h⟩ := St.ck h
            refine Go.iaload 114 900 sh114 (ltA hE sh114 (by decide)) (inb_in b9) (by decide +kernel) ?_
            refine Go.aload_n (k := 0) (i := 0) 2 (by decide +kernel) rfl rfl ?_
            refine Go.get 109 15 (.ref (ad E 114)) (by decide) (by decide) sh109 (ltO hE sh109) (vlR hE rfl rfl) lk1345 (by decide +kernel) ?_
            refine Go.iload (i := 5) 0 (by decide +kernel) rfl ?_
            obtain ⟨b10, h⟩ := St.ck h
            refine Go.iaload 114 900 sh114 (ltA hE sh114 (by decide)) (inb_in b10) (by decide +kernel) ?_
            refine Go.cS_i (P1 := P) (v := (f_Mo_between y5 (P.1 114 ((x5 + (-1 : Int32)) - (1 : Int32)).toNatClampNeg) (P.1 114 (x5 + (-1 : Int32)).toNatClampNeg) P)) (d - 1) [.int y5, .int (P.1 114 ((x5 + (-1 : Int32)) - (1 : Int32)).toNatClampNeg), .int (P.1 114 (x5 + (-1 : Int32)).toNatClampNeg)] hE w_Mo_between (e_Mo_between hG hE (d - 1) (by omega) y5 (P.1 114 ((x5 + (-1 : Int32)) - (1 : Int32)).toNatClampNeg) (P.1 114 (x5 + (-1 : Int32)).toNatClampNeg) P ⟨rfl, rfl, rfl⟩) lk1586 rfl (by omega) (Nat.le_of_ble_eq_true rfl) (by decide +kernel) _ rfl ?_
            obtain ⟨b11, h⟩ := St.ck h
            refine Go.iastore 114 900 sh114 (ltA hE sh114 (by decide)) (inb_in b11) (by decide +kernel) ?_
            refine Go.sub [2, 3, 0, 4] [(0, .ref (ad E 109)), (1, .int x1), (5, .int (x5 + (-1 : Int32))), (6, .int x6)] rfl ?_
            exact t_j_Mo_reckons_273 hG hE d hd (fun z0 z1 z2 Pz => l_Mo_reckons_73 n z0 z1 z2 Pz) (fun z0 z1 z2 Pz q => ih z0 z1 z2 Pz q) x1 (x5 + (-1 : Int32)) x6 (u1 P 114 ((x5 + (-1 : Int32)) - (1 : Int32)).toNatClampNeg (f_Mo_between y5 (P.1 114 ((x5 + (-1 : Int32)) - (1 : Int32)).toNatClampNeg) (P.1 114 (x5 + (-1 : Int32)).toNatClampNeg) P)) h
          · rw [if_pos c8] at h
            refine Go.iinc (i := 5) (n := -2) 3 (x5 + (-2 : Int32)) [(5, .int (x5 + (-2 : Int32))), (7, .int y5), (0, .ref (ad E 109)), (1, .int x1), (6, .int x6)] (by decide +kernel) rfl rfl (by decide) rfl ?_
            refine Go.aload_n (k := 0) (i := 0) 2 (by decide +kernel) rfl rfl ?_
            refine Go.get 109 15 (.ref (ad E 114)) (by decide) (by decide) sh109 (ltO hE sh109) (vlR hE rfl rfl) lk1345 (by decide +kernel) ?_
            refine Go.iload (i := 5) 0 (by decide +kernel) rfl ?_
            refine Go.iconst (n := 1) (1 : Int32) (by decide +kernel) rfl ?_
            refine Go.isub (by decide +kernel) ?_
            refine Go.aload_n (k := 0) (i := 0) 2 (by decide +kernel) rfl rfl ?_
            refine Go.get 109 15 (.ref (ad E 114)) (by decide) (by decide) sh109 (ltO hE sh109) (vlR hE rfl rfl) lk1345 (by decide +kernel) ?_
            refine Go.iload (i := 5) 0 (by decide +kernel) rfl ?_
            refine Go.iconst (n := 1) (1 : Int32) (by decide +kernel) rfl ?_
            refine Go.isub (by decide +kernel) ?_
            obtain ⟨b12, h⟩ := St.ck h
            refine Go.iaload 114 900 sh114 (ltA hE sh114 (by decide)) (inb_in b12) (by decide +kernel) ?_
            refine Go.iconst (n := 1) (1 : Int32) (by decide +kernel) rfl ?_
            refine Go.icmp_ne (off := 13) 227 (by decide +kernel) (by decide) (fun c13 => ?_) (fun c13 => ?_)
            · rw [if_neg c13] at h
              refine Go.aload_n (k := 0) (i := 0) 2 (by decide +kernel) rfl rfl ?_
              refine Go.get 109 15 (.ref (ad E 114)) (by decide) (by decide) sh109 (ltO hE sh109) (vlR hE rfl rfl) lk1345 (by decide +kernel) ?_
              refine Go.iload (i := 5) 0 (by decide +kernel) rfl ?_
              refine Go.iconst (n := 1) (1 : Int32) (by decide +kernel) rfl ?_
              refine Go.iadd (by decide +kernel) ?_
              obtain ⟨b14, h⟩ := St.ck h
              refine Go.iaload 114 900 sh114 (ltA hE sh114 (by decide)) (inb_in b14) (by decide +kernel) ?_
              refine Go.sub [2, 3, 0, 4] [(0, .ref (ad E 109)), (1, .int x1), (5, .int (x5 + (-2 : Int32))), (6, .int x6)] rfl ?_
              exact t_j_Mo_reckons_236 hG hE d hd (fun z0 z1 z2 Pz => l_Mo_reckons_73 n z0 z1 z2 Pz) (fun z0 z1 z2 Pz q => ih z0 z1 z2 Pz q) x1 (x5 + (-2 : Int32)) x6 ((x5 + (-2 : Int32)) - (1 : Int32)) (P.1 114 ((x5 + (-2 : Int32)) + (1 : Int32)).toNatClampNeg) P h
            · rw [if_pos c13] at h
              refine Go.aload_n (k := 0) (i := 0) 2 (by decide +kernel) rfl rfl ?_
              refine Go.get 109 15 (.ref (ad E 114)) (by decide) (by decide) sh109 (ltO hE sh109) (vlR hE rfl rfl) lk1345 (by decide +kernel) ?_
              refine Go.iload (i := 5) 0 (by decide +kernel) rfl ?_
              obtain ⟨b15, h⟩ := St.ck h
              refine Go.iaload 114 900 sh114 (ltA hE sh114 (by decide)) (inb_in b15) (by decide +kernel) ?_
              refine Go.goto (off := 12) 236 (by decide +kernel) (by decide) ?_
              refine Go.sub [2, 3, 0, 4] [(0, .ref (ad E 109)), (1, .int x1), (5, .int (x5 + (-2 : Int32))), (6, .int x6)] rfl ?_
              exact t_j_Mo_reckons_236 hG hE d hd (fun z0 z1 z2 Pz => l_Mo_reckons_73 n z0 z1 z2 Pz) (fun z0 z1 z2 Pz q => ih z0 z1 z2 Pz q) x1 (x5 + (-2 : Int32)) x6 ((x5 + (-2 : Int32)) - (1 : Int32)) (P.1 114 (x5 + (-2 : Int32)).toNatClampNeg) P h
        · rw [if_pos c7] at h
          refine Go.aload_n (k := 0) (i := 0) 1 (by decide +kernel) rfl rfl ?_
          refine Go.get 109 15 (.ref (ad E 114)) (by decide) (by decide) sh109 (ltO hE sh109) (vlR hE rfl rfl) lk1345 (by decide +kernel) ?_
          refine Go.iload (i := 5) 3 (by decide +kernel) rfl ?_
          refine Go.iconst (n := 1) (1 : Int32) (by decide +kernel) rfl ?_
          refine Go.isub (by decide +kernel) ?_
          refine Go.iconst (n := 1) (1 : Int32) (by decide +kernel) rfl ?_
          refine Go.aload_n (k := 0) (i := 0) 1 (by decide +kernel) rfl rfl ?_
          refine Go.get 109 15 (.ref (ad E 114)) (by decide) (by decide) sh109 (ltO hE sh109) (vlR hE rfl rfl) lk1345 (by decide +kernel) ?_
          refine Go.iload (i := 5) 3 (by decide +kernel) rfl ?_
          refine Go.iconst (n := 1) (1 : Int32) (by decide +kernel) rfl ?_
          refine Go.isub (by decide +kernel) ?_
          obtain ⟨b16, h⟩ := St.ck h
          refine Go.iaload 114 900 sh114 (ltA hE sh114 (by decide)) (inb_in b16) (by decide +kernel) ?_
          refine Go.isub (by decide +kernel) ?_
          obtain ⟨b17, h⟩ := St.ck h
          refine Go.iastore 114 900 sh114 (ltA hE sh114 (by decide)) (inb_in b17) (by decide +kernel) ?_
          refine Go.goto (off := 91) 273 (by decide +kernel) (by decide) ?_
          refine Go.sub [1, 2, 3, 4] [(0, .ref (ad E 109)), (1, .int x1), (5, .int x5), (6, .int x6)] rfl ?_
          exact t_j_Mo_reckons_273 hG hE d hd (fun z0 z1 z2 Pz => l_Mo_reckons_73 n z0 z1 z2 Pz) (fun z0 z1 z2 Pz q => ih z0 z1 z2 Pz q) x1 x5 x6 (u1 P 114 (x5 - (1 : Int32)).toNatClampNeg ((1 : Int32) - (P.1 114 (x5 - (1 : Int32)).toNatClampNeg))) h
      · rw [if_neg c6] at h
        refine Go.aload_n (k := 0) (i := 0) 1 (by decide +kernel) rfl rfl ?_
        refine Go.get 109 15 (.ref (ad E 114)) (by decide) (by decide) sh109 (ltO hE sh109) (vlR hE rfl rfl) lk1345 (by decide +kernel) ?_
        refine Go.iload (i := 5) 3 (by decide +kernel) rfl ?_
        refine Go.iload (i := 7) 0 (by decide +kernel) rfl ?_
        refine Go.sipush (n := 1000) (1000 : Int32) (by decide +kernel) (by decide) ?_
        refine Go.icmp_ge (off := 8) 136 (by decide +kernel) (by decide) (fun c18 => ?_) (fun c18 => ?_)
        · rw [if_pos c18] at h
          refine Go.aload_n (k := 0) (i := 0) 1 (by decide +kernel) rfl rfl ?_
          refine Go.get 109 16 (.ref (ad E 115)) (by decide) (by decide) sh109 (ltO hE sh109) (vlR hE rfl rfl) lk1346 (by decide +kernel) ?_
          refine Go.iload (i := 7) 0 (by decide +kernel) rfl ?_
          refine Go.sipush (n := 1000) (1000 : Int32) (by decide +kernel) (by decide) ?_
          refine Go.isub (by decide +kernel) ?_
          obtain ⟨b19, h⟩ := St.ck h
          refine Go.iaload 115 6 sh115 (ltA hE sh115 (by decide)) (inb_in b19) (by decide +kernel) ?_
          refine Go.sub [1, 2, 3, 4] [(0, .ref (ad E 109)), (1, .int x1), (5, .int x5), (6, .int x6)] rfl ?_
          exact t_j_Mo_reckons_147 hG hE d hd (fun z0 z1 z2 Pz => l_Mo_reckons_73 n z0 z1 z2 Pz) (fun z0 z1 z2 Pz q => ih z0 z1 z2 Pz q) x1 x5 x6 x5 (P.1 115 (y5 - (1000 : Int32)).toNatClampNeg) P h
        · rw [if_neg c18] at h
          refine Go.iload (i := 7) 0 (by decide +kernel) rfl ?_
          refine Go.goto (off := 14) 147 (by decide +kernel) (by decide) ?_
          refine Go.sub [1, 2, 3, 4] [(0, .ref (ad E 109)), (1, .int x1), (5, .int x5), (6, .int x6)] rfl ?_
          exact t_j_Mo_reckons_147 hG hE d hd (fun z0 z1 z2 Pz => l_Mo_reckons_73 n z0 z1 z2 Pz) (fun z0 z1 z2 Pz q => ih z0 z1 z2 Pz q) x1 x5 x6 x5 y5 P h
theorem t_f_Mo_reckons {G : GX} (hG : GOK G) {E : EV} (hE : E0 E) (d : Nat) (hd : 2 ≤ d) {Q : QT} (a1 : Int32) (a2 : Int32) (a3 : Int32) (a4 : Int32) (P : PM) (h : St E rIP (f_Mo_reckons a1 a2 a3 a4 P) Q) : Go G c_Mo_reckons "YawnRouteModel" 8 (some .int) false d nOb nOb Q 0 [(0, .ref (ad E 109)), (1, .int a1), (2, .int a2), (3, .int a3), (4, .int a4)] [] P E := by
  rw [f_Mo_reckons] at h
  refine Go.aload_n (k := 0) (i := 0) 0 (by decide +kernel) rfl rfl ?_
  refine Go.get 109 16 (.ref (ad E 115)) (by decide) (by decide) sh109 (ltO hE sh109) (vlR hE rfl rfl) lk1346 (by decide +kernel) ?_
  refine Go.iconst (n := 0) (0 : Int32) (by decide +kernel) rfl ?_
  refine Go.iload (i := 4) 4 (by decide +kernel) rfl ?_
  refine Go.iastore 115 6 sh115 (ltA hE sh115 (by decide)) (vp_in_iff.mpr (by decide)) (by decide +kernel) ?_
  refine Go.aload_n (k := 0) (i := 0) 0 (by decide +kernel) rfl rfl ?_
  refine Go.get 109 16 (.ref (ad E 115)) (by decide) (by decide) sh109 (ltO hE sh109) (vlR hE rfl rfl) lk1346 (by decide +kernel) ?_
  refine Go.iconst (n := 1) (1 : Int32) (by decide +kernel) rfl ?_
  refine Go.aload_n (k := 0) (i := 0) 0 (by decide +kernel) rfl rfl ?_
  refine Go.get 109 1 (.ref (ad E 110)) (by decide) (by decide) sh109 (ltO hE sh109) (vlR hE rfl rfl) lk1331 (by decide +kernel) ?_
  refine Go.bipush (n := 117) (117 : Int32) (by decide +kernel) (by decide) ?_
  refine Go.iload (i := 4) 4 (by decide +kernel) rfl ?_
  refine Go.iadd (by decide +kernel) ?_
  obtain ⟨b1, h⟩ := St.ck h
  refine Go.iaload 110 3408 sh110 (ltA hE sh110 (by decide)) (inb_in b1) (by decide +kernel) ?_
  refine Go.iastore 115 6 sh115 (ltA hE sh115 (by decide)) (vp_in_iff.mpr (by decide)) (by decide +kernel) ?_
  refine Go.aload_n (k := 0) (i := 0) 0 (by decide +kernel) rfl rfl ?_
  refine Go.get 109 16 (.ref (ad E 115)) (by decide) (by decide) sh109 (ltO hE sh109) (vlR hE rfl rfl) lk1346 (by decide +kernel) ?_
  refine Go.iconst (n := 2) (2 : Int32) (by decide +kernel) rfl ?_
  refine Go.aload_n (k := 0) (i := 0) 0 (by decide +kernel) rfl rfl ?_
  refine Go.get 109 1 (.ref (ad E 110)) (by decide) (by decide) sh109 (ltO hE sh109) (vlR hE rfl rfl) lk1331 (by decide +kernel) ?_
  refine Go.bipush (n := 8) (8 : Int32) (by decide +kernel) (by decide) ?_
  refine Go.iload (i := 4) 4 (by decide +kernel) rfl ?_
  refine Go.iadd (by decide +kernel) ?_
  obtain ⟨b2, h⟩ := St.ck h
  refine Go.iaload 110 3408 sh110 (ltA hE sh110 (by decide)) (inb_in b2) (by decide +kernel) ?_
  refine Go.iastore 115 6 sh115 (ltA hE sh115 (by decide)) (vp_in_iff.mpr (by decide)) (by decide +kernel) ?_
  refine Go.aload_n (k := 0) (i := 0) 0 (by decide +kernel) rfl rfl ?_
  refine Go.get 109 16 (.ref (ad E 115)) (by decide) (by decide) sh109 (ltO hE sh109) (vlR hE rfl rfl) lk1346 (by decide +kernel) ?_
  refine Go.iconst (n := 3) (3 : Int32) (by decide +kernel) rfl ?_
  refine Go.iload_n (k := 3) (i := 3) 3 (by decide +kernel) rfl rfl ?_
  refine Go.iastore 115 6 sh115 (ltA hE sh115 (by decide)) (vp_in_iff.mpr (by decide)) (by decide +kernel) ?_
  refine Go.aload_n (k := 0) (i := 0) 0 (by decide +kernel) rfl rfl ?_
  refine Go.get 109 16 (.ref (ad E 115)) (by decide) (by decide) sh109 (ltO hE sh109) (vlR hE rfl rfl) lk1346 (by decide +kernel) ?_
  refine Go.iconst (n := 4) (4 : Int32) (by decide +kernel) rfl ?_
  refine Go.iload_n (k := 2) (i := 2) 2 (by decide +kernel) rfl rfl ?_
  refine Go.iastore 115 6 sh115 (ltA hE sh115 (by decide)) (vp_in_iff.mpr (by decide)) (by decide +kernel) ?_
  refine Go.aload_n (k := 0) (i := 0) 0 (by decide +kernel) rfl rfl ?_
  refine Go.get 109 16 (.ref (ad E 115)) (by decide) (by decide) sh109 (ltO hE sh109) (vlR hE rfl rfl) lk1346 (by decide +kernel) ?_
  refine Go.iconst (n := 5) (5 : Int32) (by decide +kernel) rfl ?_
  refine Go.aload_n (k := 0) (i := 0) 0 (by decide +kernel) rfl rfl ?_
  refine Go.iload_n (k := 2) (i := 2) 2 (by decide +kernel) rfl rfl ?_
  refine Go.iload (i := 4) 4 (by decide +kernel) rfl ?_
  obtain ⟨v3, hv3, h⟩ := St.bind h
  refine Go.cV_i (P1 := (u1 (u1 (u1 (u1 (u1 P 115 (0 : Int32).toNatClampNeg a4) 115 (1 : Int32).toNatClampNeg ((u1 P 115 (0 : Int32).toNatClampNeg a4).1 110 ((117 : Int32) + a4).toNatClampNeg)) 115 (2 : Int32).toNatClampNeg ((u1 (u1 P 115 (0 : Int32).toNatClampNeg a4) 115 (1 : Int32).toNatClampNeg ((u1 P 115 (0 : Int32).toNatClampNeg a4).1 110 ((117 : Int32) + a4).toNatClampNeg)).1 110 ((8 : Int32) + a4).toNatClampNeg)) 115 (3 : Int32).toNatClampNeg a3) 115 (4 : Int32).toNatClampNeg a2)) (v := v3) (d - 1) 109 [.int a2, .int a4] sh109 hE w_Mo_hoursOf (e_Mo_hoursOf hG hE (d - 1) (by omega) a2 a4 (u1 (u1 (u1 (u1 (u1 P 115 (0 : Int32).toNatClampNeg a4) 115 (1 : Int32).toNatClampNeg ((u1 P 115 (0 : Int32).toNatClampNeg a4).1 110 ((117 : Int32) + a4).toNatClampNeg)) 115 (2 : Int32).toNatClampNeg ((u1 (u1 P 115 (0 : Int32).toNatClampNeg a4) 115 (1 : Int32).toNatClampNeg ((u1 P 115 (0 : Int32).toNatClampNeg a4).1 110 ((117 : Int32) + a4).toNatClampNeg)).1 110 ((8 : Int32) + a4).toNatClampNeg)) 115 (3 : Int32).toNatClampNeg a3) 115 (4 : Int32).toNatClampNeg a2) ⟨_, hv3, rfl, rfl, rfl⟩) lk1559 rfl (by omega) (Nat.le_of_ble_eq_true rfl) (by decide +kernel) _ rfl ?_
  refine Go.iastore 115 6 sh115 (ltA hE sh115 (by decide)) (vp_in_iff.mpr (by decide)) (by decide +kernel) ?_
  refine Go.iconst (n := 0) (0 : Int32) (by decide +kernel) rfl ?_
  refine Go.istore (i := 5) [(5, .int (0 : Int32)), (0, .ref (ad E 109)), (1, .int a1), (2, .int a2), (3, .int a3), (4, .int a4)] (by decide +kernel) (by decide) rfl ?_
  refine Go.iconst (n := 0) (0 : Int32) (by decide +kernel) rfl ?_
  refine Go.istore (i := 6) [(6, .int (0 : Int32)), (5, .int (0 : Int32)), (0, .ref (ad E 109)), (1, .int a1), (2, .int a2), (3, .int a3), (4, .int a4)] (by decide +kernel) (by decide) rfl ?_
  refine Go.sub [2, 3, 1, 0] [(0, .ref (ad E 109)), (1, .int a1), (5, .int (0 : Int32)), (6, .int (0 : Int32))] rfl ?_
  exact t_l_Mo_reckons_73 hG hE d hd FU a1 (0 : Int32) (0 : Int32) (u1 (u1 (u1 (u1 (u1 (u1 P 115 (0 : Int32).toNatClampNeg a4) 115 (1 : Int32).toNatClampNeg ((u1 P 115 (0 : Int32).toNatClampNeg a4).1 110 ((117 : Int32) + a4).toNatClampNeg)) 115 (2 : Int32).toNatClampNeg ((u1 (u1 P 115 (0 : Int32).toNatClampNeg a4) 115 (1 : Int32).toNatClampNeg ((u1 P 115 (0 : Int32).toNatClampNeg a4).1 110 ((117 : Int32) + a4).toNatClampNeg)).1 110 ((8 : Int32) + a4).toNatClampNeg)) 115 (3 : Int32).toNatClampNeg a3) 115 (4 : Int32).toNatClampNeg a2) 115 (5 : Int32).toNatClampNeg v3) h
theorem e_Mo_reckons {G : GX} (hG : GOK G) {E : EV} (hE : E0 E) (d : Nat) (hd : 2 ≤ d) (a1 : Int32) (a2 : Int32) (a3 : Int32) (a4 : Int32) (P : PM) {Q : QT} (h : St E rIP (f_Mo_reckons a1 a2 a3 a4 P) Q) : Con G y_Mo_reckons cw_Mo_reckons d nOb nOb [.ref (ad E 109), .int a1, .int a2, .int a3, .int a4] P E Q :=
  Con.of hG (by decide +kernel) rfl (fun h => by cases h) hE.2 (Nat.le_of_ble_eq_true rfl) (t_f_Mo_reckons hG hE d hd a1 a2 a3 a4 P h)
abbrev c_Mo_whyBy : ByteArray := prog_14_method_41_code
abbrev y_Mo_whyBy : MethodName := ⟨"YawnRouteModel", "whyBy", "(IIII)I"⟩
abbrev cw_Mo_whyBy : Cond := .code y_Mo_whyBy c_Mo_whyBy 5 (some .int)
theorem w_Mo_whyBy : VW 12 y_Mo_whyBy c_Mo_whyBy 5 (some .int) 4 := ⟨by decide, lk1577, lp73_, lk14, lk1578, ⟨by decide, by decide, by decide +kernel⟩, by decide⟩
noncomputable def j_Mo_whyBy_44 (P : PM) : Option (Int32 × PM) := some ((0 : Int32), P)
noncomputable def f_Mo_whyBy (a1 : Int32) (a2 : Int32) (a3 : Int32) (a4 : Int32) (P : PM) : Option (Int32 × PM) := (f_Mo_hoursOf a1 a3 P).bind (fun v1 => if v1 = (0 : Int32) then (some ((2 : Int32), P)) else (if (f_Mo_isIn (a4.toInt64) a3 P) = (0 : Int32) then (if (P.1 110 (2 : Int32).toNatClampNeg) = (0 : Int32) then (j_Mo_whyBy_44 P) else (bd2 (f_Mo_reckons (0 : Int32) a1 a2 a3 P) (fun v5 P6 => if v5 = (1 : Int32) then (j_Mo_whyBy_44 P6) else (some ((4 : Int32), P6))))) else (some ((3 : Int32), P))))
theorem t_j_Mo_whyBy_44 {G : GX} (hG : GOK G) {E : EV} (hE : E0 E) (d : Nat) (hd : 3 ≤ d) {Q : QT} (P : PM) (h : St E rIP (j_Mo_whyBy_44 P) Q) : Go G c_Mo_whyBy "YawnRouteModel" 5 (some .int) false d nOb nOb Q 44 [] [] P E := by
  rw [j_Mo_whyBy_44] at h
  refine Go.iconst (n := 0) (0 : Int32) (by decide +kernel) rfl ?_
  refine Go.goto (off := 4) 49 (by decide +kernel) (by decide) ?_
  exact Go.iret rfl rfl hE.2 (by decide +kernel) (St.fIP h)
theorem t_f_Mo_whyBy {G : GX} (hG : GOK G) {E : EV} (hE : E0 E) (d : Nat) (hd : 3 ≤ d) {Q : QT} (a1 : Int32) (a2 : Int32) (a3 : Int32) (a4 : Int32) (P : PM) (h : St E rIP (f_Mo_whyBy a1 a2 a3 a4 P) Q) : Go G c_Mo_whyBy "YawnRouteModel" 5 (some .int) false d nOb nOb Q 0 [(0, .ref (ad E 109)), (1, .int a1), (2, .int a2), (3, .int a3), (4, .int a4)] [] P E := by
  rw [f_Mo_whyBy] at h
  refine Go.aload_n (k := 0) (i := 0) 0 (by decide +kernel) rfl rfl ?_
  refine Go.iload_n (k := 1) (i := 1) 1 (by decide +kernel) rfl rfl ?_
  refine Go.iload_n (k := 3) (i := 3) 3 (by decide +kernel) rfl rfl ?_
  obtain ⟨v1, hv1, h⟩ := St.bind h
  refine Go.cV_i (P1 := P) (v := v1) (d - 1) 109 [.int a1, .int a3] sh109 hE w_Mo_hoursOf (e_Mo_hoursOf hG hE (d - 1) (by omega) a1 a3 P ⟨_, hv1, rfl, rfl, rfl⟩) lk1559 rfl (by omega) (Nat.le_of_ble_eq_true rfl) (by decide +kernel) _ rfl ?_
  refine Go.if_ne (off := 5) 11 (by decide +kernel) (by decide) (fun c2 => ?_) (fun c2 => ?_)
  · rw [if_neg c2] at h
    refine Go.iload (i := 4) 4 (by decide +kernel) rfl ?_
    refine Go.i2l (by decide +kernel) ?_
    refine Go.iload_n (k := 3) (i := 3) 3 (by decide +kernel) rfl rfl ?_
    refine Go.cS_i (P1 := P) (v := (f_Mo_isIn (a4.toInt64) a3 P)) (d - 1) [.long (a4.toInt64), .int a3] hE w_Mo_isIn (e_Mo_isIn hG hE (d - 1) (by omega) (a4.toInt64) a3 P ⟨rfl, rfl, rfl⟩) lk1579 rfl (by omega) (Nat.le_of_ble_eq_true rfl) (by decide +kernel) _ rfl ?_
    refine Go.if_eq (off := 5) 23 (by decide +kernel) (by decide) (fun c3 => ?_) (fun c3 => ?_)
    · rw [if_pos c3] at h
      refine Go.aload_n (k := 0) (i := 0) 0 (by decide +kernel) rfl rfl ?_
      refine Go.get 109 1 (.ref (ad E 110)) (by decide) (by decide) sh109 (ltO hE sh109) (vlR hE rfl rfl) lk1331 (by decide +kernel) ?_
      refine Go.iconst (n := 2) (2 : Int32) (by decide +kernel) rfl ?_
      refine Go.iaload 110 3408 sh110 (ltA hE sh110 (by decide)) (vp_in_iff.mpr (by decide)) (by decide +kernel) ?_
      refine Go.if_eq (off := 15) 44 (by decide +kernel) (by decide) (fun c4 => ?_) (fun c4 => ?_)
      · rw [if_pos c4] at h
        refine Go.sub [] [] rfl ?_
        exact t_j_Mo_whyBy_44 hG hE d hd P h
      · rw [if_neg c4] at h
        refine Go.aload_n (k := 0) (i := 0) 0 (by decide +kernel) rfl rfl ?_
        refine Go.iconst (n := 0) (0 : Int32) (by decide +kernel) rfl ?_
        refine Go.iload_n (k := 1) (i := 1) 1 (by decide +kernel) rfl rfl ?_
        refine Go.iload_n (k := 2) (i := 2) 2 (by decide +kernel) rfl rfl ?_
        refine Go.iload_n (k := 3) (i := 3) 3 (by decide +kernel) rfl rfl ?_
        obtain ⟨v5, P6, hv5, h⟩ := St.bd2 h
        refine Go.cV_i (P1 := P6) (v := v5) (d - 1) 109 [.int (0 : Int32), .int a1, .int a2, .int a3] sh109 hE w_Mo_reckons (e_Mo_reckons hG hE (d - 1) (by omega) (0 : Int32) a1 a2 a3 P ⟨_, hv5, rfl, rfl, rfl⟩) lk1582 rfl (by omega) (Nat.le_of_ble_eq_true rfl) (by decide +kernel) _ rfl ?_
        refine Go.iconst (n := 1) (1 : Int32) (by decide +kernel) rfl ?_
        refine Go.icmp_ne (off := 7) 48 (by decide +kernel) (by decide) (fun c7 => ?_) (fun c7 => ?_)
        · rw [if_neg c7] at h
          refine Go.iconst (n := 4) (4 : Int32) (by decide +kernel) rfl ?_
          exact Go.iret rfl rfl hE.2 (by decide +kernel) (St.fIP h)
        · rw [if_pos c7] at h
          refine Go.sub [] [] rfl ?_
          exact t_j_Mo_whyBy_44 hG hE d hd P6 h
    · rw [if_neg c3] at h
      refine Go.iconst (n := 3) (3 : Int32) (by decide +kernel) rfl ?_
      exact Go.iret rfl rfl hE.2 (by decide +kernel) (St.fIP h)
  · rw [if_pos c2] at h
    refine Go.iconst (n := 2) (2 : Int32) (by decide +kernel) rfl ?_
    exact Go.iret rfl rfl hE.2 (by decide +kernel) (St.fIP h)
theorem e_Mo_whyBy {G : GX} (hG : GOK G) {E : EV} (hE : E0 E) (d : Nat) (hd : 3 ≤ d) (a1 : Int32) (a2 : Int32) (a3 : Int32) (a4 : Int32) (P : PM) {Q : QT} (h : St E rIP (f_Mo_whyBy a1 a2 a3 a4 P) Q) : Con G y_Mo_whyBy cw_Mo_whyBy d nOb nOb [.ref (ad E 109), .int a1, .int a2, .int a3, .int a4] P E Q :=
  Con.of hG (by decide +kernel) rfl (fun h => by cases h) hE.2 (Nat.le_of_ble_eq_true rfl) (t_f_Mo_whyBy hG hE d hd a1 a2 a3 a4 P h)
abbrev c_Mo_passedTo : ByteArray := prog_14_method_42_code
abbrev y_Mo_passedTo : MethodName := ⟨"YawnRouteModel", "passedTo", "(III)I"⟩
abbrev cw_Mo_passedTo : Cond := .code y_Mo_passedTo c_Mo_passedTo 5 (some .int)
theorem w_Mo_passedTo : VW 12 y_Mo_passedTo c_Mo_passedTo 5 (some .int) 3 := ⟨by decide, lk1593, lp75_, lk14, lk1594, ⟨by decide, by decide, by decide +kernel⟩, by decide⟩
noncomputable def j_Mo_passedTo_21 (s0 : Int32) (P : PM) : Option (Int32 × PM) := if (1 : Int32) ≤ s0 then (if s0 ≤ (40 : Int32) then (some (s0, P)) else (some ((40 : Int32), P))) else (some ((0 : Int32), P))
noncomputable def f_Mo_passedTo (a1 : Int32) (a2 : Int32) (a3 : Int32) (P : PM) : Option (Int32 × PM) := if (P.1 110 (3 : Int32).toNatClampNeg) = (0 : Int32) then (j_Mo_passedTo_21 a2 P) else (bd2 (f_Mo_reckons (1 : Int32) a1 a2 a3 P) (fun v2 P3 => j_Mo_passedTo_21 v2 P3))
theorem t_j_Mo_passedTo_21 {G : GX} (hG : GOK G) {E : EV} (hE : E0 E) (d : Nat) (hd : 3 ≤ d) {Q : QT} (s0 : Int32) (P : PM) (h : St E rIP (j_Mo_passedTo_21 s0 P) Q) : Go G c_Mo_passedTo "YawnRouteModel" 5 (some .int) false d nOb nOb Q 21 [] [.int s0] P E := by
  rw [j_Mo_passedTo_21] at h
  refine Go.istore (i := 4) [(4, .int s0)] (by decide +kernel) (by decide) rfl ?_
  refine Go.iload (i := 4) 0 (by decide +kernel) rfl ?_
  refine Go.iconst (n := 1) (1 : Int32) (by decide +kernel) rfl ?_
  refine Go.icmp_ge (off := 7) 33 (by decide +kernel) (by decide) (fun c1 => ?_) (fun c1 => ?_)
  · rw [if_pos c1] at h
    refine Go.iload (i := 4) 0 (by decide +kernel) rfl ?_
    refine Go.bipush (n := 40) (40 : Int32) (by decide +kernel) (by decide) ?_
    refine Go.icmp_le (off := 8) 45 (by decide +kernel) (by decide) (fun c2 => ?_) (fun c2 => ?_)
    · rw [if_pos c2] at h
      refine Go.iload (i := 4) 0 (by decide +kernel) rfl ?_
      exact Go.iret rfl rfl hE.2 (by decide +kernel) (St.fIP h)
    · rw [if_neg c2] at h
      refine Go.bipush (n := 40) (40 : Int32) (by decide +kernel) (by decide) ?_
      refine Go.goto (off := 5) 47 (by decide +kernel) (by decide) ?_
      exact Go.iret rfl rfl hE.2 (by decide +kernel) (St.fIP h)
  · rw [if_neg c1] at h
    refine Go.iconst (n := 0) (0 : Int32) (by decide +kernel) rfl ?_
    refine Go.goto (off := 17) 47 (by decide +kernel) (by decide) ?_
    exact Go.iret rfl rfl hE.2 (by decide +kernel) (St.fIP h)
theorem t_f_Mo_passedTo {G : GX} (hG : GOK G) {E : EV} (hE : E0 E) (d : Nat) (hd : 3 ≤ d) {Q : QT} (a1 : Int32) (a2 : Int32) (a3 : Int32) (P : PM) (h : St E rIP (f_Mo_passedTo a1 a2 a3 P) Q) : Go G c_Mo_passedTo "YawnRouteModel" 5 (some .int) false d nOb nOb Q 0 [(0, .ref (ad E 109)), (1, .int a1), (2, .int a2), (3, .int a3)] [] P E := by
  rw [f_Mo_passedTo] at h
  refine Go.aload_n (k := 0) (i := 0) 0 (by decide +kernel) rfl rfl ?_
  refine Go.get 109 1 (.ref (ad E 110)) (by decide) (by decide) sh109 (ltO hE sh109) (vlR hE rfl rfl) lk1331 (by decide +kernel) ?_
  refine Go.iconst (n := 3) (3 : Int32) (by decide +kernel) rfl ?_
  refine Go.iaload 110 3408 sh110 (ltA hE sh110 (by decide)) (vp_in_iff.mpr (by decide)) (by decide +kernel) ?_
  refine Go.if_ne (off := 7) 13 (by decide +kernel) (by decide) (fun c1 => ?_) (fun c1 => ?_)
  · rw [if_neg c1] at h
    refine Go.aload_n (k := 0) (i := 0) 0 (by decide +kernel) rfl rfl ?_
    refine Go.iconst (n := 1) (1 : Int32) (by decide +kernel) rfl ?_
    refine Go.iload_n (k := 1) (i := 1) 1 (by decide +kernel) rfl rfl ?_
    refine Go.iload_n (k := 2) (i := 2) 2 (by decide +kernel) rfl rfl ?_
    refine Go.iload_n (k := 3) (i := 3) 3 (by decide +kernel) rfl rfl ?_
    obtain ⟨v2, P3, hv2, h⟩ := St.bd2 h
    refine Go.cV_i (P1 := P3) (v := v2) (d - 1) 109 [.int (1 : Int32), .int a1, .int a2, .int a3] sh109 hE w_Mo_reckons (e_Mo_reckons hG hE (d - 1) (by omega) (1 : Int32) a1 a2 a3 P ⟨_, hv2, rfl, rfl, rfl⟩) lk1582 rfl (by omega) (Nat.le_of_ble_eq_true rfl) (by decide +kernel) _ rfl ?_
    refine Go.sub [] [] rfl ?_
    exact t_j_Mo_passedTo_21 hG hE d hd v2 P3 h
  · rw [if_pos c1] at h
    refine Go.iload_n (k := 2) (i := 2) 2 (by decide +kernel) rfl rfl ?_
    refine Go.goto (off := 11) 21 (by decide +kernel) (by decide) ?_
    refine Go.sub [] [] rfl ?_
    exact t_j_Mo_passedTo_21 hG hE d hd a2 P h
theorem e_Mo_passedTo {G : GX} (hG : GOK G) {E : EV} (hE : E0 E) (d : Nat) (hd : 3 ≤ d) (a1 : Int32) (a2 : Int32) (a3 : Int32) (P : PM) {Q : QT} (h : St E rIP (f_Mo_passedTo a1 a2 a3 P) Q) : Con G y_Mo_passedTo cw_Mo_passedTo d nOb nOb [.ref (ad E 109), .int a1, .int a2, .int a3] P E Q :=
  Con.of hG (by decide +kernel) rfl (fun h => by cases h) hE.2 (Nat.le_of_ble_eq_true rfl) (t_f_Mo_passedTo hG hE d hd a1 a2 a3 P h)
abbrev c_Mo_station : ByteArray := prog_14_method_43_code
abbrev y_Mo_station : MethodName := ⟨"YawnRouteModel", "station", "(II)I"⟩
abbrev cw_Mo_station : Cond := .code y_Mo_station c_Mo_station 5 (some .int)
theorem w_Mo_station : VW 12 y_Mo_station c_Mo_station 5 (some .int) 2 := ⟨by decide, lk1552, lk1553, lk14, lk1554, ⟨by decide, by decide, by decide +kernel⟩, by decide⟩
noncomputable def j_Mo_station_57 (k27 : Int32 → Int32 → Int32 → PM → Option (Int32 × PM)) (x1 : Int32) (x4 : Int32) (s0 : Int32) (s1 : Int32) (P : PM) : Option (Int32 × PM) := lb (s0 ||| s1) (fun y1 => k27 x1 y1 (x4 + (1 : Int32)) P)
noncomputable def l_Mo_station_27 : Nat → Int32 → Int32 → Int32 → PM → Option (Int32 × PM)
  | 0, _, _, _, _ => none
  | n + 1, x1, x3, x4, P => if (P.1 110 (1 : Int32).toNatClampNeg) ≤ x4 then (some (x3, P)) else ((f_Mo_hoursOf x1 x4 P).bind (fun v2 => if v2 ≤ (0 : Int32) then (j_Mo_station_57 (fun z0 z1 z2 Pz => l_Mo_station_27 n z0 z1 z2 Pz) x1 x4 x3 (0 : Int32) P) else (j_Mo_station_57 (fun z0 z1 z2 Pz => l_Mo_station_27 n z0 z1 z2 Pz) x1 x4 x3 ((1 : Int32) <<< (x4 &&& 31)) P)))
noncomputable def f_Mo_station (a1 : Int32) (a2 : Int32) (P : PM) : Option (Int32 × PM) := (f_Mo_isStation (a1.toInt64) (u1 P 109 0 (0 : Int32))).bind (fun v1 => if v1 = (0 : Int32) then (some ((-2 : Int32), (u1 P 109 0 (0 : Int32)))) else (if a2 = (3 : Int32) then (l_Mo_station_27 FU a1 (0 : Int32) (0 : Int32) (u1 P 109 0 (0 : Int32))) else (if a2 = (0 : Int32) then (ck (inb ((117 : Int32) + a1) 3408) (some (((u1 P 109 0 (0 : Int32)).1 110 ((117 : Int32) + a1).toNatClampNeg), (u1 P 109 0 (0 : Int32))))) else (if a2 = (1 : Int32) then (ck (inb ((8 : Int32) + a1) 3408) (some (((u1 P 109 0 (0 : Int32)).1 110 ((8 : Int32) + a1).toNatClampNeg), (u1 P 109 0 (0 : Int32))))) else (if a2 = (2 : Int32) then (some (((((u1 P 109 0 (0 : Int32)).1 110 (116 : Int32).toNatClampNeg) >>> (a1 &&& 31)) &&& (1 : Int32)), (u1 P 109 0 (0 : Int32)))) else (if a2 = (4 : Int32) then (if ((u1 P 109 0 (0 : Int32)).1 110 (113 : Int32).toNatClampNeg) = a1 then (some ((1 : Int32), (u1 P 109 0 (0 : Int32)))) else (some ((0 : Int32), (u1 P 109 0 (0 : Int32))))) else (some ((-2 : Int32), (u1 P 109 0 (0 : Int32))))))))))
theorem t_j_Mo_station_57 {G : GX} (hG : GOK G) {E : EV} (hE : E0 E) (d : Nat) (hd : 3 ≤ d) {Q : QT} (k27 : Int32 → Int32 → Int32 → PM → Option (Int32 × PM)) (hk27 : ∀ (x1 : Int32) (x3 : Int32) (x4 : Int32) (P : PM), St E rIP (k27 x1 x3 x4 P) Q → Go G c_Mo_station "YawnRouteModel" 5 (some .int) false d nOb nOb Q 27 [(0, .ref (ad E 109)), (1, .int x1), (3, .int x3), (4, .int x4)] [] P E) (x1 : Int32) (x4 : Int32) (s0 : Int32) (s1 : Int32) (P : PM) (h : St E rIP (j_Mo_station_57 k27 x1 x4 s0 s1 P) Q) : Go G c_Mo_station "YawnRouteModel" 5 (some .int) false d nOb nOb Q 57 [(0, .ref (ad E 109)), (1, .int x1), (4, .int x4)] [.int s1, .int s0] P E := by
  rw [j_Mo_station_57] at h
  refine Go.ior (by decide +kernel) ?_
  obtain ⟨y1, hy1, h⟩ := St.lb h
  refine Go.eqi y1 hy1 ?_
  refine Go.istore_n (k := 3) (i := 3) [(3, .int y1), (0, .ref (ad E 109)), (1, .int x1), (4, .int x4)] (by decide +kernel) rfl (by decide) rfl ?_
  refine Go.iinc (i := 4) (n := 1) 3 (x4 + (1 : Int32)) [(4, .int (x4 + (1 : Int32))), (3, .int y1), (0, .ref (ad E 109)), (1, .int x1)] (by decide +kernel) rfl rfl (by decide) rfl ?_
  refine Go.goto (off := -35) 27 (by decide +kernel) (by decide) ?_
  refine Go.sub [2, 3, 1, 0] [(0, .ref (ad E 109)), (1, .int x1), (3, .int y1), (4, .int (x4 + (1 : Int32)))] rfl ?_
  exact hk27 x1 y1 (x4 + (1 : Int32)) P h
theorem t_l_Mo_station_27 {G : GX} (hG : GOK G) {E : EV} (hE : E0 E) (d : Nat) (hd : 3 ≤ d) {Q : QT} : ∀ (n : Nat) (x1 : Int32) (x3 : Int32) (x4 : Int32) (P : PM), St E rIP (l_Mo_station_27 n x1 x3 x4 P) Q → Go G c_Mo_station "YawnRouteModel" 5 (some .int) false d nOb nOb Q 27 [(0, .ref (ad E 109)), (1, .int x1), (3, .int x3), (4, .int x4)] [] P E := by
  intro n
  induction n with
  | zero =>
    intro x1 x3 x4 P h
    rw [l_Mo_station_27] at h
    exact St.none_ h
  | succ n ih =>
    intro x1 x3 x4 P h
    rw [l_Mo_station_27] at h
    refine Go.iload (i := 4) 3 (by decide +kernel) rfl ?_
    refine Go.aload_n (k := 0) (i := 0) 0 (by decide +kernel) rfl rfl ?_
    refine Go.get 109 1 (.ref (ad E 110)) (by decide) (by decide) sh109 (ltO hE sh109) (vlR hE rfl rfl) lk1331 (by decide +kernel) ?_
    refine Go.iconst (n := 1) (1 : Int32) (by decide +kernel) rfl ?_
    refine Go.iaload 110 3408 sh110 (ltA hE sh110 (by decide)) (vp_in_iff.mpr (by decide)) (by decide +kernel) ?_
    refine Go.icmp_ge (off := 30) 65 (by decide +kernel) (by decide) (fun c1 => ?_) (fun c1 => ?_)
    · rw [if_pos c1] at h
      refine Go.iload_n (k := 3) (i := 3) 2 (by decide +kernel) rfl rfl ?_
      exact Go.iret rfl rfl hE.2 (by decide +kernel) (St.fIP h)
    · rw [if_neg c1] at h
      refine Go.iload_n (k := 3) (i := 3) 2 (by decide +kernel) rfl rfl ?_
      refine Go.aload_n (k := 0) (i := 0) 0 (by decide +kernel) rfl rfl ?_
      refine Go.iload_n (k := 1) (i := 1) 1 (by decide +kernel) rfl rfl ?_
      refine Go.iload (i := 4) 3 (by decide +kernel) rfl ?_
      obtain ⟨v2, hv2, h⟩ := St.bind h
      refine Go.cV_i (P1 := P) (v := v2) (d - 1) 109 [.int x1, .int x4] sh109 hE w_Mo_hoursOf (e_Mo_hoursOf hG hE (d - 1) (by omega) x1 x4 P ⟨_, hv2, rfl, rfl, rfl⟩) lk1559 rfl (by omega) (Nat.le_of_ble_eq_true rfl) (by decide +kernel) _ rfl ?_
      refine Go.if_le (off := 10) 56 (by decide +kernel) (by decide) (fun c3 => ?_) (fun c3 => ?_)
      · rw [if_pos c3] at h
        refine Go.iconst (n := 0) (0 : Int32) (by decide +kernel) rfl ?_
        refine Go.sub [0, 1, 3] [(0, .ref (ad E 109)), (1, .int x1), (4, .int x4)] rfl ?_
        exact t_j_Mo_station_57 hG hE d hd (fun z0 z1 z2 Pz => l_Mo_station_27 n z0 z1 z2 Pz) (fun z0 z1 z2 Pz q => ih z0 z1 z2 Pz q) x1 x4 x3 (0 : Int32) P h
      · rw [if_neg c3] at h
        refine Go.iconst (n := 1) (1 : Int32) (by decide +kernel) rfl ?_
        refine Go.iload (i := 4) 3 (by decide +kernel) rfl ?_
        refine Go.ishl (by decide +kernel) ?_
        refine Go.goto (off := 4) 57 (by decide +kernel) (by decide) ?_
        refine Go.sub [0, 1, 3] [(0, .ref (ad E 109)), (1, .int x1), (4, .int x4)] rfl ?_
        exact t_j_Mo_station_57 hG hE d hd (fun z0 z1 z2 Pz => l_Mo_station_27 n z0 z1 z2 Pz) (fun z0 z1 z2 Pz q => ih z0 z1 z2 Pz q) x1 x4 x3 ((1 : Int32) <<< (x4 &&& 31)) P h
theorem t_f_Mo_station {G : GX} (hG : GOK G) {E : EV} (hE : E0 E) (d : Nat) (hd : 3 ≤ d) {Q : QT} (a1 : Int32) (a2 : Int32) (P : PM) (h : St E rIP (f_Mo_station a1 a2 P) Q) : Go G c_Mo_station "YawnRouteModel" 5 (some .int) false d nOb nOb Q 0 [(0, .ref (ad E 109)), (1, .int a1), (2, .int a2)] [] P E := by
  rw [f_Mo_station] at h
  refine Go.aload_n (k := 0) (i := 0) 0 (by decide +kernel) rfl rfl ?_
  refine Go.iconst (n := 0) (0 : Int32) (by decide +kernel) rfl ?_
  refine Go.put 109 0 (by decide) (by decide) sh109 (ltO hE sh109) (Or.inl rfl) rfl rfl rfl lk1330 (by decide +kernel) ?_
  refine Go.aload_n (k := 0) (i := 0) 0 (by decide +kernel) rfl rfl ?_
  refine Go.iload_n (k := 1) (i := 1) 1 (by decide +kernel) rfl rfl ?_
  refine Go.i2l (by decide +kernel) ?_
  obtain ⟨v1, hv1, h⟩ := St.bind h
  refine Go.cV_i (P1 := (u1 P 109 0 (0 : Int32))) (v := v1) (d - 1) 109 [.long (a1.toInt64)] sh109 hE w_Mo_isStation (e_Mo_isStation hG hE (d - 1) (by omega) (a1.toInt64) (u1 P 109 0 (0 : Int32)) ⟨_, hv1, rfl, rfl, rfl⟩) lk1555 rfl (by omega) (Nat.le_of_ble_eq_true rfl) (by decide +kernel) _ rfl ?_
  refine Go.if_ne (off := 6) 17 (by decide +kernel) (by decide) (fun c2 => ?_) (fun c2 => ?_)
  · rw [if_neg c2] at h
    refine Go.iload_n (k := 2) (i := 2) 2 (by decide +kernel) rfl rfl ?_
    refine Go.iconst (n := 3) (3 : Int32) (by decide +kernel) rfl ?_
    refine Go.icmp_ne (off := 48) 67 (by decide +kernel) (by decide) (fun c3 => ?_) (fun c3 => ?_)
    · rw [if_neg c3] at h
      refine Go.iload_n (k := 2) (i := 2) 2 (by decide +kernel) rfl rfl ?_
      refine Go.if_ne (off := 15) 83 (by decide +kernel) (by decide) (fun c4 => ?_) (fun c4 => ?_)
      · rw [if_neg c4] at h
        refine Go.iload_n (k := 2) (i := 2) 2 (by decide +kernel) rfl rfl ?_
        refine Go.iconst (n := 1) (1 : Int32) (by decide +kernel) rfl ?_
        refine Go.icmp_ne (off := 15) 100 (by decide +kernel) (by decide) (fun c5 => ?_) (fun c5 => ?_)
        · rw [if_neg c5] at h
          refine Go.iload_n (k := 2) (i := 2) 2 (by decide +kernel) rfl rfl ?_
          refine Go.iconst (n := 2) (2 : Int32) (by decide +kernel) rfl ?_
          refine Go.icmp_ne (off := 17) 119 (by decide +kernel) (by decide) (fun c6 => ?_) (fun c6 => ?_)
          · rw [if_neg c6] at h
            refine Go.iload_n (k := 2) (i := 2) 2 (by decide +kernel) rfl rfl ?_
            refine Go.iconst (n := 4) (4 : Int32) (by decide +kernel) rfl ?_
            refine Go.icmp_ne (off := 22) 143 (by decide +kernel) (by decide) (fun c7 => ?_) (fun c7 => ?_)
            · rw [if_neg c7] at h
              refine Go.bipush (n := -2) (-2 : Int32) (by decide +kernel) (by decide) ?_
              exact Go.iret rfl rfl hE.2 (by decide +kernel) (St.fIP h)
            · rw [if_pos c7] at h
              refine Go.aload_n (k := 0) (i := 0) 0 (by decide +kernel) rfl rfl ?_
              refine Go.get 109 1 (.ref (ad E 110)) (by decide) (by decide) sh109 (ltO hE sh109) (vlR hE rfl rfl) lk1331 (by decide +kernel) ?_
              refine Go.bipush (n := 113) (113 : Int32) (by decide +kernel) (by decide) ?_
              refine Go.iaload 110 3408 sh110 (ltA hE sh110 (by decide)) (vp_in_iff.mpr (by decide)) (by decide +kernel) ?_
              refine Go.iload_n (k := 1) (i := 1) 1 (by decide +kernel) rfl rfl ?_
              refine Go.icmp_ne (off := 7) 139 (by decide +kernel) (by decide) (fun c8 => ?_) (fun c8 => ?_)
              · rw [if_neg c8] at h
                refine Go.iconst (n := 0) (0 : Int32) (by decide +kernel) rfl ?_
                refine Go.goto (off := 5) 145 (by decide +kernel) (by decide) ?_
                exact Go.iret rfl rfl hE.2 (by decide +kernel) (St.fIP h)
              · rw [if_pos c8] at h
                refine Go.iconst (n := 1) (1 : Int32) (by decide +kernel) rfl ?_
                refine Go.goto (off := 9) 145 (by decide +kernel) (by decide) ?_
                exact Go.iret rfl rfl hE.2 (by decide +kernel) (St.fIP h)
          · rw [if_pos c6] at h
            refine Go.aload_n (k := 0) (i := 0) 0 (by decide +kernel) rfl rfl ?_
            refine Go.get 109 1 (.ref (ad E 110)) (by decide) (by decide) sh109 (ltO hE sh109) (vlR hE rfl rfl) lk1331 (by decide +kernel) ?_
            refine Go.bipush (n := 116) (116 : Int32) (by decide +kernel) (by decide) ?_
            refine Go.iaload 110 3408 sh110 (ltA hE sh110 (by decide)) (vp_in_iff.mpr (by decide)) (by decide +kernel) ?_
            refine Go.iload_n (k := 1) (i := 1) 1 (by decide +kernel) rfl rfl ?_
            refine Go.ishr (by decide +kernel) ?_
            refine Go.iconst (n := 1) (1 : Int32) (by decide +kernel) rfl ?_
            refine Go.iand (by decide +kernel) ?_
            refine Go.goto (off := 29) 145 (by decide +kernel) (by decide) ?_
            exact Go.iret rfl rfl hE.2 (by decide +kernel) (St.fIP h)
        · rw [if_pos c5] at h
          refine Go.aload_n (k := 0) (i := 0) 0 (by decide +kernel) rfl rfl ?_
          refine Go.get 109 1 (.ref (ad E 110)) (by decide) (by decide) sh109 (ltO hE sh109) (vlR hE rfl rfl) lk1331 (by decide +kernel) ?_
          refine Go.bipush (n := 8) (8 : Int32) (by decide +kernel) (by decide) ?_
          refine Go.iload_n (k := 1) (i := 1) 1 (by decide +kernel) rfl rfl ?_
          refine Go.iadd (by decide +kernel) ?_
          obtain ⟨b9, h⟩ := St.ck h
          refine Go.iaload 110 3408 sh110 (ltA hE sh110 (by decide)) (inb_in b9) (by decide +kernel) ?_
          refine Go.goto (off := 48) 145 (by decide +kernel) (by decide) ?_
          exact Go.iret rfl rfl hE.2 (by decide +kernel) (St.fIP h)
      · rw [if_pos c4] at h
        refine Go.aload_n (k := 0) (i := 0) 0 (by decide +kernel) rfl rfl ?_
        refine Go.get 109 1 (.ref (ad E 110)) (by decide) (by decide) sh109 (ltO hE sh109) (vlR hE rfl rfl) lk1331 (by decide +kernel) ?_
        refine Go.bipush (n := 117) (117 : Int32) (by decide +kernel) (by decide) ?_
        refine Go.iload_n (k := 1) (i := 1) 1 (by decide +kernel) rfl rfl ?_
        refine Go.iadd (by decide +kernel) ?_
        obtain ⟨b10, h⟩ := St.ck h
        refine Go.iaload 110 3408 sh110 (ltA hE sh110 (by decide)) (inb_in b10) (by decide +kernel) ?_
        refine Go.goto (off := 65) 145 (by decide +kernel) (by decide) ?_
        exact Go.iret rfl rfl hE.2 (by decide +kernel) (St.fIP h)
    · rw [if_pos c3] at h
      refine Go.iconst (n := 0) (0 : Int32) (by decide +kernel) rfl ?_
      refine Go.istore_n (k := 3) (i := 3) [(3, .int (0 : Int32)), (0, .ref (ad E 109)), (1, .int a1), (2, .int a2)] (by decide +kernel) rfl (by decide) rfl ?_
      refine Go.iconst (n := 0) (0 : Int32) (by decide +kernel) rfl ?_
      refine Go.istore (i := 4) [(4, .int (0 : Int32)), (3, .int (0 : Int32)), (0, .ref (ad E 109)), (1, .int a1), (2, .int a2)] (by decide +kernel) (by decide) rfl ?_
      refine Go.sub [2, 3, 1, 0] [(0, .ref (ad E 109)), (1, .int a1), (3, .int (0 : Int32)), (4, .int (0 : Int32))] rfl ?_
      exact t_l_Mo_station_27 hG hE d hd FU a1 (0 : Int32) (0 : Int32) (u1 P 109 0 (0 : Int32)) h
  · rw [if_pos c2] at h
    refine Go.bipush (n := -2) (-2 : Int32) (by decide +kernel) (by decide) ?_
    exact Go.iret rfl rfl hE.2 (by decide +kernel) (St.fIP h)
theorem e_Mo_station {G : GX} (hG : GOK G) {E : EV} (hE : E0 E) (d : Nat) (hd : 3 ≤ d) (a1 : Int32) (a2 : Int32) (P : PM) {Q : QT} (h : St E rIP (f_Mo_station a1 a2 P) Q) : Con G y_Mo_station cw_Mo_station d nOb nOb [.ref (ad E 109), .int a1, .int a2] P E Q :=
  Con.of hG (by decide +kernel) rfl (fun h => by cases h) hE.2 (Nat.le_of_ble_eq_true rfl) (t_f_Mo_station hG hE d hd a1 a2 P h)
