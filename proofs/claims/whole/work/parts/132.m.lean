/-! methods as functions, by program: Mo_isAt Mo_spreads Mo_begins Mo_spread Mo_rounds Mo_crowdBy Mo_crowd -/
abbrev c_Mo_isAt : ByteArray := prog_14_method_87_code
abbrev y_Mo_isAt : MethodName := ⟨"YawnRouteModel", "isAt", "([III)V"⟩
abbrev cw_Mo_isAt : Cond := .code y_Mo_isAt c_Mo_isAt 4 none
theorem w_Mo_isAt : SW y_Mo_isAt c_Mo_isAt 4 none 3 := ⟨lk1781, lk14, lk1782, ⟨by decide, by decide, by decide +kernel⟩, by decide⟩
noncomputable def j_Mo_isAt_20 (a0 : Nat) (n0 : Nat) (k2 : Int32 → Int32 → Int32 → PM → Option PM) (x1 : Int32) (x2 : Int32) (x3 : Int32) (s1 : Int32) (s2 : Int32) (P : PM) : Option PM := ck (inb s1 n0) (k2 x1 x2 (x3 + (1 : Int32)) (u1 P a0 s1.toNatClampNeg s2))
noncomputable def l_Mo_isAt_2 (a0 : Nat) (n0 : Nat) : Nat → Int32 → Int32 → Int32 → PM → Option PM
  | 0, _, _, _, _ => none
  | n + 1, x1, x2, x3, P => if (7 : Int32) ≤ x3 then (some P) else (if x3 = x1 then (j_Mo_isAt_20 a0 n0 (fun z0 z1 z2 Pz => l_Mo_isAt_2 a0 n0 n z0 z1 z2 Pz) x1 x2 x3 x3 x2 P) else (j_Mo_isAt_20 a0 n0 (fun z0 z1 z2 Pz => l_Mo_isAt_2 a0 n0 n z0 z1 z2 Pz) x1 x2 x3 x3 (0 : Int32) P))
noncomputable def f_Mo_isAt (a0 : Nat) (n0 : Nat) (a1 : Int32) (a2 : Int32) (P : PM) : Option PM := l_Mo_isAt_2 a0 n0 FU a1 a2 (0 : Int32) P
theorem t_j_Mo_isAt_20 {G : GX} (hG : GOK G) {E : EV} (hE : E0 E) (d : Nat) (hd : 1 ≤ d) {Q : QT} (a0 : Nat) (n0 : Nat) (ha0 : sh a0 = .inr (0, n0)) (k2 : Int32 → Int32 → Int32 → PM → Option PM) (hk2 : ∀ (x1 : Int32) (x2 : Int32) (x3 : Int32) (P : PM), St E rP (k2 x1 x2 x3 P) Q → Go G c_Mo_isAt "YawnRouteModel" 4 none false d nOb nOb Q 2 [(0, .ref (ad E a0)), (1, .int x1), (2, .int x2), (3, .int x3)] [] P E) (x1 : Int32) (x2 : Int32) (x3 : Int32) (s1 : Int32) (s2 : Int32) (P : PM) (h : St E rP (j_Mo_isAt_20 a0 n0 k2 x1 x2 x3 s1 s2 P) Q) : Go G c_Mo_isAt "YawnRouteModel" 4 none false d nOb nOb Q 20 [(0, .ref (ad E a0)), (1, .int x1), (2, .int x2), (3, .int x3)] [.int s2, .int s1, .ref (ad E a0)] P E := by
  rw [j_Mo_isAt_20] at h
  obtain ⟨b1, h⟩ := St.ck h
  refine Go.iastore a0 n0 ha0 (ltA hE ha0 (by decide)) (inb_in b1) (by decide +kernel) ?_
  refine Go.iinc (i := 3) (n := 1) 3 (x3 + (1 : Int32)) [(3, .int (x3 + (1 : Int32))), (0, .ref (ad E a0)), (1, .int x1), (2, .int x2)] (by decide +kernel) rfl rfl (by decide) rfl ?_
  refine Go.goto (off := -22) 2 (by decide +kernel) (by decide) ?_
  refine Go.sub [1, 2, 3, 0] [(0, .ref (ad E a0)), (1, .int x1), (2, .int x2), (3, .int (x3 + (1 : Int32)))] rfl ?_
  exact hk2 x1 x2 (x3 + (1 : Int32)) (u1 P a0 s1.toNatClampNeg s2) h
theorem t_l_Mo_isAt_2 {G : GX} (hG : GOK G) {E : EV} (hE : E0 E) (d : Nat) (hd : 1 ≤ d) {Q : QT} (a0 : Nat) (n0 : Nat) (ha0 : sh a0 = .inr (0, n0)) : ∀ (n : Nat) (x1 : Int32) (x2 : Int32) (x3 : Int32) (P : PM), St E rP (l_Mo_isAt_2 a0 n0 n x1 x2 x3 P) Q → Go G c_Mo_isAt "YawnRouteModel" 4 none false d nOb nOb Q 2 [(0, .ref (ad E a0)), (1, .int x1), (2, .int x2), (3, .int x3)] [] P E := by
  intro n
  induction n with
  | zero =>
    intro x1 x2 x3 P h
    rw [l_Mo_isAt_2] at h
    exact St.none_ h
  | succ n ih =>
    intro x1 x2 x3 P h
    rw [l_Mo_isAt_2] at h
    refine Go.iload_n (k := 3) (i := 3) 3 (by decide +kernel) rfl rfl ?_
    refine Go.bipush (n := 7) (7 : Int32) (by decide +kernel) (by decide) ?_
    refine Go.icmp_ge (off := 22) 27 (by decide +kernel) (by decide) (fun c1 => ?_) (fun c1 => ?_)
    · rw [if_pos c1] at h
      exact Go.vret rfl hE.2 (by decide +kernel) (St.fP h)
    · rw [if_neg c1] at h
      refine Go.aload_n (k := 0) (i := 0) 0 (by decide +kernel) rfl rfl ?_
      refine Go.iload_n (k := 3) (i := 3) 3 (by decide +kernel) rfl rfl ?_
      refine Go.iload_n (k := 3) (i := 3) 3 (by decide +kernel) rfl rfl ?_
      refine Go.iload_n (k := 1) (i := 1) 1 (by decide +kernel) rfl rfl ?_
      refine Go.icmp_ne (off := 7) 19 (by decide +kernel) (by decide) (fun c2 => ?_) (fun c2 => ?_)
      · rw [if_neg c2] at h
        refine Go.iconst (n := 0) (0 : Int32) (by decide +kernel) rfl ?_
        exact t_j_Mo_isAt_20 hG hE d hd a0 n0 ha0 (fun z0 z1 z2 Pz => l_Mo_isAt_2 a0 n0 n z0 z1 z2 Pz) (fun z0 z1 z2 Pz q => ih z0 z1 z2 Pz q) x1 x2 x3 x3 (0 : Int32) P h
      · rw [if_pos c2] at h
        refine Go.iload_n (k := 2) (i := 2) 2 (by decide +kernel) rfl rfl ?_
        refine Go.goto (off := 4) 20 (by decide +kernel) (by decide) ?_
        exact t_j_Mo_isAt_20 hG hE d hd a0 n0 ha0 (fun z0 z1 z2 Pz => l_Mo_isAt_2 a0 n0 n z0 z1 z2 Pz) (fun z0 z1 z2 Pz q => ih z0 z1 z2 Pz q) x1 x2 x3 x3 x2 P h
theorem t_f_Mo_isAt {G : GX} (hG : GOK G) {E : EV} (hE : E0 E) (d : Nat) (hd : 1 ≤ d) {Q : QT} (a0 : Nat) (n0 : Nat) (ha0 : sh a0 = .inr (0, n0)) (a1 : Int32) (a2 : Int32) (P : PM) (h : St E rP (f_Mo_isAt a0 n0 a1 a2 P) Q) : Go G c_Mo_isAt "YawnRouteModel" 4 none false d nOb nOb Q 0 [(0, .ref (ad E a0)), (1, .int a1), (2, .int a2)] [] P E := by
  rw [f_Mo_isAt] at h
  refine Go.iconst (n := 0) (0 : Int32) (by decide +kernel) rfl ?_
  refine Go.istore_n (k := 3) (i := 3) [(3, .int (0 : Int32)), (0, .ref (ad E a0)), (1, .int a1), (2, .int a2)] (by decide +kernel) rfl (by decide) rfl ?_
  refine Go.sub [1, 2, 3, 0] [(0, .ref (ad E a0)), (1, .int a1), (2, .int a2), (3, .int (0 : Int32))] rfl ?_
  exact t_l_Mo_isAt_2 hG hE d hd a0 n0 ha0 FU a1 a2 (0 : Int32) P h
theorem e_Mo_isAt {G : GX} (hG : GOK G) {E : EV} (hE : E0 E) (d : Nat) (hd : 1 ≤ d) (a0 : Nat) (n0 : Nat) (ha0 : sh a0 = .inr (0, n0)) (a1 : Int32) (a2 : Int32) (P : PM) {Q : QT} (h : St E rP (f_Mo_isAt a0 n0 a1 a2 P) Q) : Con G y_Mo_isAt cw_Mo_isAt d nOb nOb [.ref (ad E a0), .int a1, .int a2] P E Q :=
  Con.of hG (by decide +kernel) rfl (fun h => by cases h) hE.2 (Nat.le_of_ble_eq_true rfl) (t_f_Mo_isAt hG hE d hd a0 n0 ha0 a1 a2 P h)
abbrev c_Mo_spreads : ByteArray := prog_14_method_88_code
abbrev y_Mo_spreads : MethodName := ⟨"YawnRouteModel", "spreads", "([II)Z"⟩
abbrev cw_Mo_spreads : Cond := .code y_Mo_spreads c_Mo_spreads 6 (some .boolean)
theorem w_Mo_spreads : VW 12 y_Mo_spreads c_Mo_spreads 6 (some .boolean) 2 := ⟨by decide, lk1785, lp100_, lk14, lk1786, ⟨by decide, by decide, by decide +kernel⟩, by decide⟩
noncomputable def j_Mo_spreads_128 (a1 : Nat) (n1 : Nat) (k28 : Int32 → Int32 → Int32 → PM → Option (Int32 × PM)) (k42 : Int32 → Int32 → Int32 → Int32 → PM → Option (Int32 × PM)) (x2 : Int32) (x3 : Int32) (x4 : Int32) (x5 : Int32) (P : PM) : Option (Int32 × PM) := k42 x2 x3 x4 (x5 + (1 : Int32)) P
noncomputable def j_Mo_spreads_134 (a1 : Nat) (n1 : Nat) (k28 : Int32 → Int32 → Int32 → PM → Option (Int32 × PM)) (x2 : Int32) (x3 : Int32) (x4 : Int32) (P : PM) : Option (Int32 × PM) := k28 x2 x3 (x4 + (1 : Int32)) P
noncomputable def l_Mo_spreads_42 (a1 : Nat) (n1 : Nat) (k28 : Int32 → Int32 → Int32 → PM → Option (Int32 × PM)) : Nat → Int32 → Int32 → Int32 → Int32 → PM → Option (Int32 × PM)
  | 0, _, _, _, _, _ => none
  | n + 1, x2, x3, x4, x5, P => if (P.1 110 (1 : Int32).toNatClampNeg) ≤ x5 then (j_Mo_spreads_134 a1 n1 k28 x2 x3 x4 P) else (ck (inb x4 7) (if (P.1 121 x4.toNatClampNeg) ≤ (0 : Int32) then (j_Mo_spreads_134 a1 n1 k28 x2 x3 x4 P) else (ck (inb x4 7) (bd2 (f_Mo_whyBy x4 (P.1 121 x4.toNatClampNeg) x5 x2 P) (fun v5 P6 => if v5 = (0 : Int32) then (ck (inb x4 7) (bd2 (f_Mo_passedTo x4 (P6.1 121 x4.toNatClampNeg) x5 P6) (fun v9 P10 => ck (inb x5 n1) (if (P10.1 a1 x5.toNatClampNeg) < v9 then (ck (inb x4 7) (bd2 (f_Mo_passedTo x4 (P10.1 121 x4.toNatClampNeg) x5 P10) (fun v14 P15 => ck (inb x5 n1) (j_Mo_spreads_128 a1 n1 k28 (fun z0 z1 z2 z3 Pz => l_Mo_spreads_42 a1 n1 k28 n z0 z1 z2 z3 Pz) x2 (1 : Int32) x4 x5 (u1 P15 a1 x5.toNatClampNeg v14))))) else (j_Mo_spreads_128 a1 n1 k28 (fun z0 z1 z2 z3 Pz => l_Mo_spreads_42 a1 n1 k28 n z0 z1 z2 z3 Pz) x2 x3 x4 x5 P10))))) else (j_Mo_spreads_128 a1 n1 k28 (fun z0 z1 z2 z3 Pz => l_Mo_spreads_42 a1 n1 k28 n z0 z1 z2 z3 Pz) x2 x3 x4 x5 P6))))))
noncomputable def l_Mo_spreads_28 (a1 : Nat) (n1 : Nat) : Nat → Int32 → Int32 → Int32 → PM → Option (Int32 × PM)
  | 0, _, _, _, _ => none
  | n + 1, x2, x3, x4, P => if (P.1 110 (1 : Int32).toNatClampNeg) ≤ x4 then (ck (isz x3) (some (x3, P))) else (l_Mo_spreads_42 a1 n1 (fun z0 z1 z2 Pz => l_Mo_spreads_28 a1 n1 n z0 z1 z2 Pz) FU x2 x3 x4 (0 : Int32) P)
noncomputable def l_Mo_spreads_2 (a1 : Nat) (n1 : Nat) : Nat → Int32 → Int32 → PM → Option (Int32 × PM)
  | 0, _, _, _ => none
  | n + 1, x2, x3, P => if (7 : Int32) ≤ x3 then (l_Mo_spreads_28 a1 n1 FU x2 (0 : Int32) (0 : Int32) P) else (ck (inb x3 n1) (ck (inb x3 7) (l_Mo_spreads_2 a1 n1 n x2 (x3 + (1 : Int32)) (u1 P 121 x3.toNatClampNeg (P.1 a1 x3.toNatClampNeg)))))
noncomputable def f_Mo_spreads (a1 : Nat) (n1 : Nat) (a2 : Int32) (P : PM) : Option (Int32 × PM) := l_Mo_spreads_2 a1 n1 FU a2 (0 : Int32) P
theorem t_j_Mo_spreads_128 {G : GX} (hG : GOK G) {E : EV} (hE : E0 E) (d : Nat) (hd : 4 ≤ d) {Q : QT} (a1 : Nat) (n1 : Nat) (ha1 : sh a1 = .inr (0, n1)) (k28 : Int32 → Int32 → Int32 → PM → Option (Int32 × PM)) (hk28 : ∀ (x2 : Int32) (x3 : Int32) (x4 : Int32) (P : PM), St E rIP (k28 x2 x3 x4 P) Q → Go G c_Mo_spreads "YawnRouteModel" 6 (some .boolean) false d nOb nOb Q 28 [(0, .ref (ad E 109)), (1, .ref (ad E a1)), (2, .int x2), (3, .int x3), (4, .int x4)] [] P E) (k42 : Int32 → Int32 → Int32 → Int32 → PM → Option (Int32 × PM)) (hk42 : ∀ (x2 : Int32) (x3 : Int32) (x4 : Int32) (x5 : Int32) (P : PM), St E rIP (k42 x2 x3 x4 x5 P) Q → Go G c_Mo_spreads "YawnRouteModel" 6 (some .boolean) false d nOb nOb Q 42 [(0, .ref (ad E 109)), (1, .ref (ad E a1)), (2, .int x2), (3, .int x3), (4, .int x4), (5, .int x5)] [] P E) (x2 : Int32) (x3 : Int32) (x4 : Int32) (x5 : Int32) (P : PM) (h : St E rIP (j_Mo_spreads_128 a1 n1 k28 k42 x2 x3 x4 x5 P) Q) : Go G c_Mo_spreads "YawnRouteModel" 6 (some .boolean) false d nOb nOb Q 128 [(0, .ref (ad E 109)), (1, .ref (ad E a1)), (2, .int x2), (3, .int x3), (4, .int x4), (5, .int x5)] [] P E := by
  rw [j_Mo_spreads_128] at h
  refine Go.iinc (i := 5) (n := 1) 5 (x5 + (1 : Int32)) [(5, .int (x5 + (1 : Int32))), (0, .ref (ad E 109)), (1, .ref (ad E a1)), (2, .int x2), (3, .int x3), (4, .int x4)] (by decide +kernel) rfl rfl (by decide) rfl ?_
  refine Go.goto (off := -89) 42 (by decide +kernel) (by decide) ?_
  refine Go.sub [1, 2, 3, 4, 5, 0] [(0, .ref (ad E 109)), (1, .ref (ad E a1)), (2, .int x2), (3, .int x3), (4, .int x4), (5, .int (x5 + (1 : Int32)))] rfl ?_
  exact hk42 x2 x3 x4 (x5 + (1 : Int32)) P h
theorem t_j_Mo_spreads_134 {G : GX} (hG : GOK G) {E : EV} (hE : E0 E) (d : Nat) (hd : 4 ≤ d) {Q : QT} (a1 : Nat) (n1 : Nat) (ha1 : sh a1 = .inr (0, n1)) (k28 : Int32 → Int32 → Int32 → PM → Option (Int32 × PM)) (hk28 : ∀ (x2 : Int32) (x3 : Int32) (x4 : Int32) (P : PM), St E rIP (k28 x2 x3 x4 P) Q → Go G c_Mo_spreads "YawnRouteModel" 6 (some .boolean) false d nOb nOb Q 28 [(0, .ref (ad E 109)), (1, .ref (ad E a1)), (2, .int x2), (3, .int x3), (4, .int x4)] [] P E) (x2 : Int32) (x3 : Int32) (x4 : Int32) (P : PM) (h : St E rIP (j_Mo_spreads_134 a1 n1 k28 x2 x3 x4 P) Q) : Go G c_Mo_spreads "YawnRouteModel" 6 (some .boolean) false d nOb nOb Q 134 [(0, .ref (ad E 109)), (1, .ref (ad E a1)), (2, .int x2), (3, .int x3), (4, .int x4)] [] P E := by
  rw [j_Mo_spreads_134] at h
  refine Go.iinc (i := 4) (n := 1) 4 (x4 + (1 : Int32)) [(4, .int (x4 + (1 : Int32))), (0, .ref (ad E 109)), (1, .ref (ad E a1)), (2, .int x2), (3, .int x3)] (by decide +kernel) rfl rfl (by decide) rfl ?_
  refine Go.goto (off := -109) 28 (by decide +kernel) (by decide) ?_
  refine Go.sub [1, 2, 3, 4, 0] [(0, .ref (ad E 109)), (1, .ref (ad E a1)), (2, .int x2), (3, .int x3), (4, .int (x4 + (1 : Int32)))] rfl ?_
  exact hk28 x2 x3 (x4 + (1 : Int32)) P h
theorem t_l_Mo_spreads_42 {G : GX} (hG : GOK G) {E : EV} (hE : E0 E) (d : Nat) (hd : 4 ≤ d) {Q : QT} (a1 : Nat) (n1 : Nat) (ha1 : sh a1 = .inr (0, n1)) (k28 : Int32 → Int32 → Int32 → PM → Option (Int32 × PM)) (hk28 : ∀ (x2 : Int32) (x3 : Int32) (x4 : Int32) (P : PM), St E rIP (k28 x2 x3 x4 P) Q → Go G c_Mo_spreads "YawnRouteModel" 6 (some .boolean) false d nOb nOb Q 28 [(0, .ref (ad E 109)), (1, .ref (ad E a1)), (2, .int x2), (3, .int x3), (4, .int x4)] [] P E) : ∀ (n : Nat) (x2 : Int32) (x3 : Int32) (x4 : Int32) (x5 : Int32) (P : PM), St E rIP (l_Mo_spreads_42 a1 n1 k28 n x2 x3 x4 x5 P) Q → Go G c_Mo_spreads "YawnRouteModel" 6 (some .boolean) false d nOb nOb Q 42 [(0, .ref (ad E 109)), (1, .ref (ad E a1)), (2, .int x2), (3, .int x3), (4, .int x4), (5, .int x5)] [] P E := by
  intro n
  induction n with
  | zero =>
    intro x2 x3 x4 x5 P h
    rw [l_Mo_spreads_42] at h
    exact St.none_ h
  | succ n ih =>
    intro x2 x3 x4 x5 P h
    rw [l_Mo_spreads_42] at h
    refine Go.iload (i := 5) 5 (by decide +kernel) rfl ?_
    refine Go.aload_n (k := 0) (i := 0) 0 (by decide +kernel) rfl rfl ?_
    refine Go.get 109 1 (.ref (ad E 110)) (by decide) (by decide) sh109 (ltO hE sh109) (vlR hE rfl rfl) lk1331 (by decide +kernel) ?_
    refine Go.iconst (n := 1) (1 : Int32) (by decide +kernel) rfl ?_
    refine Go.iaload 110 3408 sh110 (ltA hE sh110 (by decide)) (vp_in_iff.mpr (by decide)) (by decide +kernel) ?_
    refine Go.icmp_ge (off := 84) 134 (by decide +kernel) (by decide) (fun c1 => ?_) (fun c1 => ?_)
    · rw [if_pos c1] at h
      refine Go.sub [0, 1, 2, 3, 4] [(0, .ref (ad E 109)), (1, .ref (ad E a1)), (2, .int x2), (3, .int x3), (4, .int x4)] rfl ?_
      exact t_j_Mo_spreads_134 hG hE d hd a1 n1 ha1 k28 hk28 x2 x3 x4 P h
    · rw [if_neg c1] at h
      refine Go.aload_n (k := 0) (i := 0) 0 (by decide +kernel) rfl rfl ?_
      refine Go.get 109 24 (.ref (ad E 121)) (by decide) (by decide) sh109 (ltO hE sh109) (vlR hE rfl rfl) lk1354 (by decide +kernel) ?_
      refine Go.iload (i := 4) 4 (by decide +kernel) rfl ?_
      obtain ⟨b2, h⟩ := St.ck h
      refine Go.iaload 121 7 sh121 (ltA hE sh121 (by decide)) (inb_in b2) (by decide +kernel) ?_
      refine Go.if_le (off := 74) 134 (by decide +kernel) (by decide) (fun c3 => ?_) (fun c3 => ?_)
      · rw [if_pos c3] at h
        refine Go.sub [0, 1, 2, 3, 4] [(0, .ref (ad E 109)), (1, .ref (ad E a1)), (2, .int x2), (3, .int x3), (4, .int x4)] rfl ?_
        exact t_j_Mo_spreads_134 hG hE d hd a1 n1 ha1 k28 hk28 x2 x3 x4 P h
      · rw [if_neg c3] at h
        refine Go.aload_n (k := 0) (i := 0) 0 (by decide +kernel) rfl rfl ?_
        refine Go.iload (i := 4) 4 (by decide +kernel) rfl ?_
        refine Go.aload_n (k := 0) (i := 0) 0 (by decide +kernel) rfl rfl ?_
        refine Go.get 109 24 (.ref (ad E 121)) (by decide) (by decide) sh109 (ltO hE sh109) (vlR hE rfl rfl) lk1354 (by decide +kernel) ?_
        refine Go.iload (i := 4) 4 (by decide +kernel) rfl ?_
        obtain ⟨b4, h⟩ := St.ck h
        refine Go.iaload 121 7 sh121 (ltA hE sh121 (by decide)) (inb_in b4) (by decide +kernel) ?_
        refine Go.iload (i := 5) 5 (by decide +kernel) rfl ?_
        refine Go.iload_n (k := 2) (i := 2) 2 (by decide +kernel) rfl rfl ?_
        obtain ⟨v5, P6, hv5, h⟩ := St.bd2 h
        refine Go.cV_i (P1 := P6) (v := v5) (d - 1) 109 [.int x4, .int (P.1 121 x4.toNatClampNeg), .int x5, .int x2] sh109 hE w_Mo_whyBy (e_Mo_whyBy hG hE (d - 1) (by omega) x4 (P.1 121 x4.toNatClampNeg) x5 x2 P ⟨_, hv5, rfl, rfl, rfl⟩) lk1575 rfl (by omega) (Nat.le_of_ble_eq_true rfl) (by decide +kernel) _ rfl ?_
        refine Go.if_ne (off := 49) 128 (by decide +kernel) (by decide) (fun c7 => ?_) (fun c7 => ?_)
        · rw [if_neg c7] at h
          exact t_j_Mo_spreads_128 hG hE d hd a1 n1 ha1 k28 hk28 (fun z0 z1 z2 z3 Pz => l_Mo_spreads_42 a1 n1 k28 n z0 z1 z2 z3 Pz) (fun z0 z1 z2 z3 Pz q => ih z0 z1 z2 z3 Pz q) x2 x3 x4 x5 P6 h
        · rw [if_pos c7] at h
          refine Go.aload_n (k := 0) (i := 0) 0 (by decide +kernel) rfl rfl ?_
          refine Go.iload (i := 4) 4 (by decide +kernel) rfl ?_
          refine Go.aload_n (k := 0) (i := 0) 0 (by decide +kernel) rfl rfl ?_
          refine Go.get 109 24 (.ref (ad E 121)) (by decide) (by decide) sh109 (ltO hE sh109) (vlR hE rfl rfl) lk1354 (by decide +kernel) ?_
          refine Go.iload (i := 4) 4 (by decide +kernel) rfl ?_
          obtain ⟨b8, h⟩ := St.ck h
          refine Go.iaload 121 7 sh121 (ltA hE sh121 (by decide)) (inb_in b8) (by decide +kernel) ?_
          refine Go.iload (i := 5) 5 (by decide +kernel) rfl ?_
          obtain ⟨v9, P10, hv9, h⟩ := St.bd2 h
          refine Go.cV_i (P1 := P10) (v := v9) (d - 1) 109 [.int x4, .int (P6.1 121 x4.toNatClampNeg), .int x5] sh109 hE w_Mo_passedTo (e_Mo_passedTo hG hE (d - 1) (by omega) x4 (P6.1 121 x4.toNatClampNeg) x5 P6 ⟨_, hv9, rfl, rfl, rfl⟩) lk1591 rfl (by omega) (Nat.le_of_ble_eq_true rfl) (by decide +kernel) _ rfl ?_
          refine Go.aload_n (k := 1) (i := 1) 1 (by decide +kernel) rfl rfl ?_
          refine Go.iload (i := 5) 5 (by decide +kernel) rfl ?_
          obtain ⟨b11, h⟩ := St.ck h
          refine Go.iaload a1 n1 ha1 (ltA hE ha1 (by decide)) (inb_in b11) (by decide +kernel) ?_
          refine Go.icmp_gt (off := 6) 107 (by decide +kernel) (by decide) (fun c12 => ?_) (fun c12 => ?_)
          · rw [if_pos c12] at h
            refine Go.aload_n (k := 1) (i := 1) 1 (by decide +kernel) rfl rfl ?_
            refine Go.iload (i := 5) 5 (by decide +kernel) rfl ?_
            refine Go.aload_n (k := 0) (i := 0) 0 (by decide +kernel) rfl rfl ?_
            refine Go.iload (i := 4) 4 (by decide +kernel) rfl ?_
            refine Go.aload_n (k := 0) (i := 0) 0 (by decide +kernel) rfl rfl ?_
            refine Go.get 109 24 (.ref (ad E 121)) (by decide) (by decide) sh109 (ltO hE sh109) (vlR hE rfl rfl) lk1354 (by decide +kernel) ?_
            refine Go.iload (i := 4) 4 (by decide +kernel) rfl ?_
            obtain ⟨b13, h⟩ := St.ck h
            refine Go.iaload 121 7 sh121 (ltA hE sh121 (by decide)) (inb_in b13) (by decide +kernel) ?_
            refine Go.iload (i := 5) 5 (by decide +kernel) rfl ?_
            obtain ⟨v14, P15, hv14, h⟩ := St.bd2 h
            refine Go.cV_i (P1 := P15) (v := v14) (d - 1) 109 [.int x4, .int (P10.1 121 x4.toNatClampNeg), .int x5] sh109 hE w_Mo_passedTo (e_Mo_passedTo hG hE (d - 1) (by omega) x4 (P10.1 121 x4.toNatClampNeg) x5 P10 ⟨_, hv14, rfl, rfl, rfl⟩) lk1591 rfl (by omega) (Nat.le_of_ble_eq_true rfl) (by decide +kernel) _ rfl ?_
            obtain ⟨b16, h⟩ := St.ck h
            refine Go.iastore a1 n1 ha1 (ltA hE ha1 (by decide)) (inb_in b16) (by decide +kernel) ?_
            refine Go.iconst (n := 1) (1 : Int32) (by decide +kernel) rfl ?_
            refine Go.istore_n (k := 3) (i := 3) [(3, .int (1 : Int32)), (0, .ref (ad E 109)), (1, .ref (ad E a1)), (2, .int x2), (4, .int x4), (5, .int x5)] (by decide +kernel) rfl (by decide) rfl ?_
            refine Go.sub [1, 2, 3, 0, 4, 5] [(0, .ref (ad E 109)), (1, .ref (ad E a1)), (2, .int x2), (3, .int (1 : Int32)), (4, .int x4), (5, .int x5)] rfl ?_
            exact t_j_Mo_spreads_128 hG hE d hd a1 n1 ha1 k28 hk28 (fun z0 z1 z2 z3 Pz => l_Mo_spreads_42 a1 n1 k28 n z0 z1 z2 z3 Pz) (fun z0 z1 z2 z3 Pz q => ih z0 z1 z2 z3 Pz q) x2 (1 : Int32) x4 x5 (u1 P15 a1 x5.toNatClampNeg v14) h
          · rw [if_neg c12] at h
            refine Go.goto (off := 24) 128 (by decide +kernel) (by decide) ?_
            exact t_j_Mo_spreads_128 hG hE d hd a1 n1 ha1 k28 hk28 (fun z0 z1 z2 z3 Pz => l_Mo_spreads_42 a1 n1 k28 n z0 z1 z2 z3 Pz) (fun z0 z1 z2 z3 Pz q => ih z0 z1 z2 z3 Pz q) x2 x3 x4 x5 P10 h
theorem t_l_Mo_spreads_28 {G : GX} (hG : GOK G) {E : EV} (hE : E0 E) (d : Nat) (hd : 4 ≤ d) {Q : QT} (a1 : Nat) (n1 : Nat) (ha1 : sh a1 = .inr (0, n1)) : ∀ (n : Nat) (x2 : Int32) (x3 : Int32) (x4 : Int32) (P : PM), St E rIP (l_Mo_spreads_28 a1 n1 n x2 x3 x4 P) Q → Go G c_Mo_spreads "YawnRouteModel" 6 (some .boolean) false d nOb nOb Q 28 [(0, .ref (ad E 109)), (1, .ref (ad E a1)), (2, .int x2), (3, .int x3), (4, .int x4)] [] P E := by
  intro n
  induction n with
  | zero =>
    intro x2 x3 x4 P h
    rw [l_Mo_spreads_28] at h
    exact St.none_ h
  | succ n ih =>
    intro x2 x3 x4 P h
    rw [l_Mo_spreads_28] at h
    refine Go.iload (i := 4) 4 (by decide +kernel) rfl ?_
    refine Go.aload_n (k := 0) (i := 0) 0 (by decide +kernel) rfl rfl ?_
    refine Go.get 109 1 (.ref (ad E 110)) (by decide) (by decide) sh109 (ltO hE sh109) (vlR hE rfl rfl) lk1331 (by decide +kernel) ?_
    refine Go.iconst (n := 1) (1 : Int32) (by decide +kernel) rfl ?_
    refine Go.iaload 110 3408 sh110 (ltA hE sh110 (by decide)) (vp_in_iff.mpr (by decide)) (by decide +kernel) ?_
    refine Go.icmp_ge (off := 104) 140 (by decide +kernel) (by decide) (fun c1 => ?_) (fun c1 => ?_)
    · rw [if_pos c1] at h
      refine Go.iload_n (k := 3) (i := 3) 3 (by decide +kernel) rfl rfl ?_
      obtain ⟨b2, h⟩ := St.ck h
      exact Go.iret rfl (isz_b b2).1 hE.2 (by decide +kernel) (St.fIP h)
    · rw [if_neg c1] at h
      refine Go.iconst (n := 0) (0 : Int32) (by decide +kernel) rfl ?_
      refine Go.istore (i := 5) [(5, .int (0 : Int32)), (0, .ref (ad E 109)), (1, .ref (ad E a1)), (2, .int x2), (3, .int x3), (4, .int x4)] (by decide +kernel) (by decide) rfl ?_
      refine Go.sub [1, 2, 3, 4, 5, 0] [(0, .ref (ad E 109)), (1, .ref (ad E a1)), (2, .int x2), (3, .int x3), (4, .int x4), (5, .int (0 : Int32))] rfl ?_
      exact t_l_Mo_spreads_42 hG hE d hd a1 n1 ha1 (fun z0 z1 z2 Pz => l_Mo_spreads_28 a1 n1 n z0 z1 z2 Pz) (fun z0 z1 z2 Pz q => ih z0 z1 z2 Pz q) FU x2 x3 x4 (0 : Int32) P h
theorem t_l_Mo_spreads_2 {G : GX} (hG : GOK G) {E : EV} (hE : E0 E) (d : Nat) (hd : 4 ≤ d) {Q : QT} (a1 : Nat) (n1 : Nat) (ha1 : sh a1 = .inr (0, n1)) : ∀ (n : Nat) (x2 : Int32) (x3 : Int32) (P : PM), St E rIP (l_Mo_spreads_2 a1 n1 n x2 x3 P) Q → Go G c_Mo_spreads "YawnRouteModel" 6 (some .boolean) false d nOb nOb Q 2 [(0, .ref (ad E 109)), (1, .ref (ad E a1)), (2, .int x2), (3, .int x3)] [] P E := by
  intro n
  induction n with
  | zero =>
    intro x2 x3 P h
    rw [l_Mo_spreads_2] at h
    exact St.none_ h
  | succ n ih =>
    intro x2 x3 P h
    rw [l_Mo_spreads_2] at h
    refine Go.iload_n (k := 3) (i := 3) 3 (by decide +kernel) rfl rfl ?_
    refine Go.bipush (n := 7) (7 : Int32) (by decide +kernel) (by decide) ?_
    refine Go.icmp_ge (off := 18) 23 (by decide +kernel) (by decide) (fun c1 => ?_) (fun c1 => ?_)
    · rw [if_pos c1] at h
      refine Go.iconst (n := 0) (0 : Int32) (by decide +kernel) rfl ?_
      refine Go.istore_n (k := 3) (i := 3) [(3, .int (0 : Int32)), (0, .ref (ad E 109)), (1, .ref (ad E a1)), (2, .int x2)] (by decide +kernel) rfl (by decide) rfl ?_
      refine Go.iconst (n := 0) (0 : Int32) (by decide +kernel) rfl ?_
      refine Go.istore (i := 4) [(4, .int (0 : Int32)), (3, .int (0 : Int32)), (0, .ref (ad E 109)), (1, .ref (ad E a1)), (2, .int x2)] (by decide +kernel) (by decide) rfl ?_
      refine Go.sub [2, 3, 4, 1, 0] [(0, .ref (ad E 109)), (1, .ref (ad E a1)), (2, .int x2), (3, .int (0 : Int32)), (4, .int (0 : Int32))] rfl ?_
      exact t_l_Mo_spreads_28 hG hE d hd a1 n1 ha1 FU x2 (0 : Int32) (0 : Int32) P h
    · rw [if_neg c1] at h
      refine Go.aload_n (k := 0) (i := 0) 0 (by decide +kernel) rfl rfl ?_
      refine Go.get 109 24 (.ref (ad E 121)) (by decide) (by decide) sh109 (ltO hE sh109) (vlR hE rfl rfl) lk1354 (by decide +kernel) ?_
      refine Go.iload_n (k := 3) (i := 3) 3 (by decide +kernel) rfl rfl ?_
      refine Go.aload_n (k := 1) (i := 1) 1 (by decide +kernel) rfl rfl ?_
      refine Go.iload_n (k := 3) (i := 3) 3 (by decide +kernel) rfl rfl ?_
      obtain ⟨b2, h⟩ := St.ck h
      refine Go.iaload a1 n1 ha1 (ltA hE ha1 (by decide)) (inb_in b2) (by decide +kernel) ?_
      obtain ⟨b3, h⟩ := St.ck h
      refine Go.iastore 121 7 sh121 (ltA hE sh121 (by decide)) (inb_in b3) (by decide +kernel) ?_
      refine Go.iinc (i := 3) (n := 1) 3 (x3 + (1 : Int32)) [(3, .int (x3 + (1 : Int32))), (0, .ref (ad E 109)), (1, .ref (ad E a1)), (2, .int x2)] (by decide +kernel) rfl rfl (by decide) rfl ?_
      refine Go.goto (off := -18) 2 (by decide +kernel) (by decide) ?_
      refine Go.sub [1, 2, 3, 0] [(0, .ref (ad E 109)), (1, .ref (ad E a1)), (2, .int x2), (3, .int (x3 + (1 : Int32)))] rfl ?_
      exact ih x2 (x3 + (1 : Int32)) (u1 P 121 x3.toNatClampNeg (P.1 a1 x3.toNatClampNeg)) h
theorem t_f_Mo_spreads {G : GX} (hG : GOK G) {E : EV} (hE : E0 E) (d : Nat) (hd : 4 ≤ d) {Q : QT} (a1 : Nat) (n1 : Nat) (ha1 : sh a1 = .inr (0, n1)) (a2 : Int32) (P : PM) (h : St E rIP (f_Mo_spreads a1 n1 a2 P) Q) : Go G c_Mo_spreads "YawnRouteModel" 6 (some .boolean) false d nOb nOb Q 0 [(0, .ref (ad E 109)), (1, .ref (ad E a1)), (2, .int a2)] [] P E := by
  rw [f_Mo_spreads] at h
  refine Go.iconst (n := 0) (0 : Int32) (by decide +kernel) rfl ?_
  refine Go.istore_n (k := 3) (i := 3) [(3, .int (0 : Int32)), (0, .ref (ad E 109)), (1, .ref (ad E a1)), (2, .int a2)] (by decide +kernel) rfl (by decide) rfl ?_
  refine Go.sub [1, 2, 3, 0] [(0, .ref (ad E 109)), (1, .ref (ad E a1)), (2, .int a2), (3, .int (0 : Int32))] rfl ?_
  exact t_l_Mo_spreads_2 hG hE d hd a1 n1 ha1 FU a2 (0 : Int32) P h
theorem e_Mo_spreads {G : GX} (hG : GOK G) {E : EV} (hE : E0 E) (d : Nat) (hd : 4 ≤ d) (a1 : Nat) (n1 : Nat) (ha1 : sh a1 = .inr (0, n1)) (a2 : Int32) (P : PM) {Q : QT} (h : St E rIP (f_Mo_spreads a1 n1 a2 P) Q) : Con G y_Mo_spreads cw_Mo_spreads d nOb nOb [.ref (ad E 109), .ref (ad E a1), .int a2] P E Q :=
  Con.of hG (by decide +kernel) rfl (fun h => by cases h) hE.2 (Nat.le_of_ble_eq_true rfl) (t_f_Mo_spreads hG hE d hd a1 n1 ha1 a2 P h)
abbrev c_Mo_begins : ByteArray := prog_14_method_89_code
abbrev y_Mo_begins : MethodName := ⟨"YawnRouteModel", "begins", "()V"⟩
abbrev cw_Mo_begins : Cond := .code y_Mo_begins c_Mo_begins 1 none
theorem w_Mo_begins : VW 12 y_Mo_begins c_Mo_begins 1 none 0 := ⟨by decide, lk1778, lp99_, lk14, lk1779, ⟨by decide, by decide, by decide +kernel⟩, by decide⟩
noncomputable def f_Mo_begins (P : PM) : Option PM := (f_Mo_isAt 120 7 (P.1 110 (113 : Int32).toNatClampNeg) (P.1 110 (114 : Int32).toNatClampNeg) P).bind (fun P1 => some P1)
theorem t_f_Mo_begins {G : GX} (hG : GOK G) {E : EV} (hE : E0 E) (d : Nat) (hd : 2 ≤ d) {Q : QT} (P : PM) (h : St E rP (f_Mo_begins P) Q) : Go G c_Mo_begins "YawnRouteModel" 1 none false d nOb nOb Q 0 [(0, .ref (ad E 109))] [] P E := by
  rw [f_Mo_begins] at h
  refine Go.aload_n (k := 0) (i := 0) 0 (by decide +kernel) rfl rfl ?_
  refine Go.get 109 23 (.ref (ad E 120)) (by decide) (by decide) sh109 (ltO hE sh109) (vlR hE rfl rfl) lk1353 (by decide +kernel) ?_
  refine Go.aload_n (k := 0) (i := 0) 0 (by decide +kernel) rfl rfl ?_
  refine Go.get 109 1 (.ref (ad E 110)) (by decide) (by decide) sh109 (ltO hE sh109) (vlR hE rfl rfl) lk1331 (by decide +kernel) ?_
  refine Go.bipush (n := 113) (113 : Int32) (by decide +kernel) (by decide) ?_
  refine Go.iaload 110 3408 sh110 (ltA hE sh110 (by decide)) (vp_in_iff.mpr (by decide)) (by decide +kernel) ?_
  refine Go.aload_n (k := 0) (i := 0) 0 (by decide +kernel) rfl rfl ?_
  refine Go.get 109 1 (.ref (ad E 110)) (by decide) (by decide) sh109 (ltO hE sh109) (vlR hE rfl rfl) lk1331 (by decide +kernel) ?_
  refine Go.bipush (n := 114) (114 : Int32) (by decide +kernel) (by decide) ?_
  refine Go.iaload 110 3408 sh110 (ltA hE sh110 (by decide)) (vp_in_iff.mpr (by decide)) (by decide +kernel) ?_
  obtain ⟨P1, hP1, h⟩ := St.bind h
  refine Go.cS_v (P1 := P1) (d - 1) [.ref (ad E 120), .int (P.1 110 (113 : Int32).toNatClampNeg), .int (P.1 110 (114 : Int32).toNatClampNeg)] hE w_Mo_isAt (e_Mo_isAt hG hE (d - 1) (by omega) 120 7 sh120 (P.1 110 (113 : Int32).toNatClampNeg) (P.1 110 (114 : Int32).toNatClampNeg) P ⟨_, hP1, rfl, rfl, rfl⟩) lk1780 rfl (by omega) (Nat.le_of_ble_eq_true rfl) (by decide +kernel) _ rfl ?_
  exact Go.vret rfl hE.2 (by decide +kernel) (St.fP h)
theorem e_Mo_begins {G : GX} (hG : GOK G) {E : EV} (hE : E0 E) (d : Nat) (hd : 2 ≤ d) (P : PM) {Q : QT} (h : St E rP (f_Mo_begins P) Q) : Con G y_Mo_begins cw_Mo_begins d nOb nOb [.ref (ad E 109)] P E Q :=
  Con.of hG (by decide +kernel) rfl (fun h => by cases h) hE.2 (Nat.le_of_ble_eq_true rfl) (t_f_Mo_begins hG hE d hd P h)
abbrev c_Mo_spread : ByteArray := prog_14_method_90_code
abbrev y_Mo_spread : MethodName := ⟨"YawnRouteModel", "spread", "(II)I"⟩
abbrev cw_Mo_spread : Cond := .code y_Mo_spread c_Mo_spread 4 (some .int)
theorem w_Mo_spread : VW 12 y_Mo_spread c_Mo_spread 4 (some .int) 2 := ⟨by decide, lk1772, lk1773, lk14, lk1774, ⟨by decide, by decide, by decide +kernel⟩, by decide⟩
noncomputable def j_Mo_spread_84 (x1 : Int32) (P : PM) : Option (Int32 × PM) := ck (inb x1 7) (some ((P.1 120 x1.toNatClampNeg), P))
noncomputable def l_Mo_spread_52 : Nat → Int32 → Int32 → Int32 → PM → Option (Int32 × PM)
  | 0, _, _, _, _ => none
  | n + 1, x1, x2, x3, P => if x2 ≤ x3 then (j_Mo_spread_84 x1 P) else (bd2 (f_Mo_spreads 120 7 (P.1 110 (116 : Int32).toNatClampNeg) P) (fun v2 P3 => if v2 = (0 : Int32) then (j_Mo_spread_84 x1 P3) else (l_Mo_spread_52 n x1 x2 (x3 + (1 : Int32)) P3)))
noncomputable def f_Mo_spread (a1 : Int32) (a2 : Int32) (P : PM) : Option (Int32 × PM) := (f_Mo_isStation (a1.toInt64) (u1 P 109 0 (0 : Int32))).bind (fun v1 => if v1 = (0 : Int32) then (some ((-2 : Int32), (u1 P 109 0 (0 : Int32)))) else (if (f_Mo_within (a2.toInt64) (0 : Int64) (999 : Int64) (u1 P 109 0 (0 : Int32))) = (0 : Int32) then (some ((-3 : Int32), (u1 P 109 0 (0 : Int32)))) else (if ((u1 P 109 0 (0 : Int32)).1 110 (113 : Int32).toNatClampNeg) = (-1 : Int32) then (some ((-5 : Int32), (u1 P 109 0 (0 : Int32)))) else ((f_Mo_begins (u1 P 109 0 (0 : Int32))).bind (fun P5 => l_Mo_spread_52 FU a1 a2 (0 : Int32) P5)))))
theorem t_j_Mo_spread_84 {G : GX} (hG : GOK G) {E : EV} (hE : E0 E) (d : Nat) (hd : 5 ≤ d) {Q : QT} (x1 : Int32) (P : PM) (h : St E rIP (j_Mo_spread_84 x1 P) Q) : Go G c_Mo_spread "YawnRouteModel" 4 (some .int) false d nOb nOb Q 84 [(0, .ref (ad E 109)), (1, .int x1)] [] P E := by
  rw [j_Mo_spread_84] at h
  refine Go.aload_n (k := 0) (i := 0) 0 (by decide +kernel) rfl rfl ?_
  refine Go.get 109 23 (.ref (ad E 120)) (by decide) (by decide) sh109 (ltO hE sh109) (vlR hE rfl rfl) lk1353 (by decide +kernel) ?_
  refine Go.iload_n (k := 1) (i := 1) 1 (by decide +kernel) rfl rfl ?_
  obtain ⟨b1, h⟩ := St.ck h
  refine Go.iaload 120 7 sh120 (ltA hE sh120 (by decide)) (inb_in b1) (by decide +kernel) ?_
  exact Go.iret rfl rfl hE.2 (by decide +kernel) (St.fIP h)
theorem t_l_Mo_spread_52 {G : GX} (hG : GOK G) {E : EV} (hE : E0 E) (d : Nat) (hd : 5 ≤ d) {Q : QT} : ∀ (n : Nat) (x1 : Int32) (x2 : Int32) (x3 : Int32) (P : PM), St E rIP (l_Mo_spread_52 n x1 x2 x3 P) Q → Go G c_Mo_spread "YawnRouteModel" 4 (some .int) false d nOb nOb Q 52 [(0, .ref (ad E 109)), (1, .int x1), (2, .int x2), (3, .int x3)] [] P E := by
  intro n
  induction n with
  | zero =>
    intro x1 x2 x3 P h
    rw [l_Mo_spread_52] at h
    exact St.none_ h
  | succ n ih =>
    intro x1 x2 x3 P h
    rw [l_Mo_spread_52] at h
    refine Go.iload_n (k := 3) (i := 3) 3 (by decide +kernel) rfl rfl ?_
    refine Go.iload_n (k := 2) (i := 2) 2 (by decide +kernel) rfl rfl ?_
    refine Go.icmp_ge (off := 30) 84 (by decide +kernel) (by decide) (fun c1 => ?_) (fun c1 => ?_)
    · rw [if_pos c1] at h
      refine Go.sub [0, 1] [(0, .ref (ad E 109)), (1, .int x1)] rfl ?_
      exact t_j_Mo_spread_84 hG hE d hd x1 P h
    · rw [if_neg c1] at h
      refine Go.aload_n (k := 0) (i := 0) 0 (by decide +kernel) rfl rfl ?_
      refine Go.aload_n (k := 0) (i := 0) 0 (by decide +kernel) rfl rfl ?_
      refine Go.get 109 23 (.ref (ad E 120)) (by decide) (by decide) sh109 (ltO hE sh109) (vlR hE rfl rfl) lk1353 (by decide +kernel) ?_
      refine Go.aload_n (k := 0) (i := 0) 0 (by decide +kernel) rfl rfl ?_
      refine Go.get 109 1 (.ref (ad E 110)) (by decide) (by decide) sh109 (ltO hE sh109) (vlR hE rfl rfl) lk1331 (by decide +kernel) ?_
      refine Go.bipush (n := 116) (116 : Int32) (by decide +kernel) (by decide) ?_
      refine Go.iaload 110 3408 sh110 (ltA hE sh110 (by decide)) (vp_in_iff.mpr (by decide)) (by decide +kernel) ?_
      obtain ⟨v2, P3, hv2, h⟩ := St.bd2 h
      refine Go.cV_i (P1 := P3) (v := v2) (d - 1) 109 [.ref (ad E 120), .int (P.1 110 (116 : Int32).toNatClampNeg)] sh109 hE w_Mo_spreads (e_Mo_spreads hG hE (d - 1) (by omega) 120 7 sh120 (P.1 110 (116 : Int32).toNatClampNeg) P ⟨_, hv2, rfl, rfl, rfl⟩) lk1783 rfl (by omega) (Nat.le_of_ble_eq_true rfl) (by decide +kernel) _ rfl ?_
      refine Go.if_ne (off := 6) 78 (by decide +kernel) (by decide) (fun c4 => ?_) (fun c4 => ?_)
      · rw [if_neg c4] at h
        refine Go.iinc (i := 3) (n := 1) 3 (x3 + (1 : Int32)) [(3, .int (x3 + (1 : Int32))), (0, .ref (ad E 109)), (1, .int x1), (2, .int x2)] (by decide +kernel) rfl rfl (by decide) rfl ?_
        refine Go.goto (off := -29) 52 (by decide +kernel) (by decide) ?_
        refine Go.sub [1, 2, 3, 0] [(0, .ref (ad E 109)), (1, .int x1), (2, .int x2), (3, .int (x3 + (1 : Int32)))] rfl ?_
        exact ih x1 x2 (x3 + (1 : Int32)) P3 h
      · rw [if_pos c4] at h
        refine Go.goto (off := 9) 84 (by decide +kernel) (by decide) ?_
        refine Go.sub [0, 1] [(0, .ref (ad E 109)), (1, .int x1)] rfl ?_
        exact t_j_Mo_spread_84 hG hE d hd x1 P3 h
theorem t_f_Mo_spread {G : GX} (hG : GOK G) {E : EV} (hE : E0 E) (d : Nat) (hd : 5 ≤ d) {Q : QT} (a1 : Int32) (a2 : Int32) (P : PM) (h : St E rIP (f_Mo_spread a1 a2 P) Q) : Go G c_Mo_spread "YawnRouteModel" 4 (some .int) false d nOb nOb Q 0 [(0, .ref (ad E 109)), (1, .int a1), (2, .int a2)] [] P E := by
  rw [f_Mo_spread] at h
  refine Go.aload_n (k := 0) (i := 0) 0 (by decide +kernel) rfl rfl ?_
  refine Go.iconst (n := 0) (0 : Int32) (by decide +kernel) rfl ?_
  refine Go.put 109 0 (by decide) (by decide) sh109 (ltO hE sh109) (Or.inl rfl) rfl rfl rfl lk1330 (by decide +kernel) ?_
  refine Go.aload_n (k := 0) (i := 0) 0 (by decide +kernel) rfl rfl ?_
  refine Go.iload_n (k := 1) (i := 1) 1 (by decide +kernel) rfl rfl ?_
  refine Go.i2l (by decide +kernel) ?_
  obtain ⟨v1, hv1, h⟩ := St.bind h
  refine Go.cV_i (P1 := (u1 P 109 0 (0 : Int32))) (v := v1) (d - 1) 109 [.long (a1.toInt64)] sh109 hE w_Mo_isStation (e_Mo_isStation hG hE (d - 1) (by omega) (a1.toInt64) (u1 P 109 0 (0 : Int32)) ⟨_, hv1, rfl, rfl, rfl⟩) lk1555 rfl (by omega) (Nat.le_of_ble_eq_true rfl) (by decide +kernel) _ rfl ?_
  refine Go.if_ne (off := 6) 17 (by decide +kernel) (by decide) (fun c2 => ?_) (fun c2 => ?_)
  · rw [if_neg c2] at h
    refine Go.iload_n (k := 2) (i := 2) 2 (by decide +kernel) rfl rfl ?_
    refine Go.i2l (by decide +kernel) ?_
    refine Go.lconst (n := 0) (0 : Int64) (by decide +kernel) rfl ?_
    refine Go.ldc2 (999 : Int64) lk1775 (by decide +kernel) ?_
    refine Go.cS_i (P1 := (u1 P 109 0 (0 : Int32))) (v := (f_Mo_within (a2.toInt64) (0 : Int64) (999 : Int64) (u1 P 109 0 (0 : Int32)))) (d - 1) [.long (a2.toInt64), .long (0 : Int64), .long (999 : Int64)] hE w_Mo_within (e_Mo_within hG hE (d - 1) (by omega) (a2.toInt64) (0 : Int64) (999 : Int64) (u1 P 109 0 (0 : Int32)) ⟨rfl, rfl, rfl⟩) lk1438 rfl (by omega) (Nat.le_of_ble_eq_true rfl) (by decide +kernel) _ rfl ?_
    refine Go.if_ne (off := 6) 32 (by decide +kernel) (by decide) (fun c3 => ?_) (fun c3 => ?_)
    · rw [if_neg c3] at h
      refine Go.aload_n (k := 0) (i := 0) 0 (by decide +kernel) rfl rfl ?_
      refine Go.get 109 1 (.ref (ad E 110)) (by decide) (by decide) sh109 (ltO hE sh109) (vlR hE rfl rfl) lk1331 (by decide +kernel) ?_
      refine Go.bipush (n := 113) (113 : Int32) (by decide +kernel) (by decide) ?_
      refine Go.iaload 110 3408 sh110 (ltA hE sh110 (by decide)) (vp_in_iff.mpr (by decide)) (by decide +kernel) ?_
      refine Go.iconst (n := -1) (-1 : Int32) (by decide +kernel) rfl ?_
      refine Go.icmp_ne (off := 6) 46 (by decide +kernel) (by decide) (fun c4 => ?_) (fun c4 => ?_)
      · rw [if_neg c4] at h
        refine Go.aload_n (k := 0) (i := 0) 0 (by decide +kernel) rfl rfl ?_
        obtain ⟨P5, hP5, h⟩ := St.bind h
        refine Go.cV_v (P1 := P5) (d - 1) 109 [] sh109 hE w_Mo_begins (e_Mo_begins hG hE (d - 1) (by omega) (u1 P 109 0 (0 : Int32)) ⟨_, hP5, rfl, rfl, rfl⟩) lk1776 rfl (by omega) (Nat.le_of_ble_eq_true rfl) (by decide +kernel) _ rfl ?_
        refine Go.iconst (n := 0) (0 : Int32) (by decide +kernel) rfl ?_
        refine Go.istore_n (k := 3) (i := 3) [(3, .int (0 : Int32)), (0, .ref (ad E 109)), (1, .int a1), (2, .int a2)] (by decide +kernel) rfl (by decide) rfl ?_
        refine Go.sub [1, 2, 3, 0] [(0, .ref (ad E 109)), (1, .int a1), (2, .int a2), (3, .int (0 : Int32))] rfl ?_
        exact t_l_Mo_spread_52 hG hE d hd FU a1 a2 (0 : Int32) P5 h
      · rw [if_pos c4] at h
        refine Go.bipush (n := -5) (-5 : Int32) (by decide +kernel) (by decide) ?_
        exact Go.iret rfl rfl hE.2 (by decide +kernel) (St.fIP h)
    · rw [if_pos c3] at h
      refine Go.bipush (n := -3) (-3 : Int32) (by decide +kernel) (by decide) ?_
      exact Go.iret rfl rfl hE.2 (by decide +kernel) (St.fIP h)
  · rw [if_pos c2] at h
    refine Go.bipush (n := -2) (-2 : Int32) (by decide +kernel) (by decide) ?_
    exact Go.iret rfl rfl hE.2 (by decide +kernel) (St.fIP h)
theorem e_Mo_spread {G : GX} (hG : GOK G) {E : EV} (hE : E0 E) (d : Nat) (hd : 5 ≤ d) (a1 : Int32) (a2 : Int32) (P : PM) {Q : QT} (h : St E rIP (f_Mo_spread a1 a2 P) Q) : Con G y_Mo_spread cw_Mo_spread d nOb nOb [.ref (ad E 109), .int a1, .int a2] P E Q :=
  Con.of hG (by decide +kernel) rfl (fun h => by cases h) hE.2 (Nat.le_of_ble_eq_true rfl) (t_f_Mo_spread hG hE d hd a1 a2 P h)
abbrev c_Mo_rounds : ByteArray := prog_14_method_91_code
abbrev y_Mo_rounds : MethodName := ⟨"YawnRouteModel", "rounds", "()I"⟩
abbrev cw_Mo_rounds : Cond := .code y_Mo_rounds c_Mo_rounds 2 (some .int)
theorem w_Mo_rounds : VW 12 y_Mo_rounds c_Mo_rounds 2 (some .int) 0 := ⟨by decide, lk1788, lk1789, lk14, lk1790, ⟨by decide, by decide, by decide +kernel⟩, by decide⟩
noncomputable def l_Mo_rounds_25 : Nat → Int32 → PM → Option (Int32 × PM)
  | 0, _, _ => none
  | n + 1, x1, P => bd2 (f_Mo_spreads 120 7 (P.1 110 (116 : Int32).toNatClampNeg) P) (fun v1 P2 => if v1 = (0 : Int32) then (some (x1, P2)) else (l_Mo_rounds_25 n (x1 + (1 : Int32)) P2))
noncomputable def f_Mo_rounds (P : PM) : Option (Int32 × PM) := if ((u1 P 109 0 (0 : Int32)).1 110 (113 : Int32).toNatClampNeg) = (-1 : Int32) then (some ((-5 : Int32), (u1 P 109 0 (0 : Int32)))) else ((f_Mo_begins (u1 P 109 0 (0 : Int32))).bind (fun P2 => l_Mo_rounds_25 FU (0 : Int32) P2))
theorem t_l_Mo_rounds_25 {G : GX} (hG : GOK G) {E : EV} (hE : E0 E) (d : Nat) (hd : 5 ≤ d) {Q : QT} : ∀ (n : Nat) (x1 : Int32) (P : PM), St E rIP (l_Mo_rounds_25 n x1 P) Q → Go G c_Mo_rounds "YawnRouteModel" 2 (some .int) false d nOb nOb Q 25 [(0, .ref (ad E 109)), (1, .int x1)] [] P E := by
  intro n
  induction n with
  | zero =>
    intro x1 P h
    rw [l_Mo_rounds_25] at h
    exact St.none_ h
  | succ n ih =>
    intro x1 P h
    rw [l_Mo_rounds_25] at h
    refine Go.aload_n (k := 0) (i := 0) 0 (by decide +kernel) rfl rfl ?_
    refine Go.aload_n (k := 0) (i := 0) 0 (by decide +kernel) rfl rfl ?_
    refine Go.get 109 23 (.ref (ad E 120)) (by decide) (by decide) sh109 (ltO hE sh109) (vlR hE rfl rfl) lk1353 (by decide +kernel) ?_
    refine Go.aload_n (k := 0) (i := 0) 0 (by decide +kernel) rfl rfl ?_
    refine Go.get 109 1 (.ref (ad E 110)) (by decide) (by decide) sh109 (ltO hE sh109) (vlR hE rfl rfl) lk1331 (by decide +kernel) ?_
    refine Go.bipush (n := 116) (116 : Int32) (by decide +kernel) (by decide) ?_
    refine Go.iaload 110 3408 sh110 (ltA hE sh110 (by decide)) (vp_in_iff.mpr (by decide)) (by decide +kernel) ?_
    obtain ⟨v1, P2, hv1, h⟩ := St.bd2 h
    refine Go.cV_i (P1 := P2) (v := v1) (d - 1) 109 [.ref (ad E 120), .int (P.1 110 (116 : Int32).toNatClampNeg)] sh109 hE w_Mo_spreads (e_Mo_spreads hG hE (d - 1) (by omega) 120 7 sh120 (P.1 110 (116 : Int32).toNatClampNeg) P ⟨_, hv1, rfl, rfl, rfl⟩) lk1783 rfl (by omega) (Nat.le_of_ble_eq_true rfl) (by decide +kernel) _ rfl ?_
    refine Go.if_eq (off := 9) 49 (by decide +kernel) (by decide) (fun c3 => ?_) (fun c3 => ?_)
    · rw [if_pos c3] at h
      refine Go.iload_n (k := 1) (i := 1) 1 (by decide +kernel) rfl rfl ?_
      exact Go.iret rfl rfl hE.2 (by decide +kernel) (St.fIP h)
    · rw [if_neg c3] at h
      refine Go.iinc (i := 1) (n := 1) 1 (x1 + (1 : Int32)) [(1, .int (x1 + (1 : Int32))), (0, .ref (ad E 109))] (by decide +kernel) rfl rfl (by decide) rfl ?_
      refine Go.goto (off := -21) 25 (by decide +kernel) (by decide) ?_
      refine Go.sub [1, 0] [(0, .ref (ad E 109)), (1, .int (x1 + (1 : Int32)))] rfl ?_
      exact ih (x1 + (1 : Int32)) P2 h
theorem t_f_Mo_rounds {G : GX} (hG : GOK G) {E : EV} (hE : E0 E) (d : Nat) (hd : 5 ≤ d) {Q : QT} (P : PM) (h : St E rIP (f_Mo_rounds P) Q) : Go G c_Mo_rounds "YawnRouteModel" 2 (some .int) false d nOb nOb Q 0 [(0, .ref (ad E 109))] [] P E := by
  rw [f_Mo_rounds] at h
  refine Go.aload_n (k := 0) (i := 0) 0 (by decide +kernel) rfl rfl ?_
  refine Go.iconst (n := 0) (0 : Int32) (by decide +kernel) rfl ?_
  refine Go.put 109 0 (by decide) (by decide) sh109 (ltO hE sh109) (Or.inl rfl) rfl rfl rfl lk1330 (by decide +kernel) ?_
  refine Go.aload_n (k := 0) (i := 0) 0 (by decide +kernel) rfl rfl ?_
  refine Go.get 109 1 (.ref (ad E 110)) (by decide) (by decide) sh109 (ltO hE sh109) (vlR hE rfl rfl) lk1331 (by decide +kernel) ?_
  refine Go.bipush (n := 113) (113 : Int32) (by decide +kernel) (by decide) ?_
  refine Go.iaload 110 3408 sh110 (ltA hE sh110 (by decide)) (vp_in_iff.mpr (by decide)) (by decide +kernel) ?_
  refine Go.iconst (n := -1) (-1 : Int32) (by decide +kernel) rfl ?_
  refine Go.icmp_ne (off := 6) 19 (by decide +kernel) (by decide) (fun c1 => ?_) (fun c1 => ?_)
  · rw [if_neg c1] at h
    refine Go.aload_n (k := 0) (i := 0) 0 (by decide +kernel) rfl rfl ?_
    obtain ⟨P2, hP2, h⟩ := St.bind h
    refine Go.cV_v (P1 := P2) (d - 1) 109 [] sh109 hE w_Mo_begins (e_Mo_begins hG hE (d - 1) (by omega) (u1 P 109 0 (0 : Int32)) ⟨_, hP2, rfl, rfl, rfl⟩) lk1776 rfl (by omega) (Nat.le_of_ble_eq_true rfl) (by decide +kernel) _ rfl ?_
    refine Go.iconst (n := 0) (0 : Int32) (by decide +kernel) rfl ?_
    refine Go.istore_n (k := 1) (i := 1) [(1, .int (0 : Int32)), (0, .ref (ad E 109))] (by decide +kernel) rfl (by decide) rfl ?_
    refine Go.sub [1, 0] [(0, .ref (ad E 109)), (1, .int (0 : Int32))] rfl ?_
    exact t_l_Mo_rounds_25 hG hE d hd FU (0 : Int32) P2 h
  · rw [if_pos c1] at h
    refine Go.bipush (n := -5) (-5 : Int32) (by decide +kernel) (by decide) ?_
    exact Go.iret rfl rfl hE.2 (by decide +kernel) (St.fIP h)
theorem e_Mo_rounds {G : GX} (hG : GOK G) {E : EV} (hE : E0 E) (d : Nat) (hd : 5 ≤ d) (P : PM) {Q : QT} (h : St E rIP (f_Mo_rounds P) Q) : Con G y_Mo_rounds cw_Mo_rounds d nOb nOb [.ref (ad E 109)] P E Q :=
  Con.of hG (by decide +kernel) rfl (fun h => by cases h) hE.2 (Nat.le_of_ble_eq_true rfl) (t_f_Mo_rounds hG hE d hd P h)
abbrev c_Mo_crowdBy : ByteArray := prog_14_method_92_code
abbrev y_Mo_crowdBy : MethodName := ⟨"YawnRouteModel", "crowdBy", "(I)I"⟩
abbrev cw_Mo_crowdBy : Cond := .code y_Mo_crowdBy c_Mo_crowdBy 4 (some .int)
theorem w_Mo_crowdBy : VW 12 y_Mo_crowdBy c_Mo_crowdBy 4 (some .int) 1 := ⟨by decide, lk1797, lp101_, lk14, lk1798, ⟨by decide, by decide, by decide +kernel⟩, by decide⟩
noncomputable def j_Mo_crowdBy_50 (k23 : Int32 → Int32 → PM → Option (Int32 × PM)) (x3 : Int32) (s0 : Int32) (s1 : Int32) (P : PM) : Option (Int32 × PM) := lb (s0 ||| s1) (fun y1 => k23 y1 (x3 + (1 : Int32)) P)
noncomputable def l_Mo_crowdBy_23 : Nat → Int32 → Int32 → PM → Option (Int32 × PM)
  | 0, _, _, _ => none
  | n + 1, x2, x3, P => if (P.1 110 (1 : Int32).toNatClampNeg) ≤ x3 then (some (x2, P)) else (ck (inb x3 7) (if (P.1 120 x3.toNatClampNeg) ≤ (0 : Int32) then (j_Mo_crowdBy_50 (fun z0 z1 Pz => l_Mo_crowdBy_23 n z0 z1 Pz) x3 x2 (0 : Int32) P) else (j_Mo_crowdBy_50 (fun z0 z1 Pz => l_Mo_crowdBy_23 n z0 z1 Pz) x3 x2 ((1 : Int32) <<< (x3 &&& 31)) P)))
noncomputable def l_Mo_crowdBy_4 : Nat → Int32 → PM → Option (Int32 × PM)
  | 0, _, _ => none
  | n + 1, x1, P => bd2 (f_Mo_spreads 120 7 x1 P) (fun v1 P2 => if v1 = (0 : Int32) then (l_Mo_crowdBy_23 FU (0 : Int32) (0 : Int32) P2) else (l_Mo_crowdBy_4 n x1 P2))
noncomputable def f_Mo_crowdBy (a1 : Int32) (P : PM) : Option (Int32 × PM) := (f_Mo_begins P).bind (fun P1 => l_Mo_crowdBy_4 FU a1 P1)
theorem t_j_Mo_crowdBy_50 {G : GX} (hG : GOK G) {E : EV} (hE : E0 E) (d : Nat) (hd : 5 ≤ d) {Q : QT} (k23 : Int32 → Int32 → PM → Option (Int32 × PM)) (hk23 : ∀ (x2 : Int32) (x3 : Int32) (P : PM), St E rIP (k23 x2 x3 P) Q → Go G c_Mo_crowdBy "YawnRouteModel" 4 (some .int) false d nOb nOb Q 23 [(0, .ref (ad E 109)), (2, .int x2), (3, .int x3)] [] P E) (x3 : Int32) (s0 : Int32) (s1 : Int32) (P : PM) (h : St E rIP (j_Mo_crowdBy_50 k23 x3 s0 s1 P) Q) : Go G c_Mo_crowdBy "YawnRouteModel" 4 (some .int) false d nOb nOb Q 50 [(0, .ref (ad E 109)), (3, .int x3)] [.int s1, .int s0] P E := by
  rw [j_Mo_crowdBy_50] at h
  refine Go.ior (by decide +kernel) ?_
  obtain ⟨y1, hy1, h⟩ := St.lb h
  refine Go.eqi y1 hy1 ?_
  refine Go.istore_n (k := 2) (i := 2) [(2, .int y1), (0, .ref (ad E 109)), (3, .int x3)] (by decide +kernel) rfl (by decide) rfl ?_
  refine Go.iinc (i := 3) (n := 1) 2 (x3 + (1 : Int32)) [(3, .int (x3 + (1 : Int32))), (2, .int y1), (0, .ref (ad E 109))] (by decide +kernel) rfl rfl (by decide) rfl ?_
  refine Go.goto (off := -32) 23 (by decide +kernel) (by decide) ?_
  refine Go.sub [2, 1, 0] [(0, .ref (ad E 109)), (2, .int y1), (3, .int (x3 + (1 : Int32)))] rfl ?_
  exact hk23 y1 (x3 + (1 : Int32)) P h
theorem t_l_Mo_crowdBy_23 {G : GX} (hG : GOK G) {E : EV} (hE : E0 E) (d : Nat) (hd : 5 ≤ d) {Q : QT} : ∀ (n : Nat) (x2 : Int32) (x3 : Int32) (P : PM), St E rIP (l_Mo_crowdBy_23 n x2 x3 P) Q → Go G c_Mo_crowdBy "YawnRouteModel" 4 (some .int) false d nOb nOb Q 23 [(0, .ref (ad E 109)), (2, .int x2), (3, .int x3)] [] P E := by
  intro n
  induction n with
  | zero =>
    intro x2 x3 P h
    rw [l_Mo_crowdBy_23] at h
    exact St.none_ h
  | succ n ih =>
    intro x2 x3 P h
    rw [l_Mo_crowdBy_23] at h
    refine Go.iload_n (k := 3) (i := 3) 2 (by decide +kernel) rfl rfl ?_
    refine Go.aload_n (k := 0) (i := 0) 0 (by decide +kernel) rfl rfl ?_
    refine Go.get 109 1 (.ref (ad E 110)) (by decide) (by decide) sh109 (ltO hE sh109) (vlR hE rfl rfl) lk1331 (by decide +kernel) ?_
    refine Go.iconst (n := 1) (1 : Int32) (by decide +kernel) rfl ?_
    refine Go.iaload 110 3408 sh110 (ltA hE sh110 (by decide)) (vp_in_iff.mpr (by decide)) (by decide +kernel) ?_
    refine Go.icmp_ge (off := 28) 58 (by decide +kernel) (by decide) (fun c1 => ?_) (fun c1 => ?_)
    · rw [if_pos c1] at h
      refine Go.iload_n (k := 2) (i := 2) 1 (by decide +kernel) rfl rfl ?_
      exact Go.iret rfl rfl hE.2 (by decide +kernel) (St.fIP h)
    · rw [if_neg c1] at h
      refine Go.iload_n (k := 2) (i := 2) 1 (by decide +kernel) rfl rfl ?_
      refine Go.aload_n (k := 0) (i := 0) 0 (by decide +kernel) rfl rfl ?_
      refine Go.get 109 23 (.ref (ad E 120)) (by decide) (by decide) sh109 (ltO hE sh109) (vlR hE rfl rfl) lk1353 (by decide +kernel) ?_
      refine Go.iload_n (k := 3) (i := 3) 2 (by decide +kernel) rfl rfl ?_
      obtain ⟨b2, h⟩ := St.ck h
      refine Go.iaload 120 7 sh120 (ltA hE sh120 (by decide)) (inb_in b2) (by decide +kernel) ?_
      refine Go.if_le (off := 9) 49 (by decide +kernel) (by decide) (fun c3 => ?_) (fun c3 => ?_)
      · rw [if_pos c3] at h
        refine Go.iconst (n := 0) (0 : Int32) (by decide +kernel) rfl ?_
        refine Go.sub [0, 2] [(0, .ref (ad E 109)), (3, .int x3)] rfl ?_
        exact t_j_Mo_crowdBy_50 hG hE d hd (fun z0 z1 Pz => l_Mo_crowdBy_23 n z0 z1 Pz) (fun z0 z1 Pz q => ih z0 z1 Pz q) x3 x2 (0 : Int32) P h
      · rw [if_neg c3] at h
        refine Go.iconst (n := 1) (1 : Int32) (by decide +kernel) rfl ?_
        refine Go.iload_n (k := 3) (i := 3) 2 (by decide +kernel) rfl rfl ?_
        refine Go.ishl (by decide +kernel) ?_
        refine Go.goto (off := 4) 50 (by decide +kernel) (by decide) ?_
        refine Go.sub [0, 2] [(0, .ref (ad E 109)), (3, .int x3)] rfl ?_
        exact t_j_Mo_crowdBy_50 hG hE d hd (fun z0 z1 Pz => l_Mo_crowdBy_23 n z0 z1 Pz) (fun z0 z1 Pz q => ih z0 z1 Pz q) x3 x2 ((1 : Int32) <<< (x3 &&& 31)) P h
theorem t_l_Mo_crowdBy_4 {G : GX} (hG : GOK G) {E : EV} (hE : E0 E) (d : Nat) (hd : 5 ≤ d) {Q : QT} : ∀ (n : Nat) (x1 : Int32) (P : PM), St E rIP (l_Mo_crowdBy_4 n x1 P) Q → Go G c_Mo_crowdBy "YawnRouteModel" 4 (some .int) false d nOb nOb Q 4 [(0, .ref (ad E 109)), (1, .int x1)] [] P E := by
  intro n
  induction n with
  | zero =>
    intro x1 P h
    rw [l_Mo_crowdBy_4] at h
    exact St.none_ h
  | succ n ih =>
    intro x1 P h
    rw [l_Mo_crowdBy_4] at h
    refine Go.aload_n (k := 0) (i := 0) 0 (by decide +kernel) rfl rfl ?_
    refine Go.aload_n (k := 0) (i := 0) 0 (by decide +kernel) rfl rfl ?_
    refine Go.get 109 23 (.ref (ad E 120)) (by decide) (by decide) sh109 (ltO hE sh109) (vlR hE rfl rfl) lk1353 (by decide +kernel) ?_
    refine Go.iload_n (k := 1) (i := 1) 1 (by decide +kernel) rfl rfl ?_
    obtain ⟨v1, P2, hv1, h⟩ := St.bd2 h
    refine Go.cV_i (P1 := P2) (v := v1) (d - 1) 109 [.ref (ad E 120), .int x1] sh109 hE w_Mo_spreads (e_Mo_spreads hG hE (d - 1) (by omega) 120 7 sh120 x1 P ⟨_, hv1, rfl, rfl, rfl⟩) lk1783 rfl (by omega) (Nat.le_of_ble_eq_true rfl) (by decide +kernel) _ rfl ?_
    refine Go.if_eq (off := 6) 19 (by decide +kernel) (by decide) (fun c3 => ?_) (fun c3 => ?_)
    · rw [if_pos c3] at h
      refine Go.iconst (n := 0) (0 : Int32) (by decide +kernel) rfl ?_
      refine Go.istore_n (k := 2) (i := 2) [(2, .int (0 : Int32)), (0, .ref (ad E 109)), (1, .int x1)] (by decide +kernel) rfl (by decide) rfl ?_
      refine Go.iconst (n := 0) (0 : Int32) (by decide +kernel) rfl ?_
      refine Go.istore_n (k := 3) (i := 3) [(3, .int (0 : Int32)), (2, .int (0 : Int32)), (0, .ref (ad E 109)), (1, .int x1)] (by decide +kernel) rfl (by decide) rfl ?_
      refine Go.sub [2, 1, 0] [(0, .ref (ad E 109)), (2, .int (0 : Int32)), (3, .int (0 : Int32))] rfl ?_
      exact t_l_Mo_crowdBy_23 hG hE d hd FU (0 : Int32) (0 : Int32) P2 h
    · rw [if_neg c3] at h
      refine Go.goto (off := -12) 4 (by decide +kernel) (by decide) ?_
      exact ih x1 P2 h
theorem t_f_Mo_crowdBy {G : GX} (hG : GOK G) {E : EV} (hE : E0 E) (d : Nat) (hd : 5 ≤ d) {Q : QT} (a1 : Int32) (P : PM) (h : St E rIP (f_Mo_crowdBy a1 P) Q) : Go G c_Mo_crowdBy "YawnRouteModel" 4 (some .int) false d nOb nOb Q 0 [(0, .ref (ad E 109)), (1, .int a1)] [] P E := by
  rw [f_Mo_crowdBy] at h
  refine Go.aload_n (k := 0) (i := 0) 0 (by decide +kernel) rfl rfl ?_
  obtain ⟨P1, hP1, h⟩ := St.bind h
  refine Go.cV_v (P1 := P1) (d - 1) 109 [] sh109 hE w_Mo_begins (e_Mo_begins hG hE (d - 1) (by omega) P ⟨_, hP1, rfl, rfl, rfl⟩) lk1776 rfl (by omega) (Nat.le_of_ble_eq_true rfl) (by decide +kernel) _ rfl ?_
  exact t_l_Mo_crowdBy_4 hG hE d hd FU a1 P1 h
theorem e_Mo_crowdBy {G : GX} (hG : GOK G) {E : EV} (hE : E0 E) (d : Nat) (hd : 5 ≤ d) (a1 : Int32) (P : PM) {Q : QT} (h : St E rIP (f_Mo_crowdBy a1 P) Q) : Con G y_Mo_crowdBy cw_Mo_crowdBy d nOb nOb [.ref (ad E 109), .int a1] P E Q :=
  Con.of hG (by decide +kernel) rfl (fun h => by cases h) hE.2 (Nat.le_of_ble_eq_true rfl) (t_f_Mo_crowdBy hG hE d hd a1 P h)
abbrev c_Mo_crowd : ByteArray := prog_14_method_93_code
abbrev y_Mo_crowd : MethodName := ⟨"YawnRouteModel", "crowd", "()I"⟩
abbrev cw_Mo_crowd : Cond := .code y_Mo_crowd c_Mo_crowd 1 (some .int)
theorem w_Mo_crowd : VW 12 y_Mo_crowd c_Mo_crowd 1 (some .int) 0 := ⟨by decide, lk1792, lk1793, lk14, lk1794, ⟨by decide, by decide, by decide +kernel⟩, by decide⟩
noncomputable def f_Mo_crowd (P : PM) : Option (Int32 × PM) := if ((u1 P 109 0 (0 : Int32)).1 110 (113 : Int32).toNatClampNeg) = (-1 : Int32) then (some ((-5 : Int32), (u1 P 109 0 (0 : Int32)))) else (bd2 (f_Mo_crowdBy ((u1 P 109 0 (0 : Int32)).1 110 (116 : Int32).toNatClampNeg) (u1 P 109 0 (0 : Int32))) (fun v2 P3 => some (v2, P3)))
theorem t_f_Mo_crowd {G : GX} (hG : GOK G) {E : EV} (hE : E0 E) (d : Nat) (hd : 6 ≤ d) {Q : QT} (P : PM) (h : St E rIP (f_Mo_crowd P) Q) : Go G c_Mo_crowd "YawnRouteModel" 1 (some .int) false d nOb nOb Q 0 [(0, .ref (ad E 109))] [] P E := by
  rw [f_Mo_crowd] at h
  refine Go.aload_n (k := 0) (i := 0) 0 (by decide +kernel) rfl rfl ?_
  refine Go.iconst (n := 0) (0 : Int32) (by decide +kernel) rfl ?_
  refine Go.put 109 0 (by decide) (by decide) sh109 (ltO hE sh109) (Or.inl rfl) rfl rfl rfl lk1330 (by decide +kernel) ?_
  refine Go.aload_n (k := 0) (i := 0) 0 (by decide +kernel) rfl rfl ?_
  refine Go.get 109 1 (.ref (ad E 110)) (by decide) (by decide) sh109 (ltO hE sh109) (vlR hE rfl rfl) lk1331 (by decide +kernel) ?_
  refine Go.bipush (n := 113) (113 : Int32) (by decide +kernel) (by decide) ?_
  refine Go.iaload 110 3408 sh110 (ltA hE sh110 (by decide)) (vp_in_iff.mpr (by decide)) (by decide +kernel) ?_
  refine Go.iconst (n := -1) (-1 : Int32) (by decide +kernel) rfl ?_
  refine Go.icmp_ne (off := 8) 21 (by decide +kernel) (by decide) (fun c1 => ?_) (fun c1 => ?_)
  · rw [if_neg c1] at h
    refine Go.aload_n (k := 0) (i := 0) 0 (by decide +kernel) rfl rfl ?_
    refine Go.aload_n (k := 0) (i := 0) 0 (by decide +kernel) rfl rfl ?_
    refine Go.get 109 1 (.ref (ad E 110)) (by decide) (by decide) sh109 (ltO hE sh109) (vlR hE rfl rfl) lk1331 (by decide +kernel) ?_
    refine Go.bipush (n := 116) (116 : Int32) (by decide +kernel) (by decide) ?_
    refine Go.iaload 110 3408 sh110 (ltA hE sh110 (by decide)) (vp_in_iff.mpr (by decide)) (by decide +kernel) ?_
    obtain ⟨v2, P3, hv2, h⟩ := St.bd2 h
    refine Go.cV_i (P1 := P3) (v := v2) (d - 1) 109 [.int ((u1 P 109 0 (0 : Int32)).1 110 (116 : Int32).toNatClampNeg)] sh109 hE w_Mo_crowdBy (e_Mo_crowdBy hG hE (d - 1) (by omega) ((u1 P 109 0 (0 : Int32)).1 110 (116 : Int32).toNatClampNeg) (u1 P 109 0 (0 : Int32)) ⟨_, hv2, rfl, rfl, rfl⟩) lk1795 rfl (by omega) (Nat.le_of_ble_eq_true rfl) (by decide +kernel) _ rfl ?_
    exact Go.iret rfl rfl hE.2 (by decide +kernel) (St.fIP h)
  · rw [if_pos c1] at h
    refine Go.bipush (n := -5) (-5 : Int32) (by decide +kernel) (by decide) ?_
    refine Go.goto (off := 14) 32 (by decide +kernel) (by decide) ?_
    exact Go.iret rfl rfl hE.2 (by decide +kernel) (St.fIP h)
theorem e_Mo_crowd {G : GX} (hG : GOK G) {E : EV} (hE : E0 E) (d : Nat) (hd : 6 ≤ d) (P : PM) {Q : QT} (h : St E rIP (f_Mo_crowd P) Q) : Con G y_Mo_crowd cw_Mo_crowd d nOb nOb [.ref (ad E 109)] P E Q :=
  Con.of hG (by decide +kernel) rfl (fun h => by cases h) hE.2 (Nat.le_of_ble_eq_true rfl) (t_f_Mo_crowd hG hE d hd P h)
