/-! methods as functions, by program: Mo_drawsLot Mo_laysLikely Mo_likelyAt Mo_common Mo_chance -/
abbrev c_Mo_drawsLot : ByteArray := prog_14_method_115_code
abbrev y_Mo_drawsLot : MethodName := ⟨"YawnRouteModel", "drawsLot", "()V"⟩
abbrev cw_Mo_drawsLot : Cond := .code y_Mo_drawsLot c_Mo_drawsLot 6 none
theorem w_Mo_drawsLot : VW 12 y_Mo_drawsLot c_Mo_drawsLot 6 none 0 := ⟨by decide, lk1893, lp114_, lk14, lk1894, ⟨by decide, by decide, by decide +kernel⟩, by decide⟩
noncomputable def j_Mo_drawsLot_183 (k24 : Int32 → PM → Option PM) (k50 : Int32 → Int32 → Int32 → PM → Option PM) (x1 : Int32) (x2 : Int32) (x3 : Int32) (P : PM) : Option PM := k50 x1 x2 (x3 + (1 : Int32)) P
noncomputable def j_Mo_drawsLot_107 (k24 : Int32 → PM → Option PM) (k50 : Int32 → Int32 → Int32 → PM → Option PM) (x1 : Int32) (x2 : Int32) (x3 : Int32) (s0 : Int32) (P : PM) : Option PM := lb (x2 - s0) (fun y1 => ck (inb (((7 : Int32) * x1) + x3) 2009) (lb (P.1 117 (((7 : Int32) * x1) + x3).toNatClampNeg) (fun y3 => if y3 = (-1 : Int32) then (ck (inb x1 287) (ck (inb x1 287) (ck (inb x1 287) (j_Mo_drawsLot_183 k24 k50 x1 y1 x3 (u2 P 126 x1.toNatClampNeg ((P.2 126 x1.toNatClampNeg) + ((P.2 125 x1.toNatClampNeg) * (s0.toInt64)))))))) else (if (y3 - y3 / (41 : Int32) * (41 : Int32)) ≤ (0 : Int32) then (j_Mo_drawsLot_183 k24 k50 x1 y1 x3 P) else (ck (inb y3 287) (ck (inb x1 287) (ck (inb y3 287) (j_Mo_drawsLot_183 k24 k50 x1 y1 x3 (u2 P 126 y3.toNatClampNeg ((P.2 126 y3.toNatClampNeg) + ((P.2 125 x1.toNatClampNeg) * (s0.toInt64))))))))))))
noncomputable def j_Mo_drawsLot_93 (k24 : Int32 → PM → Option PM) (k50 : Int32 → Int32 → Int32 → PM → Option PM) (x1 : Int32) (x2 : Int32) (x3 : Int32) (s0 : Int32) (P : PM) : Option PM := if x2 ≤ s0 then (j_Mo_drawsLot_107 k24 k50 x1 x2 x3 x2 P) else (j_Mo_drawsLot_107 k24 k50 x1 x2 x3 s0 P)
noncomputable def j_Mo_drawsLot_207 (k24 : Int32 → PM → Option PM) (x1 : Int32) (P : PM) : Option PM := k24 (x1 + (1 : Int32)) P
noncomputable def l_Mo_drawsLot_50 (k24 : Int32 → PM → Option PM) : Nat → Int32 → Int32 → Int32 → PM → Option PM
  | 0, _, _, _, _ => none
  | n + 1, x1, x2, x3, P => if (P.1 110 (1 : Int32).toNatClampNeg) ≤ x3 then (ck (inb x1 287) (ck (inb x1 287) (ck (inb x1 287) (j_Mo_drawsLot_207 k24 x1 (u2 P 126 x1.toNatClampNeg ((P.2 126 x1.toNatClampNeg) + ((P.2 125 x1.toNatClampNeg) * (x2.toInt64)))))))) else ((f_Mo_hoursOf (x1 / (41 : Int32)) x3 P).bind (fun v5 => if v5 = (0 : Int32) then (j_Mo_drawsLot_93 k24 (fun z0 z1 z2 Pz => l_Mo_drawsLot_50 k24 n z0 z1 z2 Pz) x1 x2 x3 (0 : Int32) P) else (ck (inb (((64 : Int32) + ((7 : Int32) * (x1 / (41 : Int32)))) + x3) 3408) (j_Mo_drawsLot_93 k24 (fun z0 z1 z2 Pz => l_Mo_drawsLot_50 k24 n z0 z1 z2 Pz) x1 x2 x3 (P.1 110 (((64 : Int32) + ((7 : Int32) * (x1 / (41 : Int32)))) + x3).toNatClampNeg) P))))
noncomputable def l_Mo_drawsLot_215 : Nat → Int32 → PM → Option PM
  | 0, _, _ => none
  | n + 1, x1, P => if (287 : Int32) ≤ x1 then (some P) else (ck (inb x1 287) (ck (inb x1 287) (l_Mo_drawsLot_215 n (x1 + (1 : Int32)) (u2 P 125 x1.toNatClampNeg (P.2 126 x1.toNatClampNeg)))))
noncomputable def l_Mo_drawsLot_24 : Nat → Int32 → PM → Option PM
  | 0, _, _ => none
  | n + 1, x1, P => if (287 : Int32) ≤ x1 then (l_Mo_drawsLot_215 FU (0 : Int32) P) else (ck (inb x1 287) (if (lg_cmp (P.2 125 x1.toNatClampNeg) (0 : Int64)) = (0 : Int32) then (j_Mo_drawsLot_207 (fun z0 Pz => l_Mo_drawsLot_24 n z0 Pz) x1 P) else (l_Mo_drawsLot_50 (fun z0 Pz => l_Mo_drawsLot_24 n z0 Pz) FU x1 (10 : Int32) (0 : Int32) P)))
noncomputable def l_Mo_drawsLot_2 : Nat → Int32 → PM → Option PM
  | 0, _, _ => none
  | n + 1, x1, P => if (287 : Int32) ≤ x1 then (l_Mo_drawsLot_24 FU (0 : Int32) P) else (ck (inb x1 287) (l_Mo_drawsLot_2 n (x1 + (1 : Int32)) (u2 P 126 x1.toNatClampNeg (0 : Int64))))
noncomputable def f_Mo_drawsLot (P : PM) : Option PM := l_Mo_drawsLot_2 FU (0 : Int32) P
theorem t_j_Mo_drawsLot_183 {G : GX} (hG : GOK G) {E : EV} (hE : E0 E) (d : Nat) (hd : 2 ≤ d) {Q : QT} (k24 : Int32 → PM → Option PM) (hk24 : ∀ (x1 : Int32) (P : PM), St E rP (k24 x1 P) Q → Go G c_Mo_drawsLot "YawnRouteModel" 6 none false d nOb nOb Q 24 [(0, .ref (ad E 109)), (1, .int x1)] [] P E) (k50 : Int32 → Int32 → Int32 → PM → Option PM) (hk50 : ∀ (x1 : Int32) (x2 : Int32) (x3 : Int32) (P : PM), St E rP (k50 x1 x2 x3 P) Q → Go G c_Mo_drawsLot "YawnRouteModel" 6 none false d nOb nOb Q 50 [(0, .ref (ad E 109)), (1, .int x1), (2, .int x2), (3, .int x3)] [] P E) (x1 : Int32) (x2 : Int32) (x3 : Int32) (P : PM) (h : St E rP (j_Mo_drawsLot_183 k24 k50 x1 x2 x3 P) Q) : Go G c_Mo_drawsLot "YawnRouteModel" 6 none false d nOb nOb Q 183 [(0, .ref (ad E 109)), (1, .int x1), (2, .int x2), (3, .int x3)] [] P E := by
  rw [j_Mo_drawsLot_183] at h
  refine Go.iinc (i := 3) (n := 1) 3 (x3 + (1 : Int32)) [(3, .int (x3 + (1 : Int32))), (0, .ref (ad E 109)), (1, .int x1), (2, .int x2)] (by decide +kernel) rfl rfl (by decide) rfl ?_
  refine Go.goto (off := -136) 50 (by decide +kernel) (by decide) ?_
  refine Go.sub [1, 2, 3, 0] [(0, .ref (ad E 109)), (1, .int x1), (2, .int x2), (3, .int (x3 + (1 : Int32)))] rfl ?_
  exact hk50 x1 x2 (x3 + (1 : Int32)) P h
theorem t_j_Mo_drawsLot_107 {G : GX} (hG : GOK G) {E : EV} (hE : E0 E) (d : Nat) (hd : 2 ≤ d) {Q : QT} (k24 : Int32 → PM → Option PM) (hk24 : ∀ (x1 : Int32) (P : PM), St E rP (k24 x1 P) Q → Go G c_Mo_drawsLot "YawnRouteModel" 6 none false d nOb nOb Q 24 [(0, .ref (ad E 109)), (1, .int x1)] [] P E) (k50 : Int32 → Int32 → Int32 → PM → Option PM) (hk50 : ∀ (x1 : Int32) (x2 : Int32) (x3 : Int32) (P : PM), St E rP (k50 x1 x2 x3 P) Q → Go G c_Mo_drawsLot "YawnRouteModel" 6 none false d nOb nOb Q 50 [(0, .ref (ad E 109)), (1, .int x1), (2, .int x2), (3, .int x3)] [] P E) (x1 : Int32) (x2 : Int32) (x3 : Int32) (s0 : Int32) (P : PM) (h : St E rP (j_Mo_drawsLot_107 k24 k50 x1 x2 x3 s0 P) Q) : Go G c_Mo_drawsLot "YawnRouteModel" 6 none false d nOb nOb Q 107 [(0, .ref (ad E 109)), (1, .int x1), (2, .int x2), (3, .int x3)] [.int s0] P E := by
  rw [j_Mo_drawsLot_107] at h
  refine Go.istore (i := 4) [(4, .int s0), (0, .ref (ad E 109)), (1, .int x1), (2, .int x2), (3, .int x3)] (by decide +kernel) (by decide) rfl ?_
  refine Go.iload_n (k := 2) (i := 2) 3 (by decide +kernel) rfl rfl ?_
  refine Go.iload (i := 4) 0 (by decide +kernel) rfl ?_
  refine Go.isub (by decide +kernel) ?_
  obtain ⟨y1, hy1, h⟩ := St.lb h
  refine Go.eqi y1 hy1 ?_
  refine Go.istore_n (k := 2) (i := 2) [(2, .int y1), (4, .int s0), (0, .ref (ad E 109)), (1, .int x1), (3, .int x3)] (by decide +kernel) rfl (by decide) rfl ?_
  refine Go.aload_n (k := 0) (i := 0) 2 (by decide +kernel) rfl rfl ?_
  refine Go.get 109 20 (.ref (ad E 117)) (by decide) (by decide) sh109 (ltO hE sh109) (vlR hE rfl rfl) lk1350 (by decide +kernel) ?_
  refine Go.bipush (n := 7) (7 : Int32) (by decide +kernel) (by decide) ?_
  refine Go.iload_n (k := 1) (i := 1) 3 (by decide +kernel) rfl rfl ?_
  refine Go.imul (by decide +kernel) ?_
  refine Go.iload_n (k := 3) (i := 3) 4 (by decide +kernel) rfl rfl ?_
  refine Go.iadd (by decide +kernel) ?_
  obtain ⟨b2, h⟩ := St.ck h
  refine Go.iaload 117 2009 sh117 (ltA hE sh117 (by decide)) (inb_in b2) (by decide +kernel) ?_
  obtain ⟨y3, hy3, h⟩ := St.lb h
  refine Go.eqi y3 hy3 ?_
  refine Go.istore (i := 5) [(5, .int y3), (2, .int y1), (4, .int s0), (0, .ref (ad E 109)), (1, .int x1), (3, .int x3)] (by decide +kernel) (by decide) rfl ?_
  refine Go.iload (i := 5) 0 (by decide +kernel) rfl ?_
  refine Go.iconst (n := -1) (-1 : Int32) (by decide +kernel) rfl ?_
  refine Go.icmp_ne (off := 25) 155 (by decide +kernel) (by decide) (fun c4 => ?_) (fun c4 => ?_)
  · rw [if_neg c4] at h
    refine Go.iload (i := 5) 0 (by decide +kernel) rfl ?_
    refine Go.bipush (n := 41) (41 : Int32) (by decide +kernel) (by decide) ?_
    refine Go.irem (by decide +kernel) (by decide) ?_
    refine Go.if_le (off := 23) 183 (by decide +kernel) (by decide) (fun c5 => ?_) (fun c5 => ?_)
    · rw [if_pos c5] at h
      refine Go.sub [3, 4, 1, 5] [(0, .ref (ad E 109)), (1, .int x1), (2, .int y1), (3, .int x3)] rfl ?_
      exact t_j_Mo_drawsLot_183 hG hE d hd k24 hk24 k50 hk50 x1 y1 x3 P h
    · rw [if_neg c5] at h
      refine Go.aload_n (k := 0) (i := 0) 3 (by decide +kernel) rfl rfl ?_
      refine Go.get 109 29 (.ref (ad E 126)) (by decide) (by decide) sh109 (ltO hE sh109) (vlR hE rfl rfl) lk1359 (by decide +kernel) ?_
      refine Go.iload (i := 5) 0 (by decide +kernel) rfl ?_
      refine Go.dup2 (by decide +kernel) rfl rfl ?_
      obtain ⟨b6, h⟩ := St.ck h
      refine Go.laload 126 287 sh126 (ltA hE sh126 (by decide)) (inb_in b6) (by decide +kernel) ?_
      refine Go.aload_n (k := 0) (i := 0) 3 (by decide +kernel) rfl rfl ?_
      refine Go.get 109 28 (.ref (ad E 125)) (by decide) (by decide) sh109 (ltO hE sh109) (vlR hE rfl rfl) lk1358 (by decide +kernel) ?_
      refine Go.iload_n (k := 1) (i := 1) 4 (by decide +kernel) rfl rfl ?_
      obtain ⟨b7, h⟩ := St.ck h
      refine Go.laload 125 287 sh125 (ltA hE sh125 (by decide)) (inb_in b7) (by decide +kernel) ?_
      refine Go.iload (i := 4) 2 (by decide +kernel) rfl ?_
      refine Go.i2l (by decide +kernel) ?_
      refine Go.lmul (by decide +kernel) ?_
      refine Go.ladd (by decide +kernel) ?_
      obtain ⟨b8, h⟩ := St.ck h
      refine Go.lastore 126 287 sh126 (ltA hE sh126 (by decide)) (inb_in b8) (by decide +kernel) ?_
      refine Go.sub [3, 4, 1, 5] [(0, .ref (ad E 109)), (1, .int x1), (2, .int y1), (3, .int x3)] rfl ?_
      exact t_j_Mo_drawsLot_183 hG hE d hd k24 hk24 k50 hk50 x1 y1 x3 (u2 P 126 y3.toNatClampNeg ((P.2 126 y3.toNatClampNeg) + ((P.2 125 x1.toNatClampNeg) * (s0.toInt64)))) h
  · rw [if_pos c4] at h
    refine Go.aload_n (k := 0) (i := 0) 3 (by decide +kernel) rfl rfl ?_
    refine Go.get 109 29 (.ref (ad E 126)) (by decide) (by decide) sh109 (ltO hE sh109) (vlR hE rfl rfl) lk1359 (by decide +kernel) ?_
    refine Go.iload_n (k := 1) (i := 1) 4 (by decide +kernel) rfl rfl ?_
    refine Go.dup2 (by decide +kernel) rfl rfl ?_
    obtain ⟨b9, h⟩ := St.ck h
    refine Go.laload 126 287 sh126 (ltA hE sh126 (by decide)) (inb_in b9) (by decide +kernel) ?_
    refine Go.aload_n (k := 0) (i := 0) 3 (by decide +kernel) rfl rfl ?_
    refine Go.get 109 28 (.ref (ad E 125)) (by decide) (by decide) sh109 (ltO hE sh109) (vlR hE rfl rfl) lk1358 (by decide +kernel) ?_
    refine Go.iload_n (k := 1) (i := 1) 4 (by decide +kernel) rfl rfl ?_
    obtain ⟨b10, h⟩ := St.ck h
    refine Go.laload 125 287 sh125 (ltA hE sh125 (by decide)) (inb_in b10) (by decide +kernel) ?_
    refine Go.iload (i := 4) 2 (by decide +kernel) rfl ?_
    refine Go.i2l (by decide +kernel) ?_
    refine Go.lmul (by decide +kernel) ?_
    refine Go.ladd (by decide +kernel) ?_
    obtain ⟨b11, h⟩ := St.ck h
    refine Go.lastore 126 287 sh126 (ltA hE sh126 (by decide)) (inb_in b11) (by decide +kernel) ?_
    refine Go.goto (off := 31) 183 (by decide +kernel) (by decide) ?_
    refine Go.sub [3, 4, 1, 5] [(0, .ref (ad E 109)), (1, .int x1), (2, .int y1), (3, .int x3)] rfl ?_
    exact t_j_Mo_drawsLot_183 hG hE d hd k24 hk24 k50 hk50 x1 y1 x3 (u2 P 126 x1.toNatClampNeg ((P.2 126 x1.toNatClampNeg) + ((P.2 125 x1.toNatClampNeg) * (s0.toInt64)))) h
theorem t_j_Mo_drawsLot_93 {G : GX} (hG : GOK G) {E : EV} (hE : E0 E) (d : Nat) (hd : 2 ≤ d) {Q : QT} (k24 : Int32 → PM → Option PM) (hk24 : ∀ (x1 : Int32) (P : PM), St E rP (k24 x1 P) Q → Go G c_Mo_drawsLot "YawnRouteModel" 6 none false d nOb nOb Q 24 [(0, .ref (ad E 109)), (1, .int x1)] [] P E) (k50 : Int32 → Int32 → Int32 → PM → Option PM) (hk50 : ∀ (x1 : Int32) (x2 : Int32) (x3 : Int32) (P : PM), St E rP (k50 x1 x2 x3 P) Q → Go G c_Mo_drawsLot "YawnRouteModel" 6 none false d nOb nOb Q 50 [(0, .ref (ad E 109)), (1, .int x1), (2, .int x2), (3, .int x3)] [] P E) (x1 : Int32) (x2 : Int32) (x3 : Int32) (s0 : Int32) (P : PM) (h : St E rP (j_Mo_drawsLot_93 k24 k50 x1 x2 x3 s0 P) Q) : Go G c_Mo_drawsLot "YawnRouteModel" 6 none false d nOb nOb Q 93 [(0, .ref (ad E 109)), (1, .int x1), (2, .int x2), (3, .int x3)] [.int s0] P E := by
  rw [j_Mo_drawsLot_93] at h
  refine Go.istore (i := 4) [(4, .int s0), (0, .ref (ad E 109)), (1, .int x1), (2, .int x2), (3, .int x3)] (by decide +kernel) (by decide) rfl ?_
  refine Go.iload (i := 4) 0 (by decide +kernel) rfl ?_
  refine Go.iload_n (k := 2) (i := 2) 3 (by decide +kernel) rfl rfl ?_
  refine Go.icmp_ge (off := 8) 106 (by decide +kernel) (by decide) (fun c1 => ?_) (fun c1 => ?_)
  · rw [if_pos c1] at h
    refine Go.iload_n (k := 2) (i := 2) 3 (by decide +kernel) rfl rfl ?_
    refine Go.sub [1, 2, 3, 4] [(0, .ref (ad E 109)), (1, .int x1), (2, .int x2), (3, .int x3)] rfl ?_
    exact t_j_Mo_drawsLot_107 hG hE d hd k24 hk24 k50 hk50 x1 x2 x3 x2 P h
  · rw [if_neg c1] at h
    refine Go.iload (i := 4) 0 (by decide +kernel) rfl ?_
    refine Go.goto (off := 4) 107 (by decide +kernel) (by decide) ?_
    refine Go.sub [1, 2, 3, 4] [(0, .ref (ad E 109)), (1, .int x1), (2, .int x2), (3, .int x3)] rfl ?_
    exact t_j_Mo_drawsLot_107 hG hE d hd k24 hk24 k50 hk50 x1 x2 x3 s0 P h
theorem t_j_Mo_drawsLot_207 {G : GX} (hG : GOK G) {E : EV} (hE : E0 E) (d : Nat) (hd : 2 ≤ d) {Q : QT} (k24 : Int32 → PM → Option PM) (hk24 : ∀ (x1 : Int32) (P : PM), St E rP (k24 x1 P) Q → Go G c_Mo_drawsLot "YawnRouteModel" 6 none false d nOb nOb Q 24 [(0, .ref (ad E 109)), (1, .int x1)] [] P E) (x1 : Int32) (P : PM) (h : St E rP (j_Mo_drawsLot_207 k24 x1 P) Q) : Go G c_Mo_drawsLot "YawnRouteModel" 6 none false d nOb nOb Q 207 [(0, .ref (ad E 109)), (1, .int x1)] [] P E := by
  rw [j_Mo_drawsLot_207] at h
  refine Go.iinc (i := 1) (n := 1) 1 (x1 + (1 : Int32)) [(1, .int (x1 + (1 : Int32))), (0, .ref (ad E 109))] (by decide +kernel) rfl rfl (by decide) rfl ?_
  refine Go.goto (off := -186) 24 (by decide +kernel) (by decide) ?_
  refine Go.sub [1, 0] [(0, .ref (ad E 109)), (1, .int (x1 + (1 : Int32)))] rfl ?_
  exact hk24 (x1 + (1 : Int32)) P h
theorem t_l_Mo_drawsLot_50 {G : GX} (hG : GOK G) {E : EV} (hE : E0 E) (d : Nat) (hd : 2 ≤ d) {Q : QT} (k24 : Int32 → PM → Option PM) (hk24 : ∀ (x1 : Int32) (P : PM), St E rP (k24 x1 P) Q → Go G c_Mo_drawsLot "YawnRouteModel" 6 none false d nOb nOb Q 24 [(0, .ref (ad E 109)), (1, .int x1)] [] P E) : ∀ (n : Nat) (x1 : Int32) (x2 : Int32) (x3 : Int32) (P : PM), St E rP (l_Mo_drawsLot_50 k24 n x1 x2 x3 P) Q → Go G c_Mo_drawsLot "YawnRouteModel" 6 none false d nOb nOb Q 50 [(0, .ref (ad E 109)), (1, .int x1), (2, .int x2), (3, .int x3)] [] P E := by
  intro n
  induction n with
  | zero =>
    intro x1 x2 x3 P h
    rw [l_Mo_drawsLot_50] at h
    exact St.none_ h
  | succ n ih =>
    intro x1 x2 x3 P h
    rw [l_Mo_drawsLot_50] at h
    refine Go.iload_n (k := 3) (i := 3) 3 (by decide +kernel) rfl rfl ?_
    refine Go.aload_n (k := 0) (i := 0) 0 (by decide +kernel) rfl rfl ?_
    refine Go.get 109 1 (.ref (ad E 110)) (by decide) (by decide) sh109 (ltO hE sh109) (vlR hE rfl rfl) lk1331 (by decide +kernel) ?_
    refine Go.iconst (n := 1) (1 : Int32) (by decide +kernel) rfl ?_
    refine Go.iaload 110 3408 sh110 (ltA hE sh110 (by decide)) (vp_in_iff.mpr (by decide)) (by decide +kernel) ?_
    refine Go.icmp_ge (off := 132) 189 (by decide +kernel) (by decide) (fun c1 => ?_) (fun c1 => ?_)
    · rw [if_pos c1] at h
      refine Go.aload_n (k := 0) (i := 0) 0 (by decide +kernel) rfl rfl ?_
      refine Go.get 109 29 (.ref (ad E 126)) (by decide) (by decide) sh109 (ltO hE sh109) (vlR hE rfl rfl) lk1359 (by decide +kernel) ?_
      refine Go.iload_n (k := 1) (i := 1) 1 (by decide +kernel) rfl rfl ?_
      refine Go.dup2 (by decide +kernel) rfl rfl ?_
      obtain ⟨b2, h⟩ := St.ck h
      refine Go.laload 126 287 sh126 (ltA hE sh126 (by decide)) (inb_in b2) (by decide +kernel) ?_
      refine Go.aload_n (k := 0) (i := 0) 0 (by decide +kernel) rfl rfl ?_
      refine Go.get 109 28 (.ref (ad E 125)) (by decide) (by decide) sh109 (ltO hE sh109) (vlR hE rfl rfl) lk1358 (by decide +kernel) ?_
      refine Go.iload_n (k := 1) (i := 1) 1 (by decide +kernel) rfl rfl ?_
      obtain ⟨b3, h⟩ := St.ck h
      refine Go.laload 125 287 sh125 (ltA hE sh125 (by decide)) (inb_in b3) (by decide +kernel) ?_
      refine Go.iload_n (k := 2) (i := 2) 2 (by decide +kernel) rfl rfl ?_
      refine Go.i2l (by decide +kernel) ?_
      refine Go.lmul (by decide +kernel) ?_
      refine Go.ladd (by decide +kernel) ?_
      obtain ⟨b4, h⟩ := St.ck h
      refine Go.lastore 126 287 sh126 (ltA hE sh126 (by decide)) (inb_in b4) (by decide +kernel) ?_
      refine Go.sub [0, 1] [(0, .ref (ad E 109)), (1, .int x1)] rfl ?_
      exact t_j_Mo_drawsLot_207 hG hE d hd k24 hk24 x1 (u2 P 126 x1.toNatClampNeg ((P.2 126 x1.toNatClampNeg) + ((P.2 125 x1.toNatClampNeg) * (x2.toInt64)))) h
    · rw [if_neg c1] at h
      refine Go.aload_n (k := 0) (i := 0) 0 (by decide +kernel) rfl rfl ?_
      refine Go.iload_n (k := 1) (i := 1) 1 (by decide +kernel) rfl rfl ?_
      refine Go.bipush (n := 41) (41 : Int32) (by decide +kernel) (by decide) ?_
      refine Go.idiv (by decide +kernel) (by decide) ?_
      refine Go.iload_n (k := 3) (i := 3) 3 (by decide +kernel) rfl rfl ?_
      obtain ⟨v5, hv5, h⟩ := St.bind h
      refine Go.cV_i (P1 := P) (v := v5) (d - 1) 109 [.int (x1 / (41 : Int32)), .int x3] sh109 hE w_Mo_hoursOf (e_Mo_hoursOf hG hE (d - 1) (by omega) (x1 / (41 : Int32)) x3 P ⟨_, hv5, rfl, rfl, rfl⟩) lk1559 rfl (by omega) (Nat.le_of_ble_eq_true rfl) (by decide +kernel) _ rfl ?_
      refine Go.if_ne (off := 7) 76 (by decide +kernel) (by decide) (fun c6 => ?_) (fun c6 => ?_)
      · rw [if_neg c6] at h
        refine Go.aload_n (k := 0) (i := 0) 0 (by decide +kernel) rfl rfl ?_
        refine Go.get 109 1 (.ref (ad E 110)) (by decide) (by decide) sh109 (ltO hE sh109) (vlR hE rfl rfl) lk1331 (by decide +kernel) ?_
        refine Go.bipush (n := 64) (64 : Int32) (by decide +kernel) (by decide) ?_
        refine Go.bipush (n := 7) (7 : Int32) (by decide +kernel) (by decide) ?_
        refine Go.iload_n (k := 1) (i := 1) 1 (by decide +kernel) rfl rfl ?_
        refine Go.bipush (n := 41) (41 : Int32) (by decide +kernel) (by decide) ?_
        refine Go.idiv (by decide +kernel) (by decide) ?_
        refine Go.imul (by decide +kernel) ?_
        refine Go.iadd (by decide +kernel) ?_
        refine Go.iload_n (k := 3) (i := 3) 3 (by decide +kernel) rfl rfl ?_
        refine Go.iadd (by decide +kernel) ?_
        obtain ⟨b7, h⟩ := St.ck h
        refine Go.iaload 110 3408 sh110 (ltA hE sh110 (by decide)) (inb_in b7) (by decide +kernel) ?_
        exact t_j_Mo_drawsLot_93 hG hE d hd k24 hk24 (fun z0 z1 z2 Pz => l_Mo_drawsLot_50 k24 n z0 z1 z2 Pz) (fun z0 z1 z2 Pz q => ih z0 z1 z2 Pz q) x1 x2 x3 (P.1 110 (((64 : Int32) + ((7 : Int32) * (x1 / (41 : Int32)))) + x3).toNatClampNeg) P h
      · rw [if_pos c6] at h
        refine Go.iconst (n := 0) (0 : Int32) (by decide +kernel) rfl ?_
        refine Go.goto (off := 20) 93 (by decide +kernel) (by decide) ?_
        exact t_j_Mo_drawsLot_93 hG hE d hd k24 hk24 (fun z0 z1 z2 Pz => l_Mo_drawsLot_50 k24 n z0 z1 z2 Pz) (fun z0 z1 z2 Pz q => ih z0 z1 z2 Pz q) x1 x2 x3 (0 : Int32) P h
theorem t_l_Mo_drawsLot_215 {G : GX} (hG : GOK G) {E : EV} (hE : E0 E) (d : Nat) (hd : 2 ≤ d) {Q : QT} : ∀ (n : Nat) (x1 : Int32) (P : PM), St E rP (l_Mo_drawsLot_215 n x1 P) Q → Go G c_Mo_drawsLot "YawnRouteModel" 6 none false d nOb nOb Q 215 [(0, .ref (ad E 109)), (1, .int x1)] [] P E := by
  intro n
  induction n with
  | zero =>
    intro x1 P h
    rw [l_Mo_drawsLot_215] at h
    exact St.none_ h
  | succ n ih =>
    intro x1 P h
    rw [l_Mo_drawsLot_215] at h
    refine Go.iload_n (k := 1) (i := 1) 1 (by decide +kernel) rfl rfl ?_
    refine Go.sipush (n := 287) (287 : Int32) (by decide +kernel) (by decide) ?_
    refine Go.icmp_ge (off := 21) 240 (by decide +kernel) (by decide) (fun c1 => ?_) (fun c1 => ?_)
    · rw [if_pos c1] at h
      exact Go.vret rfl hE.2 (by decide +kernel) (St.fP h)
    · rw [if_neg c1] at h
      refine Go.aload_n (k := 0) (i := 0) 0 (by decide +kernel) rfl rfl ?_
      refine Go.get 109 28 (.ref (ad E 125)) (by decide) (by decide) sh109 (ltO hE sh109) (vlR hE rfl rfl) lk1358 (by decide +kernel) ?_
      refine Go.iload_n (k := 1) (i := 1) 1 (by decide +kernel) rfl rfl ?_
      refine Go.aload_n (k := 0) (i := 0) 0 (by decide +kernel) rfl rfl ?_
      refine Go.get 109 29 (.ref (ad E 126)) (by decide) (by decide) sh109 (ltO hE sh109) (vlR hE rfl rfl) lk1359 (by decide +kernel) ?_
      refine Go.iload_n (k := 1) (i := 1) 1 (by decide +kernel) rfl rfl ?_
      obtain ⟨b2, h⟩ := St.ck h
      refine Go.laload 126 287 sh126 (ltA hE sh126 (by decide)) (inb_in b2) (by decide +kernel) ?_
      obtain ⟨b3, h⟩ := St.ck h
      refine Go.lastore 125 287 sh125 (ltA hE sh125 (by decide)) (inb_in b3) (by decide +kernel) ?_
      refine Go.iinc (i := 1) (n := 1) 1 (x1 + (1 : Int32)) [(1, .int (x1 + (1 : Int32))), (0, .ref (ad E 109))] (by decide +kernel) rfl rfl (by decide) rfl ?_
      refine Go.goto (off := -22) 215 (by decide +kernel) (by decide) ?_
      refine Go.sub [1, 0] [(0, .ref (ad E 109)), (1, .int (x1 + (1 : Int32)))] rfl ?_
      exact ih (x1 + (1 : Int32)) (u2 P 125 x1.toNatClampNeg (P.2 126 x1.toNatClampNeg)) h
theorem t_l_Mo_drawsLot_24 {G : GX} (hG : GOK G) {E : EV} (hE : E0 E) (d : Nat) (hd : 2 ≤ d) {Q : QT} : ∀ (n : Nat) (x1 : Int32) (P : PM), St E rP (l_Mo_drawsLot_24 n x1 P) Q → Go G c_Mo_drawsLot "YawnRouteModel" 6 none false d nOb nOb Q 24 [(0, .ref (ad E 109)), (1, .int x1)] [] P E := by
  intro n
  induction n with
  | zero =>
    intro x1 P h
    rw [l_Mo_drawsLot_24] at h
    exact St.none_ h
  | succ n ih =>
    intro x1 P h
    rw [l_Mo_drawsLot_24] at h
    refine Go.iload_n (k := 1) (i := 1) 1 (by decide +kernel) rfl rfl ?_
    refine Go.sipush (n := 287) (287 : Int32) (by decide +kernel) (by decide) ?_
    refine Go.icmp_ge (off := 185) 213 (by decide +kernel) (by decide) (fun c1 => ?_) (fun c1 => ?_)
    · rw [if_pos c1] at h
      refine Go.iconst (n := 0) (0 : Int32) (by decide +kernel) rfl ?_
      refine Go.istore_n (k := 1) (i := 1) [(1, .int (0 : Int32)), (0, .ref (ad E 109))] (by decide +kernel) rfl (by decide) rfl ?_
      refine Go.sub [1, 0] [(0, .ref (ad E 109)), (1, .int (0 : Int32))] rfl ?_
      exact t_l_Mo_drawsLot_215 hG hE d hd FU (0 : Int32) P h
    · rw [if_neg c1] at h
      refine Go.aload_n (k := 0) (i := 0) 0 (by decide +kernel) rfl rfl ?_
      refine Go.get 109 28 (.ref (ad E 125)) (by decide) (by decide) sh109 (ltO hE sh109) (vlR hE rfl rfl) lk1358 (by decide +kernel) ?_
      refine Go.iload_n (k := 1) (i := 1) 1 (by decide +kernel) rfl rfl ?_
      obtain ⟨b2, h⟩ := St.ck h
      refine Go.laload 125 287 sh125 (ltA hE sh125 (by decide)) (inb_in b2) (by decide +kernel) ?_
      refine Go.lconst (n := 0) (0 : Int64) (by decide +kernel) rfl ?_
      refine Go.lcmp (by decide +kernel) ?_
      refine Go.if_ne (off := 6) 45 (by decide +kernel) (by decide) (fun c3 => ?_) (fun c3 => ?_)
      · rw [if_neg c3] at h
        refine Go.bipush (n := 10) (10 : Int32) (by decide +kernel) (by decide) ?_
        refine Go.istore_n (k := 2) (i := 2) [(2, .int (10 : Int32)), (0, .ref (ad E 109)), (1, .int x1)] (by decide +kernel) rfl (by decide) rfl ?_
        refine Go.iconst (n := 0) (0 : Int32) (by decide +kernel) rfl ?_
        refine Go.istore_n (k := 3) (i := 3) [(3, .int (0 : Int32)), (2, .int (10 : Int32)), (0, .ref (ad E 109)), (1, .int x1)] (by decide +kernel) rfl (by decide) rfl ?_
        refine Go.sub [2, 3, 1, 0] [(0, .ref (ad E 109)), (1, .int x1), (2, .int (10 : Int32)), (3, .int (0 : Int32))] rfl ?_
        exact t_l_Mo_drawsLot_50 hG hE d hd (fun z0 Pz => l_Mo_drawsLot_24 n z0 Pz) (fun z0 Pz q => ih z0 Pz q) FU x1 (10 : Int32) (0 : Int32) P h
      · rw [if_pos c3] at h
        refine Go.goto (off := 165) 207 (by decide +kernel) (by decide) ?_
        exact t_j_Mo_drawsLot_207 hG hE d hd (fun z0 Pz => l_Mo_drawsLot_24 n z0 Pz) (fun z0 Pz q => ih z0 Pz q) x1 P h
theorem t_l_Mo_drawsLot_2 {G : GX} (hG : GOK G) {E : EV} (hE : E0 E) (d : Nat) (hd : 2 ≤ d) {Q : QT} : ∀ (n : Nat) (x1 : Int32) (P : PM), St E rP (l_Mo_drawsLot_2 n x1 P) Q → Go G c_Mo_drawsLot "YawnRouteModel" 6 none false d nOb nOb Q 2 [(0, .ref (ad E 109)), (1, .int x1)] [] P E := by
  intro n
  induction n with
  | zero =>
    intro x1 P h
    rw [l_Mo_drawsLot_2] at h
    exact St.none_ h
  | succ n ih =>
    intro x1 P h
    rw [l_Mo_drawsLot_2] at h
    refine Go.iload_n (k := 1) (i := 1) 1 (by decide +kernel) rfl rfl ?_
    refine Go.sipush (n := 287) (287 : Int32) (by decide +kernel) (by decide) ?_
    refine Go.icmp_ge (off := 16) 22 (by decide +kernel) (by decide) (fun c1 => ?_) (fun c1 => ?_)
    · rw [if_pos c1] at h
      refine Go.iconst (n := 0) (0 : Int32) (by decide +kernel) rfl ?_
      refine Go.istore_n (k := 1) (i := 1) [(1, .int (0 : Int32)), (0, .ref (ad E 109))] (by decide +kernel) rfl (by decide) rfl ?_
      refine Go.sub [1, 0] [(0, .ref (ad E 109)), (1, .int (0 : Int32))] rfl ?_
      exact t_l_Mo_drawsLot_24 hG hE d hd FU (0 : Int32) P h
    · rw [if_neg c1] at h
      refine Go.aload_n (k := 0) (i := 0) 0 (by decide +kernel) rfl rfl ?_
      refine Go.get 109 29 (.ref (ad E 126)) (by decide) (by decide) sh109 (ltO hE sh109) (vlR hE rfl rfl) lk1359 (by decide +kernel) ?_
      refine Go.iload_n (k := 1) (i := 1) 1 (by decide +kernel) rfl rfl ?_
      refine Go.lconst (n := 0) (0 : Int64) (by decide +kernel) rfl ?_
      obtain ⟨b2, h⟩ := St.ck h
      refine Go.lastore 126 287 sh126 (ltA hE sh126 (by decide)) (inb_in b2) (by decide +kernel) ?_
      refine Go.iinc (i := 1) (n := 1) 1 (x1 + (1 : Int32)) [(1, .int (x1 + (1 : Int32))), (0, .ref (ad E 109))] (by decide +kernel) rfl rfl (by decide) rfl ?_
      refine Go.goto (off := -17) 2 (by decide +kernel) (by decide) ?_
      refine Go.sub [1, 0] [(0, .ref (ad E 109)), (1, .int (x1 + (1 : Int32)))] rfl ?_
      exact ih (x1 + (1 : Int32)) (u2 P 126 x1.toNatClampNeg (0 : Int64)) h
theorem t_f_Mo_drawsLot {G : GX} (hG : GOK G) {E : EV} (hE : E0 E) (d : Nat) (hd : 2 ≤ d) {Q : QT} (P : PM) (h : St E rP (f_Mo_drawsLot P) Q) : Go G c_Mo_drawsLot "YawnRouteModel" 6 none false d nOb nOb Q 0 [(0, .ref (ad E 109))] [] P E := by
  rw [f_Mo_drawsLot] at h
  refine Go.iconst (n := 0) (0 : Int32) (by decide +kernel) rfl ?_
  refine Go.istore_n (k := 1) (i := 1) [(1, .int (0 : Int32)), (0, .ref (ad E 109))] (by decide +kernel) rfl (by decide) rfl ?_
  refine Go.sub [1, 0] [(0, .ref (ad E 109)), (1, .int (0 : Int32))] rfl ?_
  exact t_l_Mo_drawsLot_2 hG hE d hd FU (0 : Int32) P h
theorem e_Mo_drawsLot {G : GX} (hG : GOK G) {E : EV} (hE : E0 E) (d : Nat) (hd : 2 ≤ d) (P : PM) {Q : QT} (h : St E rP (f_Mo_drawsLot P) Q) : Con G y_Mo_drawsLot cw_Mo_drawsLot d nOb nOb [.ref (ad E 109)] P E Q :=
  Con.of hG (by decide +kernel) rfl (fun h => by cases h) hE.2 (Nat.le_of_ble_eq_true rfl) (t_f_Mo_drawsLot hG hE d hd P h)
abbrev c_Mo_laysLikely : ByteArray := prog_14_method_116_code
abbrev y_Mo_laysLikely : MethodName := ⟨"YawnRouteModel", "laysLikely", "(I)V"⟩
abbrev cw_Mo_laysLikely : Cond := .code y_Mo_laysLikely c_Mo_laysLikely 3 none
theorem w_Mo_laysLikely : VW 12 y_Mo_laysLikely c_Mo_laysLikely 3 none 1 := ⟨by decide, lk1889, lp113_, lk14, lk1890, ⟨by decide, by decide, by decide +kernel⟩, by decide⟩
noncomputable def j_Mo_laysLikely_38 (k13 : Int32 → Int32 → PM → Option PM) (x1 : Int32) (x2 : Int32) (s1 : Int32) (s2 : Int64) (P : PM) : Option PM := ck (inb s1 287) (k13 x1 (x2 + (1 : Int32)) (u2 P 125 s1.toNatClampNeg s2))
noncomputable def l_Mo_laysLikely_47 : Nat → Int32 → Int32 → PM → Option PM
  | 0, _, _, _ => none
  | n + 1, x1, x2, P => if x1 ≤ x2 then (some P) else ((f_Mo_drawsLot P).bind (fun P2 => l_Mo_laysLikely_47 n x1 (x2 + (1 : Int32)) P2))
noncomputable def l_Mo_laysLikely_13 : Nat → Int32 → Int32 → PM → Option PM
  | 0, _, _, _ => none
  | n + 1, x1, x2, P => if (287 : Int32) ≤ x2 then (l_Mo_laysLikely_47 FU x1 (0 : Int32) P) else (if x2 = (f_Mo_standNow P) then (j_Mo_laysLikely_38 (fun z0 z1 Pz => l_Mo_laysLikely_13 n z0 z1 Pz) x1 x2 x2 (1 : Int64) P) else (j_Mo_laysLikely_38 (fun z0 z1 Pz => l_Mo_laysLikely_13 n z0 z1 Pz) x1 x2 x2 (0 : Int64) P))
noncomputable def f_Mo_laysLikely (a1 : Int32) (P : PM) : Option PM := (f_Mo_laysThen (P.1 110 (116 : Int32).toNatClampNeg) P).bind (fun P1 => l_Mo_laysLikely_13 FU a1 (0 : Int32) P1)
theorem t_j_Mo_laysLikely_38 {G : GX} (hG : GOK G) {E : EV} (hE : E0 E) (d : Nat) (hd : 5 ≤ d) {Q : QT} (k13 : Int32 → Int32 → PM → Option PM) (hk13 : ∀ (x1 : Int32) (x2 : Int32) (P : PM), St E rP (k13 x1 x2 P) Q → Go G c_Mo_laysLikely "YawnRouteModel" 3 none false d nOb nOb Q 13 [(0, .ref (ad E 109)), (1, .int x1), (2, .int x2)] [] P E) (x1 : Int32) (x2 : Int32) (s1 : Int32) (s2 : Int64) (P : PM) (h : St E rP (j_Mo_laysLikely_38 k13 x1 x2 s1 s2 P) Q) : Go G c_Mo_laysLikely "YawnRouteModel" 3 none false d nOb nOb Q 38 [(0, .ref (ad E 109)), (1, .int x1), (2, .int x2)] [.long s2, .int s1, .ref (ad E 125)] P E := by
  rw [j_Mo_laysLikely_38] at h
  obtain ⟨b1, h⟩ := St.ck h
  refine Go.lastore 125 287 sh125 (ltA hE sh125 (by decide)) (inb_in b1) (by decide +kernel) ?_
  refine Go.iinc (i := 2) (n := 1) 2 (x2 + (1 : Int32)) [(2, .int (x2 + (1 : Int32))), (0, .ref (ad E 109)), (1, .int x1)] (by decide +kernel) rfl rfl (by decide) rfl ?_
  refine Go.goto (off := -29) 13 (by decide +kernel) (by decide) ?_
  refine Go.sub [1, 2, 0] [(0, .ref (ad E 109)), (1, .int x1), (2, .int (x2 + (1 : Int32)))] rfl ?_
  exact hk13 x1 (x2 + (1 : Int32)) (u2 P 125 s1.toNatClampNeg s2) h
theorem t_l_Mo_laysLikely_47 {G : GX} (hG : GOK G) {E : EV} (hE : E0 E) (d : Nat) (hd : 5 ≤ d) {Q : QT} : ∀ (n : Nat) (x1 : Int32) (x2 : Int32) (P : PM), St E rP (l_Mo_laysLikely_47 n x1 x2 P) Q → Go G c_Mo_laysLikely "YawnRouteModel" 3 none false d nOb nOb Q 47 [(0, .ref (ad E 109)), (1, .int x1), (2, .int x2)] [] P E := by
  intro n
  induction n with
  | zero =>
    intro x1 x2 P h
    rw [l_Mo_laysLikely_47] at h
    exact St.none_ h
  | succ n ih =>
    intro x1 x2 P h
    rw [l_Mo_laysLikely_47] at h
    refine Go.iload_n (k := 2) (i := 2) 2 (by decide +kernel) rfl rfl ?_
    refine Go.iload_n (k := 1) (i := 1) 1 (by decide +kernel) rfl rfl ?_
    refine Go.icmp_ge (off := 13) 62 (by decide +kernel) (by decide) (fun c1 => ?_) (fun c1 => ?_)
    · rw [if_pos c1] at h
      exact Go.vret rfl hE.2 (by decide +kernel) (St.fP h)
    · rw [if_neg c1] at h
      refine Go.aload_n (k := 0) (i := 0) 0 (by decide +kernel) rfl rfl ?_
      obtain ⟨P2, hP2, h⟩ := St.bind h
      refine Go.cV_v (P1 := P2) (d - 1) 109 [] sh109 hE w_Mo_drawsLot (e_Mo_drawsLot hG hE (d - 1) (by omega) P ⟨_, hP2, rfl, rfl, rfl⟩) lk1891 rfl (by omega) (Nat.le_of_ble_eq_true rfl) (by decide +kernel) _ rfl ?_
      refine Go.iinc (i := 2) (n := 1) 2 (x2 + (1 : Int32)) [(2, .int (x2 + (1 : Int32))), (0, .ref (ad E 109)), (1, .int x1)] (by decide +kernel) rfl rfl (by decide) rfl ?_
      refine Go.goto (off := -12) 47 (by decide +kernel) (by decide) ?_
      refine Go.sub [1, 2, 0] [(0, .ref (ad E 109)), (1, .int x1), (2, .int (x2 + (1 : Int32)))] rfl ?_
      exact ih x1 (x2 + (1 : Int32)) P2 h
theorem t_l_Mo_laysLikely_13 {G : GX} (hG : GOK G) {E : EV} (hE : E0 E) (d : Nat) (hd : 5 ≤ d) {Q : QT} : ∀ (n : Nat) (x1 : Int32) (x2 : Int32) (P : PM), St E rP (l_Mo_laysLikely_13 n x1 x2 P) Q → Go G c_Mo_laysLikely "YawnRouteModel" 3 none false d nOb nOb Q 13 [(0, .ref (ad E 109)), (1, .int x1), (2, .int x2)] [] P E := by
  intro n
  induction n with
  | zero =>
    intro x1 x2 P h
    rw [l_Mo_laysLikely_13] at h
    exact St.none_ h
  | succ n ih =>
    intro x1 x2 P h
    rw [l_Mo_laysLikely_13] at h
    refine Go.iload_n (k := 2) (i := 2) 2 (by decide +kernel) rfl rfl ?_
    refine Go.sipush (n := 287) (287 : Int32) (by decide +kernel) (by decide) ?_
    refine Go.icmp_ge (off := 28) 45 (by decide +kernel) (by decide) (fun c1 => ?_) (fun c1 => ?_)
    · rw [if_pos c1] at h
      refine Go.iconst (n := 0) (0 : Int32) (by decide +kernel) rfl ?_
      refine Go.istore_n (k := 2) (i := 2) [(2, .int (0 : Int32)), (0, .ref (ad E 109)), (1, .int x1)] (by decide +kernel) rfl (by decide) rfl ?_
      refine Go.sub [1, 2, 0] [(0, .ref (ad E 109)), (1, .int x1), (2, .int (0 : Int32))] rfl ?_
      exact t_l_Mo_laysLikely_47 hG hE d hd FU x1 (0 : Int32) P h
    · rw [if_neg c1] at h
      refine Go.aload_n (k := 0) (i := 0) 0 (by decide +kernel) rfl rfl ?_
      refine Go.get 109 28 (.ref (ad E 125)) (by decide) (by decide) sh109 (ltO hE sh109) (vlR hE rfl rfl) lk1358 (by decide +kernel) ?_
      refine Go.iload_n (k := 2) (i := 2) 2 (by decide +kernel) rfl rfl ?_
      refine Go.iload_n (k := 2) (i := 2) 2 (by decide +kernel) rfl rfl ?_
      refine Go.aload_n (k := 0) (i := 0) 0 (by decide +kernel) rfl rfl ?_
      refine Go.cV_i (P1 := P) (v := (f_Mo_standNow P)) (d - 1) 109 [] sh109 hE w_Mo_standNow (e_Mo_standNow hG hE (d - 1) (by omega) P ⟨rfl, rfl, rfl⟩) lk1720 rfl (by omega) (Nat.le_of_ble_eq_true rfl) (by decide +kernel) _ rfl ?_
      refine Go.icmp_ne (off := 7) 37 (by decide +kernel) (by decide) (fun c2 => ?_) (fun c2 => ?_)
      · rw [if_neg c2] at h
        refine Go.lconst (n := 0) (0 : Int64) (by decide +kernel) rfl ?_
        exact t_j_Mo_laysLikely_38 hG hE d hd (fun z0 z1 Pz => l_Mo_laysLikely_13 n z0 z1 Pz) (fun z0 z1 Pz q => ih z0 z1 Pz q) x1 x2 x2 (0 : Int64) P h
      · rw [if_pos c2] at h
        refine Go.lconst (n := 1) (1 : Int64) (by decide +kernel) rfl ?_
        refine Go.goto (off := 4) 38 (by decide +kernel) (by decide) ?_
        exact t_j_Mo_laysLikely_38 hG hE d hd (fun z0 z1 Pz => l_Mo_laysLikely_13 n z0 z1 Pz) (fun z0 z1 Pz q => ih z0 z1 Pz q) x1 x2 x2 (1 : Int64) P h
theorem t_f_Mo_laysLikely {G : GX} (hG : GOK G) {E : EV} (hE : E0 E) (d : Nat) (hd : 5 ≤ d) {Q : QT} (a1 : Int32) (P : PM) (h : St E rP (f_Mo_laysLikely a1 P) Q) : Go G c_Mo_laysLikely "YawnRouteModel" 3 none false d nOb nOb Q 0 [(0, .ref (ad E 109)), (1, .int a1)] [] P E := by
  rw [f_Mo_laysLikely] at h
  refine Go.aload_n (k := 0) (i := 0) 0 (by decide +kernel) rfl rfl ?_
  refine Go.aload_n (k := 0) (i := 0) 0 (by decide +kernel) rfl rfl ?_
  refine Go.get 109 1 (.ref (ad E 110)) (by decide) (by decide) sh109 (ltO hE sh109) (vlR hE rfl rfl) lk1331 (by decide +kernel) ?_
  refine Go.bipush (n := 116) (116 : Int32) (by decide +kernel) (by decide) ?_
  refine Go.iaload 110 3408 sh110 (ltA hE sh110 (by decide)) (vp_in_iff.mpr (by decide)) (by decide +kernel) ?_
  obtain ⟨P1, hP1, h⟩ := St.bind h
  refine Go.cV_v (P1 := P1) (d - 1) 109 [.int (P.1 110 (116 : Int32).toNatClampNeg)] sh109 hE w_Mo_laysThen (e_Mo_laysThen hG hE (d - 1) (by omega) (P.1 110 (116 : Int32).toNatClampNeg) P ⟨_, hP1, rfl, rfl, rfl⟩) lk1700 rfl (by omega) (Nat.le_of_ble_eq_true rfl) (by decide +kernel) _ rfl ?_
  refine Go.iconst (n := 0) (0 : Int32) (by decide +kernel) rfl ?_
  refine Go.istore_n (k := 2) (i := 2) [(2, .int (0 : Int32)), (0, .ref (ad E 109)), (1, .int a1)] (by decide +kernel) rfl (by decide) rfl ?_
  refine Go.sub [1, 2, 0] [(0, .ref (ad E 109)), (1, .int a1), (2, .int (0 : Int32))] rfl ?_
  exact t_l_Mo_laysLikely_13 hG hE d hd FU a1 (0 : Int32) P1 h
theorem e_Mo_laysLikely {G : GX} (hG : GOK G) {E : EV} (hE : E0 E) (d : Nat) (hd : 5 ≤ d) (a1 : Int32) (P : PM) {Q : QT} (h : St E rP (f_Mo_laysLikely a1 P) Q) : Con G y_Mo_laysLikely cw_Mo_laysLikely d nOb nOb [.ref (ad E 109), .int a1] P E Q :=
  Con.of hG (by decide +kernel) rfl (fun h => by cases h) hE.2 (Nat.le_of_ble_eq_true rfl) (t_f_Mo_laysLikely hG hE d hd a1 P h)
abbrev c_Mo_likelyAt : ByteArray := prog_14_method_117_code
abbrev y_Mo_likelyAt : MethodName := ⟨"YawnRouteModel", "likelyAt", "(I)J"⟩
abbrev cw_Mo_likelyAt : Cond := .code y_Mo_likelyAt c_Mo_likelyAt 5 (some .long)
theorem w_Mo_likelyAt : VW 12 y_Mo_likelyAt c_Mo_likelyAt 5 (some .long) 1 := ⟨by decide, lk1897, lp115_, lk14, lk1898, ⟨by decide, by decide, by decide +kernel⟩, by decide⟩
noncomputable def l_Mo_likelyAt_5 : Nat → Int32 → Int64 → Int32 → PM → Option Int64
  | 0, _, _, _, _ => none
  | n + 1, x1, x2, x4, P => if (40 : Int32) < x4 then (some x2) else (ck (inb (f_Mo_standOf x1 x4 P) 287) (lb (x2 + (P.2 125 (f_Mo_standOf x1 x4 P).toNatClampNeg)) (fun y3 => l_Mo_likelyAt_5 n x1 y3 (x4 + (1 : Int32)) P)))
noncomputable def f_Mo_likelyAt (a1 : Int32) (P : PM) : Option Int64 := l_Mo_likelyAt_5 FU a1 (0 : Int64) (1 : Int32) P
theorem t_l_Mo_likelyAt_5 {G : GX} (hG : GOK G) {E : EV} (hE : E0 E) (d : Nat) (hd : 2 ≤ d) {P : PM} {Q : QT} : ∀ (n : Nat) (x1 : Int32) (x2 : Int64) (x4 : Int32), St E (rL P) (l_Mo_likelyAt_5 n x1 x2 x4 P) Q → Go G c_Mo_likelyAt "YawnRouteModel" 5 (some .long) false d nOb nOb Q 5 [(0, .ref (ad E 109)), (1, .int x1), (2, .long x2), (4, .int x4)] [] P E := by
  intro n
  induction n with
  | zero =>
    intro x1 x2 x4 h
    rw [l_Mo_likelyAt_5] at h
    exact St.none_ h
  | succ n ih =>
    intro x1 x2 x4 h
    rw [l_Mo_likelyAt_5] at h
    refine Go.iload (i := 4) 3 (by decide +kernel) rfl ?_
    refine Go.bipush (n := 40) (40 : Int32) (by decide +kernel) (by decide) ?_
    refine Go.icmp_gt (off := 23) 32 (by decide +kernel) (by decide) (fun c1 => ?_) (fun c1 => ?_)
    · rw [if_pos c1] at h
      refine Go.lload_n (k := 2) (i := 2) 2 (by decide +kernel) rfl rfl ?_
      exact Go.lret rfl hE.2 (by decide +kernel) (St.fL h)
    · rw [if_neg c1] at h
      refine Go.lload_n (k := 2) (i := 2) 2 (by decide +kernel) rfl rfl ?_
      refine Go.aload_n (k := 0) (i := 0) 0 (by decide +kernel) rfl rfl ?_
      refine Go.get 109 28 (.ref (ad E 125)) (by decide) (by decide) sh109 (ltO hE sh109) (vlR hE rfl rfl) lk1358 (by decide +kernel) ?_
      refine Go.iload_n (k := 1) (i := 1) 1 (by decide +kernel) rfl rfl ?_
      refine Go.iload (i := 4) 3 (by decide +kernel) rfl ?_
      refine Go.cS_i (P1 := P) (v := (f_Mo_standOf x1 x4 P)) (d - 1) [.int x1, .int x4] hE w_Mo_standOf (e_Mo_standOf hG hE (d - 1) (by omega) x1 x4 P ⟨rfl, rfl, rfl⟩) lk1704 rfl (by omega) (Nat.le_of_ble_eq_true rfl) (by decide +kernel) _ rfl ?_
      obtain ⟨b2, h⟩ := St.ck h
      refine Go.laload 125 287 sh125 (ltA hE sh125 (by decide)) (inb_in b2) (by decide +kernel) ?_
      refine Go.ladd (by decide +kernel) ?_
      obtain ⟨y3, hy3, h⟩ := St.lb h
      refine Go.eql y3 hy3 ?_
      refine Go.lstore_n (k := 2) (i := 2) [(2, .long y3), (0, .ref (ad E 109)), (1, .int x1), (4, .int x4)] (by decide +kernel) rfl (by decide) rfl ?_
      refine Go.iinc (i := 4) (n := 1) 3 (x4 + (1 : Int32)) [(4, .int (x4 + (1 : Int32))), (2, .long y3), (0, .ref (ad E 109)), (1, .int x1)] (by decide +kernel) rfl rfl (by decide) rfl ?_
      refine Go.goto (off := -24) 5 (by decide +kernel) (by decide) ?_
      refine Go.sub [2, 3, 1, 0] [(0, .ref (ad E 109)), (1, .int x1), (2, .long y3), (4, .int (x4 + (1 : Int32)))] rfl ?_
      exact ih x1 y3 (x4 + (1 : Int32)) h
theorem t_f_Mo_likelyAt {G : GX} (hG : GOK G) {E : EV} (hE : E0 E) (d : Nat) (hd : 2 ≤ d) {P : PM} {Q : QT} (a1 : Int32) (h : St E (rL P) (f_Mo_likelyAt a1 P) Q) : Go G c_Mo_likelyAt "YawnRouteModel" 5 (some .long) false d nOb nOb Q 0 [(0, .ref (ad E 109)), (1, .int a1)] [] P E := by
  rw [f_Mo_likelyAt] at h
  refine Go.lconst (n := 0) (0 : Int64) (by decide +kernel) rfl ?_
  refine Go.lstore_n (k := 2) (i := 2) [(2, .long (0 : Int64)), (0, .ref (ad E 109)), (1, .int a1)] (by decide +kernel) rfl (by decide) rfl ?_
  refine Go.iconst (n := 1) (1 : Int32) (by decide +kernel) rfl ?_
  refine Go.istore (i := 4) [(4, .int (1 : Int32)), (2, .long (0 : Int64)), (0, .ref (ad E 109)), (1, .int a1)] (by decide +kernel) (by decide) rfl ?_
  refine Go.sub [2, 3, 1, 0] [(0, .ref (ad E 109)), (1, .int a1), (2, .long (0 : Int64)), (4, .int (1 : Int32))] rfl ?_
  exact t_l_Mo_likelyAt_5 hG hE d hd FU a1 (0 : Int64) (1 : Int32) h
theorem e_Mo_likelyAt {G : GX} (hG : GOK G) {E : EV} (hE : E0 E) (d : Nat) (hd : 2 ≤ d) (a1 : Int32) (P : PM) {Q : QT} (h : St E (rL P) (f_Mo_likelyAt a1 P) Q) : Con G y_Mo_likelyAt cw_Mo_likelyAt d nOb nOb [.ref (ad E 109), .int a1] P E Q :=
  Con.of hG (by decide +kernel) rfl (fun h => by cases h) hE.2 (Nat.le_of_ble_eq_true rfl) (t_f_Mo_likelyAt hG hE d hd a1 h)
abbrev c_Mo_common : ByteArray := prog_14_method_118_code
abbrev y_Mo_common : MethodName := ⟨"YawnRouteModel", "common", "(JJ)J"⟩
abbrev cw_Mo_common : Cond := .code y_Mo_common c_Mo_common 4 (some .long)
theorem w_Mo_common : SW y_Mo_common c_Mo_common 4 (some .long) 2 := ⟨lk1903, lk14, lk1904, ⟨by decide, by decide, by decide +kernel⟩, by decide⟩
noncomputable def f_Mo_common (rec : Nat → Int64 → Int64 → PM → Option Int64) (a0 : Int64) (a2 : Int64) (P : PM) : Option Int64 := if (lg_cmp a2 (0 : Int64)) = (0 : Int32) then (some a0) else (ck (decide (¬ a2 = 0)) ((rec 0 a2 (a0 - a0 / a2 * a2) P).bind (fun v3 => some v3)))
theorem t_f_Mo_common {G : GX} (hG : GOK G) {E : EV} (hE : E0 E) (d : Nat) (hd : 1 ≤ d) {P : PM} {Q : QT} (rec : Nat → Int64 → Int64 → PM → Option Int64) (hr0 : ∀ (a0 : Int64) (a1 : Int64) (P : PM) {Q : QT}, St E (rL P) (rec 0 a0 a1 P) Q → Con G y_Mo_common cw_Mo_common (d - 1) nOb nOb [.long a0, .long a1] P E Q) (a0 : Int64) (a2 : Int64) (h : St E (rL P) (f_Mo_common rec a0 a2 P) Q) : Go G c_Mo_common "YawnRouteModel" 4 (some .long) false d nOb nOb Q 0 [(0, .long a0), (2, .long a2)] [] P E := by
  rw [f_Mo_common] at h
  refine Go.lload_n (k := 2) (i := 2) 1 (by decide +kernel) rfl rfl ?_
  refine Go.lconst (n := 0) (0 : Int64) (by decide +kernel) rfl ?_
  refine Go.lcmp (by decide +kernel) ?_
  refine Go.if_ne (off := 7) 10 (by decide +kernel) (by decide) (fun c1 => ?_) (fun c1 => ?_)
  · rw [if_neg c1] at h
    refine Go.lload_n (k := 2) (i := 2) 1 (by decide +kernel) rfl rfl ?_
    refine Go.lload_n (k := 0) (i := 0) 0 (by decide +kernel) rfl rfl ?_
    refine Go.lload_n (k := 2) (i := 2) 1 (by decide +kernel) rfl rfl ?_
    obtain ⟨b2, h⟩ := St.ck h
    refine Go.lrem (by decide +kernel) (of_decide_eq_true b2) ?_
    obtain ⟨v3, hv3, h⟩ := St.bind h
    refine Go.cS_l (P1 := P) (v := v3) (d - 1) [.long a2, .long (a0 - a0 / a2 * a2)] hE w_Mo_common (hr0 a2 (a0 - a0 / a2 * a2) P ⟨_, hv3, rfl, rfl, rfl⟩) lk1902 rfl (by omega) (Nat.le_of_ble_eq_true rfl) (by decide +kernel) _ rfl ?_
    exact Go.lret rfl hE.2 (by decide +kernel) (St.fL h)
  · rw [if_pos c1] at h
    refine Go.lload_n (k := 0) (i := 0) 0 (by decide +kernel) rfl rfl ?_
    refine Go.goto (off := 10) 17 (by decide +kernel) (by decide) ?_
    exact Go.lret rfl hE.2 (by decide +kernel) (St.fL h)
noncomputable def gr_Mo_common : Nat → Nat → Int64 → Int64 → PM → Option Int64
  | 0, _, _, _, _ => none
  | n + 1, k, a0, a1, P => match k with
    | _ => f_Mo_common (gr_Mo_common n) a0 a1 P
noncomputable def g_Mo_common (a0 : Int64) (a2 : Int64) (P : PM) : Option Int64 := gr_Mo_common FR 0 a0 a2 P
theorem eg_Mo_common {G : GX} (hG : GOK G) {E : EV} (hE : E0 E) : ∀ (n d : Nat), n + 1 ≤ d → (∀ (a0 : Int64) (a1 : Int64) (P : PM) {Q : QT}, St E (rL P) (gr_Mo_common n 0 a0 a1 P) Q → Con G y_Mo_common cw_Mo_common d nOb nOb [.long a0, .long a1] P E Q) := by
  intro n
  induction n with
  | zero =>
    intro d hd
    exact fun _ _ P Q h => St.none_ h
  | succ n ih =>
    intro d hd
    have hh := ih (d - 1) (by omega)
    exact fun b0 b1 P Q h => Con.of hG (by decide +kernel) rfl (fun h => by cases h) hE.2 (Nat.le_of_ble_eq_true rfl) (t_f_Mo_common hG hE d (by omega) (gr_Mo_common n) (fun b0 b1 P Q h => hh b0 b1 P h) b0 b1 h)
theorem e_Mo_common {G : GX} (hG : GOK G) {E : EV} (hE : E0 E) (d : Nat) (hd : 101 ≤ d) (a0 : Int64) (a2 : Int64) (P : PM) {Q : QT} (h : St E (rL P) (g_Mo_common a0 a2 P) Q) : Con G y_Mo_common cw_Mo_common d nOb nOb [.long a0, .long a2] P E Q :=
  (eg_Mo_common hG hE FR d (by rw [FR_eq]; omega)) a0 a2 P h
abbrev c_Mo_chance : ByteArray := prog_14_method_119_code
abbrev y_Mo_chance : MethodName := ⟨"YawnRouteModel", "chance", "(III)J"⟩
abbrev cw_Mo_chance : Cond := .code y_Mo_chance c_Mo_chance 6 (some .long)
theorem w_Mo_chance : VW 12 y_Mo_chance c_Mo_chance 6 (some .long) 3 := ⟨by decide, lk1880, lk1881, lk14, lk1882, ⟨by decide, by decide, by decide +kernel⟩, by decide⟩
noncomputable def j_Mo_chance_84 (x2 : Int32) (x4 : Int64) (s0 : Int64) (P : PM) : Option (Int64 × PM) := (f_Mo_wholeOf x2 P).bind (fun v1 => (g_Mo_common x4 v1 P).bind (fun v2 => ck (decide (¬ v2 = 0)) (some ((s0 / v2), P))))
noncomputable def f_Mo_chance (a1 : Int32) (a2 : Int32) (a3 : Int32) (P : PM) : Option (Int64 × PM) := (f_Mo_isStation (a1.toInt64) (u1 P 109 0 (0 : Int32))).bind (fun v1 => if v1 = (0 : Int32) then (some ((-2 : Int64), (u1 P 109 0 (0 : Int32)))) else (if (f_Mo_within (a3.toInt64) (0 : Int64) (1 : Int64) (u1 P 109 0 (0 : Int32))) = (0 : Int32) then (some ((-2 : Int64), (u1 P 109 0 (0 : Int32)))) else (if (f_Mo_within (a2.toInt64) (0 : Int64) (6 : Int64) (u1 P 109 0 (0 : Int32))) = (0 : Int32) then (some ((-3 : Int64), (u1 P 109 0 (0 : Int32)))) else (if ((u1 P 109 0 (0 : Int32)).1 110 (113 : Int32).toNatClampNeg) = (-1 : Int32) then (some ((-5 : Int64), (u1 P 109 0 (0 : Int32)))) else ((f_Mo_laysLikely a2 (u1 P 109 0 (0 : Int32))).bind (fun P6 => (f_Mo_likelyAt a1 P6).bind (fun v7 => if a3 = (0 : Int32) then (j_Mo_chance_84 a2 v7 v7 P6) else ((f_Mo_wholeOf a2 P6).bind (fun v9 => j_Mo_chance_84 a2 v7 v9 P6)))))))))
theorem t_j_Mo_chance_84 {G : GX} (hG : GOK G) {E : EV} (hE : E0 E) (d : Nat) (hd : 102 ≤ d) {Q : QT} (x2 : Int32) (x4 : Int64) (s0 : Int64) (P : PM) (h : St E rLP (j_Mo_chance_84 x2 x4 s0 P) Q) : Go G c_Mo_chance "YawnRouteModel" 6 (some .long) false d nOb nOb Q 84 [(2, .int x2), (4, .long x4)] [.long s0] P E := by
  rw [j_Mo_chance_84] at h
  refine Go.lload (i := 4) 1 (by decide +kernel) rfl ?_
  refine Go.iload_n (k := 2) (i := 2) 0 (by decide +kernel) rfl rfl ?_
  obtain ⟨v1, hv1, h⟩ := St.bind h
  refine Go.cS_l (P1 := P) (v := v1) (d - 1) [.int x2] hE w_Mo_wholeOf (e_Mo_wholeOf hG hE (d - 1) (by omega) x2 P ⟨_, hv1, rfl, rfl, rfl⟩) lk1899 rfl (by omega) (Nat.le_of_ble_eq_true rfl) (by decide +kernel) _ rfl ?_
  obtain ⟨v2, hv2, h⟩ := St.bind h
  refine Go.cS_l (P1 := P) (v := v2) (d - 1) [.long x4, .long v1] hE w_Mo_common (e_Mo_common hG hE (d - 1) (by omega) x4 v1 P ⟨_, hv2, rfl, rfl, rfl⟩) lk1902 rfl (by omega) (Nat.le_of_ble_eq_true rfl) (by decide +kernel) _ rfl ?_
  obtain ⟨b3, h⟩ := St.ck h
  refine Go.ldiv (by decide +kernel) (of_decide_eq_true b3) ?_
  exact Go.lret rfl hE.2 (by decide +kernel) (St.fLP h)
theorem t_f_Mo_chance {G : GX} (hG : GOK G) {E : EV} (hE : E0 E) (d : Nat) (hd : 102 ≤ d) {Q : QT} (a1 : Int32) (a2 : Int32) (a3 : Int32) (P : PM) (h : St E rLP (f_Mo_chance a1 a2 a3 P) Q) : Go G c_Mo_chance "YawnRouteModel" 6 (some .long) false d nOb nOb Q 0 [(0, .ref (ad E 109)), (1, .int a1), (2, .int a2), (3, .int a3)] [] P E := by
  rw [f_Mo_chance] at h
  refine Go.aload_n (k := 0) (i := 0) 0 (by decide +kernel) rfl rfl ?_
  refine Go.iconst (n := 0) (0 : Int32) (by decide +kernel) rfl ?_
  refine Go.put 109 0 (by decide) (by decide) sh109 (ltO hE sh109) (Or.inl rfl) rfl rfl rfl lk1330 (by decide +kernel) ?_
  refine Go.aload_n (k := 0) (i := 0) 0 (by decide +kernel) rfl rfl ?_
  refine Go.iload_n (k := 1) (i := 1) 1 (by decide +kernel) rfl rfl ?_
  refine Go.i2l (by decide +kernel) ?_
  obtain ⟨v1, hv1, h⟩ := St.bind h
  refine Go.cV_i (P1 := (u1 P 109 0 (0 : Int32))) (v := v1) (d - 1) 109 [.long (a1.toInt64)] sh109 hE w_Mo_isStation (e_Mo_isStation hG hE (d - 1) (by omega) (a1.toInt64) (u1 P 109 0 (0 : Int32)) ⟨_, hv1, rfl, rfl, rfl⟩) lk1555 rfl (by omega) (Nat.le_of_ble_eq_true rfl) (by decide +kernel) _ rfl ?_
  refine Go.if_eq (off := 13) 24 (by decide +kernel) (by decide) (fun c2 => ?_) (fun c2 => ?_)
  · rw [if_pos c2] at h
    refine Go.ldc2 (-2 : Int64) lk1883 (by decide +kernel) ?_
    exact Go.lret rfl hE.2 (by decide +kernel) (St.fLP h)
  · rw [if_neg c2] at h
    refine Go.iload_n (k := 3) (i := 3) 3 (by decide +kernel) rfl rfl ?_
    refine Go.i2l (by decide +kernel) ?_
    refine Go.lconst (n := 0) (0 : Int64) (by decide +kernel) rfl ?_
    refine Go.lconst (n := 1) (1 : Int64) (by decide +kernel) rfl ?_
    refine Go.cS_i (P1 := (u1 P 109 0 (0 : Int32))) (v := (f_Mo_within (a3.toInt64) (0 : Int64) (1 : Int64) (u1 P 109 0 (0 : Int32)))) (d - 1) [.long (a3.toInt64), .long (0 : Int64), .long (1 : Int64)] hE w_Mo_within (e_Mo_within hG hE (d - 1) (by omega) (a3.toInt64) (0 : Int64) (1 : Int64) (u1 P 109 0 (0 : Int32)) ⟨rfl, rfl, rfl⟩) lk1438 rfl (by omega) (Nat.le_of_ble_eq_true rfl) (by decide +kernel) _ rfl ?_
    refine Go.if_ne (off := 7) 28 (by decide +kernel) (by decide) (fun c3 => ?_) (fun c3 => ?_)
    · rw [if_neg c3] at h
      refine Go.iload_n (k := 2) (i := 2) 2 (by decide +kernel) rfl rfl ?_
      refine Go.i2l (by decide +kernel) ?_
      refine Go.lconst (n := 0) (0 : Int64) (by decide +kernel) rfl ?_
      refine Go.ldc2 (6 : Int64) lk1884 (by decide +kernel) ?_
      refine Go.cS_i (P1 := (u1 P 109 0 (0 : Int32))) (v := (f_Mo_within (a2.toInt64) (0 : Int64) (6 : Int64) (u1 P 109 0 (0 : Int32)))) (d - 1) [.long (a2.toInt64), .long (0 : Int64), .long (6 : Int64)] hE w_Mo_within (e_Mo_within hG hE (d - 1) (by omega) (a2.toInt64) (0 : Int64) (6 : Int64) (u1 P 109 0 (0 : Int32)) ⟨rfl, rfl, rfl⟩) lk1438 rfl (by omega) (Nat.le_of_ble_eq_true rfl) (by decide +kernel) _ rfl ?_
      refine Go.if_ne (off := 7) 44 (by decide +kernel) (by decide) (fun c4 => ?_) (fun c4 => ?_)
      · rw [if_neg c4] at h
        refine Go.aload_n (k := 0) (i := 0) 0 (by decide +kernel) rfl rfl ?_
        refine Go.get 109 1 (.ref (ad E 110)) (by decide) (by decide) sh109 (ltO hE sh109) (vlR hE rfl rfl) lk1331 (by decide +kernel) ?_
        refine Go.bipush (n := 113) (113 : Int32) (by decide +kernel) (by decide) ?_
        refine Go.iaload 110 3408 sh110 (ltA hE sh110 (by decide)) (vp_in_iff.mpr (by decide)) (by decide +kernel) ?_
        refine Go.iconst (n := -1) (-1 : Int32) (by decide +kernel) rfl ?_
        refine Go.icmp_ne (off := 7) 59 (by decide +kernel) (by decide) (fun c5 => ?_) (fun c5 => ?_)
        · rw [if_neg c5] at h
          refine Go.aload_n (k := 0) (i := 0) 0 (by decide +kernel) rfl rfl ?_
          refine Go.iload_n (k := 2) (i := 2) 2 (by decide +kernel) rfl rfl ?_
          obtain ⟨P6, hP6, h⟩ := St.bind h
          refine Go.cV_v (P1 := P6) (d - 1) 109 [.int a2] sh109 hE w_Mo_laysLikely (e_Mo_laysLikely hG hE (d - 1) (by omega) a2 (u1 P 109 0 (0 : Int32)) ⟨_, hP6, rfl, rfl, rfl⟩) lk1887 rfl (by omega) (Nat.le_of_ble_eq_true rfl) (by decide +kernel) _ rfl ?_
          refine Go.aload_n (k := 0) (i := 0) 0 (by decide +kernel) rfl rfl ?_
          refine Go.iload_n (k := 1) (i := 1) 1 (by decide +kernel) rfl rfl ?_
          obtain ⟨v7, hv7, h⟩ := St.bind h
          refine Go.cV_l (P1 := P6) (v := v7) (d - 1) 109 [.int a1] sh109 hE w_Mo_likelyAt (e_Mo_likelyAt hG hE (d - 1) (by omega) a1 P6 ⟨_, hv7, rfl, rfl, rfl⟩) lk1895 rfl (by omega) (Nat.le_of_ble_eq_true rfl) (by decide +kernel) _ rfl ?_
          refine Go.lstore (i := 4) [(4, .long v7), (0, .ref (ad E 109)), (1, .int a1), (2, .int a2), (3, .int a3)] (by decide +kernel) (by decide) rfl ?_
          refine Go.iload_n (k := 3) (i := 3) 4 (by decide +kernel) rfl rfl ?_
          refine Go.if_ne (off := 8) 80 (by decide +kernel) (by decide) (fun c8 => ?_) (fun c8 => ?_)
          · rw [if_neg c8] at h
            refine Go.iload_n (k := 2) (i := 2) 3 (by decide +kernel) rfl rfl ?_
            obtain ⟨v9, hv9, h⟩ := St.bind h
            refine Go.cS_l (P1 := P6) (v := v9) (d - 1) [.int a2] hE w_Mo_wholeOf (e_Mo_wholeOf hG hE (d - 1) (by omega) a2 P6 ⟨_, hv9, rfl, rfl, rfl⟩) lk1899 rfl (by omega) (Nat.le_of_ble_eq_true rfl) (by decide +kernel) _ rfl ?_
            refine Go.sub [3, 0] [(2, .int a2), (4, .long v7)] rfl ?_
            exact t_j_Mo_chance_84 hG hE d hd a2 v7 v9 P6 h
          · rw [if_pos c8] at h
            refine Go.lload (i := 4) 0 (by decide +kernel) rfl ?_
            refine Go.goto (off := 7) 84 (by decide +kernel) (by decide) ?_
            refine Go.sub [3, 0] [(2, .int a2), (4, .long v7)] rfl ?_
            exact t_j_Mo_chance_84 hG hE d hd a2 v7 v7 P6 h
        · rw [if_pos c5] at h
          refine Go.ldc2 (-5 : Int64) lk1886 (by decide +kernel) ?_
          exact Go.lret rfl hE.2 (by decide +kernel) (St.fLP h)
      · rw [if_pos c4] at h
        refine Go.ldc2 (-3 : Int64) lk1885 (by decide +kernel) ?_
        exact Go.lret rfl hE.2 (by decide +kernel) (St.fLP h)
    · rw [if_pos c3] at h
      refine Go.ldc2 (-2 : Int64) lk1883 (by decide +kernel) ?_
      exact Go.lret rfl hE.2 (by decide +kernel) (St.fLP h)
theorem e_Mo_chance {G : GX} (hG : GOK G) {E : EV} (hE : E0 E) (d : Nat) (hd : 102 ≤ d) (a1 : Int32) (a2 : Int32) (a3 : Int32) (P : PM) {Q : QT} (h : St E rLP (f_Mo_chance a1 a2 a3 P) Q) : Con G y_Mo_chance cw_Mo_chance d nOb nOb [.ref (ad E 109), .int a1, .int a2, .int a3] P E Q :=
  Con.of hG (by decide +kernel) rfl (fun h => by cases h) hE.2 (Nat.le_of_ble_eq_true rfl) (t_f_Mo_chance hG hE d hd a1 a2 a3 P h)
