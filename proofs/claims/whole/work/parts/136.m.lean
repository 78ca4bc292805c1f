/-! methods as functions, by program: Mo_forcesFrom Mo_forcesTo Mo_childCant Mo_forcedIn Mo_forces Mo_best Mo_wholeOf -/
abbrev c_Mo_forcesFrom : ByteArray := prog_14_method_108_code
abbrev y_Mo_forcesFrom : MethodName := ⟨"YawnRouteModel", "forcesFrom", "(IIIII)Z"⟩
abbrev cw_Mo_forcesFrom : Cond := .code y_Mo_forcesFrom c_Mo_forcesFrom 7 (some .boolean)
theorem w_Mo_forcesFrom : VW 12 y_Mo_forcesFrom c_Mo_forcesFrom 7 (some .boolean) 5 := ⟨by decide, lk1865, lp110_, lk14, lk1866, ⟨by decide, by decide, by decide +kernel⟩, by decide⟩
abbrev c_Mo_forcesTo : ByteArray := prog_14_method_109_code
abbrev y_Mo_forcesTo : MethodName := ⟨"YawnRouteModel", "forcesTo", "(IIIIII)Z"⟩
abbrev cw_Mo_forcesTo : Cond := .code y_Mo_forcesTo c_Mo_forcesTo 7 (some .boolean)
theorem w_Mo_forcesTo : VW 12 y_Mo_forcesTo c_Mo_forcesTo 7 (some .boolean) 6 := ⟨by decide, lk1873, lp112_, lk14, lk1874, ⟨by decide, by decide, by decide +kernel⟩, by decide⟩
abbrev c_Mo_childCant : ByteArray := prog_14_method_110_code
abbrev y_Mo_childCant : MethodName := ⟨"YawnRouteModel", "childCant", "(IIIII)Z"⟩
abbrev cw_Mo_childCant : Cond := .code y_Mo_childCant c_Mo_childCant 7 (some .boolean)
theorem w_Mo_childCant : VW 12 y_Mo_childCant c_Mo_childCant 7 (some .boolean) 5 := ⟨by decide, lk1869, lp111_, lk14, lk1870, ⟨by decide, by decide, by decide +kernel⟩, by decide⟩
noncomputable def l_Mo_forcesFrom_36 (rec : Nat → Int32 → Int32 → Int32 → Int32 → Int32 → Int32 → PM → Option (Int32 × PM)) : Nat → Int32 → Int32 → Int32 → Int32 → Int32 → Int32 → PM → Option (Int32 × PM)
  | 0, _, _, _, _, _, _, _ => none
  | n + 1, x1, x2, x3, x4, x5, x6, P => if (P.1 110 (1 : Int32).toNatClampNeg) ≤ x6 then (some ((0 : Int32), P)) else (bd2 (rec 1 x1 x2 x3 x6 x4 x5 P) (fun v2 P3 => if v2 = (0 : Int32) then (l_Mo_forcesFrom_36 rec n x1 x2 x3 x4 x5 (x6 + (1 : Int32)) P3) else (some ((1 : Int32), P3))))
noncomputable def f_Mo_forcesFrom (rec : Nat → Int32 → Int32 → Int32 → Int32 → Int32 → Int32 → PM → Option (Int32 × PM)) (a1 : Int32) (a2 : Int32) (a3 : Int32) (a4 : Int32) (a5 : Int32) (P : PM) : Option (Int32 × PM) := if a1 = a4 then (some ((1 : Int32), P)) else (if a5 = (0 : Int32) then (some ((0 : Int32), P)) else (bd2 (rec 2 a1 a2 a3 a4 (a5 - (1 : Int32)) (0 : Int32) P) (fun v3 P4 => if v3 = (0 : Int32) then (l_Mo_forcesFrom_36 rec FU a1 a2 a3 a4 a5 (0 : Int32) P4) else (some ((1 : Int32), P4)))))
noncomputable def j_Mo_forcesTo_56 (rec : Nat → Int32 → Int32 → Int32 → Int32 → Int32 → Int32 → PM → Option (Int32 × PM)) (P : PM) : Option (Int32 × PM) := some ((1 : Int32), P)
noncomputable def f_Mo_forcesTo (rec : Nat → Int32 → Int32 → Int32 → Int32 → Int32 → Int32 → PM → Option (Int32 × PM)) (a1 : Int32) (a2 : Int32) (a3 : Int32) (a4 : Int32) (a5 : Int32) (a6 : Int32) (P : PM) : Option (Int32 × PM) := bd2 (f_Mo_whyBy a1 a2 a4 a3 P) (fun v1 P2 => if v1 = (0 : Int32) then (bd2 (f_Mo_passedTo a1 a2 a4 P2) (fun v4 P5 => if v4 = (0 : Int32) then (some ((0 : Int32), P5)) else (if a4 = a5 then (j_Mo_forcesTo_56 rec P5) else (bd2 (f_Mo_passedTo a1 a2 a4 P5) (fun v8 P9 => bd2 (rec 2 a4 v8 a3 a5 (a6 - (1 : Int32)) (0 : Int32) P9) (fun v10 P11 => if v10 = (0 : Int32) then (some ((0 : Int32), P11)) else (j_Mo_forcesTo_56 rec P11))))))) else (some ((0 : Int32), P2)))
noncomputable def j_Mo_childCant_68 (rec : Nat → Int32 → Int32 → Int32 → Int32 → Int32 → Int32 → PM → Option (Int32 × PM)) (k20 : Int32 → Int32 → Int32 → Int32 → Int32 → Int32 → PM → Option (Int32 × PM)) (x1 : Int32) (x2 : Int32) (x3 : Int32) (x4 : Int32) (x5 : Int32) (x6 : Int32) (P : PM) : Option (Int32 × PM) := k20 x1 x2 x3 x4 x5 (x6 + (1 : Int32)) P
noncomputable def l_Mo_childCant_20 (rec : Nat → Int32 → Int32 → Int32 → Int32 → Int32 → Int32 → PM → Option (Int32 × PM)) : Nat → Int32 → Int32 → Int32 → Int32 → Int32 → Int32 → PM → Option (Int32 × PM)
  | 0, _, _, _, _, _, _, _ => none
  | n + 1, x1, x2, x3, x4, x5, x6, P => if (P.1 110 (1 : Int32).toNatClampNeg) ≤ x6 then (bd2 (rec 0 x1 x2 x3 x4 x5 (0 : Int32) P) (fun v2 P3 => ck (isz v2) (some (v2, P3)))) else (if x6 = x1 then (j_Mo_childCant_68 rec (fun z0 z1 z2 z3 z4 z5 Pz => l_Mo_childCant_20 rec n z0 z1 z2 z3 z4 z5 Pz) x1 x2 x3 x4 x5 x6 P) else (if (f_Mo_isIn (x3.toInt64) x6 P) = (0 : Int32) then (bd2 (rec 0 x1 x2 (x3 ||| ((1 : Int32) <<< (x6 &&& 31))) x4 x5 (0 : Int32) P) (fun v7 P8 => if v7 = (0 : Int32) then (some ((0 : Int32), P8)) else (j_Mo_childCant_68 rec (fun z0 z1 z2 z3 z4 z5 Pz => l_Mo_childCant_20 rec n z0 z1 z2 z3 z4 z5 Pz) x1 x2 x3 x4 x5 x6 P8))) else (j_Mo_childCant_68 rec (fun z0 z1 z2 z3 z4 z5 Pz => l_Mo_childCant_20 rec n z0 z1 z2 z3 z4 z5 Pz) x1 x2 x3 x4 x5 x6 P)))
noncomputable def f_Mo_childCant (rec : Nat → Int32 → Int32 → Int32 → Int32 → Int32 → Int32 → PM → Option (Int32 × PM)) (a1 : Int32) (a2 : Int32) (a3 : Int32) (a4 : Int32) (a5 : Int32) (P : PM) : Option (Int32 × PM) := if a5 = (0 : Int32) then (if a1 = a4 then (some ((1 : Int32), P)) else (some ((0 : Int32), P))) else (l_Mo_childCant_20 rec FU a1 a2 a3 a4 a5 (0 : Int32) P)
theorem t_l_Mo_forcesFrom_36 {G : GX} (hG : GOK G) {E : EV} (hE : E0 E) (d : Nat) (hd : 4 ≤ d) {Q : QT} (rec : Nat → Int32 → Int32 → Int32 → Int32 → Int32 → Int32 → PM → Option (Int32 × PM)) (hr0 : ∀ (a0 : Int32) (a1 : Int32) (a2 : Int32) (a3 : Int32) (a4 : Int32) (P : PM) {Q : QT}, St E rIP (rec 0 a0 a1 a2 a3 a4 (0 : Int32) P) Q → Con G y_Mo_forcesFrom cw_Mo_forcesFrom (d - 1) nOb nOb [.ref (ad E 109), .int a0, .int a1, .int a2, .int a3, .int a4] P E Q) (hr1 : ∀ (a0 : Int32) (a1 : Int32) (a2 : Int32) (a3 : Int32) (a4 : Int32) (a5 : Int32) (P : PM) {Q : QT}, St E rIP (rec 1 a0 a1 a2 a3 a4 a5 P) Q → Con G y_Mo_forcesTo cw_Mo_forcesTo (d - 1) nOb nOb [.ref (ad E 109), .int a0, .int a1, .int a2, .int a3, .int a4, .int a5] P E Q) (hr2 : ∀ (a0 : Int32) (a1 : Int32) (a2 : Int32) (a3 : Int32) (a4 : Int32) (P : PM) {Q : QT}, St E rIP (rec 2 a0 a1 a2 a3 a4 (0 : Int32) P) Q → Con G y_Mo_childCant cw_Mo_childCant (d - 1) nOb nOb [.ref (ad E 109), .int a0, .int a1, .int a2, .int a3, .int a4] P E Q) : ∀ (n : Nat) (x1 : Int32) (x2 : Int32) (x3 : Int32) (x4 : Int32) (x5 : Int32) (x6 : Int32) (P : PM), St E rIP (l_Mo_forcesFrom_36 rec n x1 x2 x3 x4 x5 x6 P) Q → Go G c_Mo_forcesFrom "YawnRouteModel" 7 (some .boolean) false d nOb nOb Q 36 [(0, .ref (ad E 109)), (1, .int x1), (2, .int x2), (3, .int x3), (4, .int x4), (5, .int x5), (6, .int x6)] [] P E := by
  intro n
  induction n with
  | zero =>
    intro x1 x2 x3 x4 x5 x6 P h
    rw [l_Mo_forcesFrom_36] at h
    exact St.none_ h
  | succ n ih =>
    intro x1 x2 x3 x4 x5 x6 P h
    rw [l_Mo_forcesFrom_36] at h
    refine Go.iload (i := 6) 6 (by decide +kernel) rfl ?_
    refine Go.aload_n (k := 0) (i := 0) 0 (by decide +kernel) rfl rfl ?_
    refine Go.get 109 1 (.ref (ad E 110)) (by decide) (by decide) sh109 (ltO hE sh109) (vlR hE rfl rfl) lk1331 (by decide +kernel) ?_
    refine Go.iconst (n := 1) (1 : Int32) (by decide +kernel) rfl ?_
    refine Go.iaload 110 3408 sh110 (ltA hE sh110 (by decide)) (vp_in_iff.mpr (by decide)) (by decide +kernel) ?_
    refine Go.icmp_ge (off := 27) 71 (by decide +kernel) (by decide) (fun c1 => ?_) (fun c1 => ?_)
    · rw [if_pos c1] at h
      refine Go.iconst (n := 0) (0 : Int32) (by decide +kernel) rfl ?_
      exact Go.iret rfl rfl hE.2 (by decide +kernel) (St.fIP h)
    · rw [if_neg c1] at h
      refine Go.aload_n (k := 0) (i := 0) 0 (by decide +kernel) rfl rfl ?_
      refine Go.iload_n (k := 1) (i := 1) 1 (by decide +kernel) rfl rfl ?_
      refine Go.iload_n (k := 2) (i := 2) 2 (by decide +kernel) rfl rfl ?_
      refine Go.iload_n (k := 3) (i := 3) 3 (by decide +kernel) rfl rfl ?_
      refine Go.iload (i := 6) 6 (by decide +kernel) rfl ?_
      refine Go.iload (i := 4) 4 (by decide +kernel) rfl ?_
      refine Go.iload (i := 5) 5 (by decide +kernel) rfl ?_
      obtain ⟨v2, P3, hv2, h⟩ := St.bd2 h
      refine Go.cV_i (P1 := P3) (v := v2) (d - 1) 109 [.int x1, .int x2, .int x3, .int x6, .int x4, .int x5] sh109 hE w_Mo_forcesTo (hr1 x1 x2 x3 x6 x4 x5 P ⟨_, hv2, rfl, rfl, rfl⟩) lk1871 rfl (by omega) (Nat.le_of_ble_eq_true rfl) (by decide +kernel) _ rfl ?_
      refine Go.if_eq (off := 5) 65 (by decide +kernel) (by decide) (fun c4 => ?_) (fun c4 => ?_)
      · rw [if_pos c4] at h
        refine Go.iinc (i := 6) (n := 1) 6 (x6 + (1 : Int32)) [(6, .int (x6 + (1 : Int32))), (0, .ref (ad E 109)), (1, .int x1), (2, .int x2), (3, .int x3), (4, .int x4), (5, .int x5)] (by decide +kernel) rfl rfl (by decide) rfl ?_
        refine Go.goto (off := -32) 36 (by decide +kernel) (by decide) ?_
        refine Go.sub [1, 2, 3, 4, 5, 6, 0] [(0, .ref (ad E 109)), (1, .int x1), (2, .int x2), (3, .int x3), (4, .int x4), (5, .int x5), (6, .int (x6 + (1 : Int32)))] rfl ?_
        exact ih x1 x2 x3 x4 x5 (x6 + (1 : Int32)) P3 h
      · rw [if_neg c4] at h
        refine Go.iconst (n := 1) (1 : Int32) (by decide +kernel) rfl ?_
        exact Go.iret rfl rfl hE.2 (by decide +kernel) (St.fIP h)
theorem t_f_Mo_forcesFrom {G : GX} (hG : GOK G) {E : EV} (hE : E0 E) (d : Nat) (hd : 4 ≤ d) {Q : QT} (rec : Nat → Int32 → Int32 → Int32 → Int32 → Int32 → Int32 → PM → Option (Int32 × PM)) (hr0 : ∀ (a0 : Int32) (a1 : Int32) (a2 : Int32) (a3 : Int32) (a4 : Int32) (P : PM) {Q : QT}, St E rIP (rec 0 a0 a1 a2 a3 a4 (0 : Int32) P) Q → Con G y_Mo_forcesFrom cw_Mo_forcesFrom (d - 1) nOb nOb [.ref (ad E 109), .int a0, .int a1, .int a2, .int a3, .int a4] P E Q) (hr1 : ∀ (a0 : Int32) (a1 : Int32) (a2 : Int32) (a3 : Int32) (a4 : Int32) (a5 : Int32) (P : PM) {Q : QT}, St E rIP (rec 1 a0 a1 a2 a3 a4 a5 P) Q → Con G y_Mo_forcesTo cw_Mo_forcesTo (d - 1) nOb nOb [.ref (ad E 109), .int a0, .int a1, .int a2, .int a3, .int a4, .int a5] P E Q) (hr2 : ∀ (a0 : Int32) (a1 : Int32) (a2 : Int32) (a3 : Int32) (a4 : Int32) (P : PM) {Q : QT}, St E rIP (rec 2 a0 a1 a2 a3 a4 (0 : Int32) P) Q → Con G y_Mo_childCant cw_Mo_childCant (d - 1) nOb nOb [.ref (ad E 109), .int a0, .int a1, .int a2, .int a3, .int a4] P E Q) (a1 : Int32) (a2 : Int32) (a3 : Int32) (a4 : Int32) (a5 : Int32) (P : PM) (h : St E rIP (f_Mo_forcesFrom rec a1 a2 a3 a4 a5 P) Q) : Go G c_Mo_forcesFrom "YawnRouteModel" 7 (some .boolean) false d nOb nOb Q 0 [(0, .ref (ad E 109)), (1, .int a1), (2, .int a2), (3, .int a3), (4, .int a4), (5, .int a5)] [] P E := by
  rw [f_Mo_forcesFrom] at h
  refine Go.iload_n (k := 1) (i := 1) 1 (by decide +kernel) rfl rfl ?_
  refine Go.iload (i := 4) 4 (by decide +kernel) rfl ?_
  refine Go.icmp_ne (off := 5) 8 (by decide +kernel) (by decide) (fun c1 => ?_) (fun c1 => ?_)
  · rw [if_neg c1] at h
    refine Go.iload (i := 5) 5 (by decide +kernel) rfl ?_
    refine Go.if_ne (off := 5) 15 (by decide +kernel) (by decide) (fun c2 => ?_) (fun c2 => ?_)
    · rw [if_neg c2] at h
      refine Go.aload_n (k := 0) (i := 0) 0 (by decide +kernel) rfl rfl ?_
      refine Go.iload_n (k := 1) (i := 1) 1 (by decide +kernel) rfl rfl ?_
      refine Go.iload_n (k := 2) (i := 2) 2 (by decide +kernel) rfl rfl ?_
      refine Go.iload_n (k := 3) (i := 3) 3 (by decide +kernel) rfl rfl ?_
      refine Go.iload (i := 4) 4 (by decide +kernel) rfl ?_
      refine Go.iload (i := 5) 5 (by decide +kernel) rfl ?_
      refine Go.iconst (n := 1) (1 : Int32) (by decide +kernel) rfl ?_
      refine Go.isub (by decide +kernel) ?_
      obtain ⟨v3, P4, hv3, h⟩ := St.bd2 h
      refine Go.cV_i (P1 := P4) (v := v3) (d - 1) 109 [.int a1, .int a2, .int a3, .int a4, .int (a5 - (1 : Int32))] sh109 hE w_Mo_childCant (hr2 a1 a2 a3 a4 (a5 - (1 : Int32)) P ⟨_, hv3, rfl, rfl, rfl⟩) lk1867 rfl (by omega) (Nat.le_of_ble_eq_true rfl) (by decide +kernel) _ rfl ?_
      refine Go.if_eq (off := 5) 33 (by decide +kernel) (by decide) (fun c5 => ?_) (fun c5 => ?_)
      · rw [if_pos c5] at h
        refine Go.iconst (n := 0) (0 : Int32) (by decide +kernel) rfl ?_
        refine Go.istore (i := 6) [(6, .int (0 : Int32)), (0, .ref (ad E 109)), (1, .int a1), (2, .int a2), (3, .int a3), (4, .int a4), (5, .int a5)] (by decide +kernel) (by decide) rfl ?_
        refine Go.sub [1, 2, 3, 4, 5, 6, 0] [(0, .ref (ad E 109)), (1, .int a1), (2, .int a2), (3, .int a3), (4, .int a4), (5, .int a5), (6, .int (0 : Int32))] rfl ?_
        exact t_l_Mo_forcesFrom_36 hG hE d hd rec hr0 hr1 hr2 FU a1 a2 a3 a4 a5 (0 : Int32) P4 h
      · rw [if_neg c5] at h
        refine Go.iconst (n := 1) (1 : Int32) (by decide +kernel) rfl ?_
        exact Go.iret rfl rfl hE.2 (by decide +kernel) (St.fIP h)
    · rw [if_pos c2] at h
      refine Go.iconst (n := 0) (0 : Int32) (by decide +kernel) rfl ?_
      exact Go.iret rfl rfl hE.2 (by decide +kernel) (St.fIP h)
  · rw [if_pos c1] at h
    refine Go.iconst (n := 1) (1 : Int32) (by decide +kernel) rfl ?_
    exact Go.iret rfl rfl hE.2 (by decide +kernel) (St.fIP h)
theorem t_j_Mo_forcesTo_56 {G : GX} (hG : GOK G) {E : EV} (hE : E0 E) (d : Nat) (hd : 4 ≤ d) {Q : QT} (rec : Nat → Int32 → Int32 → Int32 → Int32 → Int32 → Int32 → PM → Option (Int32 × PM)) (hr0 : ∀ (a0 : Int32) (a1 : Int32) (a2 : Int32) (a3 : Int32) (a4 : Int32) (P : PM) {Q : QT}, St E rIP (rec 0 a0 a1 a2 a3 a4 (0 : Int32) P) Q → Con G y_Mo_forcesFrom cw_Mo_forcesFrom (d - 1) nOb nOb [.ref (ad E 109), .int a0, .int a1, .int a2, .int a3, .int a4] P E Q) (hr1 : ∀ (a0 : Int32) (a1 : Int32) (a2 : Int32) (a3 : Int32) (a4 : Int32) (a5 : Int32) (P : PM) {Q : QT}, St E rIP (rec 1 a0 a1 a2 a3 a4 a5 P) Q → Con G y_Mo_forcesTo cw_Mo_forcesTo (d - 1) nOb nOb [.ref (ad E 109), .int a0, .int a1, .int a2, .int a3, .int a4, .int a5] P E Q) (hr2 : ∀ (a0 : Int32) (a1 : Int32) (a2 : Int32) (a3 : Int32) (a4 : Int32) (P : PM) {Q : QT}, St E rIP (rec 2 a0 a1 a2 a3 a4 (0 : Int32) P) Q → Con G y_Mo_childCant cw_Mo_childCant (d - 1) nOb nOb [.ref (ad E 109), .int a0, .int a1, .int a2, .int a3, .int a4] P E Q) (P : PM) (h : St E rIP (j_Mo_forcesTo_56 rec P) Q) : Go G c_Mo_forcesTo "YawnRouteModel" 7 (some .boolean) false d nOb nOb Q 56 [] [] P E := by
  rw [j_Mo_forcesTo_56] at h
  refine Go.iconst (n := 1) (1 : Int32) (by decide +kernel) rfl ?_
  refine Go.goto (off := 4) 61 (by decide +kernel) (by decide) ?_
  exact Go.iret rfl rfl hE.2 (by decide +kernel) (St.fIP h)
theorem t_f_Mo_forcesTo {G : GX} (hG : GOK G) {E : EV} (hE : E0 E) (d : Nat) (hd : 4 ≤ d) {Q : QT} (rec : Nat → Int32 → Int32 → Int32 → Int32 → Int32 → Int32 → PM → Option (Int32 × PM)) (hr0 : ∀ (a0 : Int32) (a1 : Int32) (a2 : Int32) (a3 : Int32) (a4 : Int32) (P : PM) {Q : QT}, St E rIP (rec 0 a0 a1 a2 a3 a4 (0 : Int32) P) Q → Con G y_Mo_forcesFrom cw_Mo_forcesFrom (d - 1) nOb nOb [.ref (ad E 109), .int a0, .int a1, .int a2, .int a3, .int a4] P E Q) (hr1 : ∀ (a0 : Int32) (a1 : Int32) (a2 : Int32) (a3 : Int32) (a4 : Int32) (a5 : Int32) (P : PM) {Q : QT}, St E rIP (rec 1 a0 a1 a2 a3 a4 a5 P) Q → Con G y_Mo_forcesTo cw_Mo_forcesTo (d - 1) nOb nOb [.ref (ad E 109), .int a0, .int a1, .int a2, .int a3, .int a4, .int a5] P E Q) (hr2 : ∀ (a0 : Int32) (a1 : Int32) (a2 : Int32) (a3 : Int32) (a4 : Int32) (P : PM) {Q : QT}, St E rIP (rec 2 a0 a1 a2 a3 a4 (0 : Int32) P) Q → Con G y_Mo_childCant cw_Mo_childCant (d - 1) nOb nOb [.ref (ad E 109), .int a0, .int a1, .int a2, .int a3, .int a4] P E Q) (a1 : Int32) (a2 : Int32) (a3 : Int32) (a4 : Int32) (a5 : Int32) (a6 : Int32) (P : PM) (h : St E rIP (f_Mo_forcesTo rec a1 a2 a3 a4 a5 a6 P) Q) : Go G c_Mo_forcesTo "YawnRouteModel" 7 (some .boolean) false d nOb nOb Q 0 [(0, .ref (ad E 109)), (1, .int a1), (2, .int a2), (3, .int a3), (4, .int a4), (5, .int a5), (6, .int a6)] [] P E := by
  rw [f_Mo_forcesTo] at h
  refine Go.aload_n (k := 0) (i := 0) 0 (by decide +kernel) rfl rfl ?_
  refine Go.iload_n (k := 1) (i := 1) 1 (by decide +kernel) rfl rfl ?_
  refine Go.iload_n (k := 2) (i := 2) 2 (by decide +kernel) rfl rfl ?_
  refine Go.iload (i := 4) 4 (by decide +kernel) rfl ?_
  refine Go.iload_n (k := 3) (i := 3) 3 (by decide +kernel) rfl rfl ?_
  obtain ⟨v1, P2, hv1, h⟩ := St.bd2 h
  refine Go.cV_i (P1 := P2) (v := v1) (d - 1) 109 [.int a1, .int a2, .int a4, .int a3] sh109 hE w_Mo_whyBy (e_Mo_whyBy hG hE (d - 1) (by omega) a1 a2 a4 a3 P ⟨_, hv1, rfl, rfl, rfl⟩) lk1575 rfl (by omega) (Nat.le_of_ble_eq_true rfl) (by decide +kernel) _ rfl ?_
  refine Go.if_ne (off := 14) 23 (by decide +kernel) (by decide) (fun c3 => ?_) (fun c3 => ?_)
  · rw [if_neg c3] at h
    refine Go.iconst (n := 0) (0 : Int32) (by decide +kernel) rfl ?_
    exact Go.iret rfl rfl hE.2 (by decide +kernel) (St.fIP h)
  · rw [if_pos c3] at h
    refine Go.aload_n (k := 0) (i := 0) 0 (by decide +kernel) rfl rfl ?_
    refine Go.iload_n (k := 1) (i := 1) 1 (by decide +kernel) rfl rfl ?_
    refine Go.iload_n (k := 2) (i := 2) 2 (by decide +kernel) rfl rfl ?_
    refine Go.iload (i := 4) 4 (by decide +kernel) rfl ?_
    obtain ⟨v4, P5, hv4, h⟩ := St.bd2 h
    refine Go.cV_i (P1 := P5) (v := v4) (d - 1) 109 [.int a1, .int a2, .int a4] sh109 hE w_Mo_passedTo (e_Mo_passedTo hG hE (d - 1) (by omega) a1 a2 a4 P2 ⟨_, hv4, rfl, rfl, rfl⟩) lk1591 rfl (by omega) (Nat.le_of_ble_eq_true rfl) (by decide +kernel) _ rfl ?_
    refine Go.if_ne (off := 5) 25 (by decide +kernel) (by decide) (fun c6 => ?_) (fun c6 => ?_)
    · rw [if_neg c6] at h
      refine Go.iload (i := 4) 4 (by decide +kernel) rfl ?_
      refine Go.iload (i := 5) 5 (by decide +kernel) rfl ?_
      refine Go.icmp_eq (off := 27) 56 (by decide +kernel) (by decide) (fun c7 => ?_) (fun c7 => ?_)
      · rw [if_pos c7] at h
        refine Go.sub [] [] rfl ?_
        exact t_j_Mo_forcesTo_56 hG hE d hd rec hr0 hr1 hr2 P5 h
      · rw [if_neg c7] at h
        refine Go.aload_n (k := 0) (i := 0) 0 (by decide +kernel) rfl rfl ?_
        refine Go.iload (i := 4) 4 (by decide +kernel) rfl ?_
        refine Go.aload_n (k := 0) (i := 0) 0 (by decide +kernel) rfl rfl ?_
        refine Go.iload_n (k := 1) (i := 1) 1 (by decide +kernel) rfl rfl ?_
        refine Go.iload_n (k := 2) (i := 2) 2 (by decide +kernel) rfl rfl ?_
        refine Go.iload (i := 4) 4 (by decide +kernel) rfl ?_
        obtain ⟨v8, P9, hv8, h⟩ := St.bd2 h
        refine Go.cV_i (P1 := P9) (v := v8) (d - 1) 109 [.int a1, .int a2, .int a4] sh109 hE w_Mo_passedTo (e_Mo_passedTo hG hE (d - 1) (by omega) a1 a2 a4 P5 ⟨_, hv8, rfl, rfl, rfl⟩) lk1591 rfl (by omega) (Nat.le_of_ble_eq_true rfl) (by decide +kernel) _ rfl ?_
        refine Go.iload_n (k := 3) (i := 3) 3 (by decide +kernel) rfl rfl ?_
        refine Go.iload (i := 5) 5 (by decide +kernel) rfl ?_
        refine Go.iload (i := 6) 6 (by decide +kernel) rfl ?_
        refine Go.iconst (n := 1) (1 : Int32) (by decide +kernel) rfl ?_
        refine Go.isub (by decide +kernel) ?_
        obtain ⟨v10, P11, hv10, h⟩ := St.bd2 h
        refine Go.cV_i (P1 := P11) (v := v10) (d - 1) 109 [.int a4, .int v8, .int a3, .int a5, .int (a6 - (1 : Int32))] sh109 hE w_Mo_childCant (hr2 a4 v8 a3 a5 (a6 - (1 : Int32)) P9 ⟨_, hv10, rfl, rfl, rfl⟩) lk1867 rfl (by omega) (Nat.le_of_ble_eq_true rfl) (by decide +kernel) _ rfl ?_
        refine Go.if_eq (off := 7) 60 (by decide +kernel) (by decide) (fun c12 => ?_) (fun c12 => ?_)
        · rw [if_pos c12] at h
          refine Go.iconst (n := 0) (0 : Int32) (by decide +kernel) rfl ?_
          exact Go.iret rfl rfl hE.2 (by decide +kernel) (St.fIP h)
        · rw [if_neg c12] at h
          refine Go.sub [] [] rfl ?_
          exact t_j_Mo_forcesTo_56 hG hE d hd rec hr0 hr1 hr2 P11 h
    · rw [if_pos c6] at h
      refine Go.iconst (n := 0) (0 : Int32) (by decide +kernel) rfl ?_
      exact Go.iret rfl rfl hE.2 (by decide +kernel) (St.fIP h)
theorem t_j_Mo_childCant_68 {G : GX} (hG : GOK G) {E : EV} (hE : E0 E) (d : Nat) (hd : 4 ≤ d) {Q : QT} (rec : Nat → Int32 → Int32 → Int32 → Int32 → Int32 → Int32 → PM → Option (Int32 × PM)) (hr0 : ∀ (a0 : Int32) (a1 : Int32) (a2 : Int32) (a3 : Int32) (a4 : Int32) (P : PM) {Q : QT}, St E rIP (rec 0 a0 a1 a2 a3 a4 (0 : Int32) P) Q → Con G y_Mo_forcesFrom cw_Mo_forcesFrom (d - 1) nOb nOb [.ref (ad E 109), .int a0, .int a1, .int a2, .int a3, .int a4] P E Q) (hr1 : ∀ (a0 : Int32) (a1 : Int32) (a2 : Int32) (a3 : Int32) (a4 : Int32) (a5 : Int32) (P : PM) {Q : QT}, St E rIP (rec 1 a0 a1 a2 a3 a4 a5 P) Q → Con G y_Mo_forcesTo cw_Mo_forcesTo (d - 1) nOb nOb [.ref (ad E 109), .int a0, .int a1, .int a2, .int a3, .int a4, .int a5] P E Q) (hr2 : ∀ (a0 : Int32) (a1 : Int32) (a2 : Int32) (a3 : Int32) (a4 : Int32) (P : PM) {Q : QT}, St E rIP (rec 2 a0 a1 a2 a3 a4 (0 : Int32) P) Q → Con G y_Mo_childCant cw_Mo_childCant (d - 1) nOb nOb [.ref (ad E 109), .int a0, .int a1, .int a2, .int a3, .int a4] P E Q) (k20 : Int32 → Int32 → Int32 → Int32 → Int32 → Int32 → PM → Option (Int32 × PM)) (hk20 : ∀ (x1 : Int32) (x2 : Int32) (x3 : Int32) (x4 : Int32) (x5 : Int32) (x6 : Int32) (P : PM), St E rIP (k20 x1 x2 x3 x4 x5 x6 P) Q → Go G c_Mo_childCant "YawnRouteModel" 7 (some .boolean) false d nOb nOb Q 20 [(0, .ref (ad E 109)), (1, .int x1), (2, .int x2), (3, .int x3), (4, .int x4), (5, .int x5), (6, .int x6)] [] P E) (x1 : Int32) (x2 : Int32) (x3 : Int32) (x4 : Int32) (x5 : Int32) (x6 : Int32) (P : PM) (h : St E rIP (j_Mo_childCant_68 rec k20 x1 x2 x3 x4 x5 x6 P) Q) : Go G c_Mo_childCant "YawnRouteModel" 7 (some .boolean) false d nOb nOb Q 68 [(0, .ref (ad E 109)), (1, .int x1), (2, .int x2), (3, .int x3), (4, .int x4), (5, .int x5), (6, .int x6)] [] P E := by
  rw [j_Mo_childCant_68] at h
  refine Go.iinc (i := 6) (n := 1) 6 (x6 + (1 : Int32)) [(6, .int (x6 + (1 : Int32))), (0, .ref (ad E 109)), (1, .int x1), (2, .int x2), (3, .int x3), (4, .int x4), (5, .int x5)] (by decide +kernel) rfl rfl (by decide) rfl ?_
  refine Go.goto (off := -51) 20 (by decide +kernel) (by decide) ?_
  refine Go.sub [1, 2, 3, 4, 5, 6, 0] [(0, .ref (ad E 109)), (1, .int x1), (2, .int x2), (3, .int x3), (4, .int x4), (5, .int x5), (6, .int (x6 + (1 : Int32)))] rfl ?_
  exact hk20 x1 x2 x3 x4 x5 (x6 + (1 : Int32)) P h
theorem t_l_Mo_childCant_20 {G : GX} (hG : GOK G) {E : EV} (hE : E0 E) (d : Nat) (hd : 4 ≤ d) {Q : QT} (rec : Nat → Int32 → Int32 → Int32 → Int32 → Int32 → Int32 → PM → Option (Int32 × PM)) (hr0 : ∀ (a0 : Int32) (a1 : Int32) (a2 : Int32) (a3 : Int32) (a4 : Int32) (P : PM) {Q : QT}, St E rIP (rec 0 a0 a1 a2 a3 a4 (0 : Int32) P) Q → Con G y_Mo_forcesFrom cw_Mo_forcesFrom (d - 1) nOb nOb [.ref (ad E 109), .int a0, .int a1, .int a2, .int a3, .int a4] P E Q) (hr1 : ∀ (a0 : Int32) (a1 : Int32) (a2 : Int32) (a3 : Int32) (a4 : Int32) (a5 : Int32) (P : PM) {Q : QT}, St E rIP (rec 1 a0 a1 a2 a3 a4 a5 P) Q → Con G y_Mo_forcesTo cw_Mo_forcesTo (d - 1) nOb nOb [.ref (ad E 109), .int a0, .int a1, .int a2, .int a3, .int a4, .int a5] P E Q) (hr2 : ∀ (a0 : Int32) (a1 : Int32) (a2 : Int32) (a3 : Int32) (a4 : Int32) (P : PM) {Q : QT}, St E rIP (rec 2 a0 a1 a2 a3 a4 (0 : Int32) P) Q → Con G y_Mo_childCant cw_Mo_childCant (d - 1) nOb nOb [.ref (ad E 109), .int a0, .int a1, .int a2, .int a3, .int a4] P E Q) : ∀ (n : Nat) (x1 : Int32) (x2 : Int32) (x3 : Int32) (x4 : Int32) (x5 : Int32) (x6 : Int32) (P : PM), St E rIP (l_Mo_childCant_20 rec n x1 x2 x3 x4 x5 x6 P) Q → Go G c_Mo_childCant "YawnRouteModel" 7 (some .boolean) false d nOb nOb Q 20 [(0, .ref (ad E 109)), (1, .int x1), (2, .int x2), (3, .int x3), (4, .int x4), (5, .int x5), (6, .int x6)] [] P E := by
  intro n
  induction n with
  | zero =>
    intro x1 x2 x3 x4 x5 x6 P h
    rw [l_Mo_childCant_20] at h
    exact St.none_ h
  | succ n ih =>
    intro x1 x2 x3 x4 x5 x6 P h
    rw [l_Mo_childCant_20] at h
    refine Go.iload (i := 6) 6 (by decide +kernel) rfl ?_
    refine Go.aload_n (k := 0) (i := 0) 0 (by decide +kernel) rfl rfl ?_
    refine Go.get 109 1 (.ref (ad E 110)) (by decide) (by decide) sh109 (ltO hE sh109) (vlR hE rfl rfl) lk1331 (by decide +kernel) ?_
    refine Go.iconst (n := 1) (1 : Int32) (by decide +kernel) rfl ?_
    refine Go.iaload 110 3408 sh110 (ltA hE sh110 (by decide)) (vp_in_iff.mpr (by decide)) (by decide +kernel) ?_
    refine Go.icmp_ge (off := 46) 74 (by decide +kernel) (by decide) (fun c1 => ?_) (fun c1 => ?_)
    · rw [if_pos c1] at h
      refine Go.aload_n (k := 0) (i := 0) 0 (by decide +kernel) rfl rfl ?_
      refine Go.iload_n (k := 1) (i := 1) 1 (by decide +kernel) rfl rfl ?_
      refine Go.iload_n (k := 2) (i := 2) 2 (by decide +kernel) rfl rfl ?_
      refine Go.iload_n (k := 3) (i := 3) 3 (by decide +kernel) rfl rfl ?_
      refine Go.iload (i := 4) 4 (by decide +kernel) rfl ?_
      refine Go.iload (i := 5) 5 (by decide +kernel) rfl ?_
      obtain ⟨v2, P3, hv2, h⟩ := St.bd2 h
      refine Go.cV_i (P1 := P3) (v := v2) (d - 1) 109 [.int x1, .int x2, .int x3, .int x4, .int x5] sh109 hE w_Mo_forcesFrom (hr0 x1 x2 x3 x4 x5 P ⟨_, hv2, rfl, rfl, rfl⟩) lk1863 rfl (by omega) (Nat.le_of_ble_eq_true rfl) (by decide +kernel) _ rfl ?_
      obtain ⟨b4, h⟩ := St.ck h
      exact Go.iret rfl (isz_b b4).1 hE.2 (by decide +kernel) (St.fIP h)
    · rw [if_neg c1] at h
      refine Go.iload (i := 6) 6 (by decide +kernel) rfl ?_
      refine Go.iload_n (k := 1) (i := 1) 1 (by decide +kernel) rfl rfl ?_
      refine Go.icmp_eq (off := 34) 68 (by decide +kernel) (by decide) (fun c5 => ?_) (fun c5 => ?_)
      · rw [if_pos c5] at h
        exact t_j_Mo_childCant_68 hG hE d hd rec hr0 hr1 hr2 (fun z0 z1 z2 z3 z4 z5 Pz => l_Mo_childCant_20 rec n z0 z1 z2 z3 z4 z5 Pz) (fun z0 z1 z2 z3 z4 z5 Pz q => ih z0 z1 z2 z3 z4 z5 Pz q) x1 x2 x3 x4 x5 x6 P h
      · rw [if_neg c5] at h
        refine Go.iload_n (k := 3) (i := 3) 3 (by decide +kernel) rfl rfl ?_
        refine Go.i2l (by decide +kernel) ?_
        refine Go.iload (i := 6) 6 (by decide +kernel) rfl ?_
        refine Go.cS_i (P1 := P) (v := (f_Mo_isIn (x3.toInt64) x6 P)) (d - 1) [.long (x3.toInt64), .int x6] hE w_Mo_isIn (e_Mo_isIn hG hE (d - 1) (by omega) (x3.toInt64) x6 P ⟨rfl, rfl, rfl⟩) lk1579 rfl (by omega) (Nat.le_of_ble_eq_true rfl) (by decide +kernel) _ rfl ?_
        refine Go.if_ne (off := 24) 68 (by decide +kernel) (by decide) (fun c6 => ?_) (fun c6 => ?_)
        · rw [if_neg c6] at h
          exact t_j_Mo_childCant_68 hG hE d hd rec hr0 hr1 hr2 (fun z0 z1 z2 z3 z4 z5 Pz => l_Mo_childCant_20 rec n z0 z1 z2 z3 z4 z5 Pz) (fun z0 z1 z2 z3 z4 z5 Pz q => ih z0 z1 z2 z3 z4 z5 Pz q) x1 x2 x3 x4 x5 x6 P h
        · rw [if_pos c6] at h
          refine Go.aload_n (k := 0) (i := 0) 0 (by decide +kernel) rfl rfl ?_
          refine Go.iload_n (k := 1) (i := 1) 1 (by decide +kernel) rfl rfl ?_
          refine Go.iload_n (k := 2) (i := 2) 2 (by decide +kernel) rfl rfl ?_
          refine Go.iload_n (k := 3) (i := 3) 3 (by decide +kernel) rfl rfl ?_
          refine Go.iconst (n := 1) (1 : Int32) (by decide +kernel) rfl ?_
          refine Go.iload (i := 6) 6 (by decide +kernel) rfl ?_
          refine Go.ishl (by decide +kernel) ?_
          refine Go.ior (by decide +kernel) ?_
          refine Go.iload (i := 4) 4 (by decide +kernel) rfl ?_
          refine Go.iload (i := 5) 5 (by decide +kernel) rfl ?_
          obtain ⟨v7, P8, hv7, h⟩ := St.bd2 h
          refine Go.cV_i (P1 := P8) (v := v7) (d - 1) 109 [.int x1, .int x2, .int (x3 ||| ((1 : Int32) <<< (x6 &&& 31))), .int x4, .int x5] sh109 hE w_Mo_forcesFrom (hr0 x1 x2 (x3 ||| ((1 : Int32) <<< (x6 &&& 31))) x4 x5 P ⟨_, hv7, rfl, rfl, rfl⟩) lk1863 rfl (by omega) (Nat.le_of_ble_eq_true rfl) (by decide +kernel) _ rfl ?_
          refine Go.if_ne (off := 5) 68 (by decide +kernel) (by decide) (fun c9 => ?_) (fun c9 => ?_)
          · rw [if_neg c9] at h
            exact t_j_Mo_childCant_68 hG hE d hd rec hr0 hr1 hr2 (fun z0 z1 z2 z3 z4 z5 Pz => l_Mo_childCant_20 rec n z0 z1 z2 z3 z4 z5 Pz) (fun z0 z1 z2 z3 z4 z5 Pz q => ih z0 z1 z2 z3 z4 z5 Pz q) x1 x2 x3 x4 x5 x6 P8 h
          · rw [if_pos c9] at h
            refine Go.iconst (n := 0) (0 : Int32) (by decide +kernel) rfl ?_
            exact Go.iret rfl rfl hE.2 (by decide +kernel) (St.fIP h)
theorem t_f_Mo_childCant {G : GX} (hG : GOK G) {E : EV} (hE : E0 E) (d : Nat) (hd : 4 ≤ d) {Q : QT} (rec : Nat → Int32 → Int32 → Int32 → Int32 → Int32 → Int32 → PM → Option (Int32 × PM)) (hr0 : ∀ (a0 : Int32) (a1 : Int32) (a2 : Int32) (a3 : Int32) (a4 : Int32) (P : PM) {Q : QT}, St E rIP (rec 0 a0 a1 a2 a3 a4 (0 : Int32) P) Q → Con G y_Mo_forcesFrom cw_Mo_forcesFrom (d - 1) nOb nOb [.ref (ad E 109), .int a0, .int a1, .int a2, .int a3, .int a4] P E Q) (hr1 : ∀ (a0 : Int32) (a1 : Int32) (a2 : Int32) (a3 : Int32) (a4 : Int32) (a5 : Int32) (P : PM) {Q : QT}, St E rIP (rec 1 a0 a1 a2 a3 a4 a5 P) Q → Con G y_Mo_forcesTo cw_Mo_forcesTo (d - 1) nOb nOb [.ref (ad E 109), .int a0, .int a1, .int a2, .int a3, .int a4, .int a5] P E Q) (hr2 : ∀ (a0 : Int32) (a1 : Int32) (a2 : Int32) (a3 : Int32) (a4 : Int32) (P : PM) {Q : QT}, St E rIP (rec 2 a0 a1 a2 a3 a4 (0 : Int32) P) Q → Con G y_Mo_childCant cw_Mo_childCant (d - 1) nOb nOb [.ref (ad E 109), .int a0, .int a1, .int a2, .int a3, .int a4] P E Q) (a1 : Int32) (a2 : Int32) (a3 : Int32) (a4 : Int32) (a5 : Int32) (P : PM) (h : St E rIP (f_Mo_childCant rec a1 a2 a3 a4 a5 P) Q) : Go G c_Mo_childCant "YawnRouteModel" 7 (some .boolean) false d nOb nOb Q 0 [(0, .ref (ad E 109)), (1, .int a1), (2, .int a2), (3, .int a3), (4, .int a4), (5, .int a5)] [] P E := by
  rw [f_Mo_childCant] at h
  refine Go.iload (i := 5) 5 (by decide +kernel) rfl ?_
  refine Go.if_ne (off := 15) 17 (by decide +kernel) (by decide) (fun c1 => ?_) (fun c1 => ?_)
  · rw [if_neg c1] at h
    refine Go.iconst (n := 0) (0 : Int32) (by decide +kernel) rfl ?_
    refine Go.istore (i := 6) [(6, .int (0 : Int32)), (0, .ref (ad E 109)), (1, .int a1), (2, .int a2), (3, .int a3), (4, .int a4), (5, .int a5)] (by decide +kernel) (by decide) rfl ?_
    refine Go.sub [1, 2, 3, 4, 5, 6, 0] [(0, .ref (ad E 109)), (1, .int a1), (2, .int a2), (3, .int a3), (4, .int a4), (5, .int a5), (6, .int (0 : Int32))] rfl ?_
    exact t_l_Mo_childCant_20 hG hE d hd rec hr0 hr1 hr2 FU a1 a2 a3 a4 a5 (0 : Int32) P h
  · rw [if_pos c1] at h
    refine Go.iload_n (k := 1) (i := 1) 1 (by decide +kernel) rfl rfl ?_
    refine Go.iload (i := 4) 4 (by decide +kernel) rfl ?_
    refine Go.icmp_ne (off := 7) 15 (by decide +kernel) (by decide) (fun c2 => ?_) (fun c2 => ?_)
    · rw [if_neg c2] at h
      refine Go.iconst (n := 0) (0 : Int32) (by decide +kernel) rfl ?_
      exact Go.iret rfl rfl hE.2 (by decide +kernel) (St.fIP h)
    · rw [if_pos c2] at h
      refine Go.iconst (n := 1) (1 : Int32) (by decide +kernel) rfl ?_
      refine Go.goto (off := 4) 16 (by decide +kernel) (by decide) ?_
      exact Go.iret rfl rfl hE.2 (by decide +kernel) (St.fIP h)
noncomputable def gr_Mo_forcesFrom : Nat → Nat → Int32 → Int32 → Int32 → Int32 → Int32 → Int32 → PM → Option (Int32 × PM)
  | 0, _, _, _, _, _, _, _, _ => none
  | n + 1, k, a0, a1, a2, a3, a4, a5, P => match k with
    | 0 => f_Mo_forcesFrom (gr_Mo_forcesFrom n) a0 a1 a2 a3 a4 P
    | 1 => f_Mo_forcesTo (gr_Mo_forcesFrom n) a0 a1 a2 a3 a4 a5 P
    | _ => f_Mo_childCant (gr_Mo_forcesFrom n) a0 a1 a2 a3 a4 P
noncomputable def g_Mo_forcesFrom (a1 : Int32) (a2 : Int32) (a3 : Int32) (a4 : Int32) (a5 : Int32) (P : PM) : Option (Int32 × PM) := gr_Mo_forcesFrom FR 0 a1 a2 a3 a4 a5 (0 : Int32) P
noncomputable def g_Mo_forcesTo (a1 : Int32) (a2 : Int32) (a3 : Int32) (a4 : Int32) (a5 : Int32) (a6 : Int32) (P : PM) : Option (Int32 × PM) := gr_Mo_forcesFrom FR 1 a1 a2 a3 a4 a5 a6 P
noncomputable def g_Mo_childCant (a1 : Int32) (a2 : Int32) (a3 : Int32) (a4 : Int32) (a5 : Int32) (P : PM) : Option (Int32 × PM) := gr_Mo_forcesFrom FR 2 a1 a2 a3 a4 a5 (0 : Int32) P
theorem eg_Mo_forcesFrom {G : GX} (hG : GOK G) {E : EV} (hE : E0 E) : ∀ (n d : Nat), n + 4 ≤ d → (∀ (a0 : Int32) (a1 : Int32) (a2 : Int32) (a3 : Int32) (a4 : Int32) (P : PM) {Q : QT}, St E rIP (gr_Mo_forcesFrom n 0 a0 a1 a2 a3 a4 (0 : Int32) P) Q → Con G y_Mo_forcesFrom cw_Mo_forcesFrom d nOb nOb [.ref (ad E 109), .int a0, .int a1, .int a2, .int a3, .int a4] P E Q) ∧ (∀ (a0 : Int32) (a1 : Int32) (a2 : Int32) (a3 : Int32) (a4 : Int32) (a5 : Int32) (P : PM) {Q : QT}, St E rIP (gr_Mo_forcesFrom n 1 a0 a1 a2 a3 a4 a5 P) Q → Con G y_Mo_forcesTo cw_Mo_forcesTo d nOb nOb [.ref (ad E 109), .int a0, .int a1, .int a2, .int a3, .int a4, .int a5] P E Q) ∧ (∀ (a0 : Int32) (a1 : Int32) (a2 : Int32) (a3 : Int32) (a4 : Int32) (P : PM) {Q : QT}, St E rIP (gr_Mo_forcesFrom n 2 a0 a1 a2 a3 a4 (0 : Int32) P) Q → Con G y_Mo_childCant cw_Mo_childCant d nOb nOb [.ref (ad E 109), .int a0, .int a1, .int a2, .int a3, .int a4] P E Q) := by
  intro n
  induction n with
  | zero =>
    intro d hd
    exact ⟨fun _ _ _ _ _ P Q h => St.none_ h, fun _ _ _ _ _ _ P Q h => St.none_ h, fun _ _ _ _ _ P Q h => St.none_ h⟩
  | succ n ih =>
    intro d hd
    have hh := ih (d - 1) (by omega)
    exact ⟨fun b0 b1 b2 b3 b4 P Q h => Con.of hG (by decide +kernel) rfl (fun h => by cases h) hE.2 (Nat.le_of_ble_eq_true rfl) (t_f_Mo_forcesFrom hG hE d (by omega) (gr_Mo_forcesFrom n) (fun b0 b1 b2 b3 b4 P Q h => hh.1 b0 b1 b2 b3 b4 P h) (fun b0 b1 b2 b3 b4 b5 P Q h => hh.2.1 b0 b1 b2 b3 b4 b5 P h) (fun b0 b1 b2 b3 b4 P Q h => hh.2.2 b0 b1 b2 b3 b4 P h) b0 b1 b2 b3 b4 P h),
      fun b0 b1 b2 b3 b4 b5 P Q h => Con.of hG (by decide +kernel) rfl (fun h => by cases h) hE.2 (Nat.le_of_ble_eq_true rfl) (t_f_Mo_forcesTo hG hE d (by omega) (gr_Mo_forcesFrom n) (fun b0 b1 b2 b3 b4 P Q h => hh.1 b0 b1 b2 b3 b4 P h) (fun b0 b1 b2 b3 b4 b5 P Q h => hh.2.1 b0 b1 b2 b3 b4 b5 P h) (fun b0 b1 b2 b3 b4 P Q h => hh.2.2 b0 b1 b2 b3 b4 P h) b0 b1 b2 b3 b4 b5 P h),
      fun b0 b1 b2 b3 b4 P Q h => Con.of hG (by decide +kernel) rfl (fun h => by cases h) hE.2 (Nat.le_of_ble_eq_true rfl) (t_f_Mo_childCant hG hE d (by omega) (gr_Mo_forcesFrom n) (fun b0 b1 b2 b3 b4 P Q h => hh.1 b0 b1 b2 b3 b4 P h) (fun b0 b1 b2 b3 b4 b5 P Q h => hh.2.1 b0 b1 b2 b3 b4 b5 P h) (fun b0 b1 b2 b3 b4 P Q h => hh.2.2 b0 b1 b2 b3 b4 P h) b0 b1 b2 b3 b4 P h)⟩
theorem e_Mo_forcesFrom {G : GX} (hG : GOK G) {E : EV} (hE : E0 E) (d : Nat) (hd : 104 ≤ d) (a1 : Int32) (a2 : Int32) (a3 : Int32) (a4 : Int32) (a5 : Int32) (P : PM) {Q : QT} (h : St E rIP (g_Mo_forcesFrom a1 a2 a3 a4 a5 P) Q) : Con G y_Mo_forcesFrom cw_Mo_forcesFrom d nOb nOb [.ref (ad E 109), .int a1, .int a2, .int a3, .int a4, .int a5] P E Q :=
  (eg_Mo_forcesFrom hG hE FR d (by rw [FR_eq]; omega)).1 a1 a2 a3 a4 a5 P h
theorem e_Mo_forcesTo {G : GX} (hG : GOK G) {E : EV} (hE : E0 E) (d : Nat) (hd : 104 ≤ d) (a1 : Int32) (a2 : Int32) (a3 : Int32) (a4 : Int32) (a5 : Int32) (a6 : Int32) (P : PM) {Q : QT} (h : St E rIP (g_Mo_forcesTo a1 a2 a3 a4 a5 a6 P) Q) : Con G y_Mo_forcesTo cw_Mo_forcesTo d nOb nOb [.ref (ad E 109), .int a1, .int a2, .int a3, .int a4, .int a5, .int a6] P E Q :=
  (eg_Mo_forcesFrom hG hE FR d (by rw [FR_eq]; omega)).2.1 a1 a2 a3 a4 a5 a6 P h
theorem e_Mo_childCant {G : GX} (hG : GOK G) {E : EV} (hE : E0 E) (d : Nat) (hd : 104 ≤ d) (a1 : Int32) (a2 : Int32) (a3 : Int32) (a4 : Int32) (a5 : Int32) (P : PM) {Q : QT} (h : St E rIP (g_Mo_childCant a1 a2 a3 a4 a5 P) Q) : Con G y_Mo_childCant cw_Mo_childCant d nOb nOb [.ref (ad E 109), .int a1, .int a2, .int a3, .int a4, .int a5] P E Q :=
  (eg_Mo_forcesFrom hG hE FR d (by rw [FR_eq]; omega)).2.2 a1 a2 a3 a4 a5 P h
abbrev c_Mo_forcedIn : ByteArray := prog_14_method_111_code
abbrev y_Mo_forcedIn : MethodName := ⟨"YawnRouteModel", "forcedIn", "(I)I"⟩
abbrev cw_Mo_forcedIn : Cond := .code y_Mo_forcedIn c_Mo_forcedIn 3 (some .int)
theorem w_Mo_forcedIn : VW 12 y_Mo_forcedIn c_Mo_forcedIn 3 (some .int) 1 := ⟨by decide, lk1861, lp109_, lk14, lk1862, ⟨by decide, by decide, by decide +kernel⟩, by decide⟩
noncomputable def l_Mo_forcedIn_2 : Nat → Int32 → Int32 → PM → Option (Int32 × PM)
  | 0, _, _, _ => none
  | n + 1, x1, x2, P => if (3 : Int32) < x2 then (some ((-1 : Int32), P)) else (bd2 (g_Mo_forcesFrom (P.1 110 (113 : Int32).toNatClampNeg) (P.1 110 (114 : Int32).toNatClampNeg) (P.1 110 (116 : Int32).toNatClampNeg) x1 x2 P) (fun v2 P3 => if v2 = (0 : Int32) then (l_Mo_forcedIn_2 n x1 (x2 + (1 : Int32)) P3) else (some (x2, P3))))
noncomputable def f_Mo_forcedIn (a1 : Int32) (P : PM) : Option (Int32 × PM) := l_Mo_forcedIn_2 FU a1 (0 : Int32) P
theorem t_l_Mo_forcedIn_2 {G : GX} (hG : GOK G) {E : EV} (hE : E0 E) (d : Nat) (hd : 105 ≤ d) {Q : QT} : ∀ (n : Nat) (x1 : Int32) (x2 : Int32) (P : PM), St E rIP (l_Mo_forcedIn_2 n x1 x2 P) Q → Go G c_Mo_forcedIn "YawnRouteModel" 3 (some .int) false d nOb nOb Q 2 [(0, .ref (ad E 109)), (1, .int x1), (2, .int x2)] [] P E := by
  intro n
  induction n with
  | zero =>
    intro x1 x2 P h
    rw [l_Mo_forcedIn_2] at h
    exact St.none_ h
  | succ n ih =>
    intro x1 x2 P h
    rw [l_Mo_forcedIn_2] at h
    refine Go.iload_n (k := 2) (i := 2) 2 (by decide +kernel) rfl rfl ?_
    refine Go.iconst (n := 3) (3 : Int32) (by decide +kernel) rfl ?_
    refine Go.icmp_gt (off := 41) 45 (by decide +kernel) (by decide) (fun c1 => ?_) (fun c1 => ?_)
    · rw [if_pos c1] at h
      refine Go.iconst (n := -1) (-1 : Int32) (by decide +kernel) rfl ?_
      exact Go.iret rfl rfl hE.2 (by decide +kernel) (St.fIP h)
    · rw [if_neg c1] at h
      refine Go.aload_n (k := 0) (i := 0) 0 (by decide +kernel) rfl rfl ?_
      refine Go.aload_n (k := 0) (i := 0) 0 (by decide +kernel) rfl rfl ?_
      refine Go.get 109 1 (.ref (ad E 110)) (by decide) (by decide) sh109 (ltO hE sh109) (vlR hE rfl rfl) lk1331 (by decide +kernel) ?_
      refine Go.bipush (n := 113) (113 : Int32) (by decide +kernel) (by decide) ?_
      refine Go.iaload 110 3408 sh110 (ltA hE sh110 (by decide)) (vp_in_iff.mpr (by decide)) (by decide +kernel) ?_
      refine Go.aload_n (k := 0) (i := 0) 0 (by decide +kernel) rfl rfl ?_
      refine Go.get 109 1 (.ref (ad E 110)) (by decide) (by decide) sh109 (ltO hE sh109) (vlR hE rfl rfl) lk1331 (by decide +kernel) ?_
      refine Go.bipush (n := 114) (114 : Int32) (by decide +kernel) (by decide) ?_
      refine Go.iaload 110 3408 sh110 (ltA hE sh110 (by decide)) (vp_in_iff.mpr (by decide)) (by decide +kernel) ?_
      refine Go.aload_n (k := 0) (i := 0) 0 (by decide +kernel) rfl rfl ?_
      refine Go.get 109 1 (.ref (ad E 110)) (by decide) (by decide) sh109 (ltO hE sh109) (vlR hE rfl rfl) lk1331 (by decide +kernel) ?_
      refine Go.bipush (n := 116) (116 : Int32) (by decide +kernel) (by decide) ?_
      refine Go.iaload 110 3408 sh110 (ltA hE sh110 (by decide)) (vp_in_iff.mpr (by decide)) (by decide +kernel) ?_
      refine Go.iload_n (k := 1) (i := 1) 1 (by decide +kernel) rfl rfl ?_
      refine Go.iload_n (k := 2) (i := 2) 2 (by decide +kernel) rfl rfl ?_
      obtain ⟨v2, P3, hv2, h⟩ := St.bd2 h
      refine Go.cV_i (P1 := P3) (v := v2) (d - 1) 109 [.int (P.1 110 (113 : Int32).toNatClampNeg), .int (P.1 110 (114 : Int32).toNatClampNeg), .int (P.1 110 (116 : Int32).toNatClampNeg), .int x1, .int x2] sh109 hE w_Mo_forcesFrom (e_Mo_forcesFrom hG hE (d - 1) (by omega) (P.1 110 (113 : Int32).toNatClampNeg) (P.1 110 (114 : Int32).toNatClampNeg) (P.1 110 (116 : Int32).toNatClampNeg) x1 x2 P ⟨_, hv2, rfl, rfl, rfl⟩) lk1863 rfl (by omega) (Nat.le_of_ble_eq_true rfl) (by decide +kernel) _ rfl ?_
      refine Go.if_eq (off := 5) 39 (by decide +kernel) (by decide) (fun c4 => ?_) (fun c4 => ?_)
      · rw [if_pos c4] at h
        refine Go.iinc (i := 2) (n := 1) 2 (x2 + (1 : Int32)) [(2, .int (x2 + (1 : Int32))), (0, .ref (ad E 109)), (1, .int x1)] (by decide +kernel) rfl rfl (by decide) rfl ?_
        refine Go.goto (off := -40) 2 (by decide +kernel) (by decide) ?_
        refine Go.sub [1, 2, 0] [(0, .ref (ad E 109)), (1, .int x1), (2, .int (x2 + (1 : Int32)))] rfl ?_
        exact ih x1 (x2 + (1 : Int32)) P3 h
      · rw [if_neg c4] at h
        refine Go.iload_n (k := 2) (i := 2) 2 (by decide +kernel) rfl rfl ?_
        exact Go.iret rfl rfl hE.2 (by decide +kernel) (St.fIP h)
theorem t_f_Mo_forcedIn {G : GX} (hG : GOK G) {E : EV} (hE : E0 E) (d : Nat) (hd : 105 ≤ d) {Q : QT} (a1 : Int32) (P : PM) (h : St E rIP (f_Mo_forcedIn a1 P) Q) : Go G c_Mo_forcedIn "YawnRouteModel" 3 (some .int) false d nOb nOb Q 0 [(0, .ref (ad E 109)), (1, .int a1)] [] P E := by
  rw [f_Mo_forcedIn] at h
  refine Go.iconst (n := 0) (0 : Int32) (by decide +kernel) rfl ?_
  refine Go.istore_n (k := 2) (i := 2) [(2, .int (0 : Int32)), (0, .ref (ad E 109)), (1, .int a1)] (by decide +kernel) rfl (by decide) rfl ?_
  refine Go.sub [1, 2, 0] [(0, .ref (ad E 109)), (1, .int a1), (2, .int (0 : Int32))] rfl ?_
  exact t_l_Mo_forcedIn_2 hG hE d hd FU a1 (0 : Int32) P h
theorem e_Mo_forcedIn {G : GX} (hG : GOK G) {E : EV} (hE : E0 E) (d : Nat) (hd : 105 ≤ d) (a1 : Int32) (P : PM) {Q : QT} (h : St E rIP (f_Mo_forcedIn a1 P) Q) : Con G y_Mo_forcedIn cw_Mo_forcedIn d nOb nOb [.ref (ad E 109), .int a1] P E Q :=
  Con.of hG (by decide +kernel) rfl (fun h => by cases h) hE.2 (Nat.le_of_ble_eq_true rfl) (t_f_Mo_forcedIn hG hE d hd a1 P h)
abbrev c_Mo_forces : ByteArray := prog_14_method_112_code
abbrev y_Mo_forces : MethodName := ⟨"YawnRouteModel", "forces", "(I)I"⟩
abbrev cw_Mo_forces : Cond := .code y_Mo_forces c_Mo_forces 2 (some .int)
theorem w_Mo_forces : VW 12 y_Mo_forces c_Mo_forces 2 (some .int) 1 := ⟨by decide, lk1856, lk1857, lk14, lk1858, ⟨by decide, by decide, by decide +kernel⟩, by decide⟩
noncomputable def f_Mo_forces (a1 : Int32) (P : PM) : Option (Int32 × PM) := (f_Mo_isStation (a1.toInt64) (u1 P 109 0 (0 : Int32))).bind (fun v1 => if v1 = (0 : Int32) then (some ((-2 : Int32), (u1 P 109 0 (0 : Int32)))) else (if ((u1 P 109 0 (0 : Int32)).1 110 (113 : Int32).toNatClampNeg) = (-1 : Int32) then (some ((-5 : Int32), (u1 P 109 0 (0 : Int32)))) else (bd2 (f_Mo_forcedIn a1 (u1 P 109 0 (0 : Int32))) (fun v4 P5 => some (v4, P5)))))
theorem t_f_Mo_forces {G : GX} (hG : GOK G) {E : EV} (hE : E0 E) (d : Nat) (hd : 106 ≤ d) {Q : QT} (a1 : Int32) (P : PM) (h : St E rIP (f_Mo_forces a1 P) Q) : Go G c_Mo_forces "YawnRouteModel" 2 (some .int) false d nOb nOb Q 0 [(0, .ref (ad E 109)), (1, .int a1)] [] P E := by
  rw [f_Mo_forces] at h
  refine Go.aload_n (k := 0) (i := 0) 0 (by decide +kernel) rfl rfl ?_
  refine Go.iconst (n := 0) (0 : Int32) (by decide +kernel) rfl ?_
  refine Go.put 109 0 (by decide) (by decide) sh109 (ltO hE sh109) (Or.inl rfl) rfl rfl rfl lk1330 (by decide +kernel) ?_
  refine Go.aload_n (k := 0) (i := 0) 0 (by decide +kernel) rfl rfl ?_
  refine Go.iload_n (k := 1) (i := 1) 1 (by decide +kernel) rfl rfl ?_
  refine Go.i2l (by decide +kernel) ?_
  obtain ⟨v1, hv1, h⟩ := St.bind h
  refine Go.cV_i (P1 := (u1 P 109 0 (0 : Int32))) (v := v1) (d - 1) 109 [.long (a1.toInt64)] sh109 hE w_Mo_isStation (e_Mo_isStation hG hE (d - 1) (by omega) (a1.toInt64) (u1 P 109 0 (0 : Int32)) ⟨_, hv1, rfl, rfl, rfl⟩) lk1555 rfl (by omega) (Nat.le_of_ble_eq_true rfl) (by decide +kernel) _ rfl ?_
  refine Go.if_ne (off := 8) 19 (by decide +kernel) (by decide) (fun c2 => ?_) (fun c2 => ?_)
  · rw [if_neg c2] at h
    refine Go.aload_n (k := 0) (i := 0) 0 (by decide +kernel) rfl rfl ?_
    refine Go.get 109 1 (.ref (ad E 110)) (by decide) (by decide) sh109 (ltO hE sh109) (vlR hE rfl rfl) lk1331 (by decide +kernel) ?_
    refine Go.bipush (n := 113) (113 : Int32) (by decide +kernel) (by decide) ?_
    refine Go.iaload 110 3408 sh110 (ltA hE sh110 (by decide)) (vp_in_iff.mpr (by decide)) (by decide +kernel) ?_
    refine Go.iconst (n := -1) (-1 : Int32) (by decide +kernel) rfl ?_
    refine Go.icmp_ne (off := 8) 35 (by decide +kernel) (by decide) (fun c3 => ?_) (fun c3 => ?_)
    · rw [if_neg c3] at h
      refine Go.aload_n (k := 0) (i := 0) 0 (by decide +kernel) rfl rfl ?_
      refine Go.iload_n (k := 1) (i := 1) 1 (by decide +kernel) rfl rfl ?_
      obtain ⟨v4, P5, hv4, h⟩ := St.bd2 h
      refine Go.cV_i (P1 := P5) (v := v4) (d - 1) 109 [.int a1] sh109 hE w_Mo_forcedIn (e_Mo_forcedIn hG hE (d - 1) (by omega) a1 (u1 P 109 0 (0 : Int32)) ⟨_, hv4, rfl, rfl, rfl⟩) lk1859 rfl (by omega) (Nat.le_of_ble_eq_true rfl) (by decide +kernel) _ rfl ?_
      exact Go.iret rfl rfl hE.2 (by decide +kernel) (St.fIP h)
    · rw [if_pos c3] at h
      refine Go.bipush (n := -5) (-5 : Int32) (by decide +kernel) (by decide) ?_
      refine Go.goto (off := 8) 40 (by decide +kernel) (by decide) ?_
      exact Go.iret rfl rfl hE.2 (by decide +kernel) (St.fIP h)
  · rw [if_pos c2] at h
    refine Go.bipush (n := -2) (-2 : Int32) (by decide +kernel) (by decide) ?_
    refine Go.goto (off := 24) 40 (by decide +kernel) (by decide) ?_
    exact Go.iret rfl rfl hE.2 (by decide +kernel) (St.fIP h)
theorem e_Mo_forces {G : GX} (hG : GOK G) {E : EV} (hE : E0 E) (d : Nat) (hd : 106 ≤ d) (a1 : Int32) (P : PM) {Q : QT} (h : St E rIP (f_Mo_forces a1 P) Q) : Con G y_Mo_forces cw_Mo_forces d nOb nOb [.ref (ad E 109), .int a1] P E Q :=
  Con.of hG (by decide +kernel) rfl (fun h => by cases h) hE.2 (Nat.le_of_ble_eq_true rfl) (t_f_Mo_forces hG hE d hd a1 P h)
abbrev c_Mo_best : ByteArray := prog_14_method_113_code
abbrev y_Mo_best : MethodName := ⟨"YawnRouteModel", "best", "(I)I"⟩
abbrev cw_Mo_best : Cond := .code y_Mo_best c_Mo_best 4 (some .int)
theorem w_Mo_best : VW 12 y_Mo_best c_Mo_best 4 (some .int) 1 := ⟨by decide, lk1876, lk1877, lk14, lk1878, ⟨by decide, by decide, by decide +kernel⟩, by decide⟩
noncomputable def l_Mo_best_46 : Nat → Int32 → Int32 → Int32 → PM → Option (Int32 × PM)
  | 0, _, _, _, _ => none
  | n + 1, x1, x2, x3, P => if (P.1 110 (1 : Int32).toNatClampNeg) ≤ x3 then (some ((99 : Int32), P)) else (bd2 (g_Mo_forcesTo (P.1 110 (113 : Int32).toNatClampNeg) (P.1 110 (114 : Int32).toNatClampNeg) (P.1 110 (116 : Int32).toNatClampNeg) x3 x1 x2 P) (fun v2 P3 => if v2 = (0 : Int32) then (l_Mo_best_46 n x1 x2 (x3 + (1 : Int32)) P3) else (some (x3, P3))))
noncomputable def f_Mo_best (a1 : Int32) (P : PM) : Option (Int32 × PM) := (f_Mo_isStation (a1.toInt64) (u1 P 109 0 (0 : Int32))).bind (fun v1 => if v1 = (0 : Int32) then (some ((-2 : Int32), (u1 P 109 0 (0 : Int32)))) else (if ((u1 P 109 0 (0 : Int32)).1 110 (113 : Int32).toNatClampNeg) = (-1 : Int32) then (some ((-5 : Int32), (u1 P 109 0 (0 : Int32)))) else (bd2 (f_Mo_forcedIn a1 (u1 P 109 0 (0 : Int32))) (fun v4 P5 => if (1 : Int32) ≤ v4 then (l_Mo_best_46 FU a1 v4 (0 : Int32) P5) else (some ((-1 : Int32), P5))))))
theorem t_l_Mo_best_46 {G : GX} (hG : GOK G) {E : EV} (hE : E0 E) (d : Nat) (hd : 106 ≤ d) {Q : QT} : ∀ (n : Nat) (x1 : Int32) (x2 : Int32) (x3 : Int32) (P : PM), St E rIP (l_Mo_best_46 n x1 x2 x3 P) Q → Go G c_Mo_best "YawnRouteModel" 4 (some .int) false d nOb nOb Q 46 [(0, .ref (ad E 109)), (1, .int x1), (2, .int x2), (3, .int x3)] [] P E := by
  intro n
  induction n with
  | zero =>
    intro x1 x2 x3 P h
    rw [l_Mo_best_46] at h
    exact St.none_ h
  | succ n ih =>
    intro x1 x2 x3 P h
    rw [l_Mo_best_46] at h
    refine Go.iload_n (k := 3) (i := 3) 3 (by decide +kernel) rfl rfl ?_
    refine Go.aload_n (k := 0) (i := 0) 0 (by decide +kernel) rfl rfl ?_
    refine Go.get 109 1 (.ref (ad E 110)) (by decide) (by decide) sh109 (ltO hE sh109) (vlR hE rfl rfl) lk1331 (by decide +kernel) ?_
    refine Go.iconst (n := 1) (1 : Int32) (by decide +kernel) rfl ?_
    refine Go.iaload 110 3408 sh110 (ltA hE sh110 (by decide)) (vp_in_iff.mpr (by decide)) (by decide +kernel) ?_
    refine Go.icmp_ge (off := 42) 95 (by decide +kernel) (by decide) (fun c1 => ?_) (fun c1 => ?_)
    · rw [if_pos c1] at h
      refine Go.bipush (n := 99) (99 : Int32) (by decide +kernel) (by decide) ?_
      exact Go.iret rfl rfl hE.2 (by decide +kernel) (St.fIP h)
    · rw [if_neg c1] at h
      refine Go.aload_n (k := 0) (i := 0) 0 (by decide +kernel) rfl rfl ?_
      refine Go.aload_n (k := 0) (i := 0) 0 (by decide +kernel) rfl rfl ?_
      refine Go.get 109 1 (.ref (ad E 110)) (by decide) (by decide) sh109 (ltO hE sh109) (vlR hE rfl rfl) lk1331 (by decide +kernel) ?_
      refine Go.bipush (n := 113) (113 : Int32) (by decide +kernel) (by decide) ?_
      refine Go.iaload 110 3408 sh110 (ltA hE sh110 (by decide)) (vp_in_iff.mpr (by decide)) (by decide +kernel) ?_
      refine Go.aload_n (k := 0) (i := 0) 0 (by decide +kernel) rfl rfl ?_
      refine Go.get 109 1 (.ref (ad E 110)) (by decide) (by decide) sh109 (ltO hE sh109) (vlR hE rfl rfl) lk1331 (by decide +kernel) ?_
      refine Go.bipush (n := 114) (114 : Int32) (by decide +kernel) (by decide) ?_
      refine Go.iaload 110 3408 sh110 (ltA hE sh110 (by decide)) (vp_in_iff.mpr (by decide)) (by decide +kernel) ?_
      refine Go.aload_n (k := 0) (i := 0) 0 (by decide +kernel) rfl rfl ?_
      refine Go.get 109 1 (.ref (ad E 110)) (by decide) (by decide) sh109 (ltO hE sh109) (vlR hE rfl rfl) lk1331 (by decide +kernel) ?_
      refine Go.bipush (n := 116) (116 : Int32) (by decide +kernel) (by decide) ?_
      refine Go.iaload 110 3408 sh110 (ltA hE sh110 (by decide)) (vp_in_iff.mpr (by decide)) (by decide +kernel) ?_
      refine Go.iload_n (k := 3) (i := 3) 3 (by decide +kernel) rfl rfl ?_
      refine Go.iload_n (k := 1) (i := 1) 1 (by decide +kernel) rfl rfl ?_
      refine Go.iload_n (k := 2) (i := 2) 2 (by decide +kernel) rfl rfl ?_
      obtain ⟨v2, P3, hv2, h⟩ := St.bd2 h
      refine Go.cV_i (P1 := P3) (v := v2) (d - 1) 109 [.int (P.1 110 (113 : Int32).toNatClampNeg), .int (P.1 110 (114 : Int32).toNatClampNeg), .int (P.1 110 (116 : Int32).toNatClampNeg), .int x3, .int x1, .int x2] sh109 hE w_Mo_forcesTo (e_Mo_forcesTo hG hE (d - 1) (by omega) (P.1 110 (113 : Int32).toNatClampNeg) (P.1 110 (114 : Int32).toNatClampNeg) (P.1 110 (116 : Int32).toNatClampNeg) x3 x1 x2 P ⟨_, hv2, rfl, rfl, rfl⟩) lk1871 rfl (by omega) (Nat.le_of_ble_eq_true rfl) (by decide +kernel) _ rfl ?_
      refine Go.if_eq (off := 5) 89 (by decide +kernel) (by decide) (fun c4 => ?_) (fun c4 => ?_)
      · rw [if_pos c4] at h
        refine Go.iinc (i := 3) (n := 1) 3 (x3 + (1 : Int32)) [(3, .int (x3 + (1 : Int32))), (0, .ref (ad E 109)), (1, .int x1), (2, .int x2)] (by decide +kernel) rfl rfl (by decide) rfl ?_
        refine Go.goto (off := -46) 46 (by decide +kernel) (by decide) ?_
        refine Go.sub [1, 2, 3, 0] [(0, .ref (ad E 109)), (1, .int x1), (2, .int x2), (3, .int (x3 + (1 : Int32)))] rfl ?_
        exact ih x1 x2 (x3 + (1 : Int32)) P3 h
      · rw [if_neg c4] at h
        refine Go.iload_n (k := 3) (i := 3) 3 (by decide +kernel) rfl rfl ?_
        exact Go.iret rfl rfl hE.2 (by decide +kernel) (St.fIP h)
theorem t_f_Mo_best {G : GX} (hG : GOK G) {E : EV} (hE : E0 E) (d : Nat) (hd : 106 ≤ d) {Q : QT} (a1 : Int32) (P : PM) (h : St E rIP (f_Mo_best a1 P) Q) : Go G c_Mo_best "YawnRouteModel" 4 (some .int) false d nOb nOb Q 0 [(0, .ref (ad E 109)), (1, .int a1)] [] P E := by
  rw [f_Mo_best] at h
  refine Go.aload_n (k := 0) (i := 0) 0 (by decide +kernel) rfl rfl ?_
  refine Go.iconst (n := 0) (0 : Int32) (by decide +kernel) rfl ?_
  refine Go.put 109 0 (by decide) (by decide) sh109 (ltO hE sh109) (Or.inl rfl) rfl rfl rfl lk1330 (by decide +kernel) ?_
  refine Go.aload_n (k := 0) (i := 0) 0 (by decide +kernel) rfl rfl ?_
  refine Go.iload_n (k := 1) (i := 1) 1 (by decide +kernel) rfl rfl ?_
  refine Go.i2l (by decide +kernel) ?_
  obtain ⟨v1, hv1, h⟩ := St.bind h
  refine Go.cV_i (P1 := (u1 P 109 0 (0 : Int32))) (v := v1) (d - 1) 109 [.long (a1.toInt64)] sh109 hE w_Mo_isStation (e_Mo_isStation hG hE (d - 1) (by omega) (a1.toInt64) (u1 P 109 0 (0 : Int32)) ⟨_, hv1, rfl, rfl, rfl⟩) lk1555 rfl (by omega) (Nat.le_of_ble_eq_true rfl) (by decide +kernel) _ rfl ?_
  refine Go.if_ne (off := 6) 17 (by decide +kernel) (by decide) (fun c2 => ?_) (fun c2 => ?_)
  · rw [if_neg c2] at h
    refine Go.aload_n (k := 0) (i := 0) 0 (by decide +kernel) rfl rfl ?_
    refine Go.get 109 1 (.ref (ad E 110)) (by decide) (by decide) sh109 (ltO hE sh109) (vlR hE rfl rfl) lk1331 (by decide +kernel) ?_
    refine Go.bipush (n := 113) (113 : Int32) (by decide +kernel) (by decide) ?_
    refine Go.iaload 110 3408 sh110 (ltA hE sh110 (by decide)) (vp_in_iff.mpr (by decide)) (by decide +kernel) ?_
    refine Go.iconst (n := -1) (-1 : Int32) (by decide +kernel) rfl ?_
    refine Go.icmp_ne (off := 6) 31 (by decide +kernel) (by decide) (fun c3 => ?_) (fun c3 => ?_)
    · rw [if_neg c3] at h
      refine Go.aload_n (k := 0) (i := 0) 0 (by decide +kernel) rfl rfl ?_
      refine Go.iload_n (k := 1) (i := 1) 1 (by decide +kernel) rfl rfl ?_
      obtain ⟨v4, P5, hv4, h⟩ := St.bd2 h
      refine Go.cV_i (P1 := P5) (v := v4) (d - 1) 109 [.int a1] sh109 hE w_Mo_forcedIn (e_Mo_forcedIn hG hE (d - 1) (by omega) a1 (u1 P 109 0 (0 : Int32)) ⟨_, hv4, rfl, rfl, rfl⟩) lk1859 rfl (by omega) (Nat.le_of_ble_eq_true rfl) (by decide +kernel) _ rfl ?_
      refine Go.istore_n (k := 2) (i := 2) [(2, .int v4), (0, .ref (ad E 109)), (1, .int a1)] (by decide +kernel) rfl (by decide) rfl ?_
      refine Go.iload_n (k := 2) (i := 2) 0 (by decide +kernel) rfl rfl ?_
      refine Go.iconst (n := 1) (1 : Int32) (by decide +kernel) rfl ?_
      refine Go.icmp_ge (off := 5) 44 (by decide +kernel) (by decide) (fun c6 => ?_) (fun c6 => ?_)
      · rw [if_pos c6] at h
        refine Go.iconst (n := 0) (0 : Int32) (by decide +kernel) rfl ?_
        refine Go.istore_n (k := 3) (i := 3) [(3, .int (0 : Int32)), (2, .int v4), (0, .ref (ad E 109)), (1, .int a1)] (by decide +kernel) rfl (by decide) rfl ?_
        refine Go.sub [2, 3, 1, 0] [(0, .ref (ad E 109)), (1, .int a1), (2, .int v4), (3, .int (0 : Int32))] rfl ?_
        exact t_l_Mo_best_46 hG hE d hd FU a1 v4 (0 : Int32) P5 h
      · rw [if_neg c6] at h
        refine Go.iconst (n := -1) (-1 : Int32) (by decide +kernel) rfl ?_
        exact Go.iret rfl rfl hE.2 (by decide +kernel) (St.fIP h)
    · rw [if_pos c3] at h
      refine Go.bipush (n := -5) (-5 : Int32) (by decide +kernel) (by decide) ?_
      exact Go.iret rfl rfl hE.2 (by decide +kernel) (St.fIP h)
  · rw [if_pos c2] at h
    refine Go.bipush (n := -2) (-2 : Int32) (by decide +kernel) (by decide) ?_
    exact Go.iret rfl rfl hE.2 (by decide +kernel) (St.fIP h)
theorem e_Mo_best {G : GX} (hG : GOK G) {E : EV} (hE : E0 E) (d : Nat) (hd : 106 ≤ d) (a1 : Int32) (P : PM) {Q : QT} (h : St E rIP (f_Mo_best a1 P) Q) : Con G y_Mo_best cw_Mo_best d nOb nOb [.ref (ad E 109), .int a1] P E Q :=
  Con.of hG (by decide +kernel) rfl (fun h => by cases h) hE.2 (Nat.le_of_ble_eq_true rfl) (t_f_Mo_best hG hE d hd a1 P h)
abbrev c_Mo_wholeOf : ByteArray := prog_14_method_114_code
abbrev y_Mo_wholeOf : MethodName := ⟨"YawnRouteModel", "wholeOf", "(I)J"⟩
abbrev cw_Mo_wholeOf : Cond := .code y_Mo_wholeOf c_Mo_wholeOf 4 (some .long)
theorem w_Mo_wholeOf : SW y_Mo_wholeOf c_Mo_wholeOf 4 (some .long) 1 := ⟨lk1900, lk14, lk1901, ⟨by decide, by decide, by decide +kernel⟩, by decide⟩
noncomputable def l_Mo_wholeOf_4 : Nat → Int32 → Int64 → Int32 → PM → Option Int64
  | 0, _, _, _, _ => none
  | n + 1, x0, x1, x3, P => if x0 ≤ x3 then (some x1) else (lb (x1 * (10 : Int64)) (fun y2 => l_Mo_wholeOf_4 n x0 y2 (x3 + (1 : Int32)) P))
noncomputable def f_Mo_wholeOf (a0 : Int32) (P : PM) : Option Int64 := l_Mo_wholeOf_4 FU a0 (1 : Int64) (0 : Int32) P
theorem t_l_Mo_wholeOf_4 {G : GX} (hG : GOK G) {E : EV} (hE : E0 E) (d : Nat) (hd : 1 ≤ d) {P : PM} {Q : QT} : ∀ (n : Nat) (x0 : Int32) (x1 : Int64) (x3 : Int32), St E (rL P) (l_Mo_wholeOf_4 n x0 x1 x3 P) Q → Go G c_Mo_wholeOf "YawnRouteModel" 4 (some .long) false d nOb nOb Q 4 [(0, .int x0), (1, .long x1), (3, .int x3)] [] P E := by
  intro n
  induction n with
  | zero =>
    intro x0 x1 x3 h
    rw [l_Mo_wholeOf_4] at h
    exact St.none_ h
  | succ n ih =>
    intro x0 x1 x3 h
    rw [l_Mo_wholeOf_4] at h
    refine Go.iload_n (k := 3) (i := 3) 2 (by decide +kernel) rfl rfl ?_
    refine Go.iload_n (k := 0) (i := 0) 0 (by decide +kernel) rfl rfl ?_
    refine Go.icmp_ge (off := 15) 21 (by decide +kernel) (by decide) (fun c1 => ?_) (fun c1 => ?_)
    · rw [if_pos c1] at h
      refine Go.lload_n (k := 1) (i := 1) 1 (by decide +kernel) rfl rfl ?_
      exact Go.lret rfl hE.2 (by decide +kernel) (St.fL h)
    · rw [if_neg c1] at h
      refine Go.lload_n (k := 1) (i := 1) 1 (by decide +kernel) rfl rfl ?_
      refine Go.ldc2 (10 : Int64) lk1636 (by decide +kernel) ?_
      refine Go.lmul (by decide +kernel) ?_
      obtain ⟨y2, hy2, h⟩ := St.lb h
      refine Go.eql y2 hy2 ?_
      refine Go.lstore_n (k := 1) (i := 1) [(1, .long y2), (0, .int x0), (3, .int x3)] (by decide +kernel) rfl (by decide) rfl ?_
      refine Go.iinc (i := 3) (n := 1) 2 (x3 + (1 : Int32)) [(3, .int (x3 + (1 : Int32))), (1, .long y2), (0, .int x0)] (by decide +kernel) rfl rfl (by decide) rfl ?_
      refine Go.goto (off := -14) 4 (by decide +kernel) (by decide) ?_
      refine Go.sub [2, 1, 0] [(0, .int x0), (1, .long y2), (3, .int (x3 + (1 : Int32)))] rfl ?_
      exact ih x0 y2 (x3 + (1 : Int32)) h
theorem t_f_Mo_wholeOf {G : GX} (hG : GOK G) {E : EV} (hE : E0 E) (d : Nat) (hd : 1 ≤ d) {P : PM} {Q : QT} (a0 : Int32) (h : St E (rL P) (f_Mo_wholeOf a0 P) Q) : Go G c_Mo_wholeOf "YawnRouteModel" 4 (some .long) false d nOb nOb Q 0 [(0, .int a0)] [] P E := by
  rw [f_Mo_wholeOf] at h
  refine Go.lconst (n := 1) (1 : Int64) (by decide +kernel) rfl ?_
  refine Go.lstore_n (k := 1) (i := 1) [(1, .long (1 : Int64)), (0, .int a0)] (by decide +kernel) rfl (by decide) rfl ?_
  refine Go.iconst (n := 0) (0 : Int32) (by decide +kernel) rfl ?_
  refine Go.istore_n (k := 3) (i := 3) [(3, .int (0 : Int32)), (1, .long (1 : Int64)), (0, .int a0)] (by decide +kernel) rfl (by decide) rfl ?_
  refine Go.sub [2, 1, 0] [(0, .int a0), (1, .long (1 : Int64)), (3, .int (0 : Int32))] rfl ?_
  exact t_l_Mo_wholeOf_4 hG hE d hd FU a0 (1 : Int64) (0 : Int32) h
theorem e_Mo_wholeOf {G : GX} (hG : GOK G) {E : EV} (hE : E0 E) (d : Nat) (hd : 1 ≤ d) (a0 : Int32) (P : PM) {Q : QT} (h : St E (rL P) (f_Mo_wholeOf a0 P) Q) : Con G y_Mo_wholeOf cw_Mo_wholeOf d nOb nOb [.int a0] P E Q :=
  Con.of hG (by decide +kernel) rfl (fun h => by cases h) hE.2 (Nat.le_of_ble_eq_true rfl) (t_f_Mo_wholeOf hG hE d hd a0 h)
