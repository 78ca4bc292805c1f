/-! methods as functions, by program: Lr_readTruth Lr_readBoth Lr_readUnit Lr_readComparison Lr_readSum Lr_readTerm Lr_readAtom Lr_readChoice -/
abbrev c_Lr_readTruth : ByteArray := prog_3_method_2_code
abbrev y_Lr_readTruth : MethodName := ⟨"YawnRoute$LawReader", "readTruth", "(I)V"⟩
abbrev cw_Lr_readTruth : Cond := .code y_Lr_readTruth c_Lr_readTruth 3 none
theorem w_Lr_readTruth : VW 1 y_Lr_readTruth c_Lr_readTruth 3 none 1 := ⟨by decide, lk650, lp9_, lk6, lk651, ⟨by decide, by decide, by decide +kernel⟩, by decide⟩
abbrev c_Lr_readBoth : ByteArray := prog_3_method_3_code
abbrev y_Lr_readBoth : MethodName := ⟨"YawnRoute$LawReader", "readBoth", "(I)V"⟩
abbrev cw_Lr_readBoth : Cond := .code y_Lr_readBoth c_Lr_readBoth 3 none
theorem w_Lr_readBoth : VW 1 y_Lr_readBoth c_Lr_readBoth 3 none 1 := ⟨by decide, lk654, lp10_, lk6, lk655, ⟨by decide, by decide, by decide +kernel⟩, by decide⟩
abbrev c_Lr_readUnit : ByteArray := prog_3_method_4_code
abbrev y_Lr_readUnit : MethodName := ⟨"YawnRoute$LawReader", "readUnit", "(I)V"⟩
abbrev cw_Lr_readUnit : Cond := .code y_Lr_readUnit c_Lr_readUnit 2 none
theorem w_Lr_readUnit : VW 1 y_Lr_readUnit c_Lr_readUnit 2 none 1 := ⟨by decide, lk658, lp11_, lk6, lk659, ⟨by decide, by decide, by decide +kernel⟩, by decide⟩
abbrev c_Lr_readComparison : ByteArray := prog_3_method_5_code
abbrev y_Lr_readComparison : MethodName := ⟨"YawnRoute$LawReader", "readComparison", "(I)V"⟩
abbrev cw_Lr_readComparison : Cond := .code y_Lr_readComparison c_Lr_readComparison 3 none
theorem w_Lr_readComparison : VW 1 y_Lr_readComparison c_Lr_readComparison 3 none 1 := ⟨by decide, lk674, lp13_, lk6, lk675, ⟨by decide, by decide, by decide +kernel⟩, by decide⟩
abbrev c_Lr_readSum : ByteArray := prog_3_method_6_code
abbrev y_Lr_readSum : MethodName := ⟨"YawnRoute$LawReader", "readSum", "(I)V"⟩
abbrev cw_Lr_readSum : Cond := .code y_Lr_readSum c_Lr_readSum 4 none
theorem w_Lr_readSum : VW 1 y_Lr_readSum c_Lr_readSum 4 none 1 := ⟨by decide, lk678, lp14_, lk6, lk679, ⟨by decide, by decide, by decide +kernel⟩, by decide⟩
abbrev c_Lr_readTerm : ByteArray := prog_3_method_7_code
abbrev y_Lr_readTerm : MethodName := ⟨"YawnRoute$LawReader", "readTerm", "(I)V"⟩
abbrev cw_Lr_readTerm : Cond := .code y_Lr_readTerm c_Lr_readTerm 3 none
theorem w_Lr_readTerm : VW 1 y_Lr_readTerm c_Lr_readTerm 3 none 1 := ⟨by decide, lk682, lp15_, lk6, lk683, ⟨by decide, by decide, by decide +kernel⟩, by decide⟩
abbrev c_Lr_readAtom : ByteArray := prog_3_method_8_code
abbrev y_Lr_readAtom : MethodName := ⟨"YawnRoute$LawReader", "readAtom", "(I)V"⟩
abbrev cw_Lr_readAtom : Cond := .code y_Lr_readAtom c_Lr_readAtom 3 none
theorem w_Lr_readAtom : VW 1 y_Lr_readAtom c_Lr_readAtom 3 none 1 := ⟨by decide, lk686, lp16_, lk6, lk687, ⟨by decide, by decide, by decide +kernel⟩, by decide⟩
abbrev c_Lr_readChoice : ByteArray := prog_3_method_9_code
abbrev y_Lr_readChoice : MethodName := ⟨"YawnRoute$LawReader", "readChoice", "(I)V"⟩
abbrev cw_Lr_readChoice : Cond := .code y_Lr_readChoice c_Lr_readChoice 2 none
theorem w_Lr_readChoice : VW 1 y_Lr_readChoice c_Lr_readChoice 2 none 1 := ⟨by decide, lk690, lp17_, lk6, lk691, ⟨by decide, by decide, by decide +kernel⟩, by decide⟩
noncomputable def l_Lr_readTruth_7 (rec : Nat → Int32 → PM → Option PM) : Nat → Int32 → Int32 → PM → Option PM
  | 0, _, _, _ => none
  | n + 1, x1, x2, P => if (900 : Int32) ≤ x2 then (some P) else (if (P.1 1 5) = (217 : Int32) then ((f_Ta_next P).bind (fun P3 => (rec 1 x1 P3).bind (fun P4 => (f_Ne_addCode 4 (-217 : Int32) P4).bind (fun P5 => l_Lr_readTruth_7 rec n x1 (x2 + (1 : Int32)) P5)))) else (some P))
noncomputable def f_Lr_readTruth (rec : Nat → Int32 → PM → Option PM) (a1 : Int32) (P : PM) : Option PM := (rec 1 a1 P).bind (fun P1 => l_Lr_readTruth_7 rec FU a1 (0 : Int32) P1)
noncomputable def l_Lr_readBoth_7 (rec : Nat → Int32 → PM → Option PM) : Nat → Int32 → Int32 → PM → Option PM
  | 0, _, _, _ => none
  | n + 1, x1, x2, P => if (900 : Int32) ≤ x2 then (some P) else (if (P.1 1 5) = (218 : Int32) then ((f_Ta_next P).bind (fun P3 => (rec 2 x1 P3).bind (fun P4 => (f_Ne_addCode 4 (-218 : Int32) P4).bind (fun P5 => l_Lr_readBoth_7 rec n x1 (x2 + (1 : Int32)) P5)))) else (some P))
noncomputable def f_Lr_readBoth (rec : Nat → Int32 → PM → Option PM) (a1 : Int32) (P : PM) : Option PM := (rec 2 a1 P).bind (fun P1 => l_Lr_readBoth_7 rec FU a1 (0 : Int32) P1)
noncomputable def f_Lr_readUnit (rec : Nat → Int32 → PM → Option PM) (a1 : Int32) (P : PM) : Option PM := if (P.1 1 5) = (219 : Int32) then (bd2 (f_Lr_opens a1 P) (fun v9 P10 => if v9 = (0 : Int32) then (some P10) else ((rec 2 (a1 + (1 : Int32)) P10).bind (fun P12 => (f_Ne_addCode 4 (-219 : Int32) P12).bind (fun P13 => some P13))))) else (if (P.1 1 5) = (91 : Int32) then (bd2 (f_Lr_opens a1 P) (fun v4 P5 => if v4 = (0 : Int32) then (some P5) else ((rec 0 (a1 + (1 : Int32)) P5).bind (fun P7 => (f_Ta_skip (93 : Int32) P7).bind (fun P8 => some P8))))) else ((rec 3 a1 P).bind (fun P3 => some P3)))
noncomputable def j_Lr_readComparison_40 (rec : Nat → Int32 → PM → Option PM) (x1 : Int32) (x2 : Int32) (P : PM) : Option PM := (f_Ta_next P).bind (fun P1 => (rec 4 x1 P1).bind (fun P2 => (f_Ne_addCode 4 (-x2) P2).bind (fun P3 => some P3)))
noncomputable def f_Lr_readComparison (rec : Nat → Int32 → PM → Option PM) (a1 : Int32) (P : PM) : Option PM := (rec 4 a1 P).bind (fun P1 => lb (P1.1 1 5) (fun y2 => if y2 = (61 : Int32) then (j_Lr_readComparison_40 rec a1 y2 P1) else (if y2 = (60 : Int32) then (j_Lr_readComparison_40 rec a1 y2 P1) else (if y2 = (62 : Int32) then (j_Lr_readComparison_40 rec a1 y2 P1) else ((f_Ta_fail (2 : Int32) P1).bind (fun P6 => some P6))))))
noncomputable def j_Lr_readSum_38 (rec : Nat → Int32 → PM → Option PM) (k7 : Int32 → Int32 → PM → Option PM) (x1 : Int32) (x2 : Int32) (P : PM) : Option PM := lb (P.1 1 5) (fun y1 => (f_Ta_next P).bind (fun P2 => (rec 5 x1 P2).bind (fun P3 => (f_Ne_addCode 4 (-y1) P3).bind (fun P4 => k7 x1 (x2 + (1 : Int32)) P4))))
noncomputable def l_Lr_readSum_7 (rec : Nat → Int32 → PM → Option PM) : Nat → Int32 → Int32 → PM → Option PM
  | 0, _, _, _ => none
  | n + 1, x1, x2, P => if (900 : Int32) ≤ x2 then (some P) else (if (P.1 1 5) = (43 : Int32) then (j_Lr_readSum_38 rec (fun z0 z1 Pz => l_Lr_readSum_7 rec n z0 z1 Pz) x1 x2 P) else (if (P.1 1 5) = (45 : Int32) then (j_Lr_readSum_38 rec (fun z0 z1 Pz => l_Lr_readSum_7 rec n z0 z1 Pz) x1 x2 P) else (some P)))
noncomputable def f_Lr_readSum (rec : Nat → Int32 → PM → Option PM) (a1 : Int32) (P : PM) : Option PM := (rec 5 a1 P).bind (fun P1 => l_Lr_readSum_7 rec FU a1 (0 : Int32) P1)
noncomputable def l_Lr_readTerm_7 (rec : Nat → Int32 → PM → Option PM) : Nat → Int32 → Int32 → PM → Option PM
  | 0, _, _, _ => none
  | n + 1, x1, x2, P => if (900 : Int32) ≤ x2 then (some P) else (if (P.1 1 5) = (42 : Int32) then ((f_Ta_next P).bind (fun P3 => (rec 6 x1 P3).bind (fun P4 => (f_Ne_addCode 4 (-42 : Int32) P4).bind (fun P5 => l_Lr_readTerm_7 rec n x1 (x2 + (1 : Int32)) P5)))) else (some P))
noncomputable def f_Lr_readTerm (rec : Nat → Int32 → PM → Option PM) (a1 : Int32) (P : PM) : Option PM := (rec 6 a1 P).bind (fun P1 => l_Lr_readTerm_7 rec FU a1 (0 : Int32) P1)
noncomputable def j_Lr_readAtom_70 (rec : Nat → Int32 → PM → Option PM) (x1 : Int32) (x2 : Int32) (P : PM) : Option PM := if x2 = (40 : Int32) then (bd2 (f_Lr_opens x1 P) (fun v8 P9 => if v8 = (0 : Int32) then (some P9) else ((rec 4 (x1 + (1 : Int32)) P9).bind (fun P11 => (f_Ta_skip (41 : Int32) P11).bind (fun P12 => some P12))))) else (if x2 = (213 : Int32) then (bd2 (f_Lr_opens x1 P) (fun v4 P5 => if v4 = (0 : Int32) then (some P5) else ((rec 7 (x1 + (1 : Int32)) P5).bind (fun P7 => some P7)))) else ((f_Ta_fail (2 : Int32) P).bind (fun P3 => some P3)))
noncomputable def f_Lr_readAtom (rec : Nat → Int32 → PM → Option PM) (a1 : Int32) (P : PM) : Option PM := lb (P.1 1 5) (fun y1 => if y1 = (1 : Int32) then ((f_Ne_addCode 4 (P.1 1 6) P).bind (fun P7 => (f_Ta_next P7).bind (fun P8 => some P8))) else (if y1 < (200 : Int32) then (j_Lr_readAtom_70 rec a1 y1 P) else (if (205 : Int32) < y1 then (j_Lr_readAtom_70 rec a1 y1 P) else ((f_Ne_addCode 4 (-y1) P).bind (fun P5 => (f_Ta_next P5).bind (fun P6 => some P6))))))
noncomputable def f_Lr_readChoice (rec : Nat → Int32 → PM → Option PM) (a1 : Int32) (P : PM) : Option PM := (rec 0 a1 P).bind (fun P1 => (f_Ta_skip (214 : Int32) P1).bind (fun P2 => (rec 4 a1 P2).bind (fun P3 => (f_Ta_skip (215 : Int32) P3).bind (fun P4 => (rec 4 a1 P4).bind (fun P5 => (f_Ta_skip (216 : Int32) P5).bind (fun P6 => (f_Ne_addCode 4 (-213 : Int32) P6).bind (fun P7 => some P7)))))))
theorem t_l_Lr_readTruth_7 {G : GX} (hG : GOK G) {E : EV} (hE : E0 E) (d : Nat) (hd : 8 ≤ d) {Q : QT} (rec : Nat → Int32 → PM → Option PM) (hr0 : ∀ (a0 : Int32) (P : PM) {Q : QT}, St E rP (rec 0 a0 P) Q → Con G y_Lr_readTruth cw_Lr_readTruth (d - 1) nOb nOb [.ref (ad E 13), .int a0] P E Q) (hr1 : ∀ (a0 : Int32) (P : PM) {Q : QT}, St E rP (rec 1 a0 P) Q → Con G y_Lr_readBoth cw_Lr_readBoth (d - 1) nOb nOb [.ref (ad E 13), .int a0] P E Q) (hr2 : ∀ (a0 : Int32) (P : PM) {Q : QT}, St E rP (rec 2 a0 P) Q → Con G y_Lr_readUnit cw_Lr_readUnit (d - 1) nOb nOb [.ref (ad E 13), .int a0] P E Q) (hr3 : ∀ (a0 : Int32) (P : PM) {Q : QT}, St E rP (rec 3 a0 P) Q → Con G y_Lr_readComparison cw_Lr_readComparison (d - 1) nOb nOb [.ref (ad E 13), .int a0] P E Q) (hr4 : ∀ (a0 : Int32) (P : PM) {Q : QT}, St E rP (rec 4 a0 P) Q → Con G y_Lr_readSum cw_Lr_readSum (d - 1) nOb nOb [.ref (ad E 13), .int a0] P E Q) (hr5 : ∀ (a0 : Int32) (P : PM) {Q : QT}, St E rP (rec 5 a0 P) Q → Con G y_Lr_readTerm cw_Lr_readTerm (d - 1) nOb nOb [.ref (ad E 13), .int a0] P E Q) (hr6 : ∀ (a0 : Int32) (P : PM) {Q : QT}, St E rP (rec 6 a0 P) Q → Con G y_Lr_readAtom cw_Lr_readAtom (d - 1) nOb nOb [.ref (ad E 13), .int a0] P E Q) (hr7 : ∀ (a0 : Int32) (P : PM) {Q : QT}, St E rP (rec 7 a0 P) Q → Con G y_Lr_readChoice cw_Lr_readChoice (d - 1) nOb nOb [.ref (ad E 13), .int a0] P E Q) : ∀ (n : Nat) (x1 : Int32) (x2 : Int32) (P : PM), St E rP (l_Lr_readTruth_7 rec n x1 x2 P) Q → Go G c_Lr_readTruth "YawnRoute$LawReader" 3 none false d nOb nOb Q 7 [(0, .ref (ad E 13)), (1, .int x1), (2, .int x2)] [] P E := by
  intro n
  induction n with
  | zero =>
    intro x1 x2 P h
    rw [l_Lr_readTruth_7] at h
    exact St.none_ h
  | succ n ih =>
    intro x1 x2 P h
    rw [l_Lr_readTruth_7] at h
    refine Go.iload_n (k := 2) (i := 2) 2 (by decide +kernel) rfl rfl ?_
    refine Go.sipush (n := 900) (900 : Int32) (by decide +kernel) (by decide) ?_
    refine Go.icmp_ge (off := 44) 55 (by decide +kernel) (by decide) (fun c1 => ?_) (fun c1 => ?_)
    · rw [if_pos c1] at h
      exact Go.vret rfl hE.2 (by decide +kernel) (St.fP h)
    · rw [if_neg c1] at h
      refine Go.aload_n (k := 0) (i := 0) 0 (by decide +kernel) rfl rfl ?_
      refine Go.get 13 0 (.ref (ad E 1)) (by decide) (by decide) sh13 (ltO hE sh13) (vlR hE rfl rfl) lk188 (by decide +kernel) ?_
      refine Go.get 1 5 (.int (P.1 1 5)) (by decide) (by decide) sh1 (ltO hE sh1) rfl lk43 (by decide +kernel) ?_
      refine Go.sipush (n := 217) (217 : Int32) (by decide +kernel) (by decide) ?_
      refine Go.icmp_ne (off := 31) 55 (by decide +kernel) (by decide) (fun c2 => ?_) (fun c2 => ?_)
      · rw [if_neg c2] at h
        exact Go.vret rfl hE.2 (by decide +kernel) (St.fP h)
      · rw [if_pos c2] at h
        refine Go.aload_n (k := 0) (i := 0) 0 (by decide +kernel) rfl rfl ?_
        refine Go.get 13 0 (.ref (ad E 1)) (by decide) (by decide) sh13 (ltO hE sh13) (vlR hE rfl rfl) lk188 (by decide +kernel) ?_
        obtain ⟨P3, hP3, h⟩ := St.bind h
        refine Go.cV_v (P1 := P3) (d - 1) 1 [] sh1 hE w_Ta_next (e_Ta_next hG hE (d - 1) (by omega) P ⟨_, hP3, rfl, rfl, rfl⟩) lk665 rfl (by omega) (Nat.le_of_ble_eq_true rfl) (by decide +kernel) _ rfl ?_
        refine Go.aload_n (k := 0) (i := 0) 0 (by decide +kernel) rfl rfl ?_
        refine Go.iload_n (k := 1) (i := 1) 1 (by decide +kernel) rfl rfl ?_
        obtain ⟨P4, hP4, h⟩ := St.bind h
        refine Go.cV_v (P1 := P4) (d - 1) 13 [.int x1] sh13 hE w_Lr_readBoth (hr1 x1 P3 ⟨_, hP4, rfl, rfl, rfl⟩) lk652 rfl (by omega) (Nat.le_of_ble_eq_true rfl) (by decide +kernel) _ rfl ?_
        refine Go.aload_n (k := 0) (i := 0) 0 (by decide +kernel) rfl rfl ?_
        refine Go.get 13 1 (.ref (ad E 4)) (by decide) (by decide) sh13 (ltO hE sh13) (vlR hE rfl rfl) lk189 (by decide +kernel) ?_
        refine Go.sipush (n := -217) (-217 : Int32) (by decide +kernel) (by decide) ?_
        obtain ⟨P5, hP5, h⟩ := St.bind h
        refine Go.cV_v (P1 := P5) (d - 1) 4 [.int (-217 : Int32)] sh4 hE w_Ne_addCode (e_Ne_addCode hG hE (d - 1) (by omega) 4 sh4 (-217 : Int32) P4 ⟨_, hP5, rfl, rfl, rfl⟩) lk666 rfl (by omega) (Nat.le_of_ble_eq_true rfl) (by decide +kernel) _ rfl ?_
        refine Go.iinc (i := 2) (n := 1) 2 (x2 + (1 : Int32)) [(2, .int (x2 + (1 : Int32))), (0, .ref (ad E 13)), (1, .int x1)] (by decide +kernel) rfl rfl (by decide) rfl ?_
        refine Go.goto (off := -45) 7 (by decide +kernel) (by decide) ?_
        refine Go.sub [1, 2, 0] [(0, .ref (ad E 13)), (1, .int x1), (2, .int (x2 + (1 : Int32)))] rfl ?_
        exact ih x1 (x2 + (1 : Int32)) P5 h
theorem t_f_Lr_readTruth {G : GX} (hG : GOK G) {E : EV} (hE : E0 E) (d : Nat) (hd : 8 ≤ d) {Q : QT} (rec : Nat → Int32 → PM → Option PM) (hr0 : ∀ (a0 : Int32) (P : PM) {Q : QT}, St E rP (rec 0 a0 P) Q → Con G y_Lr_readTruth cw_Lr_readTruth (d - 1) nOb nOb [.ref (ad E 13), .int a0] P E Q) (hr1 : ∀ (a0 : Int32) (P : PM) {Q : QT}, St E rP (rec 1 a0 P) Q → Con G y_Lr_readBoth cw_Lr_readBoth (d - 1) nOb nOb [.ref (ad E 13), .int a0] P E Q) (hr2 : ∀ (a0 : Int32) (P : PM) {Q : QT}, St E rP (rec 2 a0 P) Q → Con G y_Lr_readUnit cw_Lr_readUnit (d - 1) nOb nOb [.ref (ad E 13), .int a0] P E Q) (hr3 : ∀ (a0 : Int32) (P : PM) {Q : QT}, St E rP (rec 3 a0 P) Q → Con G y_Lr_readComparison cw_Lr_readComparison (d - 1) nOb nOb [.ref (ad E 13), .int a0] P E Q) (hr4 : ∀ (a0 : Int32) (P : PM) {Q : QT}, St E rP (rec 4 a0 P) Q → Con G y_Lr_readSum cw_Lr_readSum (d - 1) nOb nOb [.ref (ad E 13), .int a0] P E Q) (hr5 : ∀ (a0 : Int32) (P : PM) {Q : QT}, St E rP (rec 5 a0 P) Q → Con G y_Lr_readTerm cw_Lr_readTerm (d - 1) nOb nOb [.ref (ad E 13), .int a0] P E Q) (hr6 : ∀ (a0 : Int32) (P : PM) {Q : QT}, St E rP (rec 6 a0 P) Q → Con G y_Lr_readAtom cw_Lr_readAtom (d - 1) nOb nOb [.ref (ad E 13), .int a0] P E Q) (hr7 : ∀ (a0 : Int32) (P : PM) {Q : QT}, St E rP (rec 7 a0 P) Q → Con G y_Lr_readChoice cw_Lr_readChoice (d - 1) nOb nOb [.ref (ad E 13), .int a0] P E Q) (a1 : Int32) (P : PM) (h : St E rP (f_Lr_readTruth rec a1 P) Q) : Go G c_Lr_readTruth "YawnRoute$LawReader" 3 none false d nOb nOb Q 0 [(0, .ref (ad E 13)), (1, .int a1)] [] P E := by
  rw [f_Lr_readTruth] at h
  refine Go.aload_n (k := 0) (i := 0) 0 (by decide +kernel) rfl rfl ?_
  refine Go.iload_n (k := 1) (i := 1) 1 (by decide +kernel) rfl rfl ?_
  obtain ⟨P1, hP1, h⟩ := St.bind h
  refine Go.cV_v (P1 := P1) (d - 1) 13 [.int a1] sh13 hE w_Lr_readBoth (hr1 a1 P ⟨_, hP1, rfl, rfl, rfl⟩) lk652 rfl (by omega) (Nat.le_of_ble_eq_true rfl) (by decide +kernel) _ rfl ?_
  refine Go.iconst (n := 0) (0 : Int32) (by decide +kernel) rfl ?_
  refine Go.istore_n (k := 2) (i := 2) [(2, .int (0 : Int32)), (0, .ref (ad E 13)), (1, .int a1)] (by decide +kernel) rfl (by decide) rfl ?_
  refine Go.sub [1, 2, 0] [(0, .ref (ad E 13)), (1, .int a1), (2, .int (0 : Int32))] rfl ?_
  exact t_l_Lr_readTruth_7 hG hE d hd rec hr0 hr1 hr2 hr3 hr4 hr5 hr6 hr7 FU a1 (0 : Int32) P1 h
theorem t_l_Lr_readBoth_7 {G : GX} (hG : GOK G) {E : EV} (hE : E0 E) (d : Nat) (hd : 8 ≤ d) {Q : QT} (rec : Nat → Int32 → PM → Option PM) (hr0 : ∀ (a0 : Int32) (P : PM) {Q : QT}, St E rP (rec 0 a0 P) Q → Con G y_Lr_readTruth cw_Lr_readTruth (d - 1) nOb nOb [.ref (ad E 13), .int a0] P E Q) (hr1 : ∀ (a0 : Int32) (P : PM) {Q : QT}, St E rP (rec 1 a0 P) Q → Con G y_Lr_readBoth cw_Lr_readBoth (d - 1) nOb nOb [.ref (ad E 13), .int a0] P E Q) (hr2 : ∀ (a0 : Int32) (P : PM) {Q : QT}, St E rP (rec 2 a0 P) Q → Con G y_Lr_readUnit cw_Lr_readUnit (d - 1) nOb nOb [.ref (ad E 13), .int a0] P E Q) (hr3 : ∀ (a0 : Int32) (P : PM) {Q : QT}, St E rP (rec 3 a0 P) Q → Con G y_Lr_readComparison cw_Lr_readComparison (d - 1) nOb nOb [.ref (ad E 13), .int a0] P E Q) (hr4 : ∀ (a0 : Int32) (P : PM) {Q : QT}, St E rP (rec 4 a0 P) Q → Con G y_Lr_readSum cw_Lr_readSum (d - 1) nOb nOb [.ref (ad E 13), .int a0] P E Q) (hr5 : ∀ (a0 : Int32) (P : PM) {Q : QT}, St E rP (rec 5 a0 P) Q → Con G y_Lr_readTerm cw_Lr_readTerm (d - 1) nOb nOb [.ref (ad E 13), .int a0] P E Q) (hr6 : ∀ (a0 : Int32) (P : PM) {Q : QT}, St E rP (rec 6 a0 P) Q → Con G y_Lr_readAtom cw_Lr_readAtom (d - 1) nOb nOb [.ref (ad E 13), .int a0] P E Q) (hr7 : ∀ (a0 : Int32) (P : PM) {Q : QT}, St E rP (rec 7 a0 P) Q → Con G y_Lr_readChoice cw_Lr_readChoice (d - 1) nOb nOb [.ref (ad E 13), .int a0] P E Q) : ∀ (n : Nat) (x1 : Int32) (x2 : Int32) (P : PM), St E rP (l_Lr_readBoth_7 rec n x1 x2 P) Q → Go G c_Lr_readBoth "YawnRoute$LawReader" 3 none false d nOb nOb Q 7 [(0, .ref (ad E 13)), (1, .int x1), (2, .int x2)] [] P E := by
  intro n
  induction n with
  | zero =>
    intro x1 x2 P h
    rw [l_Lr_readBoth_7] at h
    exact St.none_ h
  | succ n ih =>
    intro x1 x2 P h
    rw [l_Lr_readBoth_7] at h
    refine Go.iload_n (k := 2) (i := 2) 2 (by decide +kernel) rfl rfl ?_
    refine Go.sipush (n := 900) (900 : Int32) (by decide +kernel) (by decide) ?_
    refine Go.icmp_ge (off := 44) 55 (by decide +kernel) (by decide) (fun c1 => ?_) (fun c1 => ?_)
    · rw [if_pos c1] at h
      exact Go.vret rfl hE.2 (by decide +kernel) (St.fP h)
    · rw [if_neg c1] at h
      refine Go.aload_n (k := 0) (i := 0) 0 (by decide +kernel) rfl rfl ?_
      refine Go.get 13 0 (.ref (ad E 1)) (by decide) (by decide) sh13 (ltO hE sh13) (vlR hE rfl rfl) lk188 (by decide +kernel) ?_
      refine Go.get 1 5 (.int (P.1 1 5)) (by decide) (by decide) sh1 (ltO hE sh1) rfl lk43 (by decide +kernel) ?_
      refine Go.sipush (n := 218) (218 : Int32) (by decide +kernel) (by decide) ?_
      refine Go.icmp_ne (off := 31) 55 (by decide +kernel) (by decide) (fun c2 => ?_) (fun c2 => ?_)
      · rw [if_neg c2] at h
        exact Go.vret rfl hE.2 (by decide +kernel) (St.fP h)
      · rw [if_pos c2] at h
        refine Go.aload_n (k := 0) (i := 0) 0 (by decide +kernel) rfl rfl ?_
        refine Go.get 13 0 (.ref (ad E 1)) (by decide) (by decide) sh13 (ltO hE sh13) (vlR hE rfl rfl) lk188 (by decide +kernel) ?_
        obtain ⟨P3, hP3, h⟩ := St.bind h
        refine Go.cV_v (P1 := P3) (d - 1) 1 [] sh1 hE w_Ta_next (e_Ta_next hG hE (d - 1) (by omega) P ⟨_, hP3, rfl, rfl, rfl⟩) lk665 rfl (by omega) (Nat.le_of_ble_eq_true rfl) (by decide +kernel) _ rfl ?_
        refine Go.aload_n (k := 0) (i := 0) 0 (by decide +kernel) rfl rfl ?_
        refine Go.iload_n (k := 1) (i := 1) 1 (by decide +kernel) rfl rfl ?_
        obtain ⟨P4, hP4, h⟩ := St.bind h
        refine Go.cV_v (P1 := P4) (d - 1) 13 [.int x1] sh13 hE w_Lr_readUnit (hr2 x1 P3 ⟨_, hP4, rfl, rfl, rfl⟩) lk656 rfl (by omega) (Nat.le_of_ble_eq_true rfl) (by decide +kernel) _ rfl ?_
        refine Go.aload_n (k := 0) (i := 0) 0 (by decide +kernel) rfl rfl ?_
        refine Go.get 13 1 (.ref (ad E 4)) (by decide) (by decide) sh13 (ltO hE sh13) (vlR hE rfl rfl) lk189 (by decide +kernel) ?_
        refine Go.sipush (n := -218) (-218 : Int32) (by decide +kernel) (by decide) ?_
        obtain ⟨P5, hP5, h⟩ := St.bind h
        refine Go.cV_v (P1 := P5) (d - 1) 4 [.int (-218 : Int32)] sh4 hE w_Ne_addCode (e_Ne_addCode hG hE (d - 1) (by omega) 4 sh4 (-218 : Int32) P4 ⟨_, hP5, rfl, rfl, rfl⟩) lk666 rfl (by omega) (Nat.le_of_ble_eq_true rfl) (by decide +kernel) _ rfl ?_
        refine Go.iinc (i := 2) (n := 1) 2 (x2 + (1 : Int32)) [(2, .int (x2 + (1 : Int32))), (0, .ref (ad E 13)), (1, .int x1)] (by decide +kernel) rfl rfl (by decide) rfl ?_
        refine Go.goto (off := -45) 7 (by decide +kernel) (by decide) ?_
        refine Go.sub [1, 2, 0] [(0, .ref (ad E 13)), (1, .int x1), (2, .int (x2 + (1 : Int32)))] rfl ?_
        exact ih x1 (x2 + (1 : Int32)) P5 h
theorem t_f_Lr_readBoth {G : GX} (hG : GOK G) {E : EV} (hE : E0 E) (d : Nat) (hd : 8 ≤ d) {Q : QT} (rec : Nat → Int32 → PM → Option PM) (hr0 : ∀ (a0 : Int32) (P : PM) {Q : QT}, St E rP (rec 0 a0 P) Q → Con G y_Lr_readTruth cw_Lr_readTruth (d - 1) nOb nOb [.ref (ad E 13), .int a0] P E Q) (hr1 : ∀ (a0 : Int32) (P : PM) {Q : QT}, St E rP (rec 1 a0 P) Q → Con G y_Lr_readBoth cw_Lr_readBoth (d - 1) nOb nOb [.ref (ad E 13), .int a0] P E Q) (hr2 : ∀ (a0 : Int32) (P : PM) {Q : QT}, St E rP (rec 2 a0 P) Q → Con G y_Lr_readUnit cw_Lr_readUnit (d - 1) nOb nOb [.ref (ad E 13), .int a0] P E Q) (hr3 : ∀ (a0 : Int32) (P : PM) {Q : QT}, St E rP (rec 3 a0 P) Q → Con G y_Lr_readComparison cw_Lr_readComparison (d - 1) nOb nOb [.ref (ad E 13), .int a0] P E Q) (hr4 : ∀ (a0 : Int32) (P : PM) {Q : QT}, St E rP (rec 4 a0 P) Q → Con G y_Lr_readSum cw_Lr_readSum (d - 1) nOb nOb [.ref (ad E 13), .int a0] P E Q) (hr5 : ∀ (a0 : Int32) (P : PM) {Q : QT}, St E rP (rec 5 a0 P) Q → Con G y_Lr_readTerm cw_Lr_readTerm (d - 1) nOb nOb [.ref (ad E 13), .int a0] P E Q) (hr6 : ∀ (a0 : Int32) (P : PM) {Q : QT}, St E rP (rec 6 a0 P) Q → Con G y_Lr_readAtom cw_Lr_readAtom (d - 1) nOb nOb [.ref (ad E 13), .int a0] P E Q) (hr7 : ∀ (a0 : Int32) (P : PM) {Q : QT}, St E rP (rec 7 a0 P) Q → Con G y_Lr_readChoice cw_Lr_readChoice (d - 1) nOb nOb [.ref (ad E 13), .int a0] P E Q) (a1 : Int32) (P : PM) (h : St E rP (f_Lr_readBoth rec a1 P) Q) : Go G c_Lr_readBoth "YawnRoute$LawReader" 3 none false d nOb nOb Q 0 [(0, .ref (ad E 13)), (1, .int a1)] [] P E := by
  rw [f_Lr_readBoth] at h
  refine Go.aload_n (k := 0) (i := 0) 0 (by decide +kernel) rfl rfl ?_
  refine Go.iload_n (k := 1) (i := 1) 1 (by decide +kernel) rfl rfl ?_
  obtain ⟨P1, hP1, h⟩ := St.bind h
  refine Go.cV_v (P1 := P1) (d - 1) 13 [.int a1] sh13 hE w_Lr_readUnit (hr2 a1 P ⟨_, hP1, rfl, rfl, rfl⟩) lk656 rfl (by omega) (Nat.le_of_ble_eq_true rfl) (by decide +kernel) _ rfl ?_
  refine Go.iconst (n := 0) (0 : Int32) (by decide +kernel) rfl ?_
  refine Go.istore_n (k := 2) (i := 2) [(2, .int (0 : Int32)), (0, .ref (ad E 13)), (1, .int a1)] (by decide +kernel) rfl (by decide) rfl ?_
  refine Go.sub [1, 2, 0] [(0, .ref (ad E 13)), (1, .int a1), (2, .int (0 : Int32))] rfl ?_
  exact t_l_Lr_readBoth_7 hG hE d hd rec hr0 hr1 hr2 hr3 hr4 hr5 hr6 hr7 FU a1 (0 : Int32) P1 h
theorem t_f_Lr_readUnit {G : GX} (hG : GOK G) {E : EV} (hE : E0 E) (d : Nat) (hd : 8 ≤ d) {Q : QT} (rec : Nat → Int32 → PM → Option PM) (hr0 : ∀ (a0 : Int32) (P : PM) {Q : QT}, St E rP (rec 0 a0 P) Q → Con G y_Lr_readTruth cw_Lr_readTruth (d - 1) nOb nOb [.ref (ad E 13), .int a0] P E Q) (hr1 : ∀ (a0 : Int32) (P : PM) {Q : QT}, St E rP (rec 1 a0 P) Q → Con G y_Lr_readBoth cw_Lr_readBoth (d - 1) nOb nOb [.ref (ad E 13), .int a0] P E Q) (hr2 : ∀ (a0 : Int32) (P : PM) {Q : QT}, St E rP (rec 2 a0 P) Q → Con G y_Lr_readUnit cw_Lr_readUnit (d - 1) nOb nOb [.ref (ad E 13), .int a0] P E Q) (hr3 : ∀ (a0 : Int32) (P : PM) {Q : QT}, St E rP (rec 3 a0 P) Q → Con G y_Lr_readComparison cw_Lr_readComparison (d - 1) nOb nOb [.ref (ad E 13), .int a0] P E Q) (hr4 : ∀ (a0 : Int32) (P : PM) {Q : QT}, St E rP (rec 4 a0 P) Q → Con G y_Lr_readSum cw_Lr_readSum (d - 1) nOb nOb [.ref (ad E 13), .int a0] P E Q) (hr5 : ∀ (a0 : Int32) (P : PM) {Q : QT}, St E rP (rec 5 a0 P) Q → Con G y_Lr_readTerm cw_Lr_readTerm (d - 1) nOb nOb [.ref (ad E 13), .int a0] P E Q) (hr6 : ∀ (a0 : Int32) (P : PM) {Q : QT}, St E rP (rec 6 a0 P) Q → Con G y_Lr_readAtom cw_Lr_readAtom (d - 1) nOb nOb [.ref (ad E 13), .int a0] P E Q) (hr7 : ∀ (a0 : Int32) (P : PM) {Q : QT}, St E rP (rec 7 a0 P) Q → Con G y_Lr_readChoice cw_Lr_readChoice (d - 1) nOb nOb [.ref (ad E 13), .int a0] P E Q) (a1 : Int32) (P : PM) (h : St E rP (f_Lr_readUnit rec a1 P) Q) : Go G c_Lr_readUnit "YawnRoute$LawReader" 2 none false d nOb nOb Q 0 [(0, .ref (ad E 13)), (1, .int a1)] [] P E := by
  rw [f_Lr_readUnit] at h
  refine Go.aload_n (k := 0) (i := 0) 0 (by decide +kernel) rfl rfl ?_
  refine Go.get 13 0 (.ref (ad E 1)) (by decide) (by decide) sh13 (ltO hE sh13) (vlR hE rfl rfl) lk188 (by decide +kernel) ?_
  refine Go.get 1 5 (.int (P.1 1 5)) (by decide) (by decide) sh1 (ltO hE sh1) rfl lk43 (by decide +kernel) ?_
  refine Go.sipush (n := 219) (219 : Int32) (by decide +kernel) (by decide) ?_
  refine Go.icmp_ne (off := 31) 41 (by decide +kernel) (by decide) (fun c1 => ?_) (fun c1 => ?_)
  · rw [if_neg c1] at h
    refine Go.aload_n (k := 0) (i := 0) 0 (by decide +kernel) rfl rfl ?_
    refine Go.get 13 0 (.ref (ad E 1)) (by decide) (by decide) sh13 (ltO hE sh13) (vlR hE rfl rfl) lk188 (by decide +kernel) ?_
    refine Go.get 1 5 (.int (P.1 1 5)) (by decide) (by decide) sh1 (ltO hE sh1) rfl lk43 (by decide +kernel) ?_
    refine Go.bipush (n := 91) (91 : Int32) (by decide +kernel) (by decide) ?_
    refine Go.icmp_ne (off := 30) 80 (by decide +kernel) (by decide) (fun c2 => ?_) (fun c2 => ?_)
    · rw [if_neg c2] at h
      refine Go.aload_n (k := 0) (i := 0) 0 (by decide +kernel) rfl rfl ?_
      refine Go.iload_n (k := 1) (i := 1) 1 (by decide +kernel) rfl rfl ?_
      obtain ⟨P3, hP3, h⟩ := St.bind h
      refine Go.cV_v (P1 := P3) (d - 1) 13 [.int a1] sh13 hE w_Lr_readComparison (hr3 a1 P ⟨_, hP3, rfl, rfl, rfl⟩) lk672 rfl (by omega) (Nat.le_of_ble_eq_true rfl) (by decide +kernel) _ rfl ?_
      exact Go.vret rfl hE.2 (by decide +kernel) (St.fP h)
    · rw [if_pos c2] at h
      refine Go.aload_n (k := 0) (i := 0) 0 (by decide +kernel) rfl rfl ?_
      refine Go.iload_n (k := 1) (i := 1) 1 (by decide +kernel) rfl rfl ?_
      obtain ⟨v4, P5, hv4, h⟩ := St.bd2 h
      refine Go.cV_i (P1 := P5) (v := v4) (d - 1) 13 [.int a1] sh13 hE w_Lr_opens (e_Lr_opens hG hE (d - 1) (by omega) a1 P ⟨_, hv4, rfl, rfl, rfl⟩) lk660 rfl (by omega) (Nat.le_of_ble_eq_true rfl) (by decide +kernel) _ rfl ?_
      refine Go.if_eq (off := 27) 85 (by decide +kernel) (by decide) (fun c6 => ?_) (fun c6 => ?_)
      · rw [if_pos c6] at h
        exact Go.vret rfl hE.2 (by decide +kernel) (St.fP h)
      · rw [if_neg c6] at h
        refine Go.aload_n (k := 0) (i := 0) 0 (by decide +kernel) rfl rfl ?_
        refine Go.iload_n (k := 1) (i := 1) 1 (by decide +kernel) rfl rfl ?_
        refine Go.iconst (n := 1) (1 : Int32) (by decide +kernel) rfl ?_
        refine Go.iadd (by decide +kernel) ?_
        obtain ⟨P7, hP7, h⟩ := St.bind h
        refine Go.cV_v (P1 := P7) (d - 1) 13 [.int (a1 + (1 : Int32))] sh13 hE w_Lr_readTruth (hr0 (a1 + (1 : Int32)) P5 ⟨_, hP7, rfl, rfl, rfl⟩) lk670 rfl (by omega) (Nat.le_of_ble_eq_true rfl) (by decide +kernel) _ rfl ?_
        refine Go.aload_n (k := 0) (i := 0) 0 (by decide +kernel) rfl rfl ?_
        refine Go.get 13 0 (.ref (ad E 1)) (by decide) (by decide) sh13 (ltO hE sh13) (vlR hE rfl rfl) lk188 (by decide +kernel) ?_
        refine Go.bipush (n := 93) (93 : Int32) (by decide +kernel) (by decide) ?_
        obtain ⟨P8, hP8, h⟩ := St.bind h
        refine Go.cV_v (P1 := P8) (d - 1) 1 [.int (93 : Int32)] sh1 hE w_Ta_skip (e_Ta_skip hG hE (d - 1) (by omega) (93 : Int32) P7 ⟨_, hP8, rfl, rfl, rfl⟩) lk671 rfl (by omega) (Nat.le_of_ble_eq_true rfl) (by decide +kernel) _ rfl ?_
        refine Go.goto (off := 8) 85 (by decide +kernel) (by decide) ?_
        exact Go.vret rfl hE.2 (by decide +kernel) (St.fP h)
  · rw [if_pos c1] at h
    refine Go.aload_n (k := 0) (i := 0) 0 (by decide +kernel) rfl rfl ?_
    refine Go.iload_n (k := 1) (i := 1) 1 (by decide +kernel) rfl rfl ?_
    obtain ⟨v9, P10, hv9, h⟩ := St.bd2 h
    refine Go.cV_i (P1 := P10) (v := v9) (d - 1) 13 [.int a1] sh13 hE w_Lr_opens (e_Lr_opens hG hE (d - 1) (by omega) a1 P ⟨_, hv9, rfl, rfl, rfl⟩) lk660 rfl (by omega) (Nat.le_of_ble_eq_true rfl) (by decide +kernel) _ rfl ?_
    refine Go.if_eq (off := 67) 85 (by decide +kernel) (by decide) (fun c11 => ?_) (fun c11 => ?_)
    · rw [if_pos c11] at h
      exact Go.vret rfl hE.2 (by decide +kernel) (St.fP h)
    · rw [if_neg c11] at h
      refine Go.aload_n (k := 0) (i := 0) 0 (by decide +kernel) rfl rfl ?_
      refine Go.iload_n (k := 1) (i := 1) 1 (by decide +kernel) rfl rfl ?_
      refine Go.iconst (n := 1) (1 : Int32) (by decide +kernel) rfl ?_
      refine Go.iadd (by decide +kernel) ?_
      obtain ⟨P12, hP12, h⟩ := St.bind h
      refine Go.cV_v (P1 := P12) (d - 1) 13 [.int (a1 + (1 : Int32))] sh13 hE w_Lr_readUnit (hr2 (a1 + (1 : Int32)) P10 ⟨_, hP12, rfl, rfl, rfl⟩) lk656 rfl (by omega) (Nat.le_of_ble_eq_true rfl) (by decide +kernel) _ rfl ?_
      refine Go.aload_n (k := 0) (i := 0) 0 (by decide +kernel) rfl rfl ?_
      refine Go.get 13 1 (.ref (ad E 4)) (by decide) (by decide) sh13 (ltO hE sh13) (vlR hE rfl rfl) lk189 (by decide +kernel) ?_
      refine Go.sipush (n := -219) (-219 : Int32) (by decide +kernel) (by decide) ?_
      obtain ⟨P13, hP13, h⟩ := St.bind h
      refine Go.cV_v (P1 := P13) (d - 1) 4 [.int (-219 : Int32)] sh4 hE w_Ne_addCode (e_Ne_addCode hG hE (d - 1) (by omega) 4 sh4 (-219 : Int32) P12 ⟨_, hP13, rfl, rfl, rfl⟩) lk666 rfl (by omega) (Nat.le_of_ble_eq_true rfl) (by decide +kernel) _ rfl ?_
      refine Go.goto (off := 47) 85 (by decide +kernel) (by decide) ?_
      exact Go.vret rfl hE.2 (by decide +kernel) (St.fP h)
theorem t_j_Lr_readComparison_40 {G : GX} (hG : GOK G) {E : EV} (hE : E0 E) (d : Nat) (hd : 8 ≤ d) {Q : QT} (rec : Nat → Int32 → PM → Option PM) (hr0 : ∀ (a0 : Int32) (P : PM) {Q : QT}, St E rP (rec 0 a0 P) Q → Con G y_Lr_readTruth cw_Lr_readTruth (d - 1) nOb nOb [.ref (ad E 13), .int a0] P E Q) (hr1 : ∀ (a0 : Int32) (P : PM) {Q : QT}, St E rP (rec 1 a0 P) Q → Con G y_Lr_readBoth cw_Lr_readBoth (d - 1) nOb nOb [.ref (ad E 13), .int a0] P E Q) (hr2 : ∀ (a0 : Int32) (P : PM) {Q : QT}, St E rP (rec 2 a0 P) Q → Con G y_Lr_readUnit cw_Lr_readUnit (d - 1) nOb nOb [.ref (ad E 13), .int a0] P E Q) (hr3 : ∀ (a0 : Int32) (P : PM) {Q : QT}, St E rP (rec 3 a0 P) Q → Con G y_Lr_readComparison cw_Lr_readComparison (d - 1) nOb nOb [.ref (ad E 13), .int a0] P E Q) (hr4 : ∀ (a0 : Int32) (P : PM) {Q : QT}, St E rP (rec 4 a0 P) Q → Con G y_Lr_readSum cw_Lr_readSum (d - 1) nOb nOb [.ref (ad E 13), .int a0] P E Q) (hr5 : ∀ (a0 : Int32) (P : PM) {Q : QT}, St E rP (rec 5 a0 P) Q → Con G y_Lr_readTerm cw_Lr_readTerm (d - 1) nOb nOb [.ref (ad E 13), .int a0] P E Q) (hr6 : ∀ (a0 : Int32) (P : PM) {Q : QT}, St E rP (rec 6 a0 P) Q → Con G y_Lr_readAtom cw_Lr_readAtom (d - 1) nOb nOb [.ref (ad E 13), .int a0] P E Q) (hr7 : ∀ (a0 : Int32) (P : PM) {Q : QT}, St E rP (rec 7 a0 P) Q → Con G y_Lr_readChoice cw_Lr_readChoice (d - 1) nOb nOb [.ref (ad E 13), .int a0] P E Q) (x1 : Int32) (x2 : Int32) (P : PM) (h : St E rP (j_Lr_readComparison_40 rec x1 x2 P) Q) : Go G c_Lr_readComparison "YawnRoute$LawReader" 3 none false d nOb nOb Q 40 [(0, .ref (ad E 13)), (1, .int x1), (2, .int x2)] [] P E := by
  rw [j_Lr_readComparison_40] at h
  refine Go.aload_n (k := 0) (i := 0) 0 (by decide +kernel) rfl rfl ?_
  refine Go.get 13 0 (.ref (ad E 1)) (by decide) (by decide) sh13 (ltO hE sh13) (vlR hE rfl rfl) lk188 (by decide +kernel) ?_
  obtain ⟨P1, hP1, h⟩ := St.bind h
  refine Go.cV_v (P1 := P1) (d - 1) 1 [] sh1 hE w_Ta_next (e_Ta_next hG hE (d - 1) (by omega) P ⟨_, hP1, rfl, rfl, rfl⟩) lk665 rfl (by omega) (Nat.le_of_ble_eq_true rfl) (by decide +kernel) _ rfl ?_
  refine Go.aload_n (k := 0) (i := 0) 0 (by decide +kernel) rfl rfl ?_
  refine Go.iload_n (k := 1) (i := 1) 1 (by decide +kernel) rfl rfl ?_
  obtain ⟨P2, hP2, h⟩ := St.bind h
  refine Go.cV_v (P1 := P2) (d - 1) 13 [.int x1] sh13 hE w_Lr_readSum (hr4 x1 P1 ⟨_, hP2, rfl, rfl, rfl⟩) lk676 rfl (by omega) (Nat.le_of_ble_eq_true rfl) (by decide +kernel) _ rfl ?_
  refine Go.aload_n (k := 0) (i := 0) 0 (by decide +kernel) rfl rfl ?_
  refine Go.get 13 1 (.ref (ad E 4)) (by decide) (by decide) sh13 (ltO hE sh13) (vlR hE rfl rfl) lk189 (by decide +kernel) ?_
  refine Go.iload_n (k := 2) (i := 2) 2 (by decide +kernel) rfl rfl ?_
  refine Go.ineg (by decide +kernel) ?_
  obtain ⟨P3, hP3, h⟩ := St.bind h
  refine Go.cV_v (P1 := P3) (d - 1) 4 [.int (-x2)] sh4 hE w_Ne_addCode (e_Ne_addCode hG hE (d - 1) (by omega) 4 sh4 (-x2) P2 ⟨_, hP3, rfl, rfl, rfl⟩) lk666 rfl (by omega) (Nat.le_of_ble_eq_true rfl) (by decide +kernel) _ rfl ?_
  exact Go.vret rfl hE.2 (by decide +kernel) (St.fP h)
theorem t_f_Lr_readComparison {G : GX} (hG : GOK G) {E : EV} (hE : E0 E) (d : Nat) (hd : 8 ≤ d) {Q : QT} (rec : Nat → Int32 → PM → Option PM) (hr0 : ∀ (a0 : Int32) (P : PM) {Q : QT}, St E rP (rec 0 a0 P) Q → Con G y_Lr_readTruth cw_Lr_readTruth (d - 1) nOb nOb [.ref (ad E 13), .int a0] P E Q) (hr1 : ∀ (a0 : Int32) (P : PM) {Q : QT}, St E rP (rec 1 a0 P) Q → Con G y_Lr_readBoth cw_Lr_readBoth (d - 1) nOb nOb [.ref (ad E 13), .int a0] P E Q) (hr2 : ∀ (a0 : Int32) (P : PM) {Q : QT}, St E rP (rec 2 a0 P) Q → Con G y_Lr_readUnit cw_Lr_readUnit (d - 1) nOb nOb [.ref (ad E 13), .int a0] P E Q) (hr3 : ∀ (a0 : Int32) (P : PM) {Q : QT}, St E rP (rec 3 a0 P) Q → Con G y_Lr_readComparison cw_Lr_readComparison (d - 1) nOb nOb [.ref (ad E 13), .int a0] P E Q) (hr4 : ∀ (a0 : Int32) (P : PM) {Q : QT}, St E rP (rec 4 a0 P) Q → Con G y_Lr_readSum cw_Lr_readSum (d - 1) nOb nOb [.ref (ad E 13), .int a0] P E Q) (hr5 : ∀ (a0 : Int32) (P : PM) {Q : QT}, St E rP (rec 5 a0 P) Q → Con G y_Lr_readTerm cw_Lr_readTerm (d - 1) nOb nOb [.ref (ad E 13), .int a0] P E Q) (hr6 : ∀ (a0 : Int32) (P : PM) {Q : QT}, St E rP (rec 6 a0 P) Q → Con G y_Lr_readAtom cw_Lr_readAtom (d - 1) nOb nOb [.ref (ad E 13), .int a0] P E Q) (hr7 : ∀ (a0 : Int32) (P : PM) {Q : QT}, St E rP (rec 7 a0 P) Q → Con G y_Lr_readChoice cw_Lr_readChoice (d - 1) nOb nOb [.ref (ad E 13), .int a0] P E Q) (a1 : Int32) (P : PM) (h : St E rP (f_Lr_readComparison rec a1 P) Q) : Go G c_Lr_readComparison "YawnRoute$LawReader" 3 none false d nOb nOb Q 0 [(0, .ref (ad E 13)), (1, .int a1)] [] P E := by
  rw [f_Lr_readComparison] at h
  refine Go.aload_n (k := 0) (i := 0) 0 (by decide +kernel) rfl rfl ?_
  refine Go.iload_n (k := 1) (i := 1) 1 (by decide +kernel) rfl rfl ?_
  obtain ⟨P1, hP1, h⟩ := St.bind h
  refine Go.cV_v (P1 := P1) (d - 1) 13 [.int a1] sh13 hE w_Lr_readSum (hr4 a1 P ⟨_, hP1, rfl, rfl, rfl⟩) lk676 rfl (by omega) (Nat.le_of_ble_eq_true rfl) (by decide +kernel) _ rfl ?_
  refine Go.aload_n (k := 0) (i := 0) 0 (by decide +kernel) rfl rfl ?_
  refine Go.get 13 0 (.ref (ad E 1)) (by decide) (by decide) sh13 (ltO hE sh13) (vlR hE rfl rfl) lk188 (by decide +kernel) ?_
  refine Go.get 1 5 (.int (P1.1 1 5)) (by decide) (by decide) sh1 (ltO hE sh1) rfl lk43 (by decide +kernel) ?_
  obtain ⟨y2, hy2, h⟩ := St.lb h
  refine Go.eqi y2 hy2 ?_
  refine Go.istore_n (k := 2) (i := 2) [(2, .int y2), (0, .ref (ad E 13)), (1, .int a1)] (by decide +kernel) rfl (by decide) rfl ?_
  refine Go.iload_n (k := 2) (i := 2) 0 (by decide +kernel) rfl rfl ?_
  refine Go.bipush (n := 61) (61 : Int32) (by decide +kernel) (by decide) ?_
  refine Go.icmp_eq (off := 24) 40 (by decide +kernel) (by decide) (fun c3 => ?_) (fun c3 => ?_)
  · rw [if_pos c3] at h
    refine Go.sub [1, 2, 0] [(0, .ref (ad E 13)), (1, .int a1), (2, .int y2)] rfl ?_
    exact t_j_Lr_readComparison_40 hG hE d hd rec hr0 hr1 hr2 hr3 hr4 hr5 hr6 hr7 a1 y2 P1 h
  · rw [if_neg c3] at h
    refine Go.iload_n (k := 2) (i := 2) 0 (by decide +kernel) rfl rfl ?_
    refine Go.bipush (n := 60) (60 : Int32) (by decide +kernel) (by decide) ?_
    refine Go.icmp_eq (off := 18) 40 (by decide +kernel) (by decide) (fun c4 => ?_) (fun c4 => ?_)
    · rw [if_pos c4] at h
      refine Go.sub [1, 2, 0] [(0, .ref (ad E 13)), (1, .int a1), (2, .int y2)] rfl ?_
      exact t_j_Lr_readComparison_40 hG hE d hd rec hr0 hr1 hr2 hr3 hr4 hr5 hr6 hr7 a1 y2 P1 h
    · rw [if_neg c4] at h
      refine Go.iload_n (k := 2) (i := 2) 0 (by decide +kernel) rfl rfl ?_
      refine Go.bipush (n := 62) (62 : Int32) (by decide +kernel) (by decide) ?_
      refine Go.icmp_eq (off := 12) 40 (by decide +kernel) (by decide) (fun c5 => ?_) (fun c5 => ?_)
      · rw [if_pos c5] at h
        refine Go.sub [1, 2, 0] [(0, .ref (ad E 13)), (1, .int a1), (2, .int y2)] rfl ?_
        exact t_j_Lr_readComparison_40 hG hE d hd rec hr0 hr1 hr2 hr3 hr4 hr5 hr6 hr7 a1 y2 P1 h
      · rw [if_neg c5] at h
        refine Go.aload_n (k := 0) (i := 0) 1 (by decide +kernel) rfl rfl ?_
        refine Go.get 13 0 (.ref (ad E 1)) (by decide) (by decide) sh13 (ltO hE sh13) (vlR hE rfl rfl) lk188 (by decide +kernel) ?_
        refine Go.iconst (n := 2) (2 : Int32) (by decide +kernel) rfl ?_
        obtain ⟨P6, hP6, h⟩ := St.bind h
        refine Go.cV_v (P1 := P6) (d - 1) 1 [.int (2 : Int32)] sh1 hE w_Ta_fail (e_Ta_fail hG hE (d - 1) (by omega) (2 : Int32) P1 ⟨_, hP6, rfl, rfl, rfl⟩) lk664 rfl (by omega) (Nat.le_of_ble_eq_true rfl) (by decide +kernel) _ rfl ?_
        exact Go.vret rfl hE.2 (by decide +kernel) (St.fP h)
theorem t_j_Lr_readSum_38 {G : GX} (hG : GOK G) {E : EV} (hE : E0 E) (d : Nat) (hd : 8 ≤ d) {Q : QT} (rec : Nat → Int32 → PM → Option PM) (hr0 : ∀ (a0 : Int32) (P : PM) {Q : QT}, St E rP (rec 0 a0 P) Q → Con G y_Lr_readTruth cw_Lr_readTruth (d - 1) nOb nOb [.ref (ad E 13), .int a0] P E Q) (hr1 : ∀ (a0 : Int32) (P : PM) {Q : QT}, St E rP (rec 1 a0 P) Q → Con G y_Lr_readBoth cw_Lr_readBoth (d - 1) nOb nOb [.ref (ad E 13), .int a0] P E Q) (hr2 : ∀ (a0 : Int32) (P : PM) {Q : QT}, St E rP (rec 2 a0 P) Q → Con G y_Lr_readUnit cw_Lr_readUnit (d - 1) nOb nOb [.ref (ad E 13), .int a0] P E Q) (hr3 : ∀ (a0 : Int32) (P : PM) {Q : QT}, St E rP (rec 3 a0 P) Q → Con G y_Lr_readComparison cw_Lr_readComparison (d - 1) nOb nOb [.ref (ad E 13), .int a0] P E Q) (hr4 : ∀ (a0 : Int32) (P : PM) {Q : QT}, St E rP (rec 4 a0 P) Q → Con G y_Lr_readSum cw_Lr_readSum (d - 1) nOb nOb [.ref (ad E 13), .int a0] P E Q) (hr5 : ∀ (a0 : Int32) (P : PM) {Q : QT}, St E rP (rec 5 a0 P) Q → Con G y_Lr_readTerm cw_Lr_readTerm (d - 1) nOb nOb [.ref (ad E 13), .int a0] P E Q) (hr6 : ∀ (a0 : Int32) (P : PM) {Q : QT}, St E rP (rec 6 a0 P) Q → Con G y_Lr_readAtom cw_Lr_readAtom (d - 1) nOb nOb [.ref (ad E 13), .int a0] P E Q) (hr7 : ∀ (a0 : Int32) (P : PM) {Q : QT}, St E rP (rec 7 a0 P) Q → Con G y_Lr_readChoice cw_Lr_readChoice (d - 1) nOb nOb [.ref (ad E 13), .int a0] P E Q) (k7 : Int32 → Int32 → PM → Option PM) (hk7 : ∀ (x1 : Int32) (x2 : Int32) (P : PM), St E rP (k7 x1 x2 P) Q → Go G c_Lr_readSum "YawnRoute$LawReader" 4 none false d nOb nOb Q 7 [(0, .ref (ad E 13)), (1, .int x1), (2, .int x2)] [] P E) (x1 : Int32) (x2 : Int32) (P : PM) (h : St E rP (j_Lr_readSum_38 rec k7 x1 x2 P) Q) : Go G c_Lr_readSum "YawnRoute$LawReader" 4 none false d nOb nOb Q 38 [(0, .ref (ad E 13)), (1, .int x1), (2, .int x2)] [] P E := by
  rw [j_Lr_readSum_38] at h
  refine Go.aload_n (k := 0) (i := 0) 0 (by decide +kernel) rfl rfl ?_
  refine Go.get 13 0 (.ref (ad E 1)) (by decide) (by decide) sh13 (ltO hE sh13) (vlR hE rfl rfl) lk188 (by decide +kernel) ?_
  refine Go.get 1 5 (.int (P.1 1 5)) (by decide) (by decide) sh1 (ltO hE sh1) rfl lk43 (by decide +kernel) ?_
  obtain ⟨y1, hy1, h⟩ := St.lb h
  refine Go.eqi y1 hy1 ?_
  refine Go.istore_n (k := 3) (i := 3) [(3, .int y1), (0, .ref (ad E 13)), (1, .int x1), (2, .int x2)] (by decide +kernel) rfl (by decide) rfl ?_
  refine Go.aload_n (k := 0) (i := 0) 1 (by decide +kernel) rfl rfl ?_
  refine Go.get 13 0 (.ref (ad E 1)) (by decide) (by decide) sh13 (ltO hE sh13) (vlR hE rfl rfl) lk188 (by decide +kernel) ?_
  obtain ⟨P2, hP2, h⟩ := St.bind h
  refine Go.cV_v (P1 := P2) (d - 1) 1 [] sh1 hE w_Ta_next (e_Ta_next hG hE (d - 1) (by omega) P ⟨_, hP2, rfl, rfl, rfl⟩) lk665 rfl (by omega) (Nat.le_of_ble_eq_true rfl) (by decide +kernel) _ rfl ?_
  refine Go.aload_n (k := 0) (i := 0) 1 (by decide +kernel) rfl rfl ?_
  refine Go.iload_n (k := 1) (i := 1) 2 (by decide +kernel) rfl rfl ?_
  obtain ⟨P3, hP3, h⟩ := St.bind h
  refine Go.cV_v (P1 := P3) (d - 1) 13 [.int x1] sh13 hE w_Lr_readTerm (hr5 x1 P2 ⟨_, hP3, rfl, rfl, rfl⟩) lk680 rfl (by omega) (Nat.le_of_ble_eq_true rfl) (by decide +kernel) _ rfl ?_
  refine Go.aload_n (k := 0) (i := 0) 1 (by decide +kernel) rfl rfl ?_
  refine Go.get 13 1 (.ref (ad E 4)) (by decide) (by decide) sh13 (ltO hE sh13) (vlR hE rfl rfl) lk189 (by decide +kernel) ?_
  refine Go.iload_n (k := 3) (i := 3) 0 (by decide +kernel) rfl rfl ?_
  refine Go.ineg (by decide +kernel) ?_
  obtain ⟨P4, hP4, h⟩ := St.bind h
  refine Go.cV_v (P1 := P4) (d - 1) 4 [.int (-y1)] sh4 hE w_Ne_addCode (e_Ne_addCode hG hE (d - 1) (by omega) 4 sh4 (-y1) P3 ⟨_, hP4, rfl, rfl, rfl⟩) lk666 rfl (by omega) (Nat.le_of_ble_eq_true rfl) (by decide +kernel) _ rfl ?_
  refine Go.iinc (i := 2) (n := 1) 3 (x2 + (1 : Int32)) [(2, .int (x2 + (1 : Int32))), (3, .int y1), (0, .ref (ad E 13)), (1, .int x1)] (by decide +kernel) rfl rfl (by decide) rfl ?_
  refine Go.goto (off := -63) 7 (by decide +kernel) (by decide) ?_
  refine Go.sub [2, 3, 0] [(0, .ref (ad E 13)), (1, .int x1), (2, .int (x2 + (1 : Int32)))] rfl ?_
  exact hk7 x1 (x2 + (1 : Int32)) P4 h
theorem t_l_Lr_readSum_7 {G : GX} (hG : GOK G) {E : EV} (hE : E0 E) (d : Nat) (hd : 8 ≤ d) {Q : QT} (rec : Nat → Int32 → PM → Option PM) (hr0 : ∀ (a0 : Int32) (P : PM) {Q : QT}, St E rP (rec 0 a0 P) Q → Con G y_Lr_readTruth cw_Lr_readTruth (d - 1) nOb nOb [.ref (ad E 13), .int a0] P E Q) (hr1 : ∀ (a0 : Int32) (P : PM) {Q : QT}, St E rP (rec 1 a0 P) Q → Con G y_Lr_readBoth cw_Lr_readBoth (d - 1) nOb nOb [.ref (ad E 13), .int a0] P E Q) (hr2 : ∀ (a0 : Int32) (P : PM) {Q : QT}, St E rP (rec 2 a0 P) Q → Con G y_Lr_readUnit cw_Lr_readUnit (d - 1) nOb nOb [.ref (ad E 13), .int a0] P E Q) (hr3 : ∀ (a0 : Int32) (P : PM) {Q : QT}, St E rP (rec 3 a0 P) Q → Con G y_Lr_readComparison cw_Lr_readComparison (d - 1) nOb nOb [.ref (ad E 13), .int a0] P E Q) (hr4 : ∀ (a0 : Int32) (P : PM) {Q : QT}, St E rP (rec 4 a0 P) Q → Con G y_Lr_readSum cw_Lr_readSum (d - 1) nOb nOb [.ref (ad E 13), .int a0] P E Q) (hr5 : ∀ (a0 : Int32) (P : PM) {Q : QT}, St E rP (rec 5 a0 P) Q → Con G y_Lr_readTerm cw_Lr_readTerm (d - 1) nOb nOb [.ref (ad E 13), .int a0] P E Q) (hr6 : ∀ (a0 : Int32) (P : PM) {Q : QT}, St E rP (rec 6 a0 P) Q → Con G y_Lr_readAtom cw_Lr_readAtom (d - 1) nOb nOb [.ref (ad E 13), .int a0] P E Q) (hr7 : ∀ (a0 : Int32) (P : PM) {Q : QT}, St E rP (rec 7 a0 P) Q → Con G y_Lr_readChoice cw_Lr_readChoice (d - 1) nOb nOb [.ref (ad E 13), .int a0] P E Q) : ∀ (n : Nat) (x1 : Int32) (x2 : Int32) (P : PM), St E rP (l_Lr_readSum_7 rec n x1 x2 P) Q → Go G c_Lr_readSum "YawnRoute$LawReader" 4 none false d nOb nOb Q 7 [(0, .ref (ad E 13)), (1, .int x1), (2, .int x2)] [] P E := by
  intro n
  induction n with
  | zero =>
    intro x1 x2 P h
    rw [l_Lr_readSum_7] at h
    exact St.none_ h
  | succ n ih =>
    intro x1 x2 P h
    rw [l_Lr_readSum_7] at h
    refine Go.iload_n (k := 2) (i := 2) 2 (by decide +kernel) rfl rfl ?_
    refine Go.sipush (n := 900) (900 : Int32) (by decide +kernel) (by decide) ?_
    refine Go.icmp_ge (off := 62) 73 (by decide +kernel) (by decide) (fun c1 => ?_) (fun c1 => ?_)
    · rw [if_pos c1] at h
      exact Go.vret rfl hE.2 (by decide +kernel) (St.fP h)
    · rw [if_neg c1] at h
      refine Go.aload_n (k := 0) (i := 0) 0 (by decide +kernel) rfl rfl ?_
      refine Go.get 13 0 (.ref (ad E 1)) (by decide) (by decide) sh13 (ltO hE sh13) (vlR hE rfl rfl) lk188 (by decide +kernel) ?_
      refine Go.get 1 5 (.int (P.1 1 5)) (by decide) (by decide) sh1 (ltO hE sh1) rfl lk43 (by decide +kernel) ?_
      refine Go.bipush (n := 43) (43 : Int32) (by decide +kernel) (by decide) ?_
      refine Go.icmp_eq (off := 15) 38 (by decide +kernel) (by decide) (fun c2 => ?_) (fun c2 => ?_)
      · rw [if_pos c2] at h
        exact t_j_Lr_readSum_38 hG hE d hd rec hr0 hr1 hr2 hr3 hr4 hr5 hr6 hr7 (fun z0 z1 Pz => l_Lr_readSum_7 rec n z0 z1 Pz) (fun z0 z1 Pz q => ih z0 z1 Pz q) x1 x2 P h
      · rw [if_neg c2] at h
        refine Go.aload_n (k := 0) (i := 0) 0 (by decide +kernel) rfl rfl ?_
        refine Go.get 13 0 (.ref (ad E 1)) (by decide) (by decide) sh13 (ltO hE sh13) (vlR hE rfl rfl) lk188 (by decide +kernel) ?_
        refine Go.get 1 5 (.int (P.1 1 5)) (by decide) (by decide) sh1 (ltO hE sh1) rfl lk43 (by decide +kernel) ?_
        refine Go.bipush (n := 45) (45 : Int32) (by decide +kernel) (by decide) ?_
        refine Go.icmp_ne (off := 38) 73 (by decide +kernel) (by decide) (fun c3 => ?_) (fun c3 => ?_)
        · rw [if_neg c3] at h
          exact Go.vret rfl hE.2 (by decide +kernel) (St.fP h)
        · rw [if_pos c3] at h
          exact t_j_Lr_readSum_38 hG hE d hd rec hr0 hr1 hr2 hr3 hr4 hr5 hr6 hr7 (fun z0 z1 Pz => l_Lr_readSum_7 rec n z0 z1 Pz) (fun z0 z1 Pz q => ih z0 z1 Pz q) x1 x2 P h
theorem t_f_Lr_readSum {G : GX} (hG : GOK G) {E : EV} (hE : E0 E) (d : Nat) (hd : 8 ≤ d) {Q : QT} (rec : Nat → Int32 → PM → Option PM) (hr0 : ∀ (a0 : Int32) (P : PM) {Q : QT}, St E rP (rec 0 a0 P) Q → Con G y_Lr_readTruth cw_Lr_readTruth (d - 1) nOb nOb [.ref (ad E 13), .int a0] P E Q) (hr1 : ∀ (a0 : Int32) (P : PM) {Q : QT}, St E rP (rec 1 a0 P) Q → Con G y_Lr_readBoth cw_Lr_readBoth (d - 1) nOb nOb [.ref (ad E 13), .int a0] P E Q) (hr2 : ∀ (a0 : Int32) (P : PM) {Q : QT}, St E rP (rec 2 a0 P) Q → Con G y_Lr_readUnit cw_Lr_readUnit (d - 1) nOb nOb [.ref (ad E 13), .int a0] P E Q) (hr3 : ∀ (a0 : Int32) (P : PM) {Q : QT}, St E rP (rec 3 a0 P) Q → Con G y_Lr_readComparison cw_Lr_readComparison (d - 1) nOb nOb [.ref (ad E 13), .int a0] P E Q) (hr4 : ∀ (a0 : Int32) (P : PM) {Q : QT}, St E rP (rec 4 a0 P) Q → Con G y_Lr_readSum cw_Lr_readSum (d - 1) nOb nOb [.ref (ad E 13), .int a0] P E Q) (hr5 : ∀ (a0 : Int32) (P : PM) {Q : QT}, St E rP (rec 5 a0 P) Q → Con G y_Lr_readTerm cw_Lr_readTerm (d - 1) nOb nOb [.ref (ad E 13), .int a0] P E Q) (hr6 : ∀ (a0 : Int32) (P : PM) {Q : QT}, St E rP (rec 6 a0 P) Q → Con G y_Lr_readAtom cw_Lr_readAtom (d - 1) nOb nOb [.ref (ad E 13), .int a0] P E Q) (hr7 : ∀ (a0 : Int32) (P : PM) {Q : QT}, St E rP (rec 7 a0 P) Q → Con G y_Lr_readChoice cw_Lr_readChoice (d - 1) nOb nOb [.ref (ad E 13), .int a0] P E Q) (a1 : Int32) (P : PM) (h : St E rP (f_Lr_readSum rec a1 P) Q) : Go G c_Lr_readSum "YawnRoute$LawReader" 4 none false d nOb nOb Q 0 [(0, .ref (ad E 13)), (1, .int a1)] [] P E := by
  rw [f_Lr_readSum] at h
  refine Go.aload_n (k := 0) (i := 0) 0 (by decide +kernel) rfl rfl ?_
  refine Go.iload_n (k := 1) (i := 1) 1 (by decide +kernel) rfl rfl ?_
  obtain ⟨P1, hP1, h⟩ := St.bind h
  refine Go.cV_v (P1 := P1) (d - 1) 13 [.int a1] sh13 hE w_Lr_readTerm (hr5 a1 P ⟨_, hP1, rfl, rfl, rfl⟩) lk680 rfl (by omega) (Nat.le_of_ble_eq_true rfl) (by decide +kernel) _ rfl ?_
  refine Go.iconst (n := 0) (0 : Int32) (by decide +kernel) rfl ?_
  refine Go.istore_n (k := 2) (i := 2) [(2, .int (0 : Int32)), (0, .ref (ad E 13)), (1, .int a1)] (by decide +kernel) rfl (by decide) rfl ?_
  refine Go.sub [1, 2, 0] [(0, .ref (ad E 13)), (1, .int a1), (2, .int (0 : Int32))] rfl ?_
  exact t_l_Lr_readSum_7 hG hE d hd rec hr0 hr1 hr2 hr3 hr4 hr5 hr6 hr7 FU a1 (0 : Int32) P1 h
theorem t_l_Lr_readTerm_7 {G : GX} (hG : GOK G) {E : EV} (hE : E0 E) (d : Nat) (hd : 8 ≤ d) {Q : QT} (rec : Nat → Int32 → PM → Option PM) (hr0 : ∀ (a0 : Int32) (P : PM) {Q : QT}, St E rP (rec 0 a0 P) Q → Con G y_Lr_readTruth cw_Lr_readTruth (d - 1) nOb nOb [.ref (ad E 13), .int a0] P E Q) (hr1 : ∀ (a0 : Int32) (P : PM) {Q : QT}, St E rP (rec 1 a0 P) Q → Con G y_Lr_readBoth cw_Lr_readBoth (d - 1) nOb nOb [.ref (ad E 13), .int a0] P E Q) (hr2 : ∀ (a0 : Int32) (P : PM) {Q : QT}, St E rP (rec 2 a0 P) Q → Con G y_Lr_readUnit cw_Lr_readUnit (d - 1) nOb nOb [.ref (ad E 13), .int a0] P E Q) (hr3 : ∀ (a0 : Int32) (P : PM) {Q : QT}, St E rP (rec 3 a0 P) Q → Con G y_Lr_readComparison cw_Lr_readComparison (d - 1) nOb nOb [.ref (ad E 13), .int a0] P E Q) (hr4 : ∀ (a0 : Int32) (P : PM) {Q : QT}, St E rP (rec 4 a0 P) Q → Con G y_Lr_readSum cw_Lr_readSum (d - 1) nOb nOb [.ref (ad E 13), .int a0] P E Q) (hr5 : ∀ (a0 : Int32) (P : PM) {Q : QT}, St E rP (rec 5 a0 P) Q → Con G y_Lr_readTerm cw_Lr_readTerm (d - 1) nOb nOb [.ref (ad E 13), .int a0] P E Q) (hr6 : ∀ (a0 : Int32) (P : PM) {Q : QT}, St E rP (rec 6 a0 P) Q → Con G y_Lr_readAtom cw_Lr_readAtom (d - 1) nOb nOb [.ref (ad E 13), .int a0] P E Q) (hr7 : ∀ (a0 : Int32) (P : PM) {Q : QT}, St E rP (rec 7 a0 P) Q → Con G y_Lr_readChoice cw_Lr_readChoice (d - 1) nOb nOb [.ref (ad E 13), .int a0] P E Q) : ∀ (n : Nat) (x1 : Int32) (x2 : Int32) (P : PM), St E rP (l_Lr_readTerm_7 rec n x1 x2 P) Q → Go G c_Lr_readTerm "YawnRoute$LawReader" 3 none false d nOb nOb Q 7 [(0, .ref (ad E 13)), (1, .int x1), (2, .int x2)] [] P E := by
  intro n
  induction n with
  | zero =>
    intro x1 x2 P h
    rw [l_Lr_readTerm_7] at h
    exact St.none_ h
  | succ n ih =>
    intro x1 x2 P h
    rw [l_Lr_readTerm_7] at h
    refine Go.iload_n (k := 2) (i := 2) 2 (by decide +kernel) rfl rfl ?_
    refine Go.sipush (n := 900) (900 : Int32) (by decide +kernel) (by decide) ?_
    refine Go.icmp_ge (off := 42) 53 (by decide +kernel) (by decide) (fun c1 => ?_) (fun c1 => ?_)
    · rw [if_pos c1] at h
      exact Go.vret rfl hE.2 (by decide +kernel) (St.fP h)
    · rw [if_neg c1] at h
      refine Go.aload_n (k := 0) (i := 0) 0 (by decide +kernel) rfl rfl ?_
      refine Go.get 13 0 (.ref (ad E 1)) (by decide) (by decide) sh13 (ltO hE sh13) (vlR hE rfl rfl) lk188 (by decide +kernel) ?_
      refine Go.get 1 5 (.int (P.1 1 5)) (by decide) (by decide) sh1 (ltO hE sh1) rfl lk43 (by decide +kernel) ?_
      refine Go.bipush (n := 42) (42 : Int32) (by decide +kernel) (by decide) ?_
      refine Go.icmp_ne (off := 30) 53 (by decide +kernel) (by decide) (fun c2 => ?_) (fun c2 => ?_)
      · rw [if_neg c2] at h
        exact Go.vret rfl hE.2 (by decide +kernel) (St.fP h)
      · rw [if_pos c2] at h
        refine Go.aload_n (k := 0) (i := 0) 0 (by decide +kernel) rfl rfl ?_
        refine Go.get 13 0 (.ref (ad E 1)) (by decide) (by decide) sh13 (ltO hE sh13) (vlR hE rfl rfl) lk188 (by decide +kernel) ?_
        obtain ⟨P3, hP3, h⟩ := St.bind h
        refine Go.cV_v (P1 := P3) (d - 1) 1 [] sh1 hE w_Ta_next (e_Ta_next hG hE (d - 1) (by omega) P ⟨_, hP3, rfl, rfl, rfl⟩) lk665 rfl (by omega) (Nat.le_of_ble_eq_true rfl) (by decide +kernel) _ rfl ?_
        refine Go.aload_n (k := 0) (i := 0) 0 (by decide +kernel) rfl rfl ?_
        refine Go.iload_n (k := 1) (i := 1) 1 (by decide +kernel) rfl rfl ?_
        obtain ⟨P4, hP4, h⟩ := St.bind h
        refine Go.cV_v (P1 := P4) (d - 1) 13 [.int x1] sh13 hE w_Lr_readAtom (hr6 x1 P3 ⟨_, hP4, rfl, rfl, rfl⟩) lk684 rfl (by omega) (Nat.le_of_ble_eq_true rfl) (by decide +kernel) _ rfl ?_
        refine Go.aload_n (k := 0) (i := 0) 0 (by decide +kernel) rfl rfl ?_
        refine Go.get 13 1 (.ref (ad E 4)) (by decide) (by decide) sh13 (ltO hE sh13) (vlR hE rfl rfl) lk189 (by decide +kernel) ?_
        refine Go.bipush (n := -42) (-42 : Int32) (by decide +kernel) (by decide) ?_
        obtain ⟨P5, hP5, h⟩ := St.bind h
        refine Go.cV_v (P1 := P5) (d - 1) 4 [.int (-42 : Int32)] sh4 hE w_Ne_addCode (e_Ne_addCode hG hE (d - 1) (by omega) 4 sh4 (-42 : Int32) P4 ⟨_, hP5, rfl, rfl, rfl⟩) lk666 rfl (by omega) (Nat.le_of_ble_eq_true rfl) (by decide +kernel) _ rfl ?_
        refine Go.iinc (i := 2) (n := 1) 2 (x2 + (1 : Int32)) [(2, .int (x2 + (1 : Int32))), (0, .ref (ad E 13)), (1, .int x1)] (by decide +kernel) rfl rfl (by decide) rfl ?_
        refine Go.goto (off := -43) 7 (by decide +kernel) (by decide) ?_
        refine Go.sub [1, 2, 0] [(0, .ref (ad E 13)), (1, .int x1), (2, .int (x2 + (1 : Int32)))] rfl ?_
        exact ih x1 (x2 + (1 : Int32)) P5 h
theorem t_f_Lr_readTerm {G : GX} (hG : GOK G) {E : EV} (hE : E0 E) (d : Nat) (hd : 8 ≤ d) {Q : QT} (rec : Nat → Int32 → PM → Option PM) (hr0 : ∀ (a0 : Int32) (P : PM) {Q : QT}, St E rP (rec 0 a0 P) Q → Con G y_Lr_readTruth cw_Lr_readTruth (d - 1) nOb nOb [.ref (ad E 13), .int a0] P E Q) (hr1 : ∀ (a0 : Int32) (P : PM) {Q : QT}, St E rP (rec 1 a0 P) Q → Con G y_Lr_readBoth cw_Lr_readBoth (d - 1) nOb nOb [.ref (ad E 13), .int a0] P E Q) (hr2 : ∀ (a0 : Int32) (P : PM) {Q : QT}, St E rP (rec 2 a0 P) Q → Con G y_Lr_readUnit cw_Lr_readUnit (d - 1) nOb nOb [.ref (ad E 13), .int a0] P E Q) (hr3 : ∀ (a0 : Int32) (P : PM) {Q : QT}, St E rP (rec 3 a0 P) Q → Con G y_Lr_readComparison cw_Lr_readComparison (d - 1) nOb nOb [.ref (ad E 13), .int a0] P E Q) (hr4 : ∀ (a0 : Int32) (P : PM) {Q : QT}, St E rP (rec 4 a0 P) Q → Con G y_Lr_readSum cw_Lr_readSum (d - 1) nOb nOb [.ref (ad E 13), .int a0] P E Q) (hr5 : ∀ (a0 : Int32) (P : PM) {Q : QT}, St E rP (rec 5 a0 P) Q → Con G y_Lr_readTerm cw_Lr_readTerm (d - 1) nOb nOb [.ref (ad E 13), .int a0] P E Q) (hr6 : ∀ (a0 : Int32) (P : PM) {Q : QT}, St E rP (rec 6 a0 P) Q → Con G y_Lr_readAtom cw_Lr_readAtom (d - 1) nOb nOb [.ref (ad E 13), .int a0] P E Q) (hr7 : ∀ (a0 : Int32) (P : PM) {Q : QT}, St E rP (rec 7 a0 P) Q → Con G y_Lr_readChoice cw_Lr_readChoice (d - 1) nOb nOb [.ref (ad E 13), .int a0] P E Q) (a1 : Int32) (P : PM) (h : St E rP (f_Lr_readTerm rec a1 P) Q) : Go G c_Lr_readTerm "YawnRoute$LawReader" 3 none false d nOb nOb Q 0 [(0, .ref (ad E 13)), (1, .int a1)] [] P E := by
  rw [f_Lr_readTerm] at h
  refine Go.aload_n (k := 0) (i := 0) 0 (by decide +kernel) rfl rfl ?_
  refine Go.iload_n (k := 1) (i := 1) 1 (by decide +kernel) rfl rfl ?_
  obtain ⟨P1, hP1, h⟩ := St.bind h
  refine Go.cV_v (P1 := P1) (d - 1) 13 [.int a1] sh13 hE w_Lr_readAtom (hr6 a1 P ⟨_, hP1, rfl, rfl, rfl⟩) lk684 rfl (by omega) (Nat.le_of_ble_eq_true rfl) (by decide +kernel) _ rfl ?_
  refine Go.iconst (n := 0) (0 : Int32) (by decide +kernel) rfl ?_
  refine Go.istore_n (k := 2) (i := 2) [(2, .int (0 : Int32)), (0, .ref (ad E 13)), (1, .int a1)] (by decide +kernel) rfl (by decide) rfl ?_
  refine Go.sub [1, 2, 0] [(0, .ref (ad E 13)), (1, .int a1), (2, .int (0 : Int32))] rfl ?_
  exact t_l_Lr_readTerm_7 hG hE d hd rec hr0 hr1 hr2 hr3 hr4 hr5 hr6 hr7 FU a1 (0 : Int32) P1 h
theorem t_j_Lr_readAtom_70 {G : GX} (hG : GOK G) {E : EV} (hE : E0 E) (d : Nat) (hd : 8 ≤ d) {Q : QT} (rec : Nat → Int32 → PM → Option PM) (hr0 : ∀ (a0 : Int32) (P : PM) {Q : QT}, St E rP (rec 0 a0 P) Q → Con G y_Lr_readTruth cw_Lr_readTruth (d - 1) nOb nOb [.ref (ad E 13), .int a0] P E Q) (hr1 : ∀ (a0 : Int32) (P : PM) {Q : QT}, St E rP (rec 1 a0 P) Q → Con G y_Lr_readBoth cw_Lr_readBoth (d - 1) nOb nOb [.ref (ad E 13), .int a0] P E Q) (hr2 : ∀ (a0 : Int32) (P : PM) {Q : QT}, St E rP (rec 2 a0 P) Q → Con G y_Lr_readUnit cw_Lr_readUnit (d - 1) nOb nOb [.ref (ad E 13), .int a0] P E Q) (hr3 : ∀ (a0 : Int32) (P : PM) {Q : QT}, St E rP (rec 3 a0 P) Q → Con G y_Lr_readComparison cw_Lr_readComparison (d - 1) nOb nOb [.ref (ad E 13), .int a0] P E Q) (hr4 : ∀ (a0 : Int32) (P : PM) {Q : QT}, St E rP (rec 4 a0 P) Q → Con G y_Lr_readSum cw_Lr_readSum (d - 1) nOb nOb [.ref (ad E 13), .int a0] P E Q) (hr5 : ∀ (a0 : Int32) (P : PM) {Q : QT}, St E rP (rec 5 a0 P) Q → Con G y_Lr_readTerm cw_Lr_readTerm (d - 1) nOb nOb [.ref (ad E 13), .int a0] P E Q) (hr6 : ∀ (a0 : Int32) (P : PM) {Q : QT}, St E rP (rec 6 a0 P) Q → Con G y_Lr_readAtom cw_Lr_readAtom (d - 1) nOb nOb [.ref (ad E 13), .int a0] P E Q) (hr7 : ∀ (a0 : Int32) (P : PM) {Q : QT}, St E rP (rec 7 a0 P) Q → Con G y_Lr_readChoice cw_Lr_readChoice (d - 1) nOb nOb [.ref (ad E 13), .int a0] P E Q) (x1 : Int32) (x2 : Int32) (P : PM) (h : St E rP (j_Lr_readAtom_70 rec x1 x2 P) Q) : Go G c_Lr_readAtom "YawnRoute$LawReader" 3 none false d nOb nOb Q 70 [(0, .ref (ad E 13)), (1, .int x1), (2, .int x2)] [] P E := by
  rw [j_Lr_readAtom_70] at h
  refine Go.iload_n (k := 2) (i := 2) 2 (by decide +kernel) rfl rfl ?_
  refine Go.bipush (n := 40) (40 : Int32) (by decide +kernel) (by decide) ?_
  refine Go.icmp_ne (off := 30) 103 (by decide +kernel) (by decide) (fun c1 => ?_) (fun c1 => ?_)
  · rw [if_neg c1] at h
    refine Go.iload_n (k := 2) (i := 2) 2 (by decide +kernel) rfl rfl ?_
    refine Go.sipush (n := 213) (213 : Int32) (by decide +kernel) (by decide) ?_
    refine Go.icmp_ne (off := 21) 128 (by decide +kernel) (by decide) (fun c2 => ?_) (fun c2 => ?_)
    · rw [if_neg c2] at h
      refine Go.aload_n (k := 0) (i := 0) 0 (by decide +kernel) rfl rfl ?_
      refine Go.get 13 0 (.ref (ad E 1)) (by decide) (by decide) sh13 (ltO hE sh13) (vlR hE rfl rfl) lk188 (by decide +kernel) ?_
      refine Go.iconst (n := 2) (2 : Int32) (by decide +kernel) rfl ?_
      obtain ⟨P3, hP3, h⟩ := St.bind h
      refine Go.cV_v (P1 := P3) (d - 1) 1 [.int (2 : Int32)] sh1 hE w_Ta_fail (e_Ta_fail hG hE (d - 1) (by omega) (2 : Int32) P ⟨_, hP3, rfl, rfl, rfl⟩) lk664 rfl (by omega) (Nat.le_of_ble_eq_true rfl) (by decide +kernel) _ rfl ?_
      exact Go.vret rfl hE.2 (by decide +kernel) (St.fP h)
    · rw [if_pos c2] at h
      refine Go.aload_n (k := 0) (i := 0) 0 (by decide +kernel) rfl rfl ?_
      refine Go.iload_n (k := 1) (i := 1) 1 (by decide +kernel) rfl rfl ?_
      obtain ⟨v4, P5, hv4, h⟩ := St.bd2 h
      refine Go.cV_i (P1 := P5) (v := v4) (d - 1) 13 [.int x1] sh13 hE w_Lr_opens (e_Lr_opens hG hE (d - 1) (by omega) x1 P ⟨_, hv4, rfl, rfl, rfl⟩) lk660 rfl (by omega) (Nat.le_of_ble_eq_true rfl) (by decide +kernel) _ rfl ?_
      refine Go.if_eq (off := 21) 136 (by decide +kernel) (by decide) (fun c6 => ?_) (fun c6 => ?_)
      · rw [if_pos c6] at h
        exact Go.vret rfl hE.2 (by decide +kernel) (St.fP h)
      · rw [if_neg c6] at h
        refine Go.aload_n (k := 0) (i := 0) 0 (by decide +kernel) rfl rfl ?_
        refine Go.iload_n (k := 1) (i := 1) 1 (by decide +kernel) rfl rfl ?_
        refine Go.iconst (n := 1) (1 : Int32) (by decide +kernel) rfl ?_
        refine Go.iadd (by decide +kernel) ?_
        obtain ⟨P7, hP7, h⟩ := St.bind h
        refine Go.cV_v (P1 := P7) (d - 1) 13 [.int (x1 + (1 : Int32))] sh13 hE w_Lr_readChoice (hr7 (x1 + (1 : Int32)) P5 ⟨_, hP7, rfl, rfl, rfl⟩) lk688 rfl (by omega) (Nat.le_of_ble_eq_true rfl) (by decide +kernel) _ rfl ?_
        refine Go.goto (off := 11) 136 (by decide +kernel) (by decide) ?_
        exact Go.vret rfl hE.2 (by decide +kernel) (St.fP h)
  · rw [if_pos c1] at h
    refine Go.aload_n (k := 0) (i := 0) 0 (by decide +kernel) rfl rfl ?_
    refine Go.iload_n (k := 1) (i := 1) 1 (by decide +kernel) rfl rfl ?_
    obtain ⟨v8, P9, hv8, h⟩ := St.bd2 h
    refine Go.cV_i (P1 := P9) (v := v8) (d - 1) 13 [.int x1] sh13 hE w_Lr_opens (e_Lr_opens hG hE (d - 1) (by omega) x1 P ⟨_, hv8, rfl, rfl, rfl⟩) lk660 rfl (by omega) (Nat.le_of_ble_eq_true rfl) (by decide +kernel) _ rfl ?_
    refine Go.if_eq (off := 55) 136 (by decide +kernel) (by decide) (fun c10 => ?_) (fun c10 => ?_)
    · rw [if_pos c10] at h
      exact Go.vret rfl hE.2 (by decide +kernel) (St.fP h)
    · rw [if_neg c10] at h
      refine Go.aload_n (k := 0) (i := 0) 0 (by decide +kernel) rfl rfl ?_
      refine Go.iload_n (k := 1) (i := 1) 1 (by decide +kernel) rfl rfl ?_
      refine Go.iconst (n := 1) (1 : Int32) (by decide +kernel) rfl ?_
      refine Go.iadd (by decide +kernel) ?_
      obtain ⟨P11, hP11, h⟩ := St.bind h
      refine Go.cV_v (P1 := P11) (d - 1) 13 [.int (x1 + (1 : Int32))] sh13 hE w_Lr_readSum (hr4 (x1 + (1 : Int32)) P9 ⟨_, hP11, rfl, rfl, rfl⟩) lk676 rfl (by omega) (Nat.le_of_ble_eq_true rfl) (by decide +kernel) _ rfl ?_
      refine Go.aload_n (k := 0) (i := 0) 0 (by decide +kernel) rfl rfl ?_
      refine Go.get 13 0 (.ref (ad E 1)) (by decide) (by decide) sh13 (ltO hE sh13) (vlR hE rfl rfl) lk188 (by decide +kernel) ?_
      refine Go.bipush (n := 41) (41 : Int32) (by decide +kernel) (by decide) ?_
      obtain ⟨P12, hP12, h⟩ := St.bind h
      refine Go.cV_v (P1 := P12) (d - 1) 1 [.int (41 : Int32)] sh1 hE w_Ta_skip (e_Ta_skip hG hE (d - 1) (by omega) (41 : Int32) P11 ⟨_, hP12, rfl, rfl, rfl⟩) lk671 rfl (by omega) (Nat.le_of_ble_eq_true rfl) (by decide +kernel) _ rfl ?_
      refine Go.goto (off := 36) 136 (by decide +kernel) (by decide) ?_
      exact Go.vret rfl hE.2 (by decide +kernel) (St.fP h)
theorem t_f_Lr_readAtom {G : GX} (hG : GOK G) {E : EV} (hE : E0 E) (d : Nat) (hd : 8 ≤ d) {Q : QT} (rec : Nat → Int32 → PM → Option PM) (hr0 : ∀ (a0 : Int32) (P : PM) {Q : QT}, St E rP (rec 0 a0 P) Q → Con G y_Lr_readTruth cw_Lr_readTruth (d - 1) nOb nOb [.ref (ad E 13), .int a0] P E Q) (hr1 : ∀ (a0 : Int32) (P : PM) {Q : QT}, St E rP (rec 1 a0 P) Q → Con G y_Lr_readBoth cw_Lr_readBoth (d - 1) nOb nOb [.ref (ad E 13), .int a0] P E Q) (hr2 : ∀ (a0 : Int32) (P : PM) {Q : QT}, St E rP (rec 2 a0 P) Q → Con G y_Lr_readUnit cw_Lr_readUnit (d - 1) nOb nOb [.ref (ad E 13), .int a0] P E Q) (hr3 : ∀ (a0 : Int32) (P : PM) {Q : QT}, St E rP (rec 3 a0 P) Q → Con G y_Lr_readComparison cw_Lr_readComparison (d - 1) nOb nOb [.ref (ad E 13), .int a0] P E Q) (hr4 : ∀ (a0 : Int32) (P : PM) {Q : QT}, St E rP (rec 4 a0 P) Q → Con G y_Lr_readSum cw_Lr_readSum (d - 1) nOb nOb [.ref (ad E 13), .int a0] P E Q) (hr5 : ∀ (a0 : Int32) (P : PM) {Q : QT}, St E rP (rec 5 a0 P) Q → Con G y_Lr_readTerm cw_Lr_readTerm (d - 1) nOb nOb [.ref (ad E 13), .int a0] P E Q) (hr6 : ∀ (a0 : Int32) (P : PM) {Q : QT}, St E rP (rec 6 a0 P) Q → Con G y_Lr_readAtom cw_Lr_readAtom (d - 1) nOb nOb [.ref (ad E 13), .int a0] P E Q) (hr7 : ∀ (a0 : Int32) (P : PM) {Q : QT}, St E rP (rec 7 a0 P) Q → Con G y_Lr_readChoice cw_Lr_readChoice (d - 1) nOb nOb [.ref (ad E 13), .int a0] P E Q) (a1 : Int32) (P : PM) (h : St E rP (f_Lr_readAtom rec a1 P) Q) : Go G c_Lr_readAtom "YawnRoute$LawReader" 3 none false d nOb nOb Q 0 [(0, .ref (ad E 13)), (1, .int a1)] [] P E := by
  rw [f_Lr_readAtom] at h
  refine Go.aload_n (k := 0) (i := 0) 0 (by decide +kernel) rfl rfl ?_
  refine Go.get 13 0 (.ref (ad E 1)) (by decide) (by decide) sh13 (ltO hE sh13) (vlR hE rfl rfl) lk188 (by decide +kernel) ?_
  refine Go.get 1 5 (.int (P.1 1 5)) (by decide) (by decide) sh1 (ltO hE sh1) rfl lk43 (by decide +kernel) ?_
  obtain ⟨y1, hy1, h⟩ := St.lb h
  refine Go.eqi y1 hy1 ?_
  refine Go.istore_n (k := 2) (i := 2) [(2, .int y1), (0, .ref (ad E 13)), (1, .int a1)] (by decide +kernel) rfl (by decide) rfl ?_
  refine Go.iload_n (k := 2) (i := 2) 0 (by decide +kernel) rfl rfl ?_
  refine Go.iconst (n := 1) (1 : Int32) (by decide +kernel) rfl ?_
  refine Go.icmp_ne (off := 27) 37 (by decide +kernel) (by decide) (fun c2 => ?_) (fun c2 => ?_)
  · rw [if_neg c2] at h
    refine Go.iload_n (k := 2) (i := 2) 0 (by decide +kernel) rfl rfl ?_
    refine Go.sipush (n := 200) (200 : Int32) (by decide +kernel) (by decide) ?_
    refine Go.icmp_lt (off := 29) 70 (by decide +kernel) (by decide) (fun c3 => ?_) (fun c3 => ?_)
    · rw [if_pos c3] at h
      refine Go.sub [1, 2, 0] [(0, .ref (ad E 13)), (1, .int a1), (2, .int y1)] rfl ?_
      exact t_j_Lr_readAtom_70 hG hE d hd rec hr0 hr1 hr2 hr3 hr4 hr5 hr6 hr7 a1 y1 P h
    · rw [if_neg c3] at h
      refine Go.iload_n (k := 2) (i := 2) 0 (by decide +kernel) rfl rfl ?_
      refine Go.sipush (n := 205) (205 : Int32) (by decide +kernel) (by decide) ?_
      refine Go.icmp_gt (off := 22) 70 (by decide +kernel) (by decide) (fun c4 => ?_) (fun c4 => ?_)
      · rw [if_pos c4] at h
        refine Go.sub [1, 2, 0] [(0, .ref (ad E 13)), (1, .int a1), (2, .int y1)] rfl ?_
        exact t_j_Lr_readAtom_70 hG hE d hd rec hr0 hr1 hr2 hr3 hr4 hr5 hr6 hr7 a1 y1 P h
      · rw [if_neg c4] at h
        refine Go.aload_n (k := 0) (i := 0) 1 (by decide +kernel) rfl rfl ?_
        refine Go.get 13 1 (.ref (ad E 4)) (by decide) (by decide) sh13 (ltO hE sh13) (vlR hE rfl rfl) lk189 (by decide +kernel) ?_
        refine Go.iload_n (k := 2) (i := 2) 0 (by decide +kernel) rfl rfl ?_
        refine Go.ineg (by decide +kernel) ?_
        obtain ⟨P5, hP5, h⟩ := St.bind h
        refine Go.cV_v (P1 := P5) (d - 1) 4 [.int (-y1)] sh4 hE w_Ne_addCode (e_Ne_addCode hG hE (d - 1) (by omega) 4 sh4 (-y1) P ⟨_, hP5, rfl, rfl, rfl⟩) lk666 rfl (by omega) (Nat.le_of_ble_eq_true rfl) (by decide +kernel) _ rfl ?_
        refine Go.aload_n (k := 0) (i := 0) 1 (by decide +kernel) rfl rfl ?_
        refine Go.get 13 0 (.ref (ad E 1)) (by decide) (by decide) sh13 (ltO hE sh13) (vlR hE rfl rfl) lk188 (by decide +kernel) ?_
        obtain ⟨P6, hP6, h⟩ := St.bind h
        refine Go.cV_v (P1 := P6) (d - 1) 1 [] sh1 hE w_Ta_next (e_Ta_next hG hE (d - 1) (by omega) P5 ⟨_, hP6, rfl, rfl, rfl⟩) lk665 rfl (by omega) (Nat.le_of_ble_eq_true rfl) (by decide +kernel) _ rfl ?_
        refine Go.goto (off := 69) 136 (by decide +kernel) (by decide) ?_
        exact Go.vret rfl hE.2 (by decide +kernel) (St.fP h)
  · rw [if_pos c2] at h
    refine Go.aload_n (k := 0) (i := 0) 1 (by decide +kernel) rfl rfl ?_
    refine Go.get 13 1 (.ref (ad E 4)) (by decide) (by decide) sh13 (ltO hE sh13) (vlR hE rfl rfl) lk189 (by decide +kernel) ?_
    refine Go.aload_n (k := 0) (i := 0) 1 (by decide +kernel) rfl rfl ?_
    refine Go.get 13 0 (.ref (ad E 1)) (by decide) (by decide) sh13 (ltO hE sh13) (vlR hE rfl rfl) lk188 (by decide +kernel) ?_
    refine Go.get 1 6 (.int (P.1 1 6)) (by decide) (by decide) sh1 (ltO hE sh1) rfl lk47 (by decide +kernel) ?_
    obtain ⟨P7, hP7, h⟩ := St.bind h
    refine Go.cV_v (P1 := P7) (d - 1) 4 [.int (P.1 1 6)] sh4 hE w_Ne_addCode (e_Ne_addCode hG hE (d - 1) (by omega) 4 sh4 (P.1 1 6) P ⟨_, hP7, rfl, rfl, rfl⟩) lk666 rfl (by omega) (Nat.le_of_ble_eq_true rfl) (by decide +kernel) _ rfl ?_
    refine Go.aload_n (k := 0) (i := 0) 1 (by decide +kernel) rfl rfl ?_
    refine Go.get 13 0 (.ref (ad E 1)) (by decide) (by decide) sh13 (ltO hE sh13) (vlR hE rfl rfl) lk188 (by decide +kernel) ?_
    obtain ⟨P8, hP8, h⟩ := St.bind h
    refine Go.cV_v (P1 := P8) (d - 1) 1 [] sh1 hE w_Ta_next (e_Ta_next hG hE (d - 1) (by omega) P7 ⟨_, hP8, rfl, rfl, rfl⟩) lk665 rfl (by omega) (Nat.le_of_ble_eq_true rfl) (by decide +kernel) _ rfl ?_
    refine Go.goto (off := 102) 136 (by decide +kernel) (by decide) ?_
    exact Go.vret rfl hE.2 (by decide +kernel) (St.fP h)
theorem t_f_Lr_readChoice {G : GX} (hG : GOK G) {E : EV} (hE : E0 E) (d : Nat) (hd : 8 ≤ d) {Q : QT} (rec : Nat → Int32 → PM → Option PM) (hr0 : ∀ (a0 : Int32) (P : PM) {Q : QT}, St E rP (rec 0 a0 P) Q → Con G y_Lr_readTruth cw_Lr_readTruth (d - 1) nOb nOb [.ref (ad E 13), .int a0] P E Q) (hr1 : ∀ (a0 : Int32) (P : PM) {Q : QT}, St E rP (rec 1 a0 P) Q → Con G y_Lr_readBoth cw_Lr_readBoth (d - 1) nOb nOb [.ref (ad E 13), .int a0] P E Q) (hr2 : ∀ (a0 : Int32) (P : PM) {Q : QT}, St E rP (rec 2 a0 P) Q → Con G y_Lr_readUnit cw_Lr_readUnit (d - 1) nOb nOb [.ref (ad E 13), .int a0] P E Q) (hr3 : ∀ (a0 : Int32) (P : PM) {Q : QT}, St E rP (rec 3 a0 P) Q → Con G y_Lr_readComparison cw_Lr_readComparison (d - 1) nOb nOb [.ref (ad E 13), .int a0] P E Q) (hr4 : ∀ (a0 : Int32) (P : PM) {Q : QT}, St E rP (rec 4 a0 P) Q → Con G y_Lr_readSum cw_Lr_readSum (d - 1) nOb nOb [.ref (ad E 13), .int a0] P E Q) (hr5 : ∀ (a0 : Int32) (P : PM) {Q : QT}, St E rP (rec 5 a0 P) Q → Con G y_Lr_readTerm cw_Lr_readTerm (d - 1) nOb nOb [.ref (ad E 13), .int a0] P E Q) (hr6 : ∀ (a0 : Int32) (P : PM) {Q : QT}, St E rP (rec 6 a0 P) Q → Con G y_Lr_readAtom cw_Lr_readAtom (d - 1) nOb nOb [.ref (ad E 13), .int a0] P E Q) (hr7 : ∀ (a0 : Int32) (P : PM) {Q : QT}, St E rP (rec 7 a0 P) Q → Con G y_Lr_readChoice cw_Lr_readChoice (d - 1) nOb nOb [.ref (ad E 13), .int a0] P E Q) (a1 : Int32) (P : PM) (h : St E rP (f_Lr_readChoice rec a1 P) Q) : Go G c_Lr_readChoice "YawnRoute$LawReader" 2 none false d nOb nOb Q 0 [(0, .ref (ad E 13)), (1, .int a1)] [] P E := by
  rw [f_Lr_readChoice] at h
  refine Go.aload_n (k := 0) (i := 0) 0 (by decide +kernel) rfl rfl ?_
  refine Go.iload_n (k := 1) (i := 1) 1 (by decide +kernel) rfl rfl ?_
  obtain ⟨P1, hP1, h⟩ := St.bind h
  refine Go.cV_v (P1 := P1) (d - 1) 13 [.int a1] sh13 hE w_Lr_readTruth (hr0 a1 P ⟨_, hP1, rfl, rfl, rfl⟩) lk670 rfl (by omega) (Nat.le_of_ble_eq_true rfl) (by decide +kernel) _ rfl ?_
  refine Go.aload_n (k := 0) (i := 0) 0 (by decide +kernel) rfl rfl ?_
  refine Go.get 13 0 (.ref (ad E 1)) (by decide) (by decide) sh13 (ltO hE sh13) (vlR hE rfl rfl) lk188 (by decide +kernel) ?_
  refine Go.sipush (n := 214) (214 : Int32) (by decide +kernel) (by decide) ?_
  obtain ⟨P2, hP2, h⟩ := St.bind h
  refine Go.cV_v (P1 := P2) (d - 1) 1 [.int (214 : Int32)] sh1 hE w_Ta_skip (e_Ta_skip hG hE (d - 1) (by omega) (214 : Int32) P1 ⟨_, hP2, rfl, rfl, rfl⟩) lk671 rfl (by omega) (Nat.le_of_ble_eq_true rfl) (by decide +kernel) _ rfl ?_
  refine Go.aload_n (k := 0) (i := 0) 0 (by decide +kernel) rfl rfl ?_
  refine Go.iload_n (k := 1) (i := 1) 1 (by decide +kernel) rfl rfl ?_
  obtain ⟨P3, hP3, h⟩ := St.bind h
  refine Go.cV_v (P1 := P3) (d - 1) 13 [.int a1] sh13 hE w_Lr_readSum (hr4 a1 P2 ⟨_, hP3, rfl, rfl, rfl⟩) lk676 rfl (by omega) (Nat.le_of_ble_eq_true rfl) (by decide +kernel) _ rfl ?_
  refine Go.aload_n (k := 0) (i := 0) 0 (by decide +kernel) rfl rfl ?_
  refine Go.get 13 0 (.ref (ad E 1)) (by decide) (by decide) sh13 (ltO hE sh13) (vlR hE rfl rfl) lk188 (by decide +kernel) ?_
  refine Go.sipush (n := 215) (215 : Int32) (by decide +kernel) (by decide) ?_
  obtain ⟨P4, hP4, h⟩ := St.bind h
  refine Go.cV_v (P1 := P4) (d - 1) 1 [.int (215 : Int32)] sh1 hE w_Ta_skip (e_Ta_skip hG hE (d - 1) (by omega) (215 : Int32) P3 ⟨_, hP4, rfl, rfl, rfl⟩) lk671 rfl (by omega) (Nat.le_of_ble_eq_true rfl) (by decide +kernel) _ rfl ?_
  refine Go.aload_n (k := 0) (i := 0) 0 (by decide +kernel) rfl rfl ?_
  refine Go.iload_n (k := 1) (i := 1) 1 (by decide +kernel) rfl rfl ?_
  obtain ⟨P5, hP5, h⟩ := St.bind h
  refine Go.cV_v (P1 := P5) (d - 1) 13 [.int a1] sh13 hE w_Lr_readSum (hr4 a1 P4 ⟨_, hP5, rfl, rfl, rfl⟩) lk676 rfl (by omega) (Nat.le_of_ble_eq_true rfl) (by decide +kernel) _ rfl ?_
  refine Go.aload_n (k := 0) (i := 0) 0 (by decide +kernel) rfl rfl ?_
  refine Go.get 13 0 (.ref (ad E 1)) (by decide) (by decide) sh13 (ltO hE sh13) (vlR hE rfl rfl) lk188 (by decide +kernel) ?_
  refine Go.sipush (n := 216) (216 : Int32) (by decide +kernel) (by decide) ?_
  obtain ⟨P6, hP6, h⟩ := St.bind h
  refine Go.cV_v (P1 := P6) (d - 1) 1 [.int (216 : Int32)] sh1 hE w_Ta_skip (e_Ta_skip hG hE (d - 1) (by omega) (216 : Int32) P5 ⟨_, hP6, rfl, rfl, rfl⟩) lk671 rfl (by omega) (Nat.le_of_ble_eq_true rfl) (by decide +kernel) _ rfl ?_
  refine Go.aload_n (k := 0) (i := 0) 0 (by decide +kernel) rfl rfl ?_
  refine Go.get 13 1 (.ref (ad E 4)) (by decide) (by decide) sh13 (ltO hE sh13) (vlR hE rfl rfl) lk189 (by decide +kernel) ?_
  refine Go.sipush (n := -213) (-213 : Int32) (by decide +kernel) (by decide) ?_
  obtain ⟨P7, hP7, h⟩ := St.bind h
  refine Go.cV_v (P1 := P7) (d - 1) 4 [.int (-213 : Int32)] sh4 hE w_Ne_addCode (e_Ne_addCode hG hE (d - 1) (by omega) 4 sh4 (-213 : Int32) P6 ⟨_, hP7, rfl, rfl, rfl⟩) lk666 rfl (by omega) (Nat.le_of_ble_eq_true rfl) (by decide +kernel) _ rfl ?_
  exact Go.vret rfl hE.2 (by decide +kernel) (St.fP h)
noncomputable def gr_Lr_readTruth : Nat → Nat → Int32 → PM → Option PM
  | 0, _, _, _ => none
  | n + 1, k, a0, P => match k with
    | 0 => f_Lr_readTruth (gr_Lr_readTruth n) a0 P
    | 1 => f_Lr_readBoth (gr_Lr_readTruth n) a0 P
    | 2 => f_Lr_readUnit (gr_Lr_readTruth n) a0 P
    | 3 => f_Lr_readComparison (gr_Lr_readTruth n) a0 P
    | 4 => f_Lr_readSum (gr_Lr_readTruth n) a0 P
    | 5 => f_Lr_readTerm (gr_Lr_readTruth n) a0 P
    | 6 => f_Lr_readAtom (gr_Lr_readTruth n) a0 P
    | _ => f_Lr_readChoice (gr_Lr_readTruth n) a0 P
noncomputable def g_Lr_readTruth (a1 : Int32) (P : PM) : Option PM := gr_Lr_readTruth FR 0 a1 P
noncomputable def g_Lr_readBoth (a1 : Int32) (P : PM) : Option PM := gr_Lr_readTruth FR 1 a1 P
noncomputable def g_Lr_readUnit (a1 : Int32) (P : PM) : Option PM := gr_Lr_readTruth FR 2 a1 P
noncomputable def g_Lr_readComparison (a1 : Int32) (P : PM) : Option PM := gr_Lr_readTruth FR 3 a1 P
noncomputable def g_Lr_readSum (a1 : Int32) (P : PM) : Option PM := gr_Lr_readTruth FR 4 a1 P
noncomputable def g_Lr_readTerm (a1 : Int32) (P : PM) : Option PM := gr_Lr_readTruth FR 5 a1 P
noncomputable def g_Lr_readAtom (a1 : Int32) (P : PM) : Option PM := gr_Lr_readTruth FR 6 a1 P
noncomputable def g_Lr_readChoice (a1 : Int32) (P : PM) : Option PM := gr_Lr_readTruth FR 7 a1 P
theorem eg_Lr_readTruth {G : GX} (hG : GOK G) {E : EV} (hE : E0 E) : ∀ (n d : Nat), n + 8 ≤ d → (∀ (a0 : Int32) (P : PM) {Q : QT}, St E rP (gr_Lr_readTruth n 0 a0 P) Q → Con G y_Lr_readTruth cw_Lr_readTruth d nOb nOb [.ref (ad E 13), .int a0] P E Q) ∧ (∀ (a0 : Int32) (P : PM) {Q : QT}, St E rP (gr_Lr_readTruth n 1 a0 P) Q → Con G y_Lr_readBoth cw_Lr_readBoth d nOb nOb [.ref (ad E 13), .int a0] P E Q) ∧ (∀ (a0 : Int32) (P : PM) {Q : QT}, St E rP (gr_Lr_readTruth n 2 a0 P) Q → Con G y_Lr_readUnit cw_Lr_readUnit d nOb nOb [.ref (ad E 13), .int a0] P E Q) ∧ (∀ (a0 : Int32) (P : PM) {Q : QT}, St E rP (gr_Lr_readTruth n 3 a0 P) Q → Con G y_Lr_readComparison cw_Lr_readComparison d nOb nOb [.ref (ad E 13), .int a0] P E Q) ∧ (∀ (a0 : Int32) (P : PM) {Q : QT}, St E rP (gr_Lr_readTruth n 4 a0 P) Q → Con G y_Lr_readSum cw_Lr_readSum d nOb nOb [.ref (ad E 13), .int a0] P E Q) ∧ (∀ (a0 : Int32) (P : PM) {Q : QT}, St E rP (gr_Lr_readTruth n 5 a0 P) Q → Con G y_Lr_readTerm cw_Lr_readTerm d nOb nOb [.ref (ad E 13), .int a0] P E Q) ∧ (∀ (a0 : Int32) (P : PM) {Q : QT}, St E rP (gr_Lr_readTruth n 6 a0 P) Q → Con G y_Lr_readAtom cw_Lr_readAtom d nOb nOb [.ref (ad E 13), .int a0] P E Q) ∧ (∀ (a0 : Int32) (P : PM) {Q : QT}, St E rP (gr_Lr_readTruth n 7 a0 P) Q → Con G y_Lr_readChoice cw_Lr_readChoice d nOb nOb [.ref (ad E 13), .int a0] P E Q) := by
  intro n
  induction n with
  | zero =>
    intro d hd
    exact ⟨fun _ P Q h => St.none_ h, fun _ P Q h => St.none_ h, fun _ P Q h => St.none_ h, fun _ P Q h => St.none_ h, fun _ P Q h => St.none_ h, fun _ P Q h => St.none_ h, fun _ P Q h => St.none_ h, fun _ P Q h => St.none_ h⟩
  | succ n ih =>
    intro d hd
    have hh := ih (d - 1) (by omega)
    exact ⟨fun b0 P Q h => Con.of hG (by decide +kernel) rfl (fun h => by cases h) hE.2 (Nat.le_of_ble_eq_true rfl) (t_f_Lr_readTruth hG hE d (by omega) (gr_Lr_readTruth n) (fun b0 P Q h => hh.1 b0 P h) (fun b0 P Q h => hh.2.1 b0 P h) (fun b0 P Q h => hh.2.2.1 b0 P h) (fun b0 P Q h => hh.2.2.2.1 b0 P h) (fun b0 P Q h => hh.2.2.2.2.1 b0 P h) (fun b0 P Q h => hh.2.2.2.2.2.1 b0 P h) (fun b0 P Q h => hh.2.2.2.2.2.2.1 b0 P h) (fun b0 P Q h => hh.2.2.2.2.2.2.2 b0 P h) b0 P h),
      fun b0 P Q h => Con.of hG (by decide +kernel) rfl (fun h => by cases h) hE.2 (Nat.le_of_ble_eq_true rfl) (t_f_Lr_readBoth hG hE d (by omega) (gr_Lr_readTruth n) (fun b0 P Q h => hh.1 b0 P h) (fun b0 P Q h => hh.2.1 b0 P h) (fun b0 P Q h => hh.2.2.1 b0 P h) (fun b0 P Q h => hh.2.2.2.1 b0 P h) (fun b0 P Q h => hh.2.2.2.2.1 b0 P h) (fun b0 P Q h => hh.2.2.2.2.2.1 b0 P h) (fun b0 P Q h => hh.2.2.2.2.2.2.1 b0 P h) (fun b0 P Q h => hh.2.2.2.2.2.2.2 b0 P h) b0 P h),
      fun b0 P Q h => Con.of hG (by decide +kernel) rfl (fun h => by cases h) hE.2 (Nat.le_of_ble_eq_true rfl) (t_f_Lr_readUnit hG hE d (by omega) (gr_Lr_readTruth n) (fun b0 P Q h => hh.1 b0 P h) (fun b0 P Q h => hh.2.1 b0 P h) (fun b0 P Q h => hh.2.2.1 b0 P h) (fun b0 P Q h => hh.2.2.2.1 b0 P h) (fun b0 P Q h => hh.2.2.2.2.1 b0 P h) (fun b0 P Q h => hh.2.2.2.2.2.1 b0 P h) (fun b0 P Q h => hh.2.2.2.2.2.2.1 b0 P h) (fun b0 P Q h => hh.2.2.2.2.2.2.2 b0 P h) b0 P h),
      fun b0 P Q h => Con.of hG (by decide +kernel) rfl (fun h => by cases h) hE.2 (Nat.le_of_ble_eq_true rfl) (t_f_Lr_readComparison hG hE d (by omega) (gr_Lr_readTruth n) (fun b0 P Q h => hh.1 b0 P h) (fun b0 P Q h => hh.2.1 b0 P h) (fun b0 P Q h => hh.2.2.1 b0 P h) (fun b0 P Q h => hh.2.2.2.1 b0 P h) (fun b0 P Q h => hh.2.2.2.2.1 b0 P h) (fun b0 P Q h => hh.2.2.2.2.2.1 b0 P h) (fun b0 P Q h => hh.2.2.2.2.2.2.1 b0 P h) (fun b0 P Q h => hh.2.2.2.2.2.2.2 b0 P h) b0 P h),
      fun b0 P Q h => Con.of hG (by decide +kernel) rfl (fun h => by cases h) hE.2 (Nat.le_of_ble_eq_true rfl) (t_f_Lr_readSum hG hE d (by omega) (gr_Lr_readTruth n) (fun b0 P Q h => hh.1 b0 P h) (fun b0 P Q h => hh.2.1 b0 P h) (fun b0 P Q h => hh.2.2.1 b0 P h) (fun b0 P Q h => hh.2.2.2.1 b0 P h) (fun b0 P Q h => hh.2.2.2.2.1 b0 P h) (fun b0 P Q h => hh.2.2.2.2.2.1 b0 P h) (fun b0 P Q h => hh.2.2.2.2.2.2.1 b0 P h) (fun b0 P Q h => hh.2.2.2.2.2.2.2 b0 P h) b0 P h),
      fun b0 P Q h => Con.of hG (by decide +kernel) rfl (fun h => by cases h) hE.2 (Nat.le_of_ble_eq_true rfl) (t_f_Lr_readTerm hG hE d (by omega) (gr_Lr_readTruth n) (fun b0 P Q h => hh.1 b0 P h) (fun b0 P Q h => hh.2.1 b0 P h) (fun b0 P Q h => hh.2.2.1 b0 P h) (fun b0 P Q h => hh.2.2.2.1 b0 P h) (fun b0 P Q h => hh.2.2.2.2.1 b0 P h) (fun b0 P Q h => hh.2.2.2.2.2.1 b0 P h) (fun b0 P Q h => hh.2.2.2.2.2.2.1 b0 P h) (fun b0 P Q h => hh.2.2.2.2.2.2.2 b0 P h) b0 P h),
      fun b0 P Q h => Con.of hG (by decide +kernel) rfl (fun h => by cases h) hE.2 (Nat.le_of_ble_eq_true rfl) (t_f_Lr_readAtom hG hE d (by omega) (gr_Lr_readTruth n) (fun b0 P Q h => hh.1 b0 P h) (fun b0 P Q h => hh.2.1 b0 P h) (fun b0 P Q h => hh.2.2.1 b0 P h) (fun b0 P Q h => hh.2.2.2.1 b0 P h) (fun b0 P Q h => hh.2.2.2.2.1 b0 P h) (fun b0 P Q h => hh.2.2.2.2.2.1 b0 P h) (fun b0 P Q h => hh.2.2.2.2.2.2.1 b0 P h) (fun b0 P Q h => hh.2.2.2.2.2.2.2 b0 P h) b0 P h),
      fun b0 P Q h => Con.of hG (by decide +kernel) rfl (fun h => by cases h) hE.2 (Nat.le_of_ble_eq_true rfl) (t_f_Lr_readChoice hG hE d (by omega) (gr_Lr_readTruth n) (fun b0 P Q h => hh.1 b0 P h) (fun b0 P Q h => hh.2.1 b0 P h) (fun b0 P Q h => hh.2.2.1 b0 P h) (fun b0 P Q h => hh.2.2.2.1 b0 P h) (fun b0 P Q h => hh.2.2.2.2.1 b0 P h) (fun b0 P Q h => hh.2.2.2.2.2.1 b0 P h) (fun b0 P Q h => hh.2.2.2.2.2.2.1 b0 P h) (fun b0 P Q h => hh.2.2.2.2.2.2.2 b0 P h) b0 P h)⟩
theorem e_Lr_readTruth {G : GX} (hG : GOK G) {E : EV} (hE : E0 E) (d : Nat) (hd : 108 ≤ d) (a1 : Int32) (P : PM) {Q : QT} (h : St E rP (g_Lr_readTruth a1 P) Q) : Con G y_Lr_readTruth cw_Lr_readTruth d nOb nOb [.ref (ad E 13), .int a1] P E Q :=
  (eg_Lr_readTruth hG hE FR d (by rw [FR_eq]; omega)).1 a1 P h
theorem e_Lr_readBoth {G : GX} (hG : GOK G) {E : EV} (hE : E0 E) (d : Nat) (hd : 108 ≤ d) (a1 : Int32) (P : PM) {Q : QT} (h : St E rP (g_Lr_readBoth a1 P) Q) : Con G y_Lr_readBoth cw_Lr_readBoth d nOb nOb [.ref (ad E 13), .int a1] P E Q :=
  (eg_Lr_readTruth hG hE FR d (by rw [FR_eq]; omega)).2.1 a1 P h
theorem e_Lr_readUnit {G : GX} (hG : GOK G) {E : EV} (hE : E0 E) (d : Nat) (hd : 108 ≤ d) (a1 : Int32) (P : PM) {Q : QT} (h : St E rP (g_Lr_readUnit a1 P) Q) : Con G y_Lr_readUnit cw_Lr_readUnit d nOb nOb [.ref (ad E 13), .int a1] P E Q :=
  (eg_Lr_readTruth hG hE FR d (by rw [FR_eq]; omega)).2.2.1 a1 P h
theorem e_Lr_readComparison {G : GX} (hG : GOK G) {E : EV} (hE : E0 E) (d : Nat) (hd : 108 ≤ d) (a1 : Int32) (P : PM) {Q : QT} (h : St E rP (g_Lr_readComparison a1 P) Q) : Con G y_Lr_readComparison cw_Lr_readComparison d nOb nOb [.ref (ad E 13), .int a1] P E Q :=
  (eg_Lr_readTruth hG hE FR d (by rw [FR_eq]; omega)).2.2.2.1 a1 P h
theorem e_Lr_readSum {G : GX} (hG : GOK G) {E : EV} (hE : E0 E) (d : Nat) (hd : 108 ≤ d) (a1 : Int32) (P : PM) {Q : QT} (h : St E rP (g_Lr_readSum a1 P) Q) : Con G y_Lr_readSum cw_Lr_readSum d nOb nOb [.ref (ad E 13), .int a1] P E Q :=
  (eg_Lr_readTruth hG hE FR d (by rw [FR_eq]; omega)).2.2.2.2.1 a1 P h
theorem e_Lr_readTerm {G : GX} (hG : GOK G) {E : EV} (hE : E0 E) (d : Nat) (hd : 108 ≤ d) (a1 : Int32) (P : PM) {Q : QT} (h : St E rP (g_Lr_readTerm a1 P) Q) : Con G y_Lr_readTerm cw_Lr_readTerm d nOb nOb [.ref (ad E 13), .int a1] P E Q :=
  (eg_Lr_readTruth hG hE FR d (by rw [FR_eq]; omega)).2.2.2.2.2.1 a1 P h
theorem e_Lr_readAtom {G : GX} (hG : GOK G) {E : EV} (hE : E0 E) (d : Nat) (hd : 108 ≤ d) (a1 : Int32) (P : PM) {Q : QT} (h : St E rP (g_Lr_readAtom a1 P) Q) : Con G y_Lr_readAtom cw_Lr_readAtom d nOb nOb [.ref (ad E 13), .int a1] P E Q :=
  (eg_Lr_readTruth hG hE FR d (by rw [FR_eq]; omega)).2.2.2.2.2.2.1 a1 P h
theorem e_Lr_readChoice {G : GX} (hG : GOK G) {E : EV} (hE : E0 E) (d : Nat) (hd : 108 ≤ d) (a1 : Int32) (P : PM) {Q : QT} (h : St E rP (g_Lr_readChoice a1 P) Q) : Con G y_Lr_readChoice cw_Lr_readChoice d nOb nOb [.ref (ad E 13), .int a1] P E Q :=
  (eg_Lr_readTruth hG hE FR d (by rw [FR_eq]; omega)).2.2.2.2.2.2.2 a1 P h
