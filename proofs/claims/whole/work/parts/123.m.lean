/-! methods as functions, by program: Mo_readAtom Mo_readIf Mo_readTerm Mo_readSum Mo_readUnit Mo_readBoth Mo_readTruth -/
abbrev c_Mo_readAtom : ByteArray := prog_14_method_19_code
abbrev y_Mo_readAtom : MethodName := ⟨"YawnRouteModel", "readAtom", "(I)V"⟩
abbrev cw_Mo_readAtom : Cond := .code y_Mo_readAtom c_Mo_readAtom 2 none
theorem w_Mo_readAtom : VW 12 y_Mo_readAtom c_Mo_readAtom 2 none 1 := ⟨by decide, lk1517, lp62_, lk14, lk1518, ⟨by decide, by decide, by decide +kernel⟩, by decide⟩
abbrev c_Mo_readIf : ByteArray := prog_14_method_20_code
abbrev y_Mo_readIf : MethodName := ⟨"YawnRouteModel", "readIf", "(I)V"⟩
abbrev cw_Mo_readIf : Cond := .code y_Mo_readIf c_Mo_readIf 2 none
theorem w_Mo_readIf : VW 12 y_Mo_readIf c_Mo_readIf 2 none 1 := ⟨by decide, lk1533, lp66_, lk14, lk1534, ⟨by decide, by decide, by decide +kernel⟩, by decide⟩
abbrev c_Mo_readTerm : ByteArray := prog_14_method_21_code
abbrev y_Mo_readTerm : MethodName := ⟨"YawnRouteModel", "readTerm", "(I)V"⟩
abbrev cw_Mo_readTerm : Cond := .code y_Mo_readTerm c_Mo_readTerm 2 none
theorem w_Mo_readTerm : VW 12 y_Mo_readTerm c_Mo_readTerm 2 none 1 := ⟨by decide, lk1513, lp61_, lk14, lk1514, ⟨by decide, by decide, by decide +kernel⟩, by decide⟩
abbrev c_Mo_readSum : ByteArray := prog_14_method_22_code
abbrev y_Mo_readSum : MethodName := ⟨"YawnRouteModel", "readSum", "(I)V"⟩
abbrev cw_Mo_readSum : Cond := .code y_Mo_readSum c_Mo_readSum 3 none
theorem w_Mo_readSum : VW 12 y_Mo_readSum c_Mo_readSum 3 none 1 := ⟨by decide, lk1509, lp60_, lk14, lk1510, ⟨by decide, by decide, by decide +kernel⟩, by decide⟩
abbrev c_Mo_readUnit : ByteArray := prog_14_method_23_code
abbrev y_Mo_readUnit : MethodName := ⟨"YawnRouteModel", "readUnit", "(I)V"⟩
abbrev cw_Mo_readUnit : Cond := .code y_Mo_readUnit c_Mo_readUnit 3 none
theorem w_Mo_readUnit : VW 12 y_Mo_readUnit c_Mo_readUnit 3 none 1 := ⟨by decide, lk1545, lp69_, lk14, lk1546, ⟨by decide, by decide, by decide +kernel⟩, by decide⟩
abbrev c_Mo_readBoth : ByteArray := prog_14_method_24_code
abbrev y_Mo_readBoth : MethodName := ⟨"YawnRouteModel", "readBoth", "(I)V"⟩
abbrev cw_Mo_readBoth : Cond := .code y_Mo_readBoth c_Mo_readBoth 2 none
theorem w_Mo_readBoth : VW 12 y_Mo_readBoth c_Mo_readBoth 2 none 1 := ⟨by decide, lk1541, lp68_, lk14, lk1542, ⟨by decide, by decide, by decide +kernel⟩, by decide⟩
abbrev c_Mo_readTruth : ByteArray := prog_14_method_25_code
abbrev y_Mo_readTruth : MethodName := ⟨"YawnRouteModel", "readTruth", "(I)V"⟩
abbrev cw_Mo_readTruth : Cond := .code y_Mo_readTruth c_Mo_readTruth 2 none
theorem w_Mo_readTruth : VW 12 y_Mo_readTruth c_Mo_readTruth 2 none 1 := ⟨by decide, lk1537, lp67_, lk14, lk1538, ⟨by decide, by decide, by decide +kernel⟩, by decide⟩
noncomputable def j_Mo_readAtom_66 (rec : Nat → Int32 → PM → Option PM) (x1 : Int32) (P : PM) : Option PM := if (f_Mo_is (35 : Int32) P) = (0 : Int32) then (if (f_Mo_is (12 : Int32) P) = (0 : Int32) then ((f_Mo_fails (2 : Int32) P).bind (fun P3 => some P3)) else ((rec 1 x1 P).bind (fun P4 => some P4))) else (bd2 (f_Mo_goesIn x1 P) (fun v5 P6 => if v5 = (0 : Int32) then (some P6) else ((rec 3 (x1 + (1 : Int32)) P6).bind (fun P8 => bd2 (f_Mo_eats (36 : Int32) P8) (fun v9 P10 => if v9 = (0 : Int32) then ((f_Mo_fails (2 : Int32) P10).bind (fun P12 => some P12)) else (some P10))))))
noncomputable def f_Mo_readAtom (rec : Nat → Int32 → PM → Option PM) (a1 : Int32) (P : PM) : Option PM := if (f_Mo_is (23 : Int32) P) = (0 : Int32) then (if (P.1 109 11) = (0 : Int32) then (if (f_Mo_wordOf (P.1 109 9) P) = (-1 : Int32) then (j_Mo_readAtom_66 rec a1 P) else ((f_Mo_codes ((1000 : Int32) + (f_Mo_wordOf (P.1 109 9) P)) P).bind (fun P4 => (f_Mo_next P4).bind (fun P5 => some P5)))) else (j_Mo_readAtom_66 rec a1 P)) else ((f_Mo_codes (P.1 109 10) P).bind (fun P6 => (f_Mo_next P6).bind (fun P7 => some P7)))
noncomputable def j_Mo_readIf_72 (rec : Nat → Int32 → PM → Option PM) (P : PM) : Option PM := (f_Mo_codes (3009 : Int32) P).bind (fun P1 => some P1)
noncomputable def j_Mo_readIf_51 (rec : Nat → Int32 → PM → Option PM) (x1 : Int32) (P : PM) : Option PM := (rec 3 (x1 + (1 : Int32)) P).bind (fun P1 => bd2 (f_Mo_eats (15 : Int32) P1) (fun v2 P3 => if v2 = (0 : Int32) then ((f_Mo_fails (2 : Int32) P3).bind (fun P5 => j_Mo_readIf_72 rec P5)) else (j_Mo_readIf_72 rec P3)))
noncomputable def j_Mo_readIf_30 (rec : Nat → Int32 → PM → Option PM) (x1 : Int32) (P : PM) : Option PM := (rec 3 (x1 + (1 : Int32)) P).bind (fun P1 => bd2 (f_Mo_eats (14 : Int32) P1) (fun v2 P3 => if v2 = (0 : Int32) then ((f_Mo_fails (2 : Int32) P3).bind (fun P5 => j_Mo_readIf_51 rec x1 P5)) else (j_Mo_readIf_51 rec x1 P3)))
noncomputable def f_Mo_readIf (rec : Nat → Int32 → PM → Option PM) (a1 : Int32) (P : PM) : Option PM := bd2 (f_Mo_goesIn a1 P) (fun v1 P2 => if v1 = (0 : Int32) then (some P2) else ((rec 6 (a1 + (1 : Int32)) P2).bind (fun P4 => bd2 (f_Mo_eats (13 : Int32) P4) (fun v5 P6 => if v5 = (0 : Int32) then ((f_Mo_fails (2 : Int32) P6).bind (fun P8 => j_Mo_readIf_30 rec a1 P8)) else (j_Mo_readIf_30 rec a1 P6)))))
noncomputable def l_Mo_readTerm_5 (rec : Nat → Int32 → PM → Option PM) : Nat → Int32 → PM → Option PM
  | 0, _, _ => none
  | n + 1, x1, P => bd2 (f_Mo_eats (34 : Int32) P) (fun v1 P2 => if v1 = (0 : Int32) then (some P2) else ((rec 0 x1 P2).bind (fun P4 => (f_Mo_codes (3002 : Int32) P4).bind (fun P5 => l_Mo_readTerm_5 rec n x1 P5))))
noncomputable def f_Mo_readTerm (rec : Nat → Int32 → PM → Option PM) (a1 : Int32) (P : PM) : Option PM := (rec 0 a1 P).bind (fun P1 => l_Mo_readTerm_5 rec FU a1 P1)
noncomputable def j_Mo_readSum_41 (rec : Nat → Int32 → PM → Option PM) (k5 : Int32 → PM → Option PM) (x1 : Int32) (s0 : Int32) (P : PM) : Option PM := (f_Mo_next P).bind (fun P1 => (rec 2 x1 P1).bind (fun P2 => (f_Mo_codes s0 P2).bind (fun P3 => k5 x1 P3)))
noncomputable def j_Mo_readSum_23 (rec : Nat → Int32 → PM → Option PM) (k5 : Int32 → PM → Option PM) (x1 : Int32) (P : PM) : Option PM := if (P.1 109 9) = (32 : Int32) then (j_Mo_readSum_41 rec k5 x1 (3000 : Int32) P) else (j_Mo_readSum_41 rec k5 x1 (3001 : Int32) P)
noncomputable def l_Mo_readSum_5 (rec : Nat → Int32 → PM → Option PM) : Nat → Int32 → PM → Option PM
  | 0, _, _ => none
  | n + 1, x1, P => if (f_Mo_is (32 : Int32) P) = (0 : Int32) then (if (f_Mo_is (33 : Int32) P) = (0 : Int32) then (some P) else (j_Mo_readSum_23 rec (fun z0 Pz => l_Mo_readSum_5 rec n z0 Pz) x1 P)) else (j_Mo_readSum_23 rec (fun z0 Pz => l_Mo_readSum_5 rec n z0 Pz) x1 P)
noncomputable def f_Mo_readSum (rec : Nat → Int32 → PM → Option PM) (a1 : Int32) (P : PM) : Option PM := (rec 2 a1 P).bind (fun P1 => l_Mo_readSum_5 rec FU a1 P1)
noncomputable def j_Mo_readUnit_151 (rec : Nat → Int32 → PM → Option PM) (x1 : Int32) (x2 : Int32) (P : PM) : Option PM := (rec 3 x1 P).bind (fun P1 => (f_Mo_codes x2 P1).bind (fun P2 => some P2))
noncomputable def j_Mo_readUnit_139 (rec : Nat → Int32 → PM → Option PM) (x1 : Int32) (x2 : Int32) (P : PM) : Option PM := (f_Mo_next P).bind (fun P1 => j_Mo_readUnit_151 rec x1 x2 P1)
noncomputable def j_Mo_readUnit_111 (rec : Nat → Int32 → PM → Option PM) (x1 : Int32) (s0 : Int32) (P : PM) : Option PM := if (f_Mo_is (39 : Int32) P) = (0 : Int32) then (if (f_Mo_is (40 : Int32) P) = (0 : Int32) then (if (f_Mo_is (41 : Int32) P) = (0 : Int32) then ((f_Mo_fails (2 : Int32) P).bind (fun P4 => j_Mo_readUnit_151 rec x1 s0 P4)) else (j_Mo_readUnit_139 rec x1 s0 P)) else (j_Mo_readUnit_139 rec x1 s0 P)) else (j_Mo_readUnit_139 rec x1 s0 P)
noncomputable def f_Mo_readUnit (rec : Nat → Int32 → PM → Option PM) (a1 : Int32) (P : PM) : Option PM := if (f_Mo_is (19 : Int32) P) = (0 : Int32) then (if (f_Mo_is (37 : Int32) P) = (0 : Int32) then ((rec 3 a1 P).bind (fun P3 => if (f_Mo_is (39 : Int32) P3) = (0 : Int32) then (if (f_Mo_is (40 : Int32) P3) = (0 : Int32) then (j_Mo_readUnit_111 rec a1 (3005 : Int32) P3) else (j_Mo_readUnit_111 rec a1 (3004 : Int32) P3)) else (j_Mo_readUnit_111 rec a1 (3003 : Int32) P3))) else (bd2 (f_Mo_goesIn a1 P) (fun v6 P7 => if v6 = (0 : Int32) then (some P7) else ((rec 6 (a1 + (1 : Int32)) P7).bind (fun P9 => bd2 (f_Mo_eats (38 : Int32) P9) (fun v10 P11 => if v10 = (0 : Int32) then ((f_Mo_fails (2 : Int32) P11).bind (fun P13 => some P13)) else (some P11))))))) else (bd2 (f_Mo_goesIn a1 P) (fun v14 P15 => if v14 = (0 : Int32) then (some P15) else ((rec 4 (a1 + (1 : Int32)) P15).bind (fun P17 => (f_Mo_codes (3006 : Int32) P17).bind (fun P18 => some P18)))))
noncomputable def l_Mo_readBoth_5 (rec : Nat → Int32 → PM → Option PM) : Nat → Int32 → PM → Option PM
  | 0, _, _ => none
  | n + 1, x1, P => bd2 (f_Mo_eats (17 : Int32) P) (fun v1 P2 => if v1 = (0 : Int32) then (some P2) else ((rec 4 x1 P2).bind (fun P4 => (f_Mo_codes (3007 : Int32) P4).bind (fun P5 => l_Mo_readBoth_5 rec n x1 P5))))
noncomputable def f_Mo_readBoth (rec : Nat → Int32 → PM → Option PM) (a1 : Int32) (P : PM) : Option PM := (rec 4 a1 P).bind (fun P1 => l_Mo_readBoth_5 rec FU a1 P1)
noncomputable def l_Mo_readTruth_5 (rec : Nat → Int32 → PM → Option PM) : Nat → Int32 → PM → Option PM
  | 0, _, _ => none
  | n + 1, x1, P => bd2 (f_Mo_eats (18 : Int32) P) (fun v1 P2 => if v1 = (0 : Int32) then (some P2) else ((rec 5 x1 P2).bind (fun P4 => (f_Mo_codes (3008 : Int32) P4).bind (fun P5 => l_Mo_readTruth_5 rec n x1 P5))))
noncomputable def f_Mo_readTruth (rec : Nat → Int32 → PM → Option PM) (a1 : Int32) (P : PM) : Option PM := (rec 5 a1 P).bind (fun P1 => l_Mo_readTruth_5 rec FU a1 P1)
theorem t_j_Mo_readAtom_66 {G : GX} (hG : GOK G) {E : EV} (hE : E0 E) (d : Nat) (hd : 8 ≤ d) {Q : QT} (rec : Nat → Int32 → PM → Option PM) (hr0 : ∀ (a0 : Int32) (P : PM) {Q : QT}, St E rP (rec 0 a0 P) Q → Con G y_Mo_readAtom cw_Mo_readAtom (d - 1) nOb nOb [.ref (ad E 109), .int a0] P E Q) (hr1 : ∀ (a0 : Int32) (P : PM) {Q : QT}, St E rP (rec 1 a0 P) Q → Con G y_Mo_readIf cw_Mo_readIf (d - 1) nOb nOb [.ref (ad E 109), .int a0] P E Q) (hr2 : ∀ (a0 : Int32) (P : PM) {Q : QT}, St E rP (rec 2 a0 P) Q → Con G y_Mo_readTerm cw_Mo_readTerm (d - 1) nOb nOb [.ref (ad E 109), .int a0] P E Q) (hr3 : ∀ (a0 : Int32) (P : PM) {Q : QT}, St E rP (rec 3 a0 P) Q → Con G y_Mo_readSum cw_Mo_readSum (d - 1) nOb nOb [.ref (ad E 109), .int a0] P E Q) (hr4 : ∀ (a0 : Int32) (P : PM) {Q : QT}, St E rP (rec 4 a0 P) Q → Con G y_Mo_readUnit cw_Mo_readUnit (d - 1) nOb nOb [.ref (ad E 109), .int a0] P E Q) (hr5 : ∀ (a0 : Int32) (P : PM) {Q : QT}, St E rP (rec 5 a0 P) Q → Con G y_Mo_readBoth cw_Mo_readBoth (d - 1) nOb nOb [.ref (ad E 109), .int a0] P E Q) (hr6 : ∀ (a0 : Int32) (P : PM) {Q : QT}, St E rP (rec 6 a0 P) Q → Con G y_Mo_readTruth cw_Mo_readTruth (d - 1) nOb nOb [.ref (ad E 109), .int a0] P E Q) (x1 : Int32) (P : PM) (h : St E rP (j_Mo_readAtom_66 rec x1 P) Q) : Go G c_Mo_readAtom "YawnRouteModel" 2 none false d nOb nOb Q 66 [(0, .ref (ad E 109)), (1, .int x1)] [] P E := by
  rw [j_Mo_readAtom_66] at h
  refine Go.aload_n (k := 0) (i := 0) 0 (by decide +kernel) rfl rfl ?_
  refine Go.bipush (n := 35) (35 : Int32) (by decide +kernel) (by decide) ?_
  refine Go.cV_i (P1 := P) (v := (f_Mo_is (35 : Int32) P)) (d - 1) 109 [.int (35 : Int32)] sh109 hE w_Mo_is (e_Mo_is hG hE (d - 1) (by omega) (35 : Int32) P ⟨rfl, rfl, rfl⟩) lk1467 rfl (by omega) (Nat.le_of_ble_eq_true rfl) (by decide +kernel) _ rfl ?_
  refine Go.if_eq (off := 36) 108 (by decide +kernel) (by decide) (fun c1 => ?_) (fun c1 => ?_)
  · rw [if_pos c1] at h
    refine Go.aload_n (k := 0) (i := 0) 0 (by decide +kernel) rfl rfl ?_
    refine Go.bipush (n := 12) (12 : Int32) (by decide +kernel) (by decide) ?_
    refine Go.cV_i (P1 := P) (v := (f_Mo_is (12 : Int32) P)) (d - 1) 109 [.int (12 : Int32)] sh109 hE w_Mo_is (e_Mo_is hG hE (d - 1) (by omega) (12 : Int32) P ⟨rfl, rfl, rfl⟩) lk1467 rfl (by omega) (Nat.le_of_ble_eq_true rfl) (by decide +kernel) _ rfl ?_
    refine Go.if_eq (off := 11) 125 (by decide +kernel) (by decide) (fun c2 => ?_) (fun c2 => ?_)
    · rw [if_pos c2] at h
      refine Go.aload_n (k := 0) (i := 0) 0 (by decide +kernel) rfl rfl ?_
      refine Go.iconst (n := 2) (2 : Int32) (by decide +kernel) rfl ?_
      obtain ⟨P3, hP3, h⟩ := St.bind h
      refine Go.cV_v (P1 := P3) (d - 1) 109 [.int (2 : Int32)] sh109 hE w_Mo_fails (e_Mo_fails hG hE (d - 1) (by omega) (2 : Int32) P ⟨_, hP3, rfl, rfl, rfl⟩) lk1471 rfl (by omega) (Nat.le_of_ble_eq_true rfl) (by decide +kernel) _ rfl ?_
      exact Go.vret rfl hE.2 (by decide +kernel) (St.fP h)
    · rw [if_neg c2] at h
      refine Go.aload_n (k := 0) (i := 0) 0 (by decide +kernel) rfl rfl ?_
      refine Go.iload_n (k := 1) (i := 1) 1 (by decide +kernel) rfl rfl ?_
      obtain ⟨P4, hP4, h⟩ := St.bind h
      refine Go.cV_v (P1 := P4) (d - 1) 109 [.int x1] sh109 hE w_Mo_readIf (hr1 x1 P ⟨_, hP4, rfl, rfl, rfl⟩) lk1531 rfl (by omega) (Nat.le_of_ble_eq_true rfl) (by decide +kernel) _ rfl ?_
      refine Go.goto (off := 8) 130 (by decide +kernel) (by decide) ?_
      exact Go.vret rfl hE.2 (by decide +kernel) (St.fP h)
  · rw [if_neg c1] at h
    refine Go.aload_n (k := 0) (i := 0) 0 (by decide +kernel) rfl rfl ?_
    refine Go.iload_n (k := 1) (i := 1) 1 (by decide +kernel) rfl rfl ?_
    obtain ⟨v5, P6, hv5, h⟩ := St.bd2 h
    refine Go.cV_i (P1 := P6) (v := v5) (d - 1) 109 [.int x1] sh109 hE w_Mo_goesIn (e_Mo_goesIn hG hE (d - 1) (by omega) x1 P ⟨_, hv5, rfl, rfl, rfl⟩) lk1527 rfl (by omega) (Nat.le_of_ble_eq_true rfl) (by decide +kernel) _ rfl ?_
    refine Go.if_ne (off := 4) 84 (by decide +kernel) (by decide) (fun c7 => ?_) (fun c7 => ?_)
    · rw [if_neg c7] at h
      refine Go.aload_n (k := 0) (i := 0) 0 (by decide +kernel) rfl rfl ?_
      refine Go.iload_n (k := 1) (i := 1) 1 (by decide +kernel) rfl rfl ?_
      refine Go.iconst (n := 1) (1 : Int32) (by decide +kernel) rfl ?_
      refine Go.iadd (by decide +kernel) ?_
      obtain ⟨P8, hP8, h⟩ := St.bind h
      refine Go.cV_v (P1 := P8) (d - 1) 109 [.int (x1 + (1 : Int32))] sh109 hE w_Mo_readSum (hr3 (x1 + (1 : Int32)) P6 ⟨_, hP8, rfl, rfl, rfl⟩) lk1507 rfl (by omega) (Nat.le_of_ble_eq_true rfl) (by decide +kernel) _ rfl ?_
      refine Go.aload_n (k := 0) (i := 0) 0 (by decide +kernel) rfl rfl ?_
      refine Go.bipush (n := 36) (36 : Int32) (by decide +kernel) (by decide) ?_
      obtain ⟨v9, P10, hv9, h⟩ := St.bd2 h
      refine Go.cV_i (P1 := P10) (v := v9) (d - 1) 109 [.int (36 : Int32)] sh109 hE w_Mo_eats (e_Mo_eats hG hE (d - 1) (by omega) (36 : Int32) P8 ⟨_, hv9, rfl, rfl, rfl⟩) lk1463 rfl (by omega) (Nat.le_of_ble_eq_true rfl) (by decide +kernel) _ rfl ?_
      refine Go.if_ne (off := 33) 130 (by decide +kernel) (by decide) (fun c11 => ?_) (fun c11 => ?_)
      · rw [if_neg c11] at h
        exact Go.vret rfl hE.2 (by decide +kernel) (St.fP h)
      · rw [if_pos c11] at h
        refine Go.aload_n (k := 0) (i := 0) 0 (by decide +kernel) rfl rfl ?_
        refine Go.iconst (n := 2) (2 : Int32) (by decide +kernel) rfl ?_
        obtain ⟨P12, hP12, h⟩ := St.bind h
        refine Go.cV_v (P1 := P12) (d - 1) 109 [.int (2 : Int32)] sh109 hE w_Mo_fails (e_Mo_fails hG hE (d - 1) (by omega) (2 : Int32) P10 ⟨_, hP12, rfl, rfl, rfl⟩) lk1471 rfl (by omega) (Nat.le_of_ble_eq_true rfl) (by decide +kernel) _ rfl ?_
        refine Go.goto (off := 25) 130 (by decide +kernel) (by decide) ?_
        exact Go.vret rfl hE.2 (by decide +kernel) (St.fP h)
    · rw [if_pos c7] at h
      exact Go.vret rfl hE.2 (by decide +kernel) (St.fP h)
theorem t_f_Mo_readAtom {G : GX} (hG : GOK G) {E : EV} (hE : E0 E) (d : Nat) (hd : 8 ≤ d) {Q : QT} (rec : Nat → Int32 → PM → Option PM) (hr0 : ∀ (a0 : Int32) (P : PM) {Q : QT}, St E rP (rec 0 a0 P) Q → Con G y_Mo_readAtom cw_Mo_readAtom (d - 1) nOb nOb [.ref (ad E 109), .int a0] P E Q) (hr1 : ∀ (a0 : Int32) (P : PM) {Q : QT}, St E rP (rec 1 a0 P) Q → Con G y_Mo_readIf cw_Mo_readIf (d - 1) nOb nOb [.ref (ad E 109), .int a0] P E Q) (hr2 : ∀ (a0 : Int32) (P : PM) {Q : QT}, St E rP (rec 2 a0 P) Q → Con G y_Mo_readTerm cw_Mo_readTerm (d - 1) nOb nOb [.ref (ad E 109), .int a0] P E Q) (hr3 : ∀ (a0 : Int32) (P : PM) {Q : QT}, St E rP (rec 3 a0 P) Q → Con G y_Mo_readSum cw_Mo_readSum (d - 1) nOb nOb [.ref (ad E 109), .int a0] P E Q) (hr4 : ∀ (a0 : Int32) (P : PM) {Q : QT}, St E rP (rec 4 a0 P) Q → Con G y_Mo_readUnit cw_Mo_readUnit (d - 1) nOb nOb [.ref (ad E 109), .int a0] P E Q) (hr5 : ∀ (a0 : Int32) (P : PM) {Q : QT}, St E rP (rec 5 a0 P) Q → Con G y_Mo_readBoth cw_Mo_readBoth (d - 1) nOb nOb [.ref (ad E 109), .int a0] P E Q) (hr6 : ∀ (a0 : Int32) (P : PM) {Q : QT}, St E rP (rec 6 a0 P) Q → Con G y_Mo_readTruth cw_Mo_readTruth (d - 1) nOb nOb [.ref (ad E 109), .int a0] P E Q) (a1 : Int32) (P : PM) (h : St E rP (f_Mo_readAtom rec a1 P) Q) : Go G c_Mo_readAtom "YawnRouteModel" 2 none false d nOb nOb Q 0 [(0, .ref (ad E 109)), (1, .int a1)] [] P E := by
  rw [f_Mo_readAtom] at h
  refine Go.aload_n (k := 0) (i := 0) 0 (by decide +kernel) rfl rfl ?_
  refine Go.bipush (n := 23) (23 : Int32) (by decide +kernel) (by decide) ?_
  refine Go.cV_i (P1 := P) (v := (f_Mo_is (23 : Int32) P)) (d - 1) 109 [.int (23 : Int32)] sh109 hE w_Mo_is (e_Mo_is hG hE (d - 1) (by omega) (23 : Int32) P ⟨rfl, rfl, rfl⟩) lk1467 rfl (by omega) (Nat.le_of_ble_eq_true rfl) (by decide +kernel) _ rfl ?_
  refine Go.if_eq (off := 18) 24 (by decide +kernel) (by decide) (fun c1 => ?_) (fun c1 => ?_)
  · rw [if_pos c1] at h
    refine Go.aload_n (k := 0) (i := 0) 0 (by decide +kernel) rfl rfl ?_
    refine Go.get 109 11 (.int (P.1 109 11)) (by decide) (by decide) sh109 (ltO hE sh109) rfl lk1341 (by decide +kernel) ?_
    refine Go.if_ne (off := 38) 66 (by decide +kernel) (by decide) (fun c2 => ?_) (fun c2 => ?_)
    · rw [if_neg c2] at h
      exact t_j_Mo_readAtom_66 hG hE d hd rec hr0 hr1 hr2 hr3 hr4 hr5 hr6 a1 P h
    · rw [if_pos c2] at h
      refine Go.aload_n (k := 0) (i := 0) 0 (by decide +kernel) rfl rfl ?_
      refine Go.aload_n (k := 0) (i := 0) 0 (by decide +kernel) rfl rfl ?_
      refine Go.get 109 9 (.int (P.1 109 9)) (by decide) (by decide) sh109 (ltO hE sh109) rfl lk1339 (by decide +kernel) ?_
      refine Go.cV_i (P1 := P) (v := (f_Mo_wordOf (P.1 109 9) P)) (d - 1) 109 [.int (P.1 109 9)] sh109 hE w_Mo_wordOf (e_Mo_wordOf hG hE (d - 1) (by omega) (P.1 109 9) P ⟨rfl, rfl, rfl⟩) lk1523 rfl (by omega) (Nat.le_of_ble_eq_true rfl) (by decide +kernel) _ rfl ?_
      refine Go.iconst (n := -1) (-1 : Int32) (by decide +kernel) rfl ?_
      refine Go.icmp_eq (off := 26) 66 (by decide +kernel) (by decide) (fun c3 => ?_) (fun c3 => ?_)
      · rw [if_pos c3] at h
        exact t_j_Mo_readAtom_66 hG hE d hd rec hr0 hr1 hr2 hr3 hr4 hr5 hr6 a1 P h
      · rw [if_neg c3] at h
        refine Go.aload_n (k := 0) (i := 0) 0 (by decide +kernel) rfl rfl ?_
        refine Go.sipush (n := 1000) (1000 : Int32) (by decide +kernel) (by decide) ?_
        refine Go.aload_n (k := 0) (i := 0) 0 (by decide +kernel) rfl rfl ?_
        refine Go.aload_n (k := 0) (i := 0) 0 (by decide +kernel) rfl rfl ?_
        refine Go.get 109 9 (.int (P.1 109 9)) (by decide) (by decide) sh109 (ltO hE sh109) rfl lk1339 (by decide +kernel) ?_
        refine Go.cV_i (P1 := P) (v := (f_Mo_wordOf (P.1 109 9) P)) (d - 1) 109 [.int (P.1 109 9)] sh109 hE w_Mo_wordOf (e_Mo_wordOf hG hE (d - 1) (by omega) (P.1 109 9) P ⟨rfl, rfl, rfl⟩) lk1523 rfl (by omega) (Nat.le_of_ble_eq_true rfl) (by decide +kernel) _ rfl ?_
        refine Go.iadd (by decide +kernel) ?_
        obtain ⟨P4, hP4, h⟩ := St.bind h
        refine Go.cV_v (P1 := P4) (d - 1) 109 [.int ((1000 : Int32) + (f_Mo_wordOf (P.1 109 9) P))] sh109 hE w_Mo_codes (e_Mo_codes hG hE (d - 1) (by omega) ((1000 : Int32) + (f_Mo_wordOf (P.1 109 9) P)) P ⟨_, hP4, rfl, rfl, rfl⟩) lk1519 rfl (by omega) (Nat.le_of_ble_eq_true rfl) (by decide +kernel) _ rfl ?_
        refine Go.aload_n (k := 0) (i := 0) 0 (by decide +kernel) rfl rfl ?_
        obtain ⟨P5, hP5, h⟩ := St.bind h
        refine Go.cV_v (P1 := P5) (d - 1) 109 [] sh109 hE w_Mo_next (e_Mo_next hG hE (d - 1) (by omega) P4 ⟨_, hP5, rfl, rfl, rfl⟩) lk1441 rfl (by omega) (Nat.le_of_ble_eq_true rfl) (by decide +kernel) _ rfl ?_
        refine Go.goto (off := 67) 130 (by decide +kernel) (by decide) ?_
        exact Go.vret rfl hE.2 (by decide +kernel) (St.fP h)
  · rw [if_neg c1] at h
    refine Go.aload_n (k := 0) (i := 0) 0 (by decide +kernel) rfl rfl ?_
    refine Go.aload_n (k := 0) (i := 0) 0 (by decide +kernel) rfl rfl ?_
    refine Go.get 109 10 (.int (P.1 109 10)) (by decide) (by decide) sh109 (ltO hE sh109) rfl lk1340 (by decide +kernel) ?_
    obtain ⟨P6, hP6, h⟩ := St.bind h
    refine Go.cV_v (P1 := P6) (d - 1) 109 [.int (P.1 109 10)] sh109 hE w_Mo_codes (e_Mo_codes hG hE (d - 1) (by omega) (P.1 109 10) P ⟨_, hP6, rfl, rfl, rfl⟩) lk1519 rfl (by omega) (Nat.le_of_ble_eq_true rfl) (by decide +kernel) _ rfl ?_
    refine Go.aload_n (k := 0) (i := 0) 0 (by decide +kernel) rfl rfl ?_
    obtain ⟨P7, hP7, h⟩ := St.bind h
    refine Go.cV_v (P1 := P7) (d - 1) 109 [] sh109 hE w_Mo_next (e_Mo_next hG hE (d - 1) (by omega) P6 ⟨_, hP7, rfl, rfl, rfl⟩) lk1441 rfl (by omega) (Nat.le_of_ble_eq_true rfl) (by decide +kernel) _ rfl ?_
    refine Go.goto (off := 109) 130 (by decide +kernel) (by decide) ?_
    exact Go.vret rfl hE.2 (by decide +kernel) (St.fP h)
theorem t_j_Mo_readIf_72 {G : GX} (hG : GOK G) {E : EV} (hE : E0 E) (d : Nat) (hd : 8 ≤ d) {Q : QT} (rec : Nat → Int32 → PM → Option PM) (hr0 : ∀ (a0 : Int32) (P : PM) {Q : QT}, St E rP (rec 0 a0 P) Q → Con G y_Mo_readAtom cw_Mo_readAtom (d - 1) nOb nOb [.ref (ad E 109), .int a0] P E Q) (hr1 : ∀ (a0 : Int32) (P : PM) {Q : QT}, St E rP (rec 1 a0 P) Q → Con G y_Mo_readIf cw_Mo_readIf (d - 1) nOb nOb [.ref (ad E 109), .int a0] P E Q) (hr2 : ∀ (a0 : Int32) (P : PM) {Q : QT}, St E rP (rec 2 a0 P) Q → Con G y_Mo_readTerm cw_Mo_readTerm (d - 1) nOb nOb [.ref (ad E 109), .int a0] P E Q) (hr3 : ∀ (a0 : Int32) (P : PM) {Q : QT}, St E rP (rec 3 a0 P) Q → Con G y_Mo_readSum cw_Mo_readSum (d - 1) nOb nOb [.ref (ad E 109), .int a0] P E Q) (hr4 : ∀ (a0 : Int32) (P : PM) {Q : QT}, St E rP (rec 4 a0 P) Q → Con G y_Mo_readUnit cw_Mo_readUnit (d - 1) nOb nOb [.ref (ad E 109), .int a0] P E Q) (hr5 : ∀ (a0 : Int32) (P : PM) {Q : QT}, St E rP (rec 5 a0 P) Q → Con G y_Mo_readBoth cw_Mo_readBoth (d - 1) nOb nOb [.ref (ad E 109), .int a0] P E Q) (hr6 : ∀ (a0 : Int32) (P : PM) {Q : QT}, St E rP (rec 6 a0 P) Q → Con G y_Mo_readTruth cw_Mo_readTruth (d - 1) nOb nOb [.ref (ad E 109), .int a0] P E Q) (P : PM) (h : St E rP (j_Mo_readIf_72 rec P) Q) : Go G c_Mo_readIf "YawnRouteModel" 2 none false d nOb nOb Q 72 [(0, .ref (ad E 109))] [] P E := by
  rw [j_Mo_readIf_72] at h
  refine Go.aload_n (k := 0) (i := 0) 0 (by decide +kernel) rfl rfl ?_
  refine Go.sipush (n := 3009) (3009 : Int32) (by decide +kernel) (by decide) ?_
  obtain ⟨P1, hP1, h⟩ := St.bind h
  refine Go.cV_v (P1 := P1) (d - 1) 109 [.int (3009 : Int32)] sh109 hE w_Mo_codes (e_Mo_codes hG hE (d - 1) (by omega) (3009 : Int32) P ⟨_, hP1, rfl, rfl, rfl⟩) lk1519 rfl (by omega) (Nat.le_of_ble_eq_true rfl) (by decide +kernel) _ rfl ?_
  exact Go.vret rfl hE.2 (by decide +kernel) (St.fP h)
theorem t_j_Mo_readIf_51 {G : GX} (hG : GOK G) {E : EV} (hE : E0 E) (d : Nat) (hd : 8 ≤ d) {Q : QT} (rec : Nat → Int32 → PM → Option PM) (hr0 : ∀ (a0 : Int32) (P : PM) {Q : QT}, St E rP (rec 0 a0 P) Q → Con G y_Mo_readAtom cw_Mo_readAtom (d - 1) nOb nOb [.ref (ad E 109), .int a0] P E Q) (hr1 : ∀ (a0 : Int32) (P : PM) {Q : QT}, St E rP (rec 1 a0 P) Q → Con G y_Mo_readIf cw_Mo_readIf (d - 1) nOb nOb [.ref (ad E 109), .int a0] P E Q) (hr2 : ∀ (a0 : Int32) (P : PM) {Q : QT}, St E rP (rec 2 a0 P) Q → Con G y_Mo_readTerm cw_Mo_readTerm (d - 1) nOb nOb [.ref (ad E 109), .int a0] P E Q) (hr3 : ∀ (a0 : Int32) (P : PM) {Q : QT}, St E rP (rec 3 a0 P) Q → Con G y_Mo_readSum cw_Mo_readSum (d - 1) nOb nOb [.ref (ad E 109), .int a0] P E Q) (hr4 : ∀ (a0 : Int32) (P : PM) {Q : QT}, St E rP (rec 4 a0 P) Q → Con G y_Mo_readUnit cw_Mo_readUnit (d - 1) nOb nOb [.ref (ad E 109), .int a0] P E Q) (hr5 : ∀ (a0 : Int32) (P : PM) {Q : QT}, St E rP (rec 5 a0 P) Q → Con G y_Mo_readBoth cw_Mo_readBoth (d - 1) nOb nOb [.ref (ad E 109), .int a0] P E Q) (hr6 : ∀ (a0 : Int32) (P : PM) {Q : QT}, St E rP (rec 6 a0 P) Q → Con G y_Mo_readTruth cw_Mo_readTruth (d - 1) nOb nOb [.ref (ad E 109), .int a0] P E Q) (x1 : Int32) (P : PM) (h : St E rP (j_Mo_readIf_51 rec x1 P) Q) : Go G c_Mo_readIf "YawnRouteModel" 2 none false d nOb nOb Q 51 [(0, .ref (ad E 109)), (1, .int x1)] [] P E := by
  rw [j_Mo_readIf_51] at h
  refine Go.aload_n (k := 0) (i := 0) 0 (by decide +kernel) rfl rfl ?_
  refine Go.iload_n (k := 1) (i := 1) 1 (by decide +kernel) rfl rfl ?_
  refine Go.iconst (n := 1) (1 : Int32) (by decide +kernel) rfl ?_
  refine Go.iadd (by decide +kernel) ?_
  obtain ⟨P1, hP1, h⟩ := St.bind h
  refine Go.cV_v (P1 := P1) (d - 1) 109 [.int (x1 + (1 : Int32))] sh109 hE w_Mo_readSum (hr3 (x1 + (1 : Int32)) P ⟨_, hP1, rfl, rfl, rfl⟩) lk1507 rfl (by omega) (Nat.le_of_ble_eq_true rfl) (by decide +kernel) _ rfl ?_
  refine Go.aload_n (k := 0) (i := 0) 0 (by decide +kernel) rfl rfl ?_
  refine Go.bipush (n := 15) (15 : Int32) (by decide +kernel) (by decide) ?_
  obtain ⟨v2, P3, hv2, h⟩ := St.bd2 h
  refine Go.cV_i (P1 := P3) (v := v2) (d - 1) 109 [.int (15 : Int32)] sh109 hE w_Mo_eats (e_Mo_eats hG hE (d - 1) (by omega) (15 : Int32) P1 ⟨_, hv2, rfl, rfl, rfl⟩) lk1463 rfl (by omega) (Nat.le_of_ble_eq_true rfl) (by decide +kernel) _ rfl ?_
  refine Go.if_ne (off := 8) 72 (by decide +kernel) (by decide) (fun c4 => ?_) (fun c4 => ?_)
  · rw [if_neg c4] at h
    refine Go.sub [0] [(0, .ref (ad E 109))] rfl ?_
    exact t_j_Mo_readIf_72 hG hE d hd rec hr0 hr1 hr2 hr3 hr4 hr5 hr6 P3 h
  · rw [if_pos c4] at h
    refine Go.aload_n (k := 0) (i := 0) 0 (by decide +kernel) rfl rfl ?_
    refine Go.iconst (n := 2) (2 : Int32) (by decide +kernel) rfl ?_
    obtain ⟨P5, hP5, h⟩ := St.bind h
    refine Go.cV_v (P1 := P5) (d - 1) 109 [.int (2 : Int32)] sh109 hE w_Mo_fails (e_Mo_fails hG hE (d - 1) (by omega) (2 : Int32) P3 ⟨_, hP5, rfl, rfl, rfl⟩) lk1471 rfl (by omega) (Nat.le_of_ble_eq_true rfl) (by decide +kernel) _ rfl ?_
    refine Go.sub [0] [(0, .ref (ad E 109))] rfl ?_
    exact t_j_Mo_readIf_72 hG hE d hd rec hr0 hr1 hr2 hr3 hr4 hr5 hr6 P5 h
theorem t_j_Mo_readIf_30 {G : GX} (hG : GOK G) {E : EV} (hE : E0 E) (d : Nat) (hd : 8 ≤ d) {Q : QT} (rec : Nat → Int32 → PM → Option PM) (hr0 : ∀ (a0 : Int32) (P : PM) {Q : QT}, St E rP (rec 0 a0 P) Q → Con G y_Mo_readAtom cw_Mo_readAtom (d - 1) nOb nOb [.ref (ad E 109), .int a0] P E Q) (hr1 : ∀ (a0 : Int32) (P : PM) {Q : QT}, St E rP (rec 1 a0 P) Q → Con G y_Mo_readIf cw_Mo_readIf (d - 1) nOb nOb [.ref (ad E 109), .int a0] P E Q) (hr2 : ∀ (a0 : Int32) (P : PM) {Q : QT}, St E rP (rec 2 a0 P) Q → Con G y_Mo_readTerm cw_Mo_readTerm (d - 1) nOb nOb [.ref (ad E 109), .int a0] P E Q) (hr3 : ∀ (a0 : Int32) (P : PM) {Q : QT}, St E rP (rec 3 a0 P) Q → Con G y_Mo_readSum cw_Mo_readSum (d - 1) nOb nOb [.ref (ad E 109), .int a0] P E Q) (hr4 : ∀ (a0 : Int32) (P : PM) {Q : QT}, St E rP (rec 4 a0 P) Q → Con G y_Mo_readUnit cw_Mo_readUnit (d - 1) nOb nOb [.ref (ad E 109), .int a0] P E Q) (hr5 : ∀ (a0 : Int32) (P : PM) {Q : QT}, St E rP (rec 5 a0 P) Q → Con G y_Mo_readBoth cw_Mo_readBoth (d - 1) nOb nOb [.ref (ad E 109), .int a0] P E Q) (hr6 : ∀ (a0 : Int32) (P : PM) {Q : QT}, St E rP (rec 6 a0 P) Q → Con G y_Mo_readTruth cw_Mo_readTruth (d - 1) nOb nOb [.ref (ad E 109), .int a0] P E Q) (x1 : Int32) (P : PM) (h : St E rP (j_Mo_readIf_30 rec x1 P) Q) : Go G c_Mo_readIf "YawnRouteModel" 2 none false d nOb nOb Q 30 [(0, .ref (ad E 109)), (1, .int x1)] [] P E := by
  rw [j_Mo_readIf_30] at h
  refine Go.aload_n (k := 0) (i := 0) 0 (by decide +kernel) rfl rfl ?_
  refine Go.iload_n (k := 1) (i := 1) 1 (by decide +kernel) rfl rfl ?_
  refine Go.iconst (n := 1) (1 : Int32) (by decide +kernel) rfl ?_
  refine Go.iadd (by decide +kernel) ?_
  obtain ⟨P1, hP1, h⟩ := St.bind h
  refine Go.cV_v (P1 := P1) (d - 1) 109 [.int (x1 + (1 : Int32))] sh109 hE w_Mo_readSum (hr3 (x1 + (1 : Int32)) P ⟨_, hP1, rfl, rfl, rfl⟩) lk1507 rfl (by omega) (Nat.le_of_ble_eq_true rfl) (by decide +kernel) _ rfl ?_
  refine Go.aload_n (k := 0) (i := 0) 0 (by decide +kernel) rfl rfl ?_
  refine Go.bipush (n := 14) (14 : Int32) (by decide +kernel) (by decide) ?_
  obtain ⟨v2, P3, hv2, h⟩ := St.bd2 h
  refine Go.cV_i (P1 := P3) (v := v2) (d - 1) 109 [.int (14 : Int32)] sh109 hE w_Mo_eats (e_Mo_eats hG hE (d - 1) (by omega) (14 : Int32) P1 ⟨_, hv2, rfl, rfl, rfl⟩) lk1463 rfl (by omega) (Nat.le_of_ble_eq_true rfl) (by decide +kernel) _ rfl ?_
  refine Go.if_ne (off := 8) 51 (by decide +kernel) (by decide) (fun c4 => ?_) (fun c4 => ?_)
  · rw [if_neg c4] at h
    exact t_j_Mo_readIf_51 hG hE d hd rec hr0 hr1 hr2 hr3 hr4 hr5 hr6 x1 P3 h
  · rw [if_pos c4] at h
    refine Go.aload_n (k := 0) (i := 0) 0 (by decide +kernel) rfl rfl ?_
    refine Go.iconst (n := 2) (2 : Int32) (by decide +kernel) rfl ?_
    obtain ⟨P5, hP5, h⟩ := St.bind h
    refine Go.cV_v (P1 := P5) (d - 1) 109 [.int (2 : Int32)] sh109 hE w_Mo_fails (e_Mo_fails hG hE (d - 1) (by omega) (2 : Int32) P3 ⟨_, hP5, rfl, rfl, rfl⟩) lk1471 rfl (by omega) (Nat.le_of_ble_eq_true rfl) (by decide +kernel) _ rfl ?_
    exact t_j_Mo_readIf_51 hG hE d hd rec hr0 hr1 hr2 hr3 hr4 hr5 hr6 x1 P5 h
theorem t_f_Mo_readIf {G : GX} (hG : GOK G) {E : EV} (hE : E0 E) (d : Nat) (hd : 8 ≤ d) {Q : QT} (rec : Nat → Int32 → PM → Option PM) (hr0 : ∀ (a0 : Int32) (P : PM) {Q : QT}, St E rP (rec 0 a0 P) Q → Con G y_Mo_readAtom cw_Mo_readAtom (d - 1) nOb nOb [.ref (ad E 109), .int a0] P E Q) (hr1 : ∀ (a0 : Int32) (P : PM) {Q : QT}, St E rP (rec 1 a0 P) Q → Con G y_Mo_readIf cw_Mo_readIf (d - 1) nOb nOb [.ref (ad E 109), .int a0] P E Q) (hr2 : ∀ (a0 : Int32) (P : PM) {Q : QT}, St E rP (rec 2 a0 P) Q → Con G y_Mo_readTerm cw_Mo_readTerm (d - 1) nOb nOb [.ref (ad E 109), .int a0] P E Q) (hr3 : ∀ (a0 : Int32) (P : PM) {Q : QT}, St E rP (rec 3 a0 P) Q → Con G y_Mo_readSum cw_Mo_readSum (d - 1) nOb nOb [.ref (ad E 109), .int a0] P E Q) (hr4 : ∀ (a0 : Int32) (P : PM) {Q : QT}, St E rP (rec 4 a0 P) Q → Con G y_Mo_readUnit cw_Mo_readUnit (d - 1) nOb nOb [.ref (ad E 109), .int a0] P E Q) (hr5 : ∀ (a0 : Int32) (P : PM) {Q : QT}, St E rP (rec 5 a0 P) Q → Con G y_Mo_readBoth cw_Mo_readBoth (d - 1) nOb nOb [.ref (ad E 109), .int a0] P E Q) (hr6 : ∀ (a0 : Int32) (P : PM) {Q : QT}, St E rP (rec 6 a0 P) Q → Con G y_Mo_readTruth cw_Mo_readTruth (d - 1) nOb nOb [.ref (ad E 109), .int a0] P E Q) (a1 : Int32) (P : PM) (h : St E rP (f_Mo_readIf rec a1 P) Q) : Go G c_Mo_readIf "YawnRouteModel" 2 none false d nOb nOb Q 0 [(0, .ref (ad E 109)), (1, .int a1)] [] P E := by
  rw [f_Mo_readIf] at h
  refine Go.aload_n (k := 0) (i := 0) 0 (by decide +kernel) rfl rfl ?_
  refine Go.iload_n (k := 1) (i := 1) 1 (by decide +kernel) rfl rfl ?_
  obtain ⟨v1, P2, hv1, h⟩ := St.bd2 h
  refine Go.cV_i (P1 := P2) (v := v1) (d - 1) 109 [.int a1] sh109 hE w_Mo_goesIn (e_Mo_goesIn hG hE (d - 1) (by omega) a1 P ⟨_, hv1, rfl, rfl, rfl⟩) lk1527 rfl (by omega) (Nat.le_of_ble_eq_true rfl) (by decide +kernel) _ rfl ?_
  refine Go.if_ne (off := 4) 9 (by decide +kernel) (by decide) (fun c3 => ?_) (fun c3 => ?_)
  · rw [if_neg c3] at h
    refine Go.aload_n (k := 0) (i := 0) 0 (by decide +kernel) rfl rfl ?_
    refine Go.iload_n (k := 1) (i := 1) 1 (by decide +kernel) rfl rfl ?_
    refine Go.iconst (n := 1) (1 : Int32) (by decide +kernel) rfl ?_
    refine Go.iadd (by decide +kernel) ?_
    obtain ⟨P4, hP4, h⟩ := St.bind h
    refine Go.cV_v (P1 := P4) (d - 1) 109 [.int (a1 + (1 : Int32))] sh109 hE w_Mo_readTruth (hr6 (a1 + (1 : Int32)) P2 ⟨_, hP4, rfl, rfl, rfl⟩) lk1535 rfl (by omega) (Nat.le_of_ble_eq_true rfl) (by decide +kernel) _ rfl ?_
    refine Go.aload_n (k := 0) (i := 0) 0 (by decide +kernel) rfl rfl ?_
    refine Go.bipush (n := 13) (13 : Int32) (by decide +kernel) (by decide) ?_
    obtain ⟨v5, P6, hv5, h⟩ := St.bd2 h
    refine Go.cV_i (P1 := P6) (v := v5) (d - 1) 109 [.int (13 : Int32)] sh109 hE w_Mo_eats (e_Mo_eats hG hE (d - 1) (by omega) (13 : Int32) P4 ⟨_, hv5, rfl, rfl, rfl⟩) lk1463 rfl (by omega) (Nat.le_of_ble_eq_true rfl) (by decide +kernel) _ rfl ?_
    refine Go.if_ne (off := 8) 30 (by decide +kernel) (by decide) (fun c7 => ?_) (fun c7 => ?_)
    · rw [if_neg c7] at h
      exact t_j_Mo_readIf_30 hG hE d hd rec hr0 hr1 hr2 hr3 hr4 hr5 hr6 a1 P6 h
    · rw [if_pos c7] at h
      refine Go.aload_n (k := 0) (i := 0) 0 (by decide +kernel) rfl rfl ?_
      refine Go.iconst (n := 2) (2 : Int32) (by decide +kernel) rfl ?_
      obtain ⟨P8, hP8, h⟩ := St.bind h
      refine Go.cV_v (P1 := P8) (d - 1) 109 [.int (2 : Int32)] sh109 hE w_Mo_fails (e_Mo_fails hG hE (d - 1) (by omega) (2 : Int32) P6 ⟨_, hP8, rfl, rfl, rfl⟩) lk1471 rfl (by omega) (Nat.le_of_ble_eq_true rfl) (by decide +kernel) _ rfl ?_
      exact t_j_Mo_readIf_30 hG hE d hd rec hr0 hr1 hr2 hr3 hr4 hr5 hr6 a1 P8 h
  · rw [if_pos c3] at h
    exact Go.vret rfl hE.2 (by decide +kernel) (St.fP h)
theorem t_l_Mo_readTerm_5 {G : GX} (hG : GOK G) {E : EV} (hE : E0 E) (d : Nat) (hd : 8 ≤ d) {Q : QT} (rec : Nat → Int32 → PM → Option PM) (hr0 : ∀ (a0 : Int32) (P : PM) {Q : QT}, St E rP (rec 0 a0 P) Q → Con G y_Mo_readAtom cw_Mo_readAtom (d - 1) nOb nOb [.ref (ad E 109), .int a0] P E Q) (hr1 : ∀ (a0 : Int32) (P : PM) {Q : QT}, St E rP (rec 1 a0 P) Q → Con G y_Mo_readIf cw_Mo_readIf (d - 1) nOb nOb [.ref (ad E 109), .int a0] P E Q) (hr2 : ∀ (a0 : Int32) (P : PM) {Q : QT}, St E rP (rec 2 a0 P) Q → Con G y_Mo_readTerm cw_Mo_readTerm (d - 1) nOb nOb [.ref (ad E 109), .int a0] P E Q) (hr3 : ∀ (a0 : Int32) (P : PM) {Q : QT}, St E rP (rec 3 a0 P) Q → Con G y_Mo_readSum cw_Mo_readSum (d - 1) nOb nOb [.ref (ad E 109), .int a0] P E Q) (hr4 : ∀ (a0 : Int32) (P : PM) {Q : QT}, St E rP (rec 4 a0 P) Q → Con G y_Mo_readUnit cw_Mo_readUnit (d - 1) nOb nOb [.ref (ad E 109), .int a0] P E Q) (hr5 : ∀ (a0 : Int32) (P : PM) {Q : QT}, St E rP (rec 5 a0 P) Q → Con G y_Mo_readBoth cw_Mo_readBoth (d - 1) nOb nOb [.ref (ad E 109), .int a0] P E Q) (hr6 : ∀ (a0 : Int32) (P : PM) {Q : QT}, St E rP (rec 6 a0 P) Q → Con G y_Mo_readTruth cw_Mo_readTruth (d - 1) nOb nOb [.ref (ad E 109), .int a0] P E Q) : ∀ (n : Nat) (x1 : Int32) (P : PM), St E rP (l_Mo_readTerm_5 rec n x1 P) Q → Go G c_Mo_readTerm "YawnRouteModel" 2 none false d nOb nOb Q 5 [(0, .ref (ad E 109)), (1, .int x1)] [] P E := by
  intro n
  induction n with
  | zero =>
    intro x1 P h
    rw [l_Mo_readTerm_5] at h
    exact St.none_ h
  | succ n ih =>
    intro x1 P h
    rw [l_Mo_readTerm_5] at h
    refine Go.aload_n (k := 0) (i := 0) 0 (by decide +kernel) rfl rfl ?_
    refine Go.bipush (n := 34) (34 : Int32) (by decide +kernel) (by decide) ?_
    obtain ⟨v1, P2, hv1, h⟩ := St.bd2 h
    refine Go.cV_i (P1 := P2) (v := v1) (d - 1) 109 [.int (34 : Int32)] sh109 hE w_Mo_eats (e_Mo_eats hG hE (d - 1) (by omega) (34 : Int32) P ⟨_, hv1, rfl, rfl, rfl⟩) lk1463 rfl (by omega) (Nat.le_of_ble_eq_true rfl) (by decide +kernel) _ rfl ?_
    refine Go.if_eq (off := 18) 29 (by decide +kernel) (by decide) (fun c3 => ?_) (fun c3 => ?_)
    · rw [if_pos c3] at h
      exact Go.vret rfl hE.2 (by decide +kernel) (St.fP h)
    · rw [if_neg c3] at h
      refine Go.aload_n (k := 0) (i := 0) 0 (by decide +kernel) rfl rfl ?_
      refine Go.iload_n (k := 1) (i := 1) 1 (by decide +kernel) rfl rfl ?_
      obtain ⟨P4, hP4, h⟩ := St.bind h
      refine Go.cV_v (P1 := P4) (d - 1) 109 [.int x1] sh109 hE w_Mo_readAtom (hr0 x1 P2 ⟨_, hP4, rfl, rfl, rfl⟩) lk1515 rfl (by omega) (Nat.le_of_ble_eq_true rfl) (by decide +kernel) _ rfl ?_
      refine Go.aload_n (k := 0) (i := 0) 0 (by decide +kernel) rfl rfl ?_
      refine Go.sipush (n := 3002) (3002 : Int32) (by decide +kernel) (by decide) ?_
      obtain ⟨P5, hP5, h⟩ := St.bind h
      refine Go.cV_v (P1 := P5) (d - 1) 109 [.int (3002 : Int32)] sh109 hE w_Mo_codes (e_Mo_codes hG hE (d - 1) (by omega) (3002 : Int32) P4 ⟨_, hP5, rfl, rfl, rfl⟩) lk1519 rfl (by omega) (Nat.le_of_ble_eq_true rfl) (by decide +kernel) _ rfl ?_
      refine Go.goto (off := -21) 5 (by decide +kernel) (by decide) ?_
      exact ih x1 P5 h
theorem t_f_Mo_readTerm {G : GX} (hG : GOK G) {E : EV} (hE : E0 E) (d : Nat) (hd : 8 ≤ d) {Q : QT} (rec : Nat → Int32 → PM → Option PM) (hr0 : ∀ (a0 : Int32) (P : PM) {Q : QT}, St E rP (rec 0 a0 P) Q → Con G y_Mo_readAtom cw_Mo_readAtom (d - 1) nOb nOb [.ref (ad E 109), .int a0] P E Q) (hr1 : ∀ (a0 : Int32) (P : PM) {Q : QT}, St E rP (rec 1 a0 P) Q → Con G y_Mo_readIf cw_Mo_readIf (d - 1) nOb nOb [.ref (ad E 109), .int a0] P E Q) (hr2 : ∀ (a0 : Int32) (P : PM) {Q : QT}, St E rP (rec 2 a0 P) Q → Con G y_Mo_readTerm cw_Mo_readTerm (d - 1) nOb nOb [.ref (ad E 109), .int a0] P E Q) (hr3 : ∀ (a0 : Int32) (P : PM) {Q : QT}, St E rP (rec 3 a0 P) Q → Con G y_Mo_readSum cw_Mo_readSum (d - 1) nOb nOb [.ref (ad E 109), .int a0] P E Q) (hr4 : ∀ (a0 : Int32) (P : PM) {Q : QT}, St E rP (rec 4 a0 P) Q → Con G y_Mo_readUnit cw_Mo_readUnit (d - 1) nOb nOb [.ref (ad E 109), .int a0] P E Q) (hr5 : ∀ (a0 : Int32) (P : PM) {Q : QT}, St E rP (rec 5 a0 P) Q → Con G y_Mo_readBoth cw_Mo_readBoth (d - 1) nOb nOb [.ref (ad E 109), .int a0] P E Q) (hr6 : ∀ (a0 : Int32) (P : PM) {Q : QT}, St E rP (rec 6 a0 P) Q → Con G y_Mo_readTruth cw_Mo_readTruth (d - 1) nOb nOb [.ref (ad E 109), .int a0] P E Q) (a1 : Int32) (P : PM) (h : St E rP (f_Mo_readTerm rec a1 P) Q) : Go G c_Mo_readTerm "YawnRouteModel" 2 none false d nOb nOb Q 0 [(0, .ref (ad E 109)), (1, .int a1)] [] P E := by
  rw [f_Mo_readTerm] at h
  refine Go.aload_n (k := 0) (i := 0) 0 (by decide +kernel) rfl rfl ?_
  refine Go.iload_n (k := 1) (i := 1) 1 (by decide +kernel) rfl rfl ?_
  obtain ⟨P1, hP1, h⟩ := St.bind h
  refine Go.cV_v (P1 := P1) (d - 1) 109 [.int a1] sh109 hE w_Mo_readAtom (hr0 a1 P ⟨_, hP1, rfl, rfl, rfl⟩) lk1515 rfl (by omega) (Nat.le_of_ble_eq_true rfl) (by decide +kernel) _ rfl ?_
  exact t_l_Mo_readTerm_5 hG hE d hd rec hr0 hr1 hr2 hr3 hr4 hr5 hr6 FU a1 P1 h
theorem t_j_Mo_readSum_41 {G : GX} (hG : GOK G) {E : EV} (hE : E0 E) (d : Nat) (hd : 8 ≤ d) {Q : QT} (rec : Nat → Int32 → PM → Option PM) (hr0 : ∀ (a0 : Int32) (P : PM) {Q : QT}, St E rP (rec 0 a0 P) Q → Con G y_Mo_readAtom cw_Mo_readAtom (d - 1) nOb nOb [.ref (ad E 109), .int a0] P E Q) (hr1 : ∀ (a0 : Int32) (P : PM) {Q : QT}, St E rP (rec 1 a0 P) Q → Con G y_Mo_readIf cw_Mo_readIf (d - 1) nOb nOb [.ref (ad E 109), .int a0] P E Q) (hr2 : ∀ (a0 : Int32) (P : PM) {Q : QT}, St E rP (rec 2 a0 P) Q → Con G y_Mo_readTerm cw_Mo_readTerm (d - 1) nOb nOb [.ref (ad E 109), .int a0] P E Q) (hr3 : ∀ (a0 : Int32) (P : PM) {Q : QT}, St E rP (rec 3 a0 P) Q → Con G y_Mo_readSum cw_Mo_readSum (d - 1) nOb nOb [.ref (ad E 109), .int a0] P E Q) (hr4 : ∀ (a0 : Int32) (P : PM) {Q : QT}, St E rP (rec 4 a0 P) Q → Con G y_Mo_readUnit cw_Mo_readUnit (d - 1) nOb nOb [.ref (ad E 109), .int a0] P E Q) (hr5 : ∀ (a0 : Int32) (P : PM) {Q : QT}, St E rP (rec 5 a0 P) Q → Con G y_Mo_readBoth cw_Mo_readBoth (d - 1) nOb nOb [.ref (ad E 109), .int a0] P E Q) (hr6 : ∀ (a0 : Int32) (P : PM) {Q : QT}, St E rP (rec 6 a0 P) Q → Con G y_Mo_readTruth cw_Mo_readTruth (d - 1) nOb nOb [.ref (ad E 109), .int a0] P E Q) (k5 : Int32 → PM → Option PM) (hk5 : ∀ (x1 : Int32) (P : PM), St E rP (k5 x1 P) Q → Go G c_Mo_readSum "YawnRouteModel" 3 none false d nOb nOb Q 5 [(0, .ref (ad E 109)), (1, .int x1)] [] P E) (x1 : Int32) (s0 : Int32) (P : PM) (h : St E rP (j_Mo_readSum_41 rec k5 x1 s0 P) Q) : Go G c_Mo_readSum "YawnRouteModel" 3 none false d nOb nOb Q 41 [(0, .ref (ad E 109)), (1, .int x1)] [.int s0] P E := by
  rw [j_Mo_readSum_41] at h
  refine Go.istore_n (k := 2) (i := 2) [(2, .int s0), (0, .ref (ad E 109)), (1, .int x1)] (by decide +kernel) rfl (by decide) rfl ?_
  refine Go.aload_n (k := 0) (i := 0) 1 (by decide +kernel) rfl rfl ?_
  obtain ⟨P1, hP1, h⟩ := St.bind h
  refine Go.cV_v (P1 := P1) (d - 1) 109 [] sh109 hE w_Mo_next (e_Mo_next hG hE (d - 1) (by omega) P ⟨_, hP1, rfl, rfl, rfl⟩) lk1441 rfl (by omega) (Nat.le_of_ble_eq_true rfl) (by decide +kernel) _ rfl ?_
  refine Go.aload_n (k := 0) (i := 0) 1 (by decide +kernel) rfl rfl ?_
  refine Go.iload_n (k := 1) (i := 1) 2 (by decide +kernel) rfl rfl ?_
  obtain ⟨P2, hP2, h⟩ := St.bind h
  refine Go.cV_v (P1 := P2) (d - 1) 109 [.int x1] sh109 hE w_Mo_readTerm (hr2 x1 P1 ⟨_, hP2, rfl, rfl, rfl⟩) lk1511 rfl (by omega) (Nat.le_of_ble_eq_true rfl) (by decide +kernel) _ rfl ?_
  refine Go.aload_n (k := 0) (i := 0) 1 (by decide +kernel) rfl rfl ?_
  refine Go.iload_n (k := 2) (i := 2) 0 (by decide +kernel) rfl rfl ?_
  obtain ⟨P3, hP3, h⟩ := St.bind h
  refine Go.cV_v (P1 := P3) (d - 1) 109 [.int s0] sh109 hE w_Mo_codes (e_Mo_codes hG hE (d - 1) (by omega) s0 P2 ⟨_, hP3, rfl, rfl, rfl⟩) lk1519 rfl (by omega) (Nat.le_of_ble_eq_true rfl) (by decide +kernel) _ rfl ?_
  refine Go.goto (off := -51) 5 (by decide +kernel) (by decide) ?_
  refine Go.sub [1, 2] [(0, .ref (ad E 109)), (1, .int x1)] rfl ?_
  exact hk5 x1 P3 h
theorem t_j_Mo_readSum_23 {G : GX} (hG : GOK G) {E : EV} (hE : E0 E) (d : Nat) (hd : 8 ≤ d) {Q : QT} (rec : Nat → Int32 → PM → Option PM) (hr0 : ∀ (a0 : Int32) (P : PM) {Q : QT}, St E rP (rec 0 a0 P) Q → Con G y_Mo_readAtom cw_Mo_readAtom (d - 1) nOb nOb [.ref (ad E 109), .int a0] P E Q) (hr1 : ∀ (a0 : Int32) (P : PM) {Q : QT}, St E rP (rec 1 a0 P) Q → Con G y_Mo_readIf cw_Mo_readIf (d - 1) nOb nOb [.ref (ad E 109), .int a0] P E Q) (hr2 : ∀ (a0 : Int32) (P : PM) {Q : QT}, St E rP (rec 2 a0 P) Q → Con G y_Mo_readTerm cw_Mo_readTerm (d - 1) nOb nOb [.ref (ad E 109), .int a0] P E Q) (hr3 : ∀ (a0 : Int32) (P : PM) {Q : QT}, St E rP (rec 3 a0 P) Q → Con G y_Mo_readSum cw_Mo_readSum (d - 1) nOb nOb [.ref (ad E 109), .int a0] P E Q) (hr4 : ∀ (a0 : Int32) (P : PM) {Q : QT}, St E rP (rec 4 a0 P) Q → Con G y_Mo_readUnit cw_Mo_readUnit (d - 1) nOb nOb [.ref (ad E 109), .int a0] P E Q) (hr5 : ∀ (a0 : Int32) (P : PM) {Q : QT}, St E rP (rec 5 a0 P) Q → Con G y_Mo_readBoth cw_Mo_readBoth (d - 1) nOb nOb [.ref (ad E 109), .int a0] P E Q) (hr6 : ∀ (a0 : Int32) (P : PM) {Q : QT}, St E rP (rec 6 a0 P) Q → Con G y_Mo_readTruth cw_Mo_readTruth (d - 1) nOb nOb [.ref (ad E 109), .int a0] P E Q) (k5 : Int32 → PM → Option PM) (hk5 : ∀ (x1 : Int32) (P : PM), St E rP (k5 x1 P) Q → Go G c_Mo_readSum "YawnRouteModel" 3 none false d nOb nOb Q 5 [(0, .ref (ad E 109)), (1, .int x1)] [] P E) (x1 : Int32) (P : PM) (h : St E rP (j_Mo_readSum_23 rec k5 x1 P) Q) : Go G c_Mo_readSum "YawnRouteModel" 3 none false d nOb nOb Q 23 [(0, .ref (ad E 109)), (1, .int x1)] [] P E := by
  rw [j_Mo_readSum_23] at h
  refine Go.aload_n (k := 0) (i := 0) 0 (by decide +kernel) rfl rfl ?_
  refine Go.get 109 9 (.int (P.1 109 9)) (by decide) (by decide) sh109 (ltO hE sh109) rfl lk1339 (by decide +kernel) ?_
  refine Go.bipush (n := 32) (32 : Int32) (by decide +kernel) (by decide) ?_
  refine Go.icmp_ne (off := 9) 38 (by decide +kernel) (by decide) (fun c1 => ?_) (fun c1 => ?_)
  · rw [if_neg c1] at h
    refine Go.sipush (n := 3001) (3001 : Int32) (by decide +kernel) (by decide) ?_
    exact t_j_Mo_readSum_41 hG hE d hd rec hr0 hr1 hr2 hr3 hr4 hr5 hr6 k5 hk5 x1 (3001 : Int32) P h
  · rw [if_pos c1] at h
    refine Go.sipush (n := 3000) (3000 : Int32) (by decide +kernel) (by decide) ?_
    refine Go.goto (off := 6) 41 (by decide +kernel) (by decide) ?_
    exact t_j_Mo_readSum_41 hG hE d hd rec hr0 hr1 hr2 hr3 hr4 hr5 hr6 k5 hk5 x1 (3000 : Int32) P h
theorem t_l_Mo_readSum_5 {G : GX} (hG : GOK G) {E : EV} (hE : E0 E) (d : Nat) (hd : 8 ≤ d) {Q : QT} (rec : Nat → Int32 → PM → Option PM) (hr0 : ∀ (a0 : Int32) (P : PM) {Q : QT}, St E rP (rec 0 a0 P) Q → Con G y_Mo_readAtom cw_Mo_readAtom (d - 1) nOb nOb [.ref (ad E 109), .int a0] P E Q) (hr1 : ∀ (a0 : Int32) (P : PM) {Q : QT}, St E rP (rec 1 a0 P) Q → Con G y_Mo_readIf cw_Mo_readIf (d - 1) nOb nOb [.ref (ad E 109), .int a0] P E Q) (hr2 : ∀ (a0 : Int32) (P : PM) {Q : QT}, St E rP (rec 2 a0 P) Q → Con G y_Mo_readTerm cw_Mo_readTerm (d - 1) nOb nOb [.ref (ad E 109), .int a0] P E Q) (hr3 : ∀ (a0 : Int32) (P : PM) {Q : QT}, St E rP (rec 3 a0 P) Q → Con G y_Mo_readSum cw_Mo_readSum (d - 1) nOb nOb [.ref (ad E 109), .int a0] P E Q) (hr4 : ∀ (a0 : Int32) (P : PM) {Q : QT}, St E rP (rec 4 a0 P) Q → Con G y_Mo_readUnit cw_Mo_readUnit (d - 1) nOb nOb [.ref (ad E 109), .int a0] P E Q) (hr5 : ∀ (a0 : Int32) (P : PM) {Q : QT}, St E rP (rec 5 a0 P) Q → Con G y_Mo_readBoth cw_Mo_readBoth (d - 1) nOb nOb [.ref (ad E 109), .int a0] P E Q) (hr6 : ∀ (a0 : Int32) (P : PM) {Q : QT}, St E rP (rec 6 a0 P) Q → Con G y_Mo_readTruth cw_Mo_readTruth (d - 1) nOb nOb [.ref (ad E 109), .int a0] P E Q) : ∀ (n : Nat) (x1 : Int32) (P : PM), St E rP (l_Mo_readSum_5 rec n x1 P) Q → Go G c_Mo_readSum "YawnRouteModel" 3 none false d nOb nOb Q 5 [(0, .ref (ad E 109)), (1, .int x1)] [] P E := by
  intro n
  induction n with
  | zero =>
    intro x1 P h
    rw [l_Mo_readSum_5] at h
    exact St.none_ h
  | succ n ih =>
    intro x1 P h
    rw [l_Mo_readSum_5] at h
    refine Go.aload_n (k := 0) (i := 0) 0 (by decide +kernel) rfl rfl ?_
    refine Go.bipush (n := 32) (32 : Int32) (by decide +kernel) (by decide) ?_
    refine Go.cV_i (P1 := P) (v := (f_Mo_is (32 : Int32) P)) (d - 1) 109 [.int (32 : Int32)] sh109 hE w_Mo_is (e_Mo_is hG hE (d - 1) (by omega) (32 : Int32) P ⟨rfl, rfl, rfl⟩) lk1467 rfl (by omega) (Nat.le_of_ble_eq_true rfl) (by decide +kernel) _ rfl ?_
    refine Go.if_ne (off := 12) 23 (by decide +kernel) (by decide) (fun c1 => ?_) (fun c1 => ?_)
    · rw [if_neg c1] at h
      exact t_j_Mo_readSum_23 hG hE d hd rec hr0 hr1 hr2 hr3 hr4 hr5 hr6 (fun z0 Pz => l_Mo_readSum_5 rec n z0 Pz) (fun z0 Pz q => ih z0 Pz q) x1 P h
    · rw [if_pos c1] at h
      refine Go.aload_n (k := 0) (i := 0) 0 (by decide +kernel) rfl rfl ?_
      refine Go.bipush (n := 33) (33 : Int32) (by decide +kernel) (by decide) ?_
      refine Go.cV_i (P1 := P) (v := (f_Mo_is (33 : Int32) P)) (d - 1) 109 [.int (33 : Int32)] sh109 hE w_Mo_is (e_Mo_is hG hE (d - 1) (by omega) (33 : Int32) P ⟨rfl, rfl, rfl⟩) lk1467 rfl (by omega) (Nat.le_of_ble_eq_true rfl) (by decide +kernel) _ rfl ?_
      refine Go.if_eq (off := 39) 59 (by decide +kernel) (by decide) (fun c2 => ?_) (fun c2 => ?_)
      · rw [if_pos c2] at h
        exact Go.vret rfl hE.2 (by decide +kernel) (St.fP h)
      · rw [if_neg c2] at h
        exact t_j_Mo_readSum_23 hG hE d hd rec hr0 hr1 hr2 hr3 hr4 hr5 hr6 (fun z0 Pz => l_Mo_readSum_5 rec n z0 Pz) (fun z0 Pz q => ih z0 Pz q) x1 P h
theorem t_f_Mo_readSum {G : GX} (hG : GOK G) {E : EV} (hE : E0 E) (d : Nat) (hd : 8 ≤ d) {Q : QT} (rec : Nat → Int32 → PM → Option PM) (hr0 : ∀ (a0 : Int32) (P : PM) {Q : QT}, St E rP (rec 0 a0 P) Q → Con G y_Mo_readAtom cw_Mo_readAtom (d - 1) nOb nOb [.ref (ad E 109), .int a0] P E Q) (hr1 : ∀ (a0 : Int32) (P : PM) {Q : QT}, St E rP (rec 1 a0 P) Q → Con G y_Mo_readIf cw_Mo_readIf (d - 1) nOb nOb [.ref (ad E 109), .int a0] P E Q) (hr2 : ∀ (a0 : Int32) (P : PM) {Q : QT}, St E rP (rec 2 a0 P) Q → Con G y_Mo_readTerm cw_Mo_readTerm (d - 1) nOb nOb [.ref (ad E 109), .int a0] P E Q) (hr3 : ∀ (a0 : Int32) (P : PM) {Q : QT}, St E rP (rec 3 a0 P) Q → Con G y_Mo_readSum cw_Mo_readSum (d - 1) nOb nOb [.ref (ad E 109), .int a0] P E Q) (hr4 : ∀ (a0 : Int32) (P : PM) {Q : QT}, St E rP (rec 4 a0 P) Q → Con G y_Mo_readUnit cw_Mo_readUnit (d - 1) nOb nOb [.ref (ad E 109), .int a0] P E Q) (hr5 : ∀ (a0 : Int32) (P : PM) {Q : QT}, St E rP (rec 5 a0 P) Q → Con G y_Mo_readBoth cw_Mo_readBoth (d - 1) nOb nOb [.ref (ad E 109), .int a0] P E Q) (hr6 : ∀ (a0 : Int32) (P : PM) {Q : QT}, St E rP (rec 6 a0 P) Q → Con G y_Mo_readTruth cw_Mo_readTruth (d - 1) nOb nOb [.ref (ad E 109), .int a0] P E Q) (a1 : Int32) (P : PM) (h : St E rP (f_Mo_readSum rec a1 P) Q) : Go G c_Mo_readSum "YawnRouteModel" 3 none false d nOb nOb Q 0 [(0, .ref (ad E 109)), (1, .int a1)] [] P E := by
  rw [f_Mo_readSum] at h
  refine Go.aload_n (k := 0) (i := 0) 0 (by decide +kernel) rfl rfl ?_
  refine Go.iload_n (k := 1) (i := 1) 1 (by decide +kernel) rfl rfl ?_
  obtain ⟨P1, hP1, h⟩ := St.bind h
  refine Go.cV_v (P1 := P1) (d - 1) 109 [.int a1] sh109 hE w_Mo_readTerm (hr2 a1 P ⟨_, hP1, rfl, rfl, rfl⟩) lk1511 rfl (by omega) (Nat.le_of_ble_eq_true rfl) (by decide +kernel) _ rfl ?_
  exact t_l_Mo_readSum_5 hG hE d hd rec hr0 hr1 hr2 hr3 hr4 hr5 hr6 FU a1 P1 h
theorem t_j_Mo_readUnit_151 {G : GX} (hG : GOK G) {E : EV} (hE : E0 E) (d : Nat) (hd : 8 ≤ d) {Q : QT} (rec : Nat → Int32 → PM → Option PM) (hr0 : ∀ (a0 : Int32) (P : PM) {Q : QT}, St E rP (rec 0 a0 P) Q → Con G y_Mo_readAtom cw_Mo_readAtom (d - 1) nOb nOb [.ref (ad E 109), .int a0] P E Q) (hr1 : ∀ (a0 : Int32) (P : PM) {Q : QT}, St E rP (rec 1 a0 P) Q → Con G y_Mo_readIf cw_Mo_readIf (d - 1) nOb nOb [.ref (ad E 109), .int a0] P E Q) (hr2 : ∀ (a0 : Int32) (P : PM) {Q : QT}, St E rP (rec 2 a0 P) Q → Con G y_Mo_readTerm cw_Mo_readTerm (d - 1) nOb nOb [.ref (ad E 109), .int a0] P E Q) (hr3 : ∀ (a0 : Int32) (P : PM) {Q : QT}, St E rP (rec 3 a0 P) Q → Con G y_Mo_readSum cw_Mo_readSum (d - 1) nOb nOb [.ref (ad E 109), .int a0] P E Q) (hr4 : ∀ (a0 : Int32) (P : PM) {Q : QT}, St E rP (rec 4 a0 P) Q → Con G y_Mo_readUnit cw_Mo_readUnit (d - 1) nOb nOb [.ref (ad E 109), .int a0] P E Q) (hr5 : ∀ (a0 : Int32) (P : PM) {Q : QT}, St E rP (rec 5 a0 P) Q → Con G y_Mo_readBoth cw_Mo_readBoth (d - 1) nOb nOb [.ref (ad E 109), .int a0] P E Q) (hr6 : ∀ (a0 : Int32) (P : PM) {Q : QT}, St E rP (rec 6 a0 P) Q → Con G y_Mo_readTruth cw_Mo_readTruth (d - 1) nOb nOb [.ref (ad E 109), .int a0] P E Q) (x1 : Int32) (x2 : Int32) (P : PM) (h : St E rP (j_Mo_readUnit_151 rec x1 x2 P) Q) : Go G c_Mo_readUnit "YawnRouteModel" 3 none false d nOb nOb Q 151 [(0, .ref (ad E 109)), (1, .int x1), (2, .int x2)] [] P E := by
  rw [j_Mo_readUnit_151] at h
  refine Go.aload_n (k := 0) (i := 0) 0 (by decide +kernel) rfl rfl ?_
  refine Go.iload_n (k := 1) (i := 1) 1 (by decide +kernel) rfl rfl ?_
  obtain ⟨P1, hP1, h⟩ := St.bind h
  refine Go.cV_v (P1 := P1) (d - 1) 109 [.int x1] sh109 hE w_Mo_readSum (hr3 x1 P ⟨_, hP1, rfl, rfl, rfl⟩) lk1507 rfl (by omega) (Nat.le_of_ble_eq_true rfl) (by decide +kernel) _ rfl ?_
  refine Go.aload_n (k := 0) (i := 0) 0 (by decide +kernel) rfl rfl ?_
  refine Go.iload_n (k := 2) (i := 2) 2 (by decide +kernel) rfl rfl ?_
  obtain ⟨P2, hP2, h⟩ := St.bind h
  refine Go.cV_v (P1 := P2) (d - 1) 109 [.int x2] sh109 hE w_Mo_codes (e_Mo_codes hG hE (d - 1) (by omega) x2 P1 ⟨_, hP2, rfl, rfl, rfl⟩) lk1519 rfl (by omega) (Nat.le_of_ble_eq_true rfl) (by decide +kernel) _ rfl ?_
  exact Go.vret rfl hE.2 (by decide +kernel) (St.fP h)
theorem t_j_Mo_readUnit_139 {G : GX} (hG : GOK G) {E : EV} (hE : E0 E) (d : Nat) (hd : 8 ≤ d) {Q : QT} (rec : Nat → Int32 → PM → Option PM) (hr0 : ∀ (a0 : Int32) (P : PM) {Q : QT}, St E rP (rec 0 a0 P) Q → Con G y_Mo_readAtom cw_Mo_readAtom (d - 1) nOb nOb [.ref (ad E 109), .int a0] P E Q) (hr1 : ∀ (a0 : Int32) (P : PM) {Q : QT}, St E rP (rec 1 a0 P) Q → Con G y_Mo_readIf cw_Mo_readIf (d - 1) nOb nOb [.ref (ad E 109), .int a0] P E Q) (hr2 : ∀ (a0 : Int32) (P : PM) {Q : QT}, St E rP (rec 2 a0 P) Q → Con G y_Mo_readTerm cw_Mo_readTerm (d - 1) nOb nOb [.ref (ad E 109), .int a0] P E Q) (hr3 : ∀ (a0 : Int32) (P : PM) {Q : QT}, St E rP (rec 3 a0 P) Q → Con G y_Mo_readSum cw_Mo_readSum (d - 1) nOb nOb [.ref (ad E 109), .int a0] P E Q) (hr4 : ∀ (a0 : Int32) (P : PM) {Q : QT}, St E rP (rec 4 a0 P) Q → Con G y_Mo_readUnit cw_Mo_readUnit (d - 1) nOb nOb [.ref (ad E 109), .int a0] P E Q) (hr5 : ∀ (a0 : Int32) (P : PM) {Q : QT}, St E rP (rec 5 a0 P) Q → Con G y_Mo_readBoth cw_Mo_readBoth (d - 1) nOb nOb [.ref (ad E 109), .int a0] P E Q) (hr6 : ∀ (a0 : Int32) (P : PM) {Q : QT}, St E rP (rec 6 a0 P) Q → Con G y_Mo_readTruth cw_Mo_readTruth (d - 1) nOb nOb [.ref (ad E 109), .int a0] P E Q) (x1 : Int32) (x2 : Int32) (P : PM) (h : St E rP (j_Mo_readUnit_139 rec x1 x2 P) Q) : Go G c_Mo_readUnit "YawnRouteModel" 3 none false d nOb nOb Q 139 [(0, .ref (ad E 109)), (1, .int x1), (2, .int x2)] [] P E := by
  rw [j_Mo_readUnit_139] at h
  refine Go.aload_n (k := 0) (i := 0) 0 (by decide +kernel) rfl rfl ?_
  obtain ⟨P1, hP1, h⟩ := St.bind h
  refine Go.cV_v (P1 := P1) (d - 1) 109 [] sh109 hE w_Mo_next (e_Mo_next hG hE (d - 1) (by omega) P ⟨_, hP1, rfl, rfl, rfl⟩) lk1441 rfl (by omega) (Nat.le_of_ble_eq_true rfl) (by decide +kernel) _ rfl ?_
  refine Go.goto (off := 8) 151 (by decide +kernel) (by decide) ?_
  exact t_j_Mo_readUnit_151 hG hE d hd rec hr0 hr1 hr2 hr3 hr4 hr5 hr6 x1 x2 P1 h
theorem t_j_Mo_readUnit_111 {G : GX} (hG : GOK G) {E : EV} (hE : E0 E) (d : Nat) (hd : 8 ≤ d) {Q : QT} (rec : Nat → Int32 → PM → Option PM) (hr0 : ∀ (a0 : Int32) (P : PM) {Q : QT}, St E rP (rec 0 a0 P) Q → Con G y_Mo_readAtom cw_Mo_readAtom (d - 1) nOb nOb [.ref (ad E 109), .int a0] P E Q) (hr1 : ∀ (a0 : Int32) (P : PM) {Q : QT}, St E rP (rec 1 a0 P) Q → Con G y_Mo_readIf cw_Mo_readIf (d - 1) nOb nOb [.ref (ad E 109), .int a0] P E Q) (hr2 : ∀ (a0 : Int32) (P : PM) {Q : QT}, St E rP (rec 2 a0 P) Q → Con G y_Mo_readTerm cw_Mo_readTerm (d - 1) nOb nOb [.ref (ad E 109), .int a0] P E Q) (hr3 : ∀ (a0 : Int32) (P : PM) {Q : QT}, St E rP (rec 3 a0 P) Q → Con G y_Mo_readSum cw_Mo_readSum (d - 1) nOb nOb [.ref (ad E 109), .int a0] P E Q) (hr4 : ∀ (a0 : Int32) (P : PM) {Q : QT}, St E rP (rec 4 a0 P) Q → Con G y_Mo_readUnit cw_Mo_readUnit (d - 1) nOb nOb [.ref (ad E 109), .int a0] P E Q) (hr5 : ∀ (a0 : Int32) (P : PM) {Q : QT}, St E rP (rec 5 a0 P) Q → Con G y_Mo_readBoth cw_Mo_readBoth (d - 1) nOb nOb [.ref (ad E 109), .int a0] P E Q) (hr6 : ∀ (a0 : Int32) (P : PM) {Q : QT}, St E rP (rec 6 a0 P) Q → Con G y_Mo_readTruth cw_Mo_readTruth (d - 1) nOb nOb [.ref (ad E 109), .int a0] P E Q) (x1 : Int32) (s0 : Int32) (P : PM) (h : St E rP (j_Mo_readUnit_111 rec x1 s0 P) Q) : Go G c_Mo_readUnit "YawnRouteModel" 3 none false d nOb nOb Q 111 [(0, .ref (ad E 109)), (1, .int x1)] [.int s0] P E := by
  rw [j_Mo_readUnit_111] at h
  refine Go.istore_n (k := 2) (i := 2) [(2, .int s0), (0, .ref (ad E 109)), (1, .int x1)] (by decide +kernel) rfl (by decide) rfl ?_
  refine Go.aload_n (k := 0) (i := 0) 1 (by decide +kernel) rfl rfl ?_
  refine Go.bipush (n := 39) (39 : Int32) (by decide +kernel) (by decide) ?_
  refine Go.cV_i (P1 := P) (v := (f_Mo_is (39 : Int32) P)) (d - 1) 109 [.int (39 : Int32)] sh109 hE w_Mo_is (e_Mo_is hG hE (d - 1) (by omega) (39 : Int32) P ⟨rfl, rfl, rfl⟩) lk1467 rfl (by omega) (Nat.le_of_ble_eq_true rfl) (by decide +kernel) _ rfl ?_
  refine Go.if_ne (off := 21) 139 (by decide +kernel) (by decide) (fun c1 => ?_) (fun c1 => ?_)
  · rw [if_neg c1] at h
    refine Go.sub [1, 2, 0] [(0, .ref (ad E 109)), (1, .int x1), (2, .int s0)] rfl ?_
    exact t_j_Mo_readUnit_139 hG hE d hd rec hr0 hr1 hr2 hr3 hr4 hr5 hr6 x1 s0 P h
  · rw [if_pos c1] at h
    refine Go.aload_n (k := 0) (i := 0) 1 (by decide +kernel) rfl rfl ?_
    refine Go.bipush (n := 40) (40 : Int32) (by decide +kernel) (by decide) ?_
    refine Go.cV_i (P1 := P) (v := (f_Mo_is (40 : Int32) P)) (d - 1) 109 [.int (40 : Int32)] sh109 hE w_Mo_is (e_Mo_is hG hE (d - 1) (by omega) (40 : Int32) P ⟨rfl, rfl, rfl⟩) lk1467 rfl (by omega) (Nat.le_of_ble_eq_true rfl) (by decide +kernel) _ rfl ?_
    refine Go.if_ne (off := 12) 139 (by decide +kernel) (by decide) (fun c2 => ?_) (fun c2 => ?_)
    · rw [if_neg c2] at h
      refine Go.sub [1, 2, 0] [(0, .ref (ad E 109)), (1, .int x1), (2, .int s0)] rfl ?_
      exact t_j_Mo_readUnit_139 hG hE d hd rec hr0 hr1 hr2 hr3 hr4 hr5 hr6 x1 s0 P h
    · rw [if_pos c2] at h
      refine Go.aload_n (k := 0) (i := 0) 1 (by decide +kernel) rfl rfl ?_
      refine Go.bipush (n := 41) (41 : Int32) (by decide +kernel) (by decide) ?_
      refine Go.cV_i (P1 := P) (v := (f_Mo_is (41 : Int32) P)) (d - 1) 109 [.int (41 : Int32)] sh109 hE w_Mo_is (e_Mo_is hG hE (d - 1) (by omega) (41 : Int32) P ⟨rfl, rfl, rfl⟩) lk1467 rfl (by omega) (Nat.le_of_ble_eq_true rfl) (by decide +kernel) _ rfl ?_
      refine Go.if_eq (off := 10) 146 (by decide +kernel) (by decide) (fun c3 => ?_) (fun c3 => ?_)
      · rw [if_pos c3] at h
        refine Go.aload_n (k := 0) (i := 0) 1 (by decide +kernel) rfl rfl ?_
        refine Go.iconst (n := 2) (2 : Int32) (by decide +kernel) rfl ?_
        obtain ⟨P4, hP4, h⟩ := St.bind h
        refine Go.cV_v (P1 := P4) (d - 1) 109 [.int (2 : Int32)] sh109 hE w_Mo_fails (e_Mo_fails hG hE (d - 1) (by omega) (2 : Int32) P ⟨_, hP4, rfl, rfl, rfl⟩) lk1471 rfl (by omega) (Nat.le_of_ble_eq_true rfl) (by decide +kernel) _ rfl ?_
        refine Go.sub [1, 2, 0] [(0, .ref (ad E 109)), (1, .int x1), (2, .int s0)] rfl ?_
        exact t_j_Mo_readUnit_151 hG hE d hd rec hr0 hr1 hr2 hr3 hr4 hr5 hr6 x1 s0 P4 h
      · rw [if_neg c3] at h
        refine Go.sub [1, 2, 0] [(0, .ref (ad E 109)), (1, .int x1), (2, .int s0)] rfl ?_
        exact t_j_Mo_readUnit_139 hG hE d hd rec hr0 hr1 hr2 hr3 hr4 hr5 hr6 x1 s0 P h
theorem t_f_Mo_readUnit {G : GX} (hG : GOK G) {E : EV} (hE : E0 E) (d : Nat) (hd : 8 ≤ d) {Q : QT} (rec : Nat → Int32 → PM → Option PM) (hr0 : ∀ (a0 : Int32) (P : PM) {Q : QT}, St E rP (rec 0 a0 P) Q → Con G y_Mo_readAtom cw_Mo_readAtom (d - 1) nOb nOb [.ref (ad E 109), .int a0] P E Q) (hr1 : ∀ (a0 : Int32) (P : PM) {Q : QT}, St E rP (rec 1 a0 P) Q → Con G y_Mo_readIf cw_Mo_readIf (d - 1) nOb nOb [.ref (ad E 109), .int a0] P E Q) (hr2 : ∀ (a0 : Int32) (P : PM) {Q : QT}, St E rP (rec 2 a0 P) Q → Con G y_Mo_readTerm cw_Mo_readTerm (d - 1) nOb nOb [.ref (ad E 109), .int a0] P E Q) (hr3 : ∀ (a0 : Int32) (P : PM) {Q : QT}, St E rP (rec 3 a0 P) Q → Con G y_Mo_readSum cw_Mo_readSum (d - 1) nOb nOb [.ref (ad E 109), .int a0] P E Q) (hr4 : ∀ (a0 : Int32) (P : PM) {Q : QT}, St E rP (rec 4 a0 P) Q → Con G y_Mo_readUnit cw_Mo_readUnit (d - 1) nOb nOb [.ref (ad E 109), .int a0] P E Q) (hr5 : ∀ (a0 : Int32) (P : PM) {Q : QT}, St E rP (rec 5 a0 P) Q → Con G y_Mo_readBoth cw_Mo_readBoth (d - 1) nOb nOb [.ref (ad E 109), .int a0] P E Q) (hr6 : ∀ (a0 : Int32) (P : PM) {Q : QT}, St E rP (rec 6 a0 P) Q → Con G y_Mo_readTruth cw_Mo_readTruth (d - 1) nOb nOb [.ref (ad E 109), .int a0] P E Q) (a1 : Int32) (P : PM) (h : St E rP (f_Mo_readUnit rec a1 P) Q) : Go G c_Mo_readUnit "YawnRouteModel" 3 none false d nOb nOb Q 0 [(0, .ref (ad E 109)), (1, .int a1)] [] P E := by
  rw [f_Mo_readUnit] at h
  refine Go.aload_n (k := 0) (i := 0) 0 (by decide +kernel) rfl rfl ?_
  refine Go.bipush (n := 19) (19 : Int32) (by decide +kernel) (by decide) ?_
  refine Go.cV_i (P1 := P) (v := (f_Mo_is (19 : Int32) P)) (d - 1) 109 [.int (19 : Int32)] sh109 hE w_Mo_is (e_Mo_is hG hE (d - 1) (by omega) (19 : Int32) P ⟨rfl, rfl, rfl⟩) lk1467 rfl (by omega) (Nat.le_of_ble_eq_true rfl) (by decide +kernel) _ rfl ?_
  refine Go.if_eq (off := 27) 33 (by decide +kernel) (by decide) (fun c1 => ?_) (fun c1 => ?_)
  · rw [if_pos c1] at h
    refine Go.aload_n (k := 0) (i := 0) 0 (by decide +kernel) rfl rfl ?_
    refine Go.bipush (n := 37) (37 : Int32) (by decide +kernel) (by decide) ?_
    refine Go.cV_i (P1 := P) (v := (f_Mo_is (37 : Int32) P)) (d - 1) 109 [.int (37 : Int32)] sh109 hE w_Mo_is (e_Mo_is hG hE (d - 1) (by omega) (37 : Int32) P ⟨rfl, rfl, rfl⟩) lk1467 rfl (by omega) (Nat.le_of_ble_eq_true rfl) (by decide +kernel) _ rfl ?_
    refine Go.if_eq (off := 34) 73 (by decide +kernel) (by decide) (fun c2 => ?_) (fun c2 => ?_)
    · rw [if_pos c2] at h
      refine Go.aload_n (k := 0) (i := 0) 0 (by decide +kernel) rfl rfl ?_
      refine Go.iload_n (k := 1) (i := 1) 1 (by decide +kernel) rfl rfl ?_
      obtain ⟨P3, hP3, h⟩ := St.bind h
      refine Go.cV_v (P1 := P3) (d - 1) 109 [.int a1] sh109 hE w_Mo_readSum (hr3 a1 P ⟨_, hP3, rfl, rfl, rfl⟩) lk1507 rfl (by omega) (Nat.le_of_ble_eq_true rfl) (by decide +kernel) _ rfl ?_
      refine Go.aload_n (k := 0) (i := 0) 0 (by decide +kernel) rfl rfl ?_
      refine Go.bipush (n := 39) (39 : Int32) (by decide +kernel) (by decide) ?_
      refine Go.cV_i (P1 := P3) (v := (f_Mo_is (39 : Int32) P3)) (d - 1) 109 [.int (39 : Int32)] sh109 hE w_Mo_is (e_Mo_is hG hE (d - 1) (by omega) (39 : Int32) P3 ⟨rfl, rfl, rfl⟩) lk1467 rfl (by omega) (Nat.le_of_ble_eq_true rfl) (by decide +kernel) _ rfl ?_
      refine Go.if_eq (off := 9) 93 (by decide +kernel) (by decide) (fun c4 => ?_) (fun c4 => ?_)
      · rw [if_pos c4] at h
        refine Go.aload_n (k := 0) (i := 0) 0 (by decide +kernel) rfl rfl ?_
        refine Go.bipush (n := 40) (40 : Int32) (by decide +kernel) (by decide) ?_
        refine Go.cV_i (P1 := P3) (v := (f_Mo_is (40 : Int32) P3)) (d - 1) 109 [.int (40 : Int32)] sh109 hE w_Mo_is (e_Mo_is hG hE (d - 1) (by omega) (40 : Int32) P3 ⟨rfl, rfl, rfl⟩) lk1467 rfl (by omega) (Nat.le_of_ble_eq_true rfl) (by decide +kernel) _ rfl ?_
        refine Go.if_eq (off := 9) 108 (by decide +kernel) (by decide) (fun c5 => ?_) (fun c5 => ?_)
        · rw [if_pos c5] at h
          refine Go.sipush (n := 3005) (3005 : Int32) (by decide +kernel) (by decide) ?_
          exact t_j_Mo_readUnit_111 hG hE d hd rec hr0 hr1 hr2 hr3 hr4 hr5 hr6 a1 (3005 : Int32) P3 h
        · rw [if_neg c5] at h
          refine Go.sipush (n := 3004) (3004 : Int32) (by decide +kernel) (by decide) ?_
          refine Go.goto (off := 6) 111 (by decide +kernel) (by decide) ?_
          exact t_j_Mo_readUnit_111 hG hE d hd rec hr0 hr1 hr2 hr3 hr4 hr5 hr6 a1 (3004 : Int32) P3 h
      · rw [if_neg c4] at h
        refine Go.sipush (n := 3003) (3003 : Int32) (by decide +kernel) (by decide) ?_
        refine Go.goto (off := 21) 111 (by decide +kernel) (by decide) ?_
        exact t_j_Mo_readUnit_111 hG hE d hd rec hr0 hr1 hr2 hr3 hr4 hr5 hr6 a1 (3003 : Int32) P3 h
    · rw [if_neg c2] at h
      refine Go.aload_n (k := 0) (i := 0) 0 (by decide +kernel) rfl rfl ?_
      refine Go.iload_n (k := 1) (i := 1) 1 (by decide +kernel) rfl rfl ?_
      obtain ⟨v6, P7, hv6, h⟩ := St.bd2 h
      refine Go.cV_i (P1 := P7) (v := v6) (d - 1) 109 [.int a1] sh109 hE w_Mo_goesIn (e_Mo_goesIn hG hE (d - 1) (by omega) a1 P ⟨_, hv6, rfl, rfl, rfl⟩) lk1527 rfl (by omega) (Nat.le_of_ble_eq_true rfl) (by decide +kernel) _ rfl ?_
      refine Go.if_ne (off := 4) 51 (by decide +kernel) (by decide) (fun c8 => ?_) (fun c8 => ?_)
      · rw [if_neg c8] at h
        refine Go.aload_n (k := 0) (i := 0) 0 (by decide +kernel) rfl rfl ?_
        refine Go.iload_n (k := 1) (i := 1) 1 (by decide +kernel) rfl rfl ?_
        refine Go.iconst (n := 1) (1 : Int32) (by decide +kernel) rfl ?_
        refine Go.iadd (by decide +kernel) ?_
        obtain ⟨P9, hP9, h⟩ := St.bind h
        refine Go.cV_v (P1 := P9) (d - 1) 109 [.int (a1 + (1 : Int32))] sh109 hE w_Mo_readTruth (hr6 (a1 + (1 : Int32)) P7 ⟨_, hP9, rfl, rfl, rfl⟩) lk1535 rfl (by omega) (Nat.le_of_ble_eq_true rfl) (by decide +kernel) _ rfl ?_
        refine Go.aload_n (k := 0) (i := 0) 0 (by decide +kernel) rfl rfl ?_
        refine Go.bipush (n := 38) (38 : Int32) (by decide +kernel) (by decide) ?_
        obtain ⟨v10, P11, hv10, h⟩ := St.bd2 h
        refine Go.cV_i (P1 := P11) (v := v10) (d - 1) 109 [.int (38 : Int32)] sh109 hE w_Mo_eats (e_Mo_eats hG hE (d - 1) (by omega) (38 : Int32) P9 ⟨_, hv10, rfl, rfl, rfl⟩) lk1463 rfl (by omega) (Nat.le_of_ble_eq_true rfl) (by decide +kernel) _ rfl ?_
        refine Go.if_ne (off := 8) 72 (by decide +kernel) (by decide) (fun c12 => ?_) (fun c12 => ?_)
        · rw [if_neg c12] at h
          exact Go.vret rfl hE.2 (by decide +kernel) (St.fP h)
        · rw [if_pos c12] at h
          refine Go.aload_n (k := 0) (i := 0) 0 (by decide +kernel) rfl rfl ?_
          refine Go.iconst (n := 2) (2 : Int32) (by decide +kernel) rfl ?_
          obtain ⟨P13, hP13, h⟩ := St.bind h
          refine Go.cV_v (P1 := P13) (d - 1) 109 [.int (2 : Int32)] sh109 hE w_Mo_fails (e_Mo_fails hG hE (d - 1) (by omega) (2 : Int32) P11 ⟨_, hP13, rfl, rfl, rfl⟩) lk1471 rfl (by omega) (Nat.le_of_ble_eq_true rfl) (by decide +kernel) _ rfl ?_
          exact Go.vret rfl hE.2 (by decide +kernel) (St.fP h)
      · rw [if_pos c8] at h
        exact Go.vret rfl hE.2 (by decide +kernel) (St.fP h)
  · rw [if_neg c1] at h
    refine Go.aload_n (k := 0) (i := 0) 0 (by decide +kernel) rfl rfl ?_
    refine Go.iload_n (k := 1) (i := 1) 1 (by decide +kernel) rfl rfl ?_
    obtain ⟨v14, P15, hv14, h⟩ := St.bd2 h
    refine Go.cV_i (P1 := P15) (v := v14) (d - 1) 109 [.int a1] sh109 hE w_Mo_goesIn (e_Mo_goesIn hG hE (d - 1) (by omega) a1 P ⟨_, hv14, rfl, rfl, rfl⟩) lk1527 rfl (by omega) (Nat.le_of_ble_eq_true rfl) (by decide +kernel) _ rfl ?_
    refine Go.if_ne (off := 4) 18 (by decide +kernel) (by decide) (fun c16 => ?_) (fun c16 => ?_)
    · rw [if_neg c16] at h
      refine Go.aload_n (k := 0) (i := 0) 0 (by decide +kernel) rfl rfl ?_
      refine Go.iload_n (k := 1) (i := 1) 1 (by decide +kernel) rfl rfl ?_
      refine Go.iconst (n := 1) (1 : Int32) (by decide +kernel) rfl ?_
      refine Go.iadd (by decide +kernel) ?_
      obtain ⟨P17, hP17, h⟩ := St.bind h
      refine Go.cV_v (P1 := P17) (d - 1) 109 [.int (a1 + (1 : Int32))] sh109 hE w_Mo_readUnit (hr4 (a1 + (1 : Int32)) P15 ⟨_, hP17, rfl, rfl, rfl⟩) lk1543 rfl (by omega) (Nat.le_of_ble_eq_true rfl) (by decide +kernel) _ rfl ?_
      refine Go.aload_n (k := 0) (i := 0) 0 (by decide +kernel) rfl rfl ?_
      refine Go.sipush (n := 3006) (3006 : Int32) (by decide +kernel) (by decide) ?_
      obtain ⟨P18, hP18, h⟩ := St.bind h
      refine Go.cV_v (P1 := P18) (d - 1) 109 [.int (3006 : Int32)] sh109 hE w_Mo_codes (e_Mo_codes hG hE (d - 1) (by omega) (3006 : Int32) P17 ⟨_, hP18, rfl, rfl, rfl⟩) lk1519 rfl (by omega) (Nat.le_of_ble_eq_true rfl) (by decide +kernel) _ rfl ?_
      exact Go.vret rfl hE.2 (by decide +kernel) (St.fP h)
    · rw [if_pos c16] at h
      exact Go.vret rfl hE.2 (by decide +kernel) (St.fP h)
theorem t_l_Mo_readBoth_5 {G : GX} (hG : GOK G) {E : EV} (hE : E0 E) (d : Nat) (hd : 8 ≤ d) {Q : QT} (rec : Nat → Int32 → PM → Option PM) (hr0 : ∀ (a0 : Int32) (P : PM) {Q : QT}, St E rP (rec 0 a0 P) Q → Con G y_Mo_readAtom cw_Mo_readAtom (d - 1) nOb nOb [.ref (ad E 109), .int a0] P E Q) (hr1 : ∀ (a0 : Int32) (P : PM) {Q : QT}, St E rP (rec 1 a0 P) Q → Con G y_Mo_readIf cw_Mo_readIf (d - 1) nOb nOb [.ref (ad E 109), .int a0] P E Q) (hr2 : ∀ (a0 : Int32) (P : PM) {Q : QT}, St E rP (rec 2 a0 P) Q → Con G y_Mo_readTerm cw_Mo_readTerm (d - 1) nOb nOb [.ref (ad E 109), .int a0] P E Q) (hr3 : ∀ (a0 : Int32) (P : PM) {Q : QT}, St E rP (rec 3 a0 P) Q → Con G y_Mo_readSum cw_Mo_readSum (d - 1) nOb nOb [.ref (ad E 109), .int a0] P E Q) (hr4 : ∀ (a0 : Int32) (P : PM) {Q : QT}, St E rP (rec 4 a0 P) Q → Con G y_Mo_readUnit cw_Mo_readUnit (d - 1) nOb nOb [.ref (ad E 109), .int a0] P E Q) (hr5 : ∀ (a0 : Int32) (P : PM) {Q : QT}, St E rP (rec 5 a0 P) Q → Con G y_Mo_readBoth cw_Mo_readBoth (d - 1) nOb nOb [.ref (ad E 109), .int a0] P E Q) (hr6 : ∀ (a0 : Int32) (P : PM) {Q : QT}, St E rP (rec 6 a0 P) Q → Con G y_Mo_readTruth cw_Mo_readTruth (d - 1) nOb nOb [.ref (ad E 109), .int a0] P E Q) : ∀ (n : Nat) (x1 : Int32) (P : PM), St E rP (l_Mo_readBoth_5 rec n x1 P) Q → Go G c_Mo_readBoth "YawnRouteModel" 2 none false d nOb nOb Q 5 [(0, .ref (ad E 109)), (1, .int x1)] [] P E := by
  intro n
  induction n with
  | zero =>
    intro x1 P h
    rw [l_Mo_readBoth_5] at h
    exact St.none_ h
  | succ n ih =>
    intro x1 P h
    rw [l_Mo_readBoth_5] at h
    refine Go.aload_n (k := 0) (i := 0) 0 (by decide +kernel) rfl rfl ?_
    refine Go.bipush (n := 17) (17 : Int32) (by decide +kernel) (by decide) ?_
    obtain ⟨v1, P2, hv1, h⟩ := St.bd2 h
    refine Go.cV_i (P1 := P2) (v := v1) (d - 1) 109 [.int (17 : Int32)] sh109 hE w_Mo_eats (e_Mo_eats hG hE (d - 1) (by omega) (17 : Int32) P ⟨_, hv1, rfl, rfl, rfl⟩) lk1463 rfl (by omega) (Nat.le_of_ble_eq_true rfl) (by decide +kernel) _ rfl ?_
    refine Go.if_eq (off := 18) 29 (by decide +kernel) (by decide) (fun c3 => ?_) (fun c3 => ?_)
    · rw [if_pos c3] at h
      exact Go.vret rfl hE.2 (by decide +kernel) (St.fP h)
    · rw [if_neg c3] at h
      refine Go.aload_n (k := 0) (i := 0) 0 (by decide +kernel) rfl rfl ?_
      refine Go.iload_n (k := 1) (i := 1) 1 (by decide +kernel) rfl rfl ?_
      obtain ⟨P4, hP4, h⟩ := St.bind h
      refine Go.cV_v (P1 := P4) (d - 1) 109 [.int x1] sh109 hE w_Mo_readUnit (hr4 x1 P2 ⟨_, hP4, rfl, rfl, rfl⟩) lk1543 rfl (by omega) (Nat.le_of_ble_eq_true rfl) (by decide +kernel) _ rfl ?_
      refine Go.aload_n (k := 0) (i := 0) 0 (by decide +kernel) rfl rfl ?_
      refine Go.sipush (n := 3007) (3007 : Int32) (by decide +kernel) (by decide) ?_
      obtain ⟨P5, hP5, h⟩ := St.bind h
      refine Go.cV_v (P1 := P5) (d - 1) 109 [.int (3007 : Int32)] sh109 hE w_Mo_codes (e_Mo_codes hG hE (d - 1) (by omega) (3007 : Int32) P4 ⟨_, hP5, rfl, rfl, rfl⟩) lk1519 rfl (by omega) (Nat.le_of_ble_eq_true rfl) (by decide +kernel) _ rfl ?_
      refine Go.goto (off := -21) 5 (by decide +kernel) (by decide) ?_
      exact ih x1 P5 h
theorem t_f_Mo_readBoth {G : GX} (hG : GOK G) {E : EV} (hE : E0 E) (d : Nat) (hd : 8 ≤ d) {Q : QT} (rec : Nat → Int32 → PM → Option PM) (hr0 : ∀ (a0 : Int32) (P : PM) {Q : QT}, St E rP (rec 0 a0 P) Q → Con G y_Mo_readAtom cw_Mo_readAtom (d - 1) nOb nOb [.ref (ad E 109), .int a0] P E Q) (hr1 : ∀ (a0 : Int32) (P : PM) {Q : QT}, St E rP (rec 1 a0 P) Q → Con G y_Mo_readIf cw_Mo_readIf (d - 1) nOb nOb [.ref (ad E 109), .int a0] P E Q) (hr2 : ∀ (a0 : Int32) (P : PM) {Q : QT}, St E rP (rec 2 a0 P) Q → Con G y_Mo_readTerm cw_Mo_readTerm (d - 1) nOb nOb [.ref (ad E 109), .int a0] P E Q) (hr3 : ∀ (a0 : Int32) (P : PM) {Q : QT}, St E rP (rec 3 a0 P) Q → Con G y_Mo_readSum cw_Mo_readSum (d - 1) nOb nOb [.ref (ad E 109), .int a0] P E Q) (hr4 : ∀ (a0 : Int32) (P : PM) {Q : QT}, St E rP (rec 4 a0 P) Q → Con G y_Mo_readUnit cw_Mo_readUnit (d - 1) nOb nOb [.ref (ad E 109), .int a0] P E Q) (hr5 : ∀ (a0 : Int32) (P : PM) {Q : QT}, St E rP (rec 5 a0 P) Q → Con G y_Mo_readBoth cw_Mo_readBoth (d - 1) nOb nOb [.ref (ad E 109), .int a0] P E Q) (hr6 : ∀ (a0 : Int32) (P : PM) {Q : QT}, St E rP (rec 6 a0 P) Q → Con G y_Mo_readTruth cw_Mo_readTruth (d - 1) nOb nOb [.ref (ad E 109), .int a0] P E Q) (a1 : Int32) (P : PM) (h : St E rP (f_Mo_readBoth rec a1 P) Q) : Go G c_Mo_readBoth "YawnRouteModel" 2 none false d nOb nOb Q 0 [(0, .ref (ad E 109)), (1, .int a1)] [] P E := by
  rw [f_Mo_readBoth] at h
  refine Go.aload_n (k := 0) (i := 0) 0 (by decide +kernel) rfl rfl ?_
  refine Go.iload_n (k := 1) (i := 1) 1 (by decide +kernel) rfl rfl ?_
  obtain ⟨P1, hP1, h⟩ := St.bind h
  refine Go.cV_v (P1 := P1) (d - 1) 109 [.int a1] sh109 hE w_Mo_readUnit (hr4 a1 P ⟨_, hP1, rfl, rfl, rfl⟩) lk1543 rfl (by omega) (Nat.le_of_ble_eq_true rfl) (by decide +kernel) _ rfl ?_
  exact t_l_Mo_readBoth_5 hG hE d hd rec hr0 hr1 hr2 hr3 hr4 hr5 hr6 FU a1 P1 h
theorem t_l_Mo_readTruth_5 {G : GX} (hG : GOK G) {E : EV} (hE : E0 E) (d : Nat) (hd : 8 ≤ d) {Q : QT} (rec : Nat → Int32 → PM → Option PM) (hr0 : ∀ (a0 : Int32) (P : PM) {Q : QT}, St E rP (rec 0 a0 P) Q → Con G y_Mo_readAtom cw_Mo_readAtom (d - 1) nOb nOb [.ref (ad E 109), .int a0] P E Q) (hr1 : ∀ (a0 : Int32) (P : PM) {Q : QT}, St E rP (rec 1 a0 P) Q → Con G y_Mo_readIf cw_Mo_readIf (d - 1) nOb nOb [.ref (ad E 109), .int a0] P E Q) (hr2 : ∀ (a0 : Int32) (P : PM) {Q : QT}, St E rP (rec 2 a0 P) Q → Con G y_Mo_readTerm cw_Mo_readTerm (d - 1) nOb nOb [.ref (ad E 109), .int a0] P E Q) (hr3 : ∀ (a0 : Int32) (P : PM) {Q : QT}, St E rP (rec 3 a0 P) Q → Con G y_Mo_readSum cw_Mo_readSum (d - 1) nOb nOb [.ref (ad E 109), .int a0] P E Q) (hr4 : ∀ (a0 : Int32) (P : PM) {Q : QT}, St E rP (rec 4 a0 P) Q → Con G y_Mo_readUnit cw_Mo_readUnit (d - 1) nOb nOb [.ref (ad E 109), .int a0] P E Q) (hr5 : ∀ (a0 : Int32) (P : PM) {Q : QT}, St E rP (rec 5 a0 P) Q → Con G y_Mo_readBoth cw_Mo_readBoth (d - 1) nOb nOb [.ref (ad E 109), .int a0] P E Q) (hr6 : ∀ (a0 : Int32) (P : PM) {Q : QT}, St E rP (rec 6 a0 P) Q → Con G y_Mo_readTruth cw_Mo_readTruth (d - 1) nOb nOb [.ref (ad E 109), .int a0] P E Q) : ∀ (n : Nat) (x1 : Int32) (P : PM), St E rP (l_Mo_readTruth_5 rec n x1 P) Q → Go G c_Mo_readTruth "YawnRouteModel" 2 none false d nOb nOb Q 5 [(0, .ref (ad E 109)), (1, .int x1)] [] P E := by
  intro n
  induction n with
  | zero =>
    intro x1 P h
    rw [l_Mo_readTruth_5] at h
    exact St.none_ h
  | succ n ih =>
    intro x1 P h
    rw [l_Mo_readTruth_5] at h
    refine Go.aload_n (k := 0) (i := 0) 0 (by decide +kernel) rfl rfl ?_
    refine Go.bipush (n := 18) (18 : Int32) (by decide +kernel) (by decide) ?_
    obtain ⟨v1, P2, hv1, h⟩ := St.bd2 h
    refine Go.cV_i (P1 := P2) (v := v1) (d - 1) 109 [.int (18 : Int32)] sh109 hE w_Mo_eats (e_Mo_eats hG hE (d - 1) (by omega) (18 : Int32) P ⟨_, hv1, rfl, rfl, rfl⟩) lk1463 rfl (by omega) (Nat.le_of_ble_eq_true rfl) (by decide +kernel) _ rfl ?_
    refine Go.if_eq (off := 18) 29 (by decide +kernel) (by decide) (fun c3 => ?_) (fun c3 => ?_)
    · rw [if_pos c3] at h
      exact Go.vret rfl hE.2 (by decide +kernel) (St.fP h)
    · rw [if_neg c3] at h
      refine Go.aload_n (k := 0) (i := 0) 0 (by decide +kernel) rfl rfl ?_
      refine Go.iload_n (k := 1) (i := 1) 1 (by decide +kernel) rfl rfl ?_
      obtain ⟨P4, hP4, h⟩ := St.bind h
      refine Go.cV_v (P1 := P4) (d - 1) 109 [.int x1] sh109 hE w_Mo_readBoth (hr5 x1 P2 ⟨_, hP4, rfl, rfl, rfl⟩) lk1539 rfl (by omega) (Nat.le_of_ble_eq_true rfl) (by decide +kernel) _ rfl ?_
      refine Go.aload_n (k := 0) (i := 0) 0 (by decide +kernel) rfl rfl ?_
      refine Go.sipush (n := 3008) (3008 : Int32) (by decide +kernel) (by decide) ?_
      obtain ⟨P5, hP5, h⟩ := St.bind h
      refine Go.cV_v (P1 := P5) (d - 1) 109 [.int (3008 : Int32)] sh109 hE w_Mo_codes (e_Mo_codes hG hE (d - 1) (by omega) (3008 : Int32) P4 ⟨_, hP5, rfl, rfl, rfl⟩) lk1519 rfl (by omega) (Nat.le_of_ble_eq_true rfl) (by decide +kernel) _ rfl ?_
      refine Go.goto (off := -21) 5 (by decide +kernel) (by decide) ?_
      exact ih x1 P5 h
theorem t_f_Mo_readTruth {G : GX} (hG : GOK G) {E : EV} (hE : E0 E) (d : Nat) (hd : 8 ≤ d) {Q : QT} (rec : Nat → Int32 → PM → Option PM) (hr0 : ∀ (a0 : Int32) (P : PM) {Q : QT}, St E rP (rec 0 a0 P) Q → Con G y_Mo_readAtom cw_Mo_readAtom (d - 1) nOb nOb [.ref (ad E 109), .int a0] P E Q) (hr1 : ∀ (a0 : Int32) (P : PM) {Q : QT}, St E rP (rec 1 a0 P) Q → Con G y_Mo_readIf cw_Mo_readIf (d - 1) nOb nOb [.ref (ad E 109), .int a0] P E Q) (hr2 : ∀ (a0 : Int32) (P : PM) {Q : QT}, St E rP (rec 2 a0 P) Q → Con G y_Mo_readTerm cw_Mo_readTerm (d - 1) nOb nOb [.ref (ad E 109), .int a0] P E Q) (hr3 : ∀ (a0 : Int32) (P : PM) {Q : QT}, St E rP (rec 3 a0 P) Q → Con G y_Mo_readSum cw_Mo_readSum (d - 1) nOb nOb [.ref (ad E 109), .int a0] P E Q) (hr4 : ∀ (a0 : Int32) (P : PM) {Q : QT}, St E rP (rec 4 a0 P) Q → Con G y_Mo_readUnit cw_Mo_readUnit (d - 1) nOb nOb [.ref (ad E 109), .int a0] P E Q) (hr5 : ∀ (a0 : Int32) (P : PM) {Q : QT}, St E rP (rec 5 a0 P) Q → Con G y_Mo_readBoth cw_Mo_readBoth (d - 1) nOb nOb [.ref (ad E 109), .int a0] P E Q) (hr6 : ∀ (a0 : Int32) (P : PM) {Q : QT}, St E rP (rec 6 a0 P) Q → Con G y_Mo_readTruth cw_Mo_readTruth (d - 1) nOb nOb [.ref (ad E 109), .int a0] P E Q) (a1 : Int32) (P : PM) (h : St E rP (f_Mo_readTruth rec a1 P) Q) : Go G c_Mo_readTruth "YawnRouteModel" 2 none false d nOb nOb Q 0 [(0, .ref (ad E 109)), (1, .int a1)] [] P E := by
  rw [f_Mo_readTruth] at h
  refine Go.aload_n (k := 0) (i := 0) 0 (by decide +kernel) rfl rfl ?_
  refine Go.iload_n (k := 1) (i := 1) 1 (by decide +kernel) rfl rfl ?_
  obtain ⟨P1, hP1, h⟩ := St.bind h
  refine Go.cV_v (P1 := P1) (d - 1) 109 [.int a1] sh109 hE w_Mo_readBoth (hr5 a1 P ⟨_, hP1, rfl, rfl, rfl⟩) lk1539 rfl (by omega) (Nat.le_of_ble_eq_true rfl) (by decide +kernel) _ rfl ?_
  exact t_l_Mo_readTruth_5 hG hE d hd rec hr0 hr1 hr2 hr3 hr4 hr5 hr6 FU a1 P1 h
noncomputable def gr_Mo_readAtom : Nat → Nat → Int32 → PM → Option PM
  | 0, _, _, _ => none
  | n + 1, k, a0, P => match k with
    | 0 => f_Mo_readAtom (gr_Mo_readAtom n) a0 P
    | 1 => f_Mo_readIf (gr_Mo_readAtom n) a0 P
    | 2 => f_Mo_readTerm (gr_Mo_readAtom n) a0 P
    | 3 => f_Mo_readSum (gr_Mo_readAtom n) a0 P
    | 4 => f_Mo_readUnit (gr_Mo_readAtom n) a0 P
    | 5 => f_Mo_readBoth (gr_Mo_readAtom n) a0 P
    | _ => f_Mo_readTruth (gr_Mo_readAtom n) a0 P
noncomputable def g_Mo_readAtom (a1 : Int32) (P : PM) : Option PM := gr_Mo_readAtom FR 0 a1 P
noncomputable def g_Mo_readIf (a1 : Int32) (P : PM) : Option PM := gr_Mo_readAtom FR 1 a1 P
noncomputable def g_Mo_readTerm (a1 : Int32) (P : PM) : Option PM := gr_Mo_readAtom FR 2 a1 P
noncomputable def g_Mo_readSum (a1 : Int32) (P : PM) : Option PM := gr_Mo_readAtom FR 3 a1 P
noncomputable def g_Mo_readUnit (a1 : Int32) (P : PM) : Option PM := gr_Mo_readAtom FR 4 a1 P
noncomputable def g_Mo_readBoth (a1 : Int32) (P : PM) : Option PM := gr_Mo_readAtom FR 5 a1 P
noncomputable def g_Mo_readTruth (a1 : Int32) (P : PM) : Option PM := gr_Mo_readAtom FR 6 a1 P
theorem eg_Mo_readAtom {G : GX} (hG : GOK G) {E : EV} (hE : E0 E) : ∀ (n d : Nat), n + 8 ≤ d → (∀ (a0 : Int32) (P : PM) {Q : QT}, St E rP (gr_Mo_readAtom n 0 a0 P) Q → Con G y_Mo_readAtom cw_Mo_readAtom d nOb nOb [.ref (ad E 109), .int a0] P E Q) ∧ (∀ (a0 : Int32) (P : PM) {Q : QT}, St E rP (gr_Mo_readAtom n 1 a0 P) Q → Con G y_Mo_readIf cw_Mo_readIf d nOb nOb [.ref (ad E 109), .int a0] P E Q) ∧ (∀ (a0 : Int32) (P : PM) {Q : QT}, St E rP (gr_Mo_readAtom n 2 a0 P) Q → Con G y_Mo_readTerm cw_Mo_readTerm d nOb nOb [.ref (ad E 109), .int a0] P E Q) ∧ (∀ (a0 : Int32) (P : PM) {Q : QT}, St E rP (gr_Mo_readAtom n 3 a0 P) Q → Con G y_Mo_readSum cw_Mo_readSum d nOb nOb [.ref (ad E 109), .int a0] P E Q) ∧ (∀ (a0 : Int32) (P : PM) {Q : QT}, St E rP (gr_Mo_readAtom n 4 a0 P) Q → Con G y_Mo_readUnit cw_Mo_readUnit d nOb nOb [.ref (ad E 109), .int a0] P E Q) ∧ (∀ (a0 : Int32) (P : PM) {Q : QT}, St E rP (gr_Mo_readAtom n 5 a0 P) Q → Con G y_Mo_readBoth cw_Mo_readBoth d nOb nOb [.ref (ad E 109), .int a0] P E Q) ∧ (∀ (a0 : Int32) (P : PM) {Q : QT}, St E rP (gr_Mo_readAtom n 6 a0 P) Q → Con G y_Mo_readTruth cw_Mo_readTruth d nOb nOb [.ref (ad E 109), .int a0] P E Q) := by
  intro n
  induction n with
  | zero =>
    intro d hd
    exact ⟨fun _ P Q h => St.none_ h, fun _ P Q h => St.none_ h, fun _ P Q h => St.none_ h, fun _ P Q h => St.none_ h, fun _ P Q h => St.none_ h, fun _ P Q h => St.none_ h, fun _ P Q h => St.none_ h⟩
  | succ n ih =>
    intro d hd
    have hh := ih (d - 1) (by omega)
    exact ⟨fun b0 P Q h => Con.of hG (by decide +kernel) rfl (fun h => by cases h) hE.2 (Nat.le_of_ble_eq_true rfl) (t_f_Mo_readAtom hG hE d (by omega) (gr_Mo_readAtom n) (fun b0 P Q h => hh.1 b0 P h) (fun b0 P Q h => hh.2.1 b0 P h) (fun b0 P Q h => hh.2.2.1 b0 P h) (fun b0 P Q h => hh.2.2.2.1 b0 P h) (fun b0 P Q h => hh.2.2.2.2.1 b0 P h) (fun b0 P Q h => hh.2.2.2.2.2.1 b0 P h) (fun b0 P Q h => hh.2.2.2.2.2.2 b0 P h) b0 P h),
      fun b0 P Q h => Con.of hG (by decide +kernel) rfl (fun h => by cases h) hE.2 (Nat.le_of_ble_eq_true rfl) (t_f_Mo_readIf hG hE d (by omega) (gr_Mo_readAtom n) (fun b0 P Q h => hh.1 b0 P h) (fun b0 P Q h => hh.2.1 b0 P h) (fun b0 P Q h => hh.2.2.1 b0 P h) (fun b0 P Q h => hh.2.2.2.1 b0 P h) (fun b0 P Q h => hh.2.2.2.2.1 b0 P h) (fun b0 P Q h => hh.2.2.2.2.2.1 b0 P h) (fun b0 P Q h => hh.2.2.2.2.2.2 b0 P h) b0 P h),
      fun b0 P Q h => Con.of hG (by decide +kernel) rfl (fun h => by cases h) hE.2 (Nat.le_of_ble_eq_true rfl) (t_f_Mo_readTerm hG hE d (by omega) (gr_Mo_readAtom n) (fun b0 P Q h => hh.1 b0 P h) (fun b0 P Q h => hh.2.1 b0 P h) (fun b0 P Q h => hh.2.2.1 b0 P h) (fun b0 P Q h => hh.2.2.2.1 b0 P h) (fun b0 P Q h => hh.2.2.2.2.1 b0 P h) (fun b0 P Q h => hh.2.2.2.2.2.1 b0 P h) (fun b0 P Q h => hh.2.2.2.2.2.2 b0 P h) b0 P h),
      fun b0 P Q h => Con.of hG (by decide +kernel) rfl (fun h => by cases h) hE.2 (Nat.le_of_ble_eq_true rfl) (t_f_Mo_readSum hG hE d (by omega) (gr_Mo_readAtom n) (fun b0 P Q h => hh.1 b0 P h) (fun b0 P Q h => hh.2.1 b0 P h) (fun b0 P Q h => hh.2.2.1 b0 P h) (fun b0 P Q h => hh.2.2.2.1 b0 P h) (fun b0 P Q h => hh.2.2.2.2.1 b0 P h) (fun b0 P Q h => hh.2.2.2.2.2.1 b0 P h) (fun b0 P Q h => hh.2.2.2.2.2.2 b0 P h) b0 P h),
      fun b0 P Q h => Con.of hG (by decide +kernel) rfl (fun h => by cases h) hE.2 (Nat.le_of_ble_eq_true rfl) (t_f_Mo_readUnit hG hE d (by omega) (gr_Mo_readAtom n) (fun b0 P Q h => hh.1 b0 P h) (fun b0 P Q h => hh.2.1 b0 P h) (fun b0 P Q h => hh.2.2.1 b0 P h) (fun b0 P Q h => hh.2.2.2.1 b0 P h) (fun b0 P Q h => hh.2.2.2.2.1 b0 P h) (fun b0 P Q h => hh.2.2.2.2.2.1 b0 P h) (fun b0 P Q h => hh.2.2.2.2.2.2 b0 P h) b0 P h),
      fun b0 P Q h => Con.of hG (by decide +kernel) rfl (fun h => by cases h) hE.2 (Nat.le_of_ble_eq_true rfl) (t_f_Mo_readBoth hG hE d (by omega) (gr_Mo_readAtom n) (fun b0 P Q h => hh.1 b0 P h) (fun b0 P Q h => hh.2.1 b0 P h) (fun b0 P Q h => hh.2.2.1 b0 P h) (fun b0 P Q h => hh.2.2.2.1 b0 P h) (fun b0 P Q h => hh.2.2.2.2.1 b0 P h) (fun b0 P Q h => hh.2.2.2.2.2.1 b0 P h) (fun b0 P Q h => hh.2.2.2.2.2.2 b0 P h) b0 P h),
      fun b0 P Q h => Con.of hG (by decide +kernel) rfl (fun h => by cases h) hE.2 (Nat.le_of_ble_eq_true rfl) (t_f_Mo_readTruth hG hE d (by omega) (gr_Mo_readAtom n) (fun b0 P Q h => hh.1 b0 P h) (fun b0 P Q h => hh.2.1 b0 P h) (fun b0 P Q h => hh.2.2.1 b0 P h) (fun b0 P Q h => hh.2.2.2.1 b0 P h) (fun b0 P Q h => hh.2.2.2.2.1 b0 P h) (fun b0 P Q h => hh.2.2.2.2.2.1 b0 P h) (fun b0 P Q h => hh.2.2.2.2.2.2 b0 P h) b0 P h)⟩
theorem e_Mo_readAtom {G : GX} (hG : GOK G) {E : EV} (hE : E0 E) (d : Nat) (hd : 108 ≤ d) (a1 : Int32) (P : PM) {Q : QT} (h : St E rP (g_Mo_readAtom a1 P) Q) : Con G y_Mo_readAtom cw_Mo_readAtom d nOb nOb [.ref (ad E 109), .int a1] P E Q :=
  (eg_Mo_readAtom hG hE FR d (by rw [FR_eq]; omega)).1 a1 P h
theorem e_Mo_readIf {G : GX} (hG : GOK G) {E : EV} (hE : E0 E) (d : Nat) (hd : 108 ≤ d) (a1 : Int32) (P : PM) {Q : QT} (h : St E rP (g_Mo_readIf a1 P) Q) : Con G y_Mo_readIf cw_Mo_readIf d nOb nOb [.ref (ad E 109), .int a1] P E Q :=
  (eg_Mo_readAtom hG hE FR d (by rw [FR_eq]; omega)).2.1 a1 P h
theorem e_Mo_readTerm {G : GX} (hG : GOK G) {E : EV} (hE : E0 E) (d : Nat) (hd : 108 ≤ d) (a1 : Int32) (P : PM) {Q : QT} (h : St E rP (g_Mo_readTerm a1 P) Q) : Con G y_Mo_readTerm cw_Mo_readTerm d nOb nOb [.ref (ad E 109), .int a1] P E Q :=
  (eg_Mo_readAtom hG hE FR d (by rw [FR_eq]; omega)).2.2.1 a1 P h
theorem e_Mo_readSum {G : GX} (hG : GOK G) {E : EV} (hE : E0 E) (d : Nat) (hd : 108 ≤ d) (a1 : Int32) (P : PM) {Q : QT} (h : St E rP (g_Mo_readSum a1 P) Q) : Con G y_Mo_readSum cw_Mo_readSum d nOb nOb [.ref (ad E 109), .int a1] P E Q :=
  (eg_Mo_readAtom hG hE FR d (by rw [FR_eq]; omega)).2.2.2.1 a1 P h
theorem e_Mo_readUnit {G : GX} (hG : GOK G) {E : EV} (hE : E0 E) (d : Nat) (hd : 108 ≤ d) (a1 : Int32) (P : PM) {Q : QT} (h : St E rP (g_Mo_readUnit a1 P) Q) : Con G y_Mo_readUnit cw_Mo_readUnit d nOb nOb [.ref (ad E 109), .int a1] P E Q :=
  (eg_Mo_readAtom hG hE FR d (by rw [FR_eq]; omega)).2.2.2.2.1 a1 P h
theorem e_Mo_readBoth {G : GX} (hG : GOK G) {E : EV} (hE : E0 E) (d : Nat) (hd : 108 ≤ d) (a1 : Int32) (P : PM) {Q : QT} (h : St E rP (g_Mo_readBoth a1 P) Q) : Con G y_Mo_readBoth cw_Mo_readBoth d nOb nOb [.ref (ad E 109), .int a1] P E Q :=
  (eg_Mo_readAtom hG hE FR d (by rw [FR_eq]; omega)).2.2.2.2.2.1 a1 P h
theorem e_Mo_readTruth {G : GX} (hG : GOK G) {E : EV} (hE : E0 E) (d : Nat) (hd : 108 ≤ d) (a1 : Int32) (P : PM) {Q : QT} (h : St E rP (g_Mo_readTruth a1 P) Q) : Con G y_Mo_readTruth cw_Mo_readTruth d nOb nOb [.ref (ad E 109), .int a1] P E Q :=
  (eg_Mo_readAtom hG hE FR d (by rw [FR_eq]; omega)).2.2.2.2.2.2 a1 P h
