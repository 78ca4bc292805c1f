/-! methods as functions, by program: Ji_bitCount Ro_leastSleepers Yr_sleepers Sp_begin Sp_goesOn -/
abbrev c_Ji_bitCount : ByteArray := prog_16_method_49_code
abbrev y_Ji_bitCount : MethodName := ⟨"java/lang/Integer", "bitCount", "(I)I"⟩
abbrev cw_Ji_bitCount : Cond := .code y_Ji_bitCount c_Ji_bitCount 1 (some .int)
theorem w_Ji_bitCount : SW y_Ji_bitCount c_Ji_bitCount 1 (some .int) 1 := ⟨lk1068, lk22, lk1069, ⟨by decide, by decide, by decide +kernel⟩, by decide⟩
noncomputable def f_Ji_bitCount (a0 : Int32) (P : PM) : Int32 := ((((((((a0 - (((a0.toUInt32 >>> ((1 : Int32).toUInt32 &&& Int32.toUInt32 31)).toInt32) &&& (1431655765 : Int32))) &&& (858993459 : Int32)) + ((((a0 - (((a0.toUInt32 >>> ((1 : Int32).toUInt32 &&& Int32.toUInt32 31)).toInt32) &&& (1431655765 : Int32))).toUInt32 >>> ((2 : Int32).toUInt32 &&& Int32.toUInt32 31)).toInt32) &&& (858993459 : Int32))) + (((((a0 - (((a0.toUInt32 >>> ((1 : Int32).toUInt32 &&& Int32.toUInt32 31)).toInt32) &&& (1431655765 : Int32))) &&& (858993459 : Int32)) + ((((a0 - (((a0.toUInt32 >>> ((1 : Int32).toUInt32 &&& Int32.toUInt32 31)).toInt32) &&& (1431655765 : Int32))).toUInt32 >>> ((2 : Int32).toUInt32 &&& Int32.toUInt32 31)).toInt32) &&& (858993459 : Int32))).toUInt32 >>> ((4 : Int32).toUInt32 &&& Int32.toUInt32 31)).toInt32)) &&& (252645135 : Int32)) + (((((((a0 - (((a0.toUInt32 >>> ((1 : Int32).toUInt32 &&& Int32.toUInt32 31)).toInt32) &&& (1431655765 : Int32))) &&& (858993459 : Int32)) + ((((a0 - (((a0.toUInt32 >>> ((1 : Int32).toUInt32 &&& Int32.toUInt32 31)).toInt32) &&& (1431655765 : Int32))).toUInt32 >>> ((2 : Int32).toUInt32 &&& Int32.toUInt32 31)).toInt32) &&& (858993459 : Int32))) + (((((a0 - (((a0.toUInt32 >>> ((1 : Int32).toUInt32 &&& Int32.toUInt32 31)).toInt32) &&& (1431655765 : Int32))) &&& (858993459 : Int32)) + ((((a0 - (((a0.toUInt32 >>> ((1 : Int32).toUInt32 &&& Int32.toUInt32 31)).toInt32) &&& (1431655765 : Int32))).toUInt32 >>> ((2 : Int32).toUInt32 &&& Int32.toUInt32 31)).toInt32) &&& (858993459 : Int32))).toUInt32 >>> ((4 : Int32).toUInt32 &&& Int32.toUInt32 31)).toInt32)) &&& (252645135 : Int32)).toUInt32 >>> ((8 : Int32).toUInt32 &&& Int32.toUInt32 31)).toInt32)) + ((((((((a0 - (((a0.toUInt32 >>> ((1 : Int32).toUInt32 &&& Int32.toUInt32 31)).toInt32) &&& (1431655765 : Int32))) &&& (858993459 : Int32)) + ((((a0 - (((a0.toUInt32 >>> ((1 : Int32).toUInt32 &&& Int32.toUInt32 31)).toInt32) &&& (1431655765 : Int32))).toUInt32 >>> ((2 : Int32).toUInt32 &&& Int32.toUInt32 31)).toInt32) &&& (858993459 : Int32))) + (((((a0 - (((a0.toUInt32 >>> ((1 : Int32).toUInt32 &&& Int32.toUInt32 31)).toInt32) &&& (1431655765 : Int32))) &&& (858993459 : Int32)) + ((((a0 - (((a0.toUInt32 >>> ((1 : Int32).toUInt32 &&& Int32.toUInt32 31)).toInt32) &&& (1431655765 : Int32))).toUInt32 >>> ((2 : Int32).toUInt32 &&& Int32.toUInt32 31)).toInt32) &&& (858993459 : Int32))).toUInt32 >>> ((4 : Int32).toUInt32 &&& Int32.toUInt32 31)).toInt32)) &&& (252645135 : Int32)) + (((((((a0 - (((a0.toUInt32 >>> ((1 : Int32).toUInt32 &&& Int32.toUInt32 31)).toInt32) &&& (1431655765 : Int32))) &&& (858993459 : Int32)) + ((((a0 - (((a0.toUInt32 >>> ((1 : Int32).toUInt32 &&& Int32.toUInt32 31)).toInt32) &&& (1431655765 : Int32))).toUInt32 >>> ((2 : Int32).toUInt32 &&& Int32.toUInt32 31)).toInt32) &&& (858993459 : Int32))) + (((((a0 - (((a0.toUInt32 >>> ((1 : Int32).toUInt32 &&& Int32.toUInt32 31)).toInt32) &&& (1431655765 : Int32))) &&& (858993459 : Int32)) + ((((a0 - (((a0.toUInt32 >>> ((1 : Int32).toUInt32 &&& Int32.toUInt32 31)).toInt32) &&& (1431655765 : Int32))).toUInt32 >>> ((2 : Int32).toUInt32 &&& Int32.toUInt32 31)).toInt32) &&& (858993459 : Int32))).toUInt32 >>> ((4 : Int32).toUInt32 &&& Int32.toUInt32 31)).toInt32)) &&& (252645135 : Int32)).toUInt32 >>> ((8 : Int32).toUInt32 &&& Int32.toUInt32 31)).toInt32)).toUInt32 >>> ((16 : Int32).toUInt32 &&& Int32.toUInt32 31)).toInt32)) &&& (63 : Int32))
theorem t_f_Ji_bitCount {G : GX} (hG : GOK G) {E : EV} (hE : E0 E) (d : Nat) (hd : 1 ≤ d) {P : PM} {Q : QT} (a0 : Int32) (h : Q (some (.int (f_Ji_bitCount a0 P))) P E) : Go G c_Ji_bitCount "java/lang/Integer" 1 (some .int) false d nOb nOb Q 0 [(0, .int a0)] [] P E := by
  rw [f_Ji_bitCount] at h
  refine Go.iload_n (k := 0) (i := 0) 0 (by decide +kernel) rfl rfl ?_
  refine Go.iload_n (k := 0) (i := 0) 0 (by decide +kernel) rfl rfl ?_
  refine Go.iconst (n := 1) (1 : Int32) (by decide +kernel) rfl ?_
  refine Go.iushr (by decide +kernel) ?_
  refine Go.ldcw (1431655765 : Int32) lk1070 (by decide +kernel) ?_
  refine Go.iand (by decide +kernel) ?_
  refine Go.isub (by decide +kernel) ?_
  refine Go.istore_n (k := 0) (i := 0) [(0, .int (a0 - (((a0.toUInt32 >>> ((1 : Int32).toUInt32 &&& Int32.toUInt32 31)).toInt32) &&& (1431655765 : Int32))))] (by decide +kernel) rfl (by decide) rfl ?_
  refine Go.iload_n (k := 0) (i := 0) 0 (by decide +kernel) rfl rfl ?_
  refine Go.ldcw (858993459 : Int32) lk1071 (by decide +kernel) ?_
  refine Go.iand (by decide +kernel) ?_
  refine Go.iload_n (k := 0) (i := 0) 0 (by decide +kernel) rfl rfl ?_
  refine Go.iconst (n := 2) (2 : Int32) (by decide +kernel) rfl ?_
  refine Go.iushr (by decide +kernel) ?_
  refine Go.ldcw (858993459 : Int32) lk1071 (by decide +kernel) ?_
  refine Go.iand (by decide +kernel) ?_
  refine Go.iadd (by decide +kernel) ?_
  refine Go.istore_n (k := 0) (i := 0) [(0, .int (((a0 - (((a0.toUInt32 >>> ((1 : Int32).toUInt32 &&& Int32.toUInt32 31)).toInt32) &&& (1431655765 : Int32))) &&& (858993459 : Int32)) + ((((a0 - (((a0.toUInt32 >>> ((1 : Int32).toUInt32 &&& Int32.toUInt32 31)).toInt32) &&& (1431655765 : Int32))).toUInt32 >>> ((2 : Int32).toUInt32 &&& Int32.toUInt32 31)).toInt32) &&& (858993459 : Int32))))] (by decide +kernel) rfl (by decide) rfl ?_
  refine Go.iload_n (k := 0) (i := 0) 0 (by decide +kernel) rfl rfl ?_
  refine Go.iload_n (k := 0) (i := 0) 0 (by decide +kernel) rfl rfl ?_
  refine Go.iconst (n := 4) (4 : Int32) (by decide +kernel) rfl ?_
  refine Go.iushr (by decide +kernel) ?_
  refine Go.iadd (by decide +kernel) ?_
  refine Go.ldcw (252645135 : Int32) lk1072 (by decide +kernel) ?_
  refine Go.iand (by decide +kernel) ?_
  refine Go.istore_n (k := 0) (i := 0) [(0, .int (((((a0 - (((a0.toUInt32 >>> ((1 : Int32).toUInt32 &&& Int32.toUInt32 31)).toInt32) &&& (1431655765 : Int32))) &&& (858993459 : Int32)) + ((((a0 - (((a0.toUInt32 >>> ((1 : Int32).toUInt32 &&& Int32.toUInt32 31)).toInt32) &&& (1431655765 : Int32))).toUInt32 >>> ((2 : Int32).toUInt32 &&& Int32.toUInt32 31)).toInt32) &&& (858993459 : Int32))) + (((((a0 - (((a0.toUInt32 >>> ((1 : Int32).toUInt32 &&& Int32.toUInt32 31)).toInt32) &&& (1431655765 : Int32))) &&& (858993459 : Int32)) + ((((a0 - (((a0.toUInt32 >>> ((1 : Int32).toUInt32 &&& Int32.toUInt32 31)).toInt32) &&& (1431655765 : Int32))).toUInt32 >>> ((2 : Int32).toUInt32 &&& Int32.toUInt32 31)).toInt32) &&& (858993459 : Int32))).toUInt32 >>> ((4 : Int32).toUInt32 &&& Int32.toUInt32 31)).toInt32)) &&& (252645135 : Int32)))] (by decide +kernel) rfl (by decide) rfl ?_
  refine Go.iload_n (k := 0) (i := 0) 0 (by decide +kernel) rfl rfl ?_
  refine Go.iload_n (k := 0) (i := 0) 0 (by decide +kernel) rfl rfl ?_
  refine Go.bipush (n := 8) (8 : Int32) (by decide +kernel) (by decide) ?_
  refine Go.iushr (by decide +kernel) ?_
  refine Go.iadd (by decide +kernel) ?_
  refine Go.istore_n (k := 0) (i := 0) [(0, .int ((((((a0 - (((a0.toUInt32 >>> ((1 : Int32).toUInt32 &&& Int32.toUInt32 31)).toInt32) &&& (1431655765 : Int32))) &&& (858993459 : Int32)) + ((((a0 - (((a0.toUInt32 >>> ((1 : Int32).toUInt32 &&& Int32.toUInt32 31)).toInt32) &&& (1431655765 : Int32))).toUInt32 >>> ((2 : Int32).toUInt32 &&& Int32.toUInt32 31)).toInt32) &&& (858993459 : Int32))) + (((((a0 - (((a0.toUInt32 >>> ((1 : Int32).toUInt32 &&& Int32.toUInt32 31)).toInt32) &&& (1431655765 : Int32))) &&& (858993459 : Int32)) + ((((a0 - (((a0.toUInt32 >>> ((1 : Int32).toUInt32 &&& Int32.toUInt32 31)).toInt32) &&& (1431655765 : Int32))).toUInt32 >>> ((2 : Int32).toUInt32 &&& Int32.toUInt32 31)).toInt32) &&& (858993459 : Int32))).toUInt32 >>> ((4 : Int32).toUInt32 &&& Int32.toUInt32 31)).toInt32)) &&& (252645135 : Int32)) + (((((((a0 - (((a0.toUInt32 >>> ((1 : Int32).toUInt32 &&& Int32.toUInt32 31)).toInt32) &&& (1431655765 : Int32))) &&& (858993459 : Int32)) + ((((a0 - (((a0.toUInt32 >>> ((1 : Int32).toUInt32 &&& Int32.toUInt32 31)).toInt32) &&& (1431655765 : Int32))).toUInt32 >>> ((2 : Int32).toUInt32 &&& Int32.toUInt32 31)).toInt32) &&& (858993459 : Int32))) + (((((a0 - (((a0.toUInt32 >>> ((1 : Int32).toUInt32 &&& Int32.toUInt32 31)).toInt32) &&& (1431655765 : Int32))) &&& (858993459 : Int32)) + ((((a0 - (((a0.toUInt32 >>> ((1 : Int32).toUInt32 &&& Int32.toUInt32 31)).toInt32) &&& (1431655765 : Int32))).toUInt32 >>> ((2 : Int32).toUInt32 &&& Int32.toUInt32 31)).toInt32) &&& (858993459 : Int32))).toUInt32 >>> ((4 : Int32).toUInt32 &&& Int32.toUInt32 31)).toInt32)) &&& (252645135 : Int32)).toUInt32 >>> ((8 : Int32).toUInt32 &&& Int32.toUInt32 31)).toInt32)))] (by decide +kernel) rfl (by decide) rfl ?_
  refine Go.iload_n (k := 0) (i := 0) 0 (by decide +kernel) rfl rfl ?_
  refine Go.iload_n (k := 0) (i := 0) 0 (by decide +kernel) rfl rfl ?_
  refine Go.bipush (n := 16) (16 : Int32) (by decide +kernel) (by decide) ?_
  refine Go.iushr (by decide +kernel) ?_
  refine Go.iadd (by decide +kernel) ?_
  refine Go.istore_n (k := 0) (i := 0) [(0, .int (((((((a0 - (((a0.toUInt32 >>> ((1 : Int32).toUInt32 &&& Int32.toUInt32 31)).toInt32) &&& (1431655765 : Int32))) &&& (858993459 : Int32)) + ((((a0 - (((a0.toUInt32 >>> ((1 : Int32).toUInt32 &&& Int32.toUInt32 31)).toInt32) &&& (1431655765 : Int32))).toUInt32 >>> ((2 : Int32).toUInt32 &&& Int32.toUInt32 31)).toInt32) &&& (858993459 : Int32))) + (((((a0 - (((a0.toUInt32 >>> ((1 : Int32).toUInt32 &&& Int32.toUInt32 31)).toInt32) &&& (1431655765 : Int32))) &&& (858993459 : Int32)) + ((((a0 - (((a0.toUInt32 >>> ((1 : Int32).toUInt32 &&& Int32.toUInt32 31)).toInt32) &&& (1431655765 : Int32))).toUInt32 >>> ((2 : Int32).toUInt32 &&& Int32.toUInt32 31)).toInt32) &&& (858993459 : Int32))).toUInt32 >>> ((4 : Int32).toUInt32 &&& Int32.toUInt32 31)).toInt32)) &&& (252645135 : Int32)) + (((((((a0 - (((a0.toUInt32 >>> ((1 : Int32).toUInt32 &&& Int32.toUInt32 31)).toInt32) &&& (1431655765 : Int32))) &&& (858993459 : Int32)) + ((((a0 - (((a0.toUInt32 >>> ((1 : Int32).toUInt32 &&& Int32.toUInt32 31)).toInt32) &&& (1431655765 : Int32))).toUInt32 >>> ((2 : Int32).toUInt32 &&& Int32.toUInt32 31)).toInt32) &&& (858993459 : Int32))) + (((((a0 - (((a0.toUInt32 >>> ((1 : Int32).toUInt32 &&& Int32.toUInt32 31)).toInt32) &&& (1431655765 : Int32))) &&& (858993459 : Int32)) + ((((a0 - (((a0.toUInt32 >>> ((1 : Int32).toUInt32 &&& Int32.toUInt32 31)).toInt32) &&& (1431655765 : Int32))).toUInt32 >>> ((2 : Int32).toUInt32 &&& Int32.toUInt32 31)).toInt32) &&& (858993459 : Int32))).toUInt32 >>> ((4 : Int32).toUInt32 &&& Int32.toUInt32 31)).toInt32)) &&& (252645135 : Int32)).toUInt32 >>> ((8 : Int32).toUInt32 &&& Int32.toUInt32 31)).toInt32)) + ((((((((a0 - (((a0.toUInt32 >>> ((1 : Int32).toUInt32 &&& Int32.toUInt32 31)).toInt32) &&& (1431655765 : Int32))) &&& (858993459 : Int32)) + ((((a0 - (((a0.toUInt32 >>> ((1 : Int32).toUInt32 &&& Int32.toUInt32 31)).toInt32) &&& (1431655765 : Int32))).toUInt32 >>> ((2 : Int32).toUInt32 &&& Int32.toUInt32 31)).toInt32) &&& (858993459 : Int32))) + (((((a0 - (((a0.toUInt32 >>> ((1 : Int32).toUInt32 &&& Int32.toUInt32 31)).toInt32) &&& (1431655765 : Int32))) &&& (858993459 : Int32)) + ((((a0 - (((a0.toUInt32 >>> ((1 : Int32).toUInt32 &&& Int32.toUInt32 31)).toInt32) &&& (1431655765 : Int32))).toUInt32 >>> ((2 : Int32).toUInt32 &&& Int32.toUInt32 31)).toInt32) &&& (858993459 : Int32))).toUInt32 >>> ((4 : Int32).toUInt32 &&& Int32.toUInt32 31)).toInt32)) &&& (252645135 : Int32)) + (((((((a0 - (((a0.toUInt32 >>> ((1 : Int32).toUInt32 &&& Int32.toUInt32 31)).toInt32) &&& (1431655765 : Int32))) &&& (858993459 : Int32)) + ((((a0 - (((a0.toUInt32 >>> ((1 : Int32).toUInt32 &&& Int32.toUInt32 31)).toInt32) &&& (1431655765 : Int32))).toUInt32 >>> ((2 : Int32).toUInt32 &&& Int32.toUInt32 31)).toInt32) &&& (858993459 : Int32))) + (((((a0 - (((a0.toUInt32 >>> ((1 : Int32).toUInt32 &&& Int32.toUInt32 31)).toInt32) &&& (1431655765 : Int32))) &&& (858993459 : Int32)) + ((((a0 - (((a0.toUInt32 >>> ((1 : Int32).toUInt32 &&& Int32.toUInt32 31)).toInt32) &&& (1431655765 : Int32))).toUInt32 >>> ((2 : Int32).toUInt32 &&& Int32.toUInt32 31)).toInt32) &&& (858993459 : Int32))).toUInt32 >>> ((4 : Int32).toUInt32 &&& Int32.toUInt32 31)).toInt32)) &&& (252645135 : Int32)).toUInt32 >>> ((8 : Int32).toUInt32 &&& Int32.toUInt32 31)).toInt32)).toUInt32 >>> ((16 : Int32).toUInt32 &&& Int32.toUInt32 31)).toInt32)))] (by decide +kernel) rfl (by decide) rfl ?_
  refine Go.iload_n (k := 0) (i := 0) 0 (by decide +kernel) rfl rfl ?_
  refine Go.bipush (n := 63) (63 : Int32) (by decide +kernel) (by decide) ?_
  refine Go.iand (by decide +kernel) ?_
  exact Go.iret rfl rfl hE.2 (by decide +kernel) h
theorem e_Ji_bitCount {G : GX} (hG : GOK G) {E : EV} (hE : E0 E) (d : Nat) (hd : 1 ≤ d) (a0 : Int32) (P : PM) {Q : QT} (h : Q (some (.int (f_Ji_bitCount a0 P))) P E) : Con G y_Ji_bitCount cw_Ji_bitCount d nOb nOb [.int a0] P E Q :=
  Con.of hG (by decide +kernel) rfl (fun h => by cases h) hE.2 (Nat.le_of_ble_eq_true rfl) (t_f_Ji_bitCount hG hE d hd a0 h)
abbrev c_Ro_leastSleepers : ByteArray := prog_7_method_11_code
abbrev y_Ro_leastSleepers : MethodName := ⟨"YawnRoute$Routes", "leastSleepers", "(I)I"⟩
abbrev cw_Ro_leastSleepers : Cond := .code y_Ro_leastSleepers c_Ro_leastSleepers 6 (some .int)
theorem w_Ro_leastSleepers : VW 5 y_Ro_leastSleepers c_Ro_leastSleepers 6 (some .int) 1 := ⟨by decide, lk1064, lk1065, lk11, lk1066, ⟨by decide, by decide, by decide +kernel⟩, by decide⟩
noncomputable def j_Ro_leastSleepers_66 (k8 : Int32 → Int32 → Int32 → Int32 → PM → Option (Int32 × PM)) (x1 : Int32) (x2 : Int32) (x3 : Int32) (x4 : Int32) (P : PM) : Option (Int32 × PM) := k8 x1 x2 x3 (x4 + (1 : Int32)) P
noncomputable def j_Ro_leastSleepers_40 (k8 : Int32 → Int32 → Int32 → Int32 → PM → Option (Int32 × PM)) (x1 : Int32) (x2 : Int32) (x3 : Int32) (x4 : Int32) (s0 : Int32) (P : PM) : Option (Int32 × PM) := if s0 = (0 : Int32) then (j_Ro_leastSleepers_66 k8 x1 x2 x3 x4 P) else (bd2 (f_Ro_comesTo x1 x4 P) (fun v2 P3 => if v2 = (0 : Int32) then (lb (f_Ji_bitCount x4 P3) (fun y5 => j_Ro_leastSleepers_66 k8 x1 x4 y5 x4 P3)) else (j_Ro_leastSleepers_66 k8 x1 x2 x3 x4 P3)))
noncomputable def j_Ro_leastSleepers_39 (k8 : Int32 → Int32 → Int32 → Int32 → PM → Option (Int32 × PM)) (x1 : Int32) (x2 : Int32) (x3 : Int32) (x4 : Int32) (P : PM) : Option (Int32 × PM) := j_Ro_leastSleepers_40 k8 x1 x2 x3 x4 (0 : Int32) P
noncomputable def l_Ro_leastSleepers_8 : Nat → Int32 → Int32 → Int32 → Int32 → PM → Option (Int32 × PM)
  | 0, _, _, _, _, _ => none
  | n + 1, x1, x2, x3, x4, P => if (128 : Int32) ≤ x4 then (some (x2, P)) else (if x3 ≤ (f_Ji_bitCount x4 P) then (j_Ro_leastSleepers_39 (fun z0 z1 z2 z3 Pz => l_Ro_leastSleepers_8 n z0 z1 z2 z3 Pz) x1 x2 x3 x4 P) else (if (f_Ro_canSleep x4 x1 P) = (0 : Int32) then (j_Ro_leastSleepers_39 (fun z0 z1 z2 z3 Pz => l_Ro_leastSleepers_8 n z0 z1 z2 z3 Pz) x1 x2 x3 x4 P) else (j_Ro_leastSleepers_40 (fun z0 z1 z2 z3 Pz => l_Ro_leastSleepers_8 n z0 z1 z2 z3 Pz) x1 x2 x3 x4 (1 : Int32) P)))
noncomputable def f_Ro_leastSleepers (a1 : Int32) (P : PM) : Option (Int32 × PM) := l_Ro_leastSleepers_8 FU a1 (-1 : Int32) (8 : Int32) (0 : Int32) P
theorem t_j_Ro_leastSleepers_66 {G : GX} (hG : GOK G) {E : EV} (hE : E0 E) (d : Nat) (hd : 7 ≤ d) {Q : QT} (k8 : Int32 → Int32 → Int32 → Int32 → PM → Option (Int32 × PM)) (hk8 : ∀ (x1 : Int32) (x2 : Int32) (x3 : Int32) (x4 : Int32) (P : PM), St E rIP (k8 x1 x2 x3 x4 P) Q → Go G c_Ro_leastSleepers "YawnRoute$Routes" 6 (some .int) false d nOb nOb Q 8 [(0, .ref (ad E 63)), (1, .int x1), (2, .int x2), (3, .int x3), (4, .int x4)] [] P E) (x1 : Int32) (x2 : Int32) (x3 : Int32) (x4 : Int32) (P : PM) (h : St E rIP (j_Ro_leastSleepers_66 k8 x1 x2 x3 x4 P) Q) : Go G c_Ro_leastSleepers "YawnRoute$Routes" 6 (some .int) false d nOb nOb Q 66 [(0, .ref (ad E 63)), (1, .int x1), (2, .int x2), (3, .int x3), (4, .int x4)] [] P E := by
  rw [j_Ro_leastSleepers_66] at h
  refine Go.iinc (i := 4) (n := 1) 4 (x4 + (1 : Int32)) [(4, .int (x4 + (1 : Int32))), (0, .ref (ad E 63)), (1, .int x1), (2, .int x2), (3, .int x3)] (by decide +kernel) rfl rfl (by decide) rfl ?_
  refine Go.goto (off := -61) 8 (by decide +kernel) (by decide) ?_
  refine Go.sub [1, 2, 3, 4, 0] [(0, .ref (ad E 63)), (1, .int x1), (2, .int x2), (3, .int x3), (4, .int (x4 + (1 : Int32)))] rfl ?_
  exact hk8 x1 x2 x3 (x4 + (1 : Int32)) P h
theorem t_j_Ro_leastSleepers_40 {G : GX} (hG : GOK G) {E : EV} (hE : E0 E) (d : Nat) (hd : 7 ≤ d) {Q : QT} (k8 : Int32 → Int32 → Int32 → Int32 → PM → Option (Int32 × PM)) (hk8 : ∀ (x1 : Int32) (x2 : Int32) (x3 : Int32) (x4 : Int32) (P : PM), St E rIP (k8 x1 x2 x3 x4 P) Q → Go G c_Ro_leastSleepers "YawnRoute$Routes" 6 (some .int) false d nOb nOb Q 8 [(0, .ref (ad E 63)), (1, .int x1), (2, .int x2), (3, .int x3), (4, .int x4)] [] P E) (x1 : Int32) (x2 : Int32) (x3 : Int32) (x4 : Int32) (s0 : Int32) (P : PM) (h : St E rIP (j_Ro_leastSleepers_40 k8 x1 x2 x3 x4 s0 P) Q) : Go G c_Ro_leastSleepers "YawnRoute$Routes" 6 (some .int) false d nOb nOb Q 40 [(0, .ref (ad E 63)), (1, .int x1), (2, .int x2), (3, .int x3), (4, .int x4)] [.int s0] P E := by
  rw [j_Ro_leastSleepers_40] at h
  refine Go.istore (i := 5) [(5, .int s0), (0, .ref (ad E 63)), (1, .int x1), (2, .int x2), (3, .int x3), (4, .int x4)] (by decide +kernel) (by decide) rfl ?_
  refine Go.iload (i := 5) 0 (by decide +kernel) rfl ?_
  refine Go.if_eq (off := 22) 66 (by decide +kernel) (by decide) (fun c1 => ?_) (fun c1 => ?_)
  · rw [if_pos c1] at h
    refine Go.sub [1, 2, 3, 4, 5] [(0, .ref (ad E 63)), (1, .int x1), (2, .int x2), (3, .int x3), (4, .int x4)] rfl ?_
    exact t_j_Ro_leastSleepers_66 hG hE d hd k8 hk8 x1 x2 x3 x4 P h
  · rw [if_neg c1] at h
    refine Go.aload_n (k := 0) (i := 0) 1 (by decide +kernel) rfl rfl ?_
    refine Go.iload_n (k := 1) (i := 1) 2 (by decide +kernel) rfl rfl ?_
    refine Go.iload (i := 4) 5 (by decide +kernel) rfl ?_
    obtain ⟨v2, P3, hv2, h⟩ := St.bd2 h
    refine Go.cV_i (P1 := P3) (v := v2) (d - 1) 63 [.int x1, .int x4] sh63 hE w_Ro_comesTo (e_Ro_comesTo hG hE (d - 1) (by omega) x1 x4 P ⟨_, hv2, rfl, rfl, rfl⟩) lk1054 rfl (by omega) (Nat.le_of_ble_eq_true rfl) (by decide +kernel) _ rfl ?_
    refine Go.if_ne (off := 12) 66 (by decide +kernel) (by decide) (fun c4 => ?_) (fun c4 => ?_)
    · rw [if_neg c4] at h
      refine Go.sub [1, 2, 3, 4, 5] [(0, .ref (ad E 63)), (1, .int x1), (2, .int x2), (3, .int x3), (4, .int x4)] rfl ?_
      exact t_j_Ro_leastSleepers_66 hG hE d hd k8 hk8 x1 x2 x3 x4 P3 h
    · rw [if_pos c4] at h
      refine Go.iload (i := 4) 5 (by decide +kernel) rfl ?_
      refine Go.istore_n (k := 2) (i := 2) [(2, .int x4), (5, .int s0), (0, .ref (ad E 63)), (1, .int x1), (3, .int x3), (4, .int x4)] (by decide +kernel) rfl (by decide) rfl ?_
      refine Go.iload (i := 4) 5 (by decide +kernel) rfl ?_
      refine Go.cS_i (P1 := P3) (v := (f_Ji_bitCount x4 P3)) (d - 1) [.int x4] hE w_Ji_bitCount (e_Ji_bitCount hG hE (d - 1) (by omega) x4 P3 ⟨rfl, rfl, rfl⟩) lk1067 rfl (by omega) (Nat.le_of_ble_eq_true rfl) (by decide +kernel) _ rfl ?_
      obtain ⟨y5, hy5, h⟩ := St.lb h
      refine Go.eqi y5 hy5 ?_
      refine Go.istore_n (k := 3) (i := 3) [(3, .int y5), (2, .int x4), (5, .int s0), (0, .ref (ad E 63)), (1, .int x1), (4, .int x4)] (by decide +kernel) rfl (by decide) rfl ?_
      refine Go.sub [3, 4, 1, 0, 5] [(0, .ref (ad E 63)), (1, .int x1), (2, .int x4), (3, .int y5), (4, .int x4)] rfl ?_
      exact t_j_Ro_leastSleepers_66 hG hE d hd k8 hk8 x1 x4 y5 x4 P3 h
theorem t_j_Ro_leastSleepers_39 {G : GX} (hG : GOK G) {E : EV} (hE : E0 E) (d : Nat) (hd : 7 ≤ d) {Q : QT} (k8 : Int32 → Int32 → Int32 → Int32 → PM → Option (Int32 × PM)) (hk8 : ∀ (x1 : Int32) (x2 : Int32) (x3 : Int32) (x4 : Int32) (P : PM), St E rIP (k8 x1 x2 x3 x4 P) Q → Go G c_Ro_leastSleepers "YawnRoute$Routes" 6 (some .int) false d nOb nOb Q 8 [(0, .ref (ad E 63)), (1, .int x1), (2, .int x2), (3, .int x3), (4, .int x4)] [] P E) (x1 : Int32) (x2 : Int32) (x3 : Int32) (x4 : Int32) (P : PM) (h : St E rIP (j_Ro_leastSleepers_39 k8 x1 x2 x3 x4 P) Q) : Go G c_Ro_leastSleepers "YawnRoute$Routes" 6 (some .int) false d nOb nOb Q 39 [(0, .ref (ad E 63)), (1, .int x1), (2, .int x2), (3, .int x3), (4, .int x4)] [] P E := by
  rw [j_Ro_leastSleepers_39] at h
  refine Go.iconst (n := 0) (0 : Int32) (by decide +kernel) rfl ?_
  exact t_j_Ro_leastSleepers_40 hG hE d hd k8 hk8 x1 x2 x3 x4 (0 : Int32) P h
theorem t_l_Ro_leastSleepers_8 {G : GX} (hG : GOK G) {E : EV} (hE : E0 E) (d : Nat) (hd : 7 ≤ d) {Q : QT} : ∀ (n : Nat) (x1 : Int32) (x2 : Int32) (x3 : Int32) (x4 : Int32) (P : PM), St E rIP (l_Ro_leastSleepers_8 n x1 x2 x3 x4 P) Q → Go G c_Ro_leastSleepers "YawnRoute$Routes" 6 (some .int) false d nOb nOb Q 8 [(0, .ref (ad E 63)), (1, .int x1), (2, .int x2), (3, .int x3), (4, .int x4)] [] P E := by
  intro n
  induction n with
  | zero =>
    intro x1 x2 x3 x4 P h
    rw [l_Ro_leastSleepers_8] at h
    exact St.none_ h
  | succ n ih =>
    intro x1 x2 x3 x4 P h
    rw [l_Ro_leastSleepers_8] at h
    refine Go.iload (i := 4) 4 (by decide +kernel) rfl ?_
    refine Go.sipush (n := 128) (128 : Int32) (by decide +kernel) (by decide) ?_
    refine Go.icmp_ge (off := 59) 72 (by decide +kernel) (by decide) (fun c1 => ?_) (fun c1 => ?_)
    · rw [if_pos c1] at h
      refine Go.iload_n (k := 2) (i := 2) 2 (by decide +kernel) rfl rfl ?_
      exact Go.iret rfl rfl hE.2 (by decide +kernel) (St.fIP h)
    · rw [if_neg c1] at h
      refine Go.iload (i := 4) 4 (by decide +kernel) rfl ?_
      refine Go.cS_i (P1 := P) (v := (f_Ji_bitCount x4 P)) (d - 1) [.int x4] hE w_Ji_bitCount (e_Ji_bitCount hG hE (d - 1) (by omega) x4 P ⟨rfl, rfl, rfl⟩) lk1067 rfl (by omega) (Nat.le_of_ble_eq_true rfl) (by decide +kernel) _ rfl ?_
      refine Go.iload_n (k := 3) (i := 3) 3 (by decide +kernel) rfl rfl ?_
      refine Go.icmp_ge (off := 17) 39 (by decide +kernel) (by decide) (fun c2 => ?_) (fun c2 => ?_)
      · rw [if_pos c2] at h
        exact t_j_Ro_leastSleepers_39 hG hE d hd (fun z0 z1 z2 z3 Pz => l_Ro_leastSleepers_8 n z0 z1 z2 z3 Pz) (fun z0 z1 z2 z3 Pz q => ih z0 z1 z2 z3 Pz q) x1 x2 x3 x4 P h
      · rw [if_neg c2] at h
        refine Go.aload_n (k := 0) (i := 0) 0 (by decide +kernel) rfl rfl ?_
        refine Go.iload (i := 4) 4 (by decide +kernel) rfl ?_
        refine Go.iload_n (k := 1) (i := 1) 1 (by decide +kernel) rfl rfl ?_
        refine Go.cV_i (P1 := P) (v := (f_Ro_canSleep x4 x1 P)) (d - 1) 63 [.int x4, .int x1] sh63 hE w_Ro_canSleep (e_Ro_canSleep hG hE (d - 1) (by omega) x4 x1 P ⟨rfl, rfl, rfl⟩) lk1073 rfl (by omega) (Nat.le_of_ble_eq_true rfl) (by decide +kernel) _ rfl ?_
        refine Go.if_eq (off := 7) 39 (by decide +kernel) (by decide) (fun c3 => ?_) (fun c3 => ?_)
        · rw [if_pos c3] at h
          exact t_j_Ro_leastSleepers_39 hG hE d hd (fun z0 z1 z2 z3 Pz => l_Ro_leastSleepers_8 n z0 z1 z2 z3 Pz) (fun z0 z1 z2 z3 Pz q => ih z0 z1 z2 z3 Pz q) x1 x2 x3 x4 P h
        · rw [if_neg c3] at h
          refine Go.iconst (n := 1) (1 : Int32) (by decide +kernel) rfl ?_
          refine Go.goto (off := 4) 40 (by decide +kernel) (by decide) ?_
          exact t_j_Ro_leastSleepers_40 hG hE d hd (fun z0 z1 z2 z3 Pz => l_Ro_leastSleepers_8 n z0 z1 z2 z3 Pz) (fun z0 z1 z2 z3 Pz q => ih z0 z1 z2 z3 Pz q) x1 x2 x3 x4 (1 : Int32) P h
theorem t_f_Ro_leastSleepers {G : GX} (hG : GOK G) {E : EV} (hE : E0 E) (d : Nat) (hd : 7 ≤ d) {Q : QT} (a1 : Int32) (P : PM) (h : St E rIP (f_Ro_leastSleepers a1 P) Q) : Go G c_Ro_leastSleepers "YawnRoute$Routes" 6 (some .int) false d nOb nOb Q 0 [(0, .ref (ad E 63)), (1, .int a1)] [] P E := by
  rw [f_Ro_leastSleepers] at h
  refine Go.iconst (n := -1) (-1 : Int32) (by decide +kernel) rfl ?_
  refine Go.istore_n (k := 2) (i := 2) [(2, .int (-1 : Int32)), (0, .ref (ad E 63)), (1, .int a1)] (by decide +kernel) rfl (by decide) rfl ?_
  refine Go.bipush (n := 8) (8 : Int32) (by decide +kernel) (by decide) ?_
  refine Go.istore_n (k := 3) (i := 3) [(3, .int (8 : Int32)), (2, .int (-1 : Int32)), (0, .ref (ad E 63)), (1, .int a1)] (by decide +kernel) rfl (by decide) rfl ?_
  refine Go.iconst (n := 0) (0 : Int32) (by decide +kernel) rfl ?_
  refine Go.istore (i := 4) [(4, .int (0 : Int32)), (3, .int (8 : Int32)), (2, .int (-1 : Int32)), (0, .ref (ad E 63)), (1, .int a1)] (by decide +kernel) (by decide) rfl ?_
  refine Go.sub [3, 4, 2, 1, 0] [(0, .ref (ad E 63)), (1, .int a1), (2, .int (-1 : Int32)), (3, .int (8 : Int32)), (4, .int (0 : Int32))] rfl ?_
  exact t_l_Ro_leastSleepers_8 hG hE d hd FU a1 (-1 : Int32) (8 : Int32) (0 : Int32) P h
theorem e_Ro_leastSleepers {G : GX} (hG : GOK G) {E : EV} (hE : E0 E) (d : Nat) (hd : 7 ≤ d) (a1 : Int32) (P : PM) {Q : QT} (h : St E rIP (f_Ro_leastSleepers a1 P) Q) : Con G y_Ro_leastSleepers cw_Ro_leastSleepers d nOb nOb [.ref (ad E 63), .int a1] P E Q :=
  Con.of hG (by decide +kernel) rfl (fun h => by cases h) hE.2 (Nat.le_of_ble_eq_true rfl) (t_f_Ro_leastSleepers hG hE d hd a1 P h)
abbrev c_Yr_sleepers : ByteArray := prog_1_method_23_code
abbrev y_Yr_sleepers : MethodName := ⟨"YawnRoute", "sleepers", "(II)I"⟩
abbrev cw_Yr_sleepers : Cond := .code y_Yr_sleepers c_Yr_sleepers 5 (some .int)
theorem w_Yr_sleepers : VW 11 y_Yr_sleepers c_Yr_sleepers 5 (some .int) 2 := ⟨by decide, lk1060, lk1061, lk1, lk1062, ⟨by decide, by decide, by decide +kernel⟩, by decide⟩
noncomputable def j_Yr_sleepers_58 (x4 : Int32) (P : PM) : Option (Int32 × PM) := some (x4, P)
noncomputable def j_Yr_sleepers_26 (x1 : Int32) (x2 : Int32) (s1 : Int32) (P : PM) : Option (Int32 × PM) := lb (f_Yr_refusal s1 (1 : Int32) P) (fun y1 => if y1 = (0 : Int32) then (bd2 (f_Ro_leastSleepers x1 P) (fun v3 P4 => if v3 = (-1 : Int32) then (j_Yr_sleepers_58 v3 P4) else (if x2 = (1 : Int32) then (j_Yr_sleepers_58 v3 P4) else (some ((f_Ji_bitCount v3 P4), P4))))) else (some (y1, P)))
noncomputable def j_Yr_sleepers_21 (x1 : Int32) (x2 : Int32) (P : PM) : Option (Int32 × PM) := j_Yr_sleepers_26 x1 x2 (1 : Int32) P
noncomputable def j_Yr_sleepers_25 (x1 : Int32) (x2 : Int32) (P : PM) : Option (Int32 × PM) := j_Yr_sleepers_26 x1 x2 (0 : Int32) P
noncomputable def f_Yr_sleepers (a1 : Int32) (a2 : Int32) (P : PM) : Option (Int32 × PM) := if (f_Ne_isStation 14 a1 P) = (0 : Int32) then (j_Yr_sleepers_25 a1 a2 P) else (if a2 = (0 : Int32) then (j_Yr_sleepers_21 a1 a2 P) else (if a2 = (1 : Int32) then (j_Yr_sleepers_21 a1 a2 P) else (j_Yr_sleepers_25 a1 a2 P)))
theorem t_j_Yr_sleepers_58 {G : GX} (hG : GOK G) {E : EV} (hE : E0 E) (d : Nat) (hd : 8 ≤ d) {Q : QT} (x4 : Int32) (P : PM) (h : St E rIP (j_Yr_sleepers_58 x4 P) Q) : Go G c_Yr_sleepers "YawnRoute" 5 (some .int) false d nOb nOb Q 58 [(4, .int x4)] [] P E := by
  rw [j_Yr_sleepers_58] at h
  refine Go.iload (i := 4) 0 (by decide +kernel) rfl ?_
  refine Go.goto (off := 8) 68 (by decide +kernel) (by decide) ?_
  exact Go.iret rfl rfl hE.2 (by decide +kernel) (St.fIP h)
theorem t_j_Yr_sleepers_26 {G : GX} (hG : GOK G) {E : EV} (hE : E0 E) (d : Nat) (hd : 8 ≤ d) {Q : QT} (x1 : Int32) (x2 : Int32) (s1 : Int32) (P : PM) (h : St E rIP (j_Yr_sleepers_26 x1 x2 s1 P) Q) : Go G c_Yr_sleepers "YawnRoute" 5 (some .int) false d nOb nOb Q 26 [(0, .ref (ad E 0)), (1, .int x1), (2, .int x2)] [.int s1, .ref (ad E 0)] P E := by
  rw [j_Yr_sleepers_26] at h
  refine Go.iconst (n := 1) (1 : Int32) (by decide +kernel) rfl ?_
  refine Go.cV_i (P1 := P) (v := (f_Yr_refusal s1 (1 : Int32) P)) (d - 1) 0 [.int s1, .int (1 : Int32)] sh0 hE w_Yr_refusal (e_Yr_refusal hG hE (d - 1) (by omega) s1 (1 : Int32) P ⟨rfl, rfl, rfl⟩) lk912 rfl (by omega) (Nat.le_of_ble_eq_true rfl) (by decide +kernel) _ rfl ?_
  obtain ⟨y1, hy1, h⟩ := St.lb h
  refine Go.eqi y1 hy1 ?_
  refine Go.istore_n (k := 3) (i := 3) [(3, .int y1), (0, .ref (ad E 0)), (1, .int x1), (2, .int x2)] (by decide +kernel) rfl (by decide) rfl ?_
  refine Go.iload_n (k := 3) (i := 3) 0 (by decide +kernel) rfl rfl ?_
  refine Go.if_eq (off := 5) 37 (by decide +kernel) (by decide) (fun c2 => ?_) (fun c2 => ?_)
  · rw [if_pos c2] at h
    refine Go.aload_n (k := 0) (i := 0) 1 (by decide +kernel) rfl rfl ?_
    refine Go.get 0 7 (.ref (ad E 63)) (by decide) (by decide) sh0 (ltO hE sh0) (vlR hE rfl rfl) lk397 (by decide +kernel) ?_
    refine Go.iload_n (k := 1) (i := 1) 2 (by decide +kernel) rfl rfl ?_
    obtain ⟨v3, P4, hv3, h⟩ := St.bd2 h
    refine Go.cV_i (P1 := P4) (v := v3) (d - 1) 63 [.int x1] sh63 hE w_Ro_leastSleepers (e_Ro_leastSleepers hG hE (d - 1) (by omega) x1 P ⟨_, hv3, rfl, rfl, rfl⟩) lk1063 rfl (by omega) (Nat.le_of_ble_eq_true rfl) (by decide +kernel) _ rfl ?_
    refine Go.istore (i := 4) [(4, .int v3), (3, .int y1), (0, .ref (ad E 0)), (1, .int x1), (2, .int x2)] (by decide +kernel) (by decide) rfl ?_
    refine Go.iload (i := 4) 0 (by decide +kernel) rfl ?_
    refine Go.iconst (n := -1) (-1 : Int32) (by decide +kernel) rfl ?_
    refine Go.icmp_eq (off := 8) 58 (by decide +kernel) (by decide) (fun c5 => ?_) (fun c5 => ?_)
    · rw [if_pos c5] at h
      refine Go.sub [0] [(4, .int v3)] rfl ?_
      exact t_j_Yr_sleepers_58 hG hE d hd v3 P4 h
    · rw [if_neg c5] at h
      refine Go.iload_n (k := 2) (i := 2) 4 (by decide +kernel) rfl rfl ?_
      refine Go.iconst (n := 1) (1 : Int32) (by decide +kernel) rfl ?_
      refine Go.icmp_ne (off := 8) 63 (by decide +kernel) (by decide) (fun c6 => ?_) (fun c6 => ?_)
      · rw [if_neg c6] at h
        refine Go.iload (i := 4) 0 (by decide +kernel) rfl ?_
        refine Go.cS_i (P1 := P4) (v := (f_Ji_bitCount v3 P4)) (d - 1) [.int v3] hE w_Ji_bitCount (e_Ji_bitCount hG hE (d - 1) (by omega) v3 P4 ⟨rfl, rfl, rfl⟩) lk1078 rfl (by omega) (Nat.le_of_ble_eq_true rfl) (by decide +kernel) _ rfl ?_
        exact Go.iret rfl rfl hE.2 (by decide +kernel) (St.fIP h)
      · rw [if_pos c6] at h
        refine Go.sub [0] [(4, .int v3)] rfl ?_
        exact t_j_Yr_sleepers_58 hG hE d hd v3 P4 h
  · rw [if_neg c2] at h
    refine Go.iload_n (k := 3) (i := 3) 0 (by decide +kernel) rfl rfl ?_
    exact Go.iret rfl rfl hE.2 (by decide +kernel) (St.fIP h)
theorem t_j_Yr_sleepers_21 {G : GX} (hG : GOK G) {E : EV} (hE : E0 E) (d : Nat) (hd : 8 ≤ d) {Q : QT} (x1 : Int32) (x2 : Int32) (P : PM) (h : St E rIP (j_Yr_sleepers_21 x1 x2 P) Q) : Go G c_Yr_sleepers "YawnRoute" 5 (some .int) false d nOb nOb Q 21 [(0, .ref (ad E 0)), (1, .int x1), (2, .int x2)] [.ref (ad E 0)] P E := by
  rw [j_Yr_sleepers_21] at h
  refine Go.iconst (n := 1) (1 : Int32) (by decide +kernel) rfl ?_
  refine Go.goto (off := 4) 26 (by decide +kernel) (by decide) ?_
  exact t_j_Yr_sleepers_26 hG hE d hd x1 x2 (1 : Int32) P h
theorem t_j_Yr_sleepers_25 {G : GX} (hG : GOK G) {E : EV} (hE : E0 E) (d : Nat) (hd : 8 ≤ d) {Q : QT} (x1 : Int32) (x2 : Int32) (P : PM) (h : St E rIP (j_Yr_sleepers_25 x1 x2 P) Q) : Go G c_Yr_sleepers "YawnRoute" 5 (some .int) false d nOb nOb Q 25 [(0, .ref (ad E 0)), (1, .int x1), (2, .int x2)] [.ref (ad E 0)] P E := by
  rw [j_Yr_sleepers_25] at h
  refine Go.iconst (n := 0) (0 : Int32) (by decide +kernel) rfl ?_
  exact t_j_Yr_sleepers_26 hG hE d hd x1 x2 (0 : Int32) P h
theorem t_f_Yr_sleepers {G : GX} (hG : GOK G) {E : EV} (hE : E0 E) (d : Nat) (hd : 8 ≤ d) {Q : QT} (a1 : Int32) (a2 : Int32) (P : PM) (h : St E rIP (f_Yr_sleepers a1 a2 P) Q) : Go G c_Yr_sleepers "YawnRoute" 5 (some .int) false d nOb nOb Q 0 [(0, .ref (ad E 0)), (1, .int a1), (2, .int a2)] [] P E := by
  rw [f_Yr_sleepers] at h
  refine Go.aload_n (k := 0) (i := 0) 0 (by decide +kernel) rfl rfl ?_
  refine Go.aload_n (k := 0) (i := 0) 0 (by decide +kernel) rfl rfl ?_
  refine Go.get 0 2 (.ref (ad E 14)) (by decide) (by decide) sh0 (ltO hE sh0) (vlR hE rfl rfl) lk392 (by decide +kernel) ?_
  refine Go.iload_n (k := 1) (i := 1) 1 (by decide +kernel) rfl rfl ?_
  refine Go.cV_i (P1 := P) (v := (f_Ne_isStation 14 a1 P)) (d - 1) 14 [.int a1] sh14 hE w_Ne_isStation (e_Ne_isStation hG hE (d - 1) (by omega) 14 sh14 a1 P ⟨rfl, rfl, rfl⟩) lk726 rfl (by omega) (Nat.le_of_ble_eq_true rfl) (by decide +kernel) _ rfl ?_
  refine Go.if_eq (off := 16) 25 (by decide +kernel) (by decide) (fun c1 => ?_) (fun c1 => ?_)
  · rw [if_pos c1] at h
    exact t_j_Yr_sleepers_25 hG hE d hd a1 a2 P h
  · rw [if_neg c1] at h
    refine Go.iload_n (k := 2) (i := 2) 2 (by decide +kernel) rfl rfl ?_
    refine Go.if_eq (off := 8) 21 (by decide +kernel) (by decide) (fun c2 => ?_) (fun c2 => ?_)
    · rw [if_pos c2] at h
      exact t_j_Yr_sleepers_21 hG hE d hd a1 a2 P h
    · rw [if_neg c2] at h
      refine Go.iload_n (k := 2) (i := 2) 2 (by decide +kernel) rfl rfl ?_
      refine Go.iconst (n := 1) (1 : Int32) (by decide +kernel) rfl ?_
      refine Go.icmp_ne (off := 7) 25 (by decide +kernel) (by decide) (fun c3 => ?_) (fun c3 => ?_)
      · rw [if_neg c3] at h
        exact t_j_Yr_sleepers_25 hG hE d hd a1 a2 P h
      · rw [if_pos c3] at h
        exact t_j_Yr_sleepers_21 hG hE d hd a1 a2 P h
theorem e_Yr_sleepers {G : GX} (hG : GOK G) {E : EV} (hE : E0 E) (d : Nat) (hd : 8 ≤ d) (a1 : Int32) (a2 : Int32) (P : PM) {Q : QT} (h : St E rIP (f_Yr_sleepers a1 a2 P) Q) : Con G y_Yr_sleepers cw_Yr_sleepers d nOb nOb [.ref (ad E 0), .int a1, .int a2] P E Q :=
  Con.of hG (by decide +kernel) rfl (fun h => by cases h) hE.2 (Nat.le_of_ble_eq_true rfl) (t_f_Yr_sleepers hG hE d hd a1 a2 P h)
abbrev c_Sp_begin : ByteArray := prog_8_method_9_code
abbrev y_Sp_begin : MethodName := ⟨"YawnRoute$Spreading", "begin", "([III)V"⟩
abbrev cw_Sp_begin : Cond := .code y_Sp_begin c_Sp_begin 3 none
theorem w_Sp_begin : SW y_Sp_begin c_Sp_begin 3 none 3 := ⟨lk1094, lk12, lk1095, ⟨by decide, by decide, by decide +kernel⟩, by decide⟩
noncomputable def f_Sp_begin (a0 : Nat) (n0 : Nat) (a1 : Int32) (a2 : Int32) (P : PM) : Option PM := (f_Ja_fill_AII a0 n0 (0 : Int32) P).bind (fun P1 => if a1 < (0 : Int32) then (some P1) else (if (Int32.ofNat n0) ≤ a1 then (some P1) else (ck (inb a1 n0) (some (u1 P1 a0 a1.toNatClampNeg a2)))))
theorem t_f_Sp_begin {G : GX} (hG : GOK G) {E : EV} (hE : E0 E) (d : Nat) (hd : 2 ≤ d) {Q : QT} (a0 : Nat) (n0 : Nat) (ha0 : sh a0 = .inr (0, n0)) (a1 : Int32) (a2 : Int32) (P : PM) (h : St E rP (f_Sp_begin a0 n0 a1 a2 P) Q) : Go G c_Sp_begin "YawnRoute$Spreading" 3 none false d nOb nOb Q 0 [(0, .ref (ad E a0)), (1, .int a1), (2, .int a2)] [] P E := by
  rw [f_Sp_begin] at h
  refine Go.aload_n (k := 0) (i := 0) 0 (by decide +kernel) rfl rfl ?_
  refine Go.iconst (n := 0) (0 : Int32) (by decide +kernel) rfl ?_
  obtain ⟨P1, hP1, h⟩ := St.bind h
  refine Go.cS_v (P1 := P1) (d - 1) [.ref (ad E a0), .int (0 : Int32)] hE w_Ja_fill_AII (e_Ja_fill_AII hG hE (d - 1) (by omega) a0 n0 ha0 (0 : Int32) P ⟨_, hP1, rfl, rfl, rfl⟩) lk1096 rfl (by omega) (Nat.le_of_ble_eq_true rfl) (by decide +kernel) _ rfl ?_
  refine Go.iload_n (k := 1) (i := 1) 1 (by decide +kernel) rfl rfl ?_
  refine Go.if_lt (off := 13) 19 (by decide +kernel) (by decide) (fun c2 => ?_) (fun c2 => ?_)
  · rw [if_pos c2] at h
    exact Go.vret rfl hE.2 (by decide +kernel) (St.fP h)
  · rw [if_neg c2] at h
    refine Go.iload_n (k := 1) (i := 1) 1 (by decide +kernel) rfl rfl ?_
    refine Go.aload_n (k := 0) (i := 0) 0 (by decide +kernel) rfl rfl ?_
    refine Go.alen a0 0 n0 (Int32.ofNat n0) ha0 (by decide) (ltA hE ha0 (by decide)) rfl (by decide +kernel) ?_
    refine Go.icmp_ge (off := 7) 19 (by decide +kernel) (by decide) (fun c3 => ?_) (fun c3 => ?_)
    · rw [if_pos c3] at h
      exact Go.vret rfl hE.2 (by decide +kernel) (St.fP h)
    · rw [if_neg c3] at h
      refine Go.aload_n (k := 0) (i := 0) 0 (by decide +kernel) rfl rfl ?_
      refine Go.iload_n (k := 1) (i := 1) 1 (by decide +kernel) rfl rfl ?_
      refine Go.iload_n (k := 2) (i := 2) 2 (by decide +kernel) rfl rfl ?_
      obtain ⟨b4, h⟩ := St.ck h
      refine Go.iastore a0 n0 ha0 (ltA hE ha0 (by decide)) (inb_in b4) (by decide +kernel) ?_
      exact Go.vret rfl hE.2 (by decide +kernel) (St.fP h)
theorem e_Sp_begin {G : GX} (hG : GOK G) {E : EV} (hE : E0 E) (d : Nat) (hd : 2 ≤ d) (a0 : Nat) (n0 : Nat) (ha0 : sh a0 = .inr (0, n0)) (a1 : Int32) (a2 : Int32) (P : PM) {Q : QT} (h : St E rP (f_Sp_begin a0 n0 a1 a2 P) Q) : Con G y_Sp_begin cw_Sp_begin d nOb nOb [.ref (ad E a0), .int a1, .int a2] P E Q :=
  Con.of hG (by decide +kernel) rfl (fun h => by cases h) hE.2 (Nat.le_of_ble_eq_true rfl) (t_f_Sp_begin hG hE d hd a0 n0 ha0 a1 a2 P h)
abbrev c_Sp_goesOn : ByteArray := prog_8_method_10_code
abbrev y_Sp_goesOn : MethodName := ⟨"YawnRoute$Spreading", "goesOn", "([II)Z"⟩
abbrev cw_Sp_goesOn : Cond := .code y_Sp_goesOn c_Sp_goesOn 7 (some .boolean)
theorem w_Sp_goesOn : VW 6 y_Sp_goesOn c_Sp_goesOn 7 (some .boolean) 2 := ⟨by decide, lk1099, lp37_, lk12, lk1100, ⟨by decide, by decide, by decide +kernel⟩, by decide⟩
noncomputable def j_Sp_goesOn_95 (a1 : Nat) (n1 : Nat) (k17 : Int32 → Int32 → Int32 → PM → Option (Int32 × PM)) (k32 : Int32 → Int32 → Int32 → Int32 → PM → Option (Int32 × PM)) (x2 : Int32) (x3 : Int32) (x4 : Int32) (x5 : Int32) (P : PM) : Option (Int32 × PM) := k32 x2 x3 x4 (x5 + (1 : Int32)) P
noncomputable def j_Sp_goesOn_101 (a1 : Nat) (n1 : Nat) (k17 : Int32 → Int32 → Int32 → PM → Option (Int32 × PM)) (x2 : Int32) (x3 : Int32) (x4 : Int32) (P : PM) : Option (Int32 × PM) := k17 x2 x3 (x4 + (1 : Int32)) P
noncomputable def l_Sp_goesOn_32 (a1 : Nat) (n1 : Nat) (k17 : Int32 → Int32 → Int32 → PM → Option (Int32 × PM)) : Nat → Int32 → Int32 → Int32 → Int32 → PM → Option (Int32 × PM)
  | 0, _, _, _, _, _ => none
  | n + 1, x2, x3, x4, x5, P => if (P.1 14 0) ≤ x5 then (j_Sp_goesOn_101 a1 n1 k17 x2 x3 x4 P) else (ck (inb x4 7) (if (P.1 68 x4.toNatClampNeg) ≤ (0 : Int32) then (j_Sp_goesOn_101 a1 n1 k17 x2 x3 x4 P) else (ck (inb x4 7) ((f_Pa_after (f_Yr_placeOf x4 (P.1 68 x4.toNatClampNeg) P) x5 x2 P).bind (fun v5 => ck (inb x5 n1) (if v5 ≤ (P.1 a1 x5.toNatClampNeg) then (j_Sp_goesOn_95 a1 n1 k17 (fun z0 z1 z2 z3 Pz => l_Sp_goesOn_32 a1 n1 k17 n z0 z1 z2 z3 Pz) x2 x3 x4 x5 P) else (ck (inb x5 n1) (j_Sp_goesOn_95 a1 n1 k17 (fun z0 z1 z2 z3 Pz => l_Sp_goesOn_32 a1 n1 k17 n z0 z1 z2 z3 Pz) x2 (1 : Int32) x4 x5 (u1 P a1 x5.toNatClampNeg v5)))))))))
noncomputable def l_Sp_goesOn_17 (a1 : Nat) (n1 : Nat) : Nat → Int32 → Int32 → Int32 → PM → Option (Int32 × PM)
  | 0, _, _, _, _ => none
  | n + 1, x2, x3, x4, P => if (P.1 14 0) ≤ x4 then (ck (isz x3) (some (x3, P))) else (l_Sp_goesOn_32 a1 n1 (fun z0 z1 z2 Pz => l_Sp_goesOn_17 a1 n1 n z0 z1 z2 Pz) FU x2 x3 x4 (0 : Int32) P)
noncomputable def f_Sp_goesOn (a1 : Nat) (n1 : Nat) (a2 : Int32) (P : PM) : Option (Int32 × PM) := ck (decide (7 ≤ n1)) (l_Sp_goesOn_17 a1 n1 FU a2 (0 : Int32) (0 : Int32) (uc P a1 (0 : Int32).toNatClampNeg 68 (0 : Int32).toNatClampNeg (7 : Int32).toNatClampNeg))
theorem t_j_Sp_goesOn_95 {G : GX} (hG : GOK G) {E : EV} (hE : E0 E) (d : Nat) (hd : 3 ≤ d) {Q : QT} (a1 : Nat) (n1 : Nat) (ha1 : sh a1 = .inr (0, n1)) (k17 : Int32 → Int32 → Int32 → PM → Option (Int32 × PM)) (hk17 : ∀ (x2 : Int32) (x3 : Int32) (x4 : Int32) (P : PM), St E rIP (k17 x2 x3 x4 P) Q → Go G c_Sp_goesOn "YawnRoute$Spreading" 7 (some .boolean) false d nOb nOb Q 17 [(0, .ref (ad E 65)), (1, .ref (ad E a1)), (2, .int x2), (3, .int x3), (4, .int x4)] [] P E) (k32 : Int32 → Int32 → Int32 → Int32 → PM → Option (Int32 × PM)) (hk32 : ∀ (x2 : Int32) (x3 : Int32) (x4 : Int32) (x5 : Int32) (P : PM), St E rIP (k32 x2 x3 x4 x5 P) Q → Go G c_Sp_goesOn "YawnRoute$Spreading" 7 (some .boolean) false d nOb nOb Q 32 [(0, .ref (ad E 65)), (1, .ref (ad E a1)), (2, .int x2), (3, .int x3), (4, .int x4), (5, .int x5)] [] P E) (x2 : Int32) (x3 : Int32) (x4 : Int32) (x5 : Int32) (P : PM) (h : St E rIP (j_Sp_goesOn_95 a1 n1 k17 k32 x2 x3 x4 x5 P) Q) : Go G c_Sp_goesOn "YawnRoute$Spreading" 7 (some .boolean) false d nOb nOb Q 95 [(0, .ref (ad E 65)), (1, .ref (ad E a1)), (2, .int x2), (3, .int x3), (4, .int x4), (5, .int x5)] [] P E := by
  rw [j_Sp_goesOn_95] at h
  refine Go.iinc (i := 5) (n := 1) 5 (x5 + (1 : Int32)) [(5, .int (x5 + (1 : Int32))), (0, .ref (ad E 65)), (1, .ref (ad E a1)), (2, .int x2), (3, .int x3), (4, .int x4)] (by decide +kernel) rfl rfl (by decide) rfl ?_
  refine Go.goto (off := -66) 32 (by decide +kernel) (by decide) ?_
  refine Go.sub [1, 2, 3, 4, 5, 0] [(0, .ref (ad E 65)), (1, .ref (ad E a1)), (2, .int x2), (3, .int x3), (4, .int x4), (5, .int (x5 + (1 : Int32)))] rfl ?_
  exact hk32 x2 x3 x4 (x5 + (1 : Int32)) P h
theorem t_j_Sp_goesOn_101 {G : GX} (hG : GOK G) {E : EV} (hE : E0 E) (d : Nat) (hd : 3 ≤ d) {Q : QT} (a1 : Nat) (n1 : Nat) (ha1 : sh a1 = .inr (0, n1)) (k17 : Int32 → Int32 → Int32 → PM → Option (Int32 × PM)) (hk17 : ∀ (x2 : Int32) (x3 : Int32) (x4 : Int32) (P : PM), St E rIP (k17 x2 x3 x4 P) Q → Go G c_Sp_goesOn "YawnRoute$Spreading" 7 (some .boolean) false d nOb nOb Q 17 [(0, .ref (ad E 65)), (1, .ref (ad E a1)), (2, .int x2), (3, .int x3), (4, .int x4)] [] P E) (x2 : Int32) (x3 : Int32) (x4 : Int32) (P : PM) (h : St E rIP (j_Sp_goesOn_101 a1 n1 k17 x2 x3 x4 P) Q) : Go G c_Sp_goesOn "YawnRoute$Spreading" 7 (some .boolean) false d nOb nOb Q 101 [(0, .ref (ad E 65)), (1, .ref (ad E a1)), (2, .int x2), (3, .int x3), (4, .int x4)] [] P E := by
  rw [j_Sp_goesOn_101] at h
  refine Go.iinc (i := 4) (n := 1) 4 (x4 + (1 : Int32)) [(4, .int (x4 + (1 : Int32))), (0, .ref (ad E 65)), (1, .ref (ad E a1)), (2, .int x2), (3, .int x3)] (by decide +kernel) rfl rfl (by decide) rfl ?_
  refine Go.goto (off := -87) 17 (by decide +kernel) (by decide) ?_
  refine Go.sub [1, 2, 3, 4, 0] [(0, .ref (ad E 65)), (1, .ref (ad E a1)), (2, .int x2), (3, .int x3), (4, .int (x4 + (1 : Int32)))] rfl ?_
  exact hk17 x2 x3 (x4 + (1 : Int32)) P h
theorem t_l_Sp_goesOn_32 {G : GX} (hG : GOK G) {E : EV} (hE : E0 E) (d : Nat) (hd : 3 ≤ d) {Q : QT} (a1 : Nat) (n1 : Nat) (ha1 : sh a1 = .inr (0, n1)) (k17 : Int32 → Int32 → Int32 → PM → Option (Int32 × PM)) (hk17 : ∀ (x2 : Int32) (x3 : Int32) (x4 : Int32) (P : PM), St E rIP (k17 x2 x3 x4 P) Q → Go G c_Sp_goesOn "YawnRoute$Spreading" 7 (some .boolean) false d nOb nOb Q 17 [(0, .ref (ad E 65)), (1, .ref (ad E a1)), (2, .int x2), (3, .int x3), (4, .int x4)] [] P E) : ∀ (n : Nat) (x2 : Int32) (x3 : Int32) (x4 : Int32) (x5 : Int32) (P : PM), St E rIP (l_Sp_goesOn_32 a1 n1 k17 n x2 x3 x4 x5 P) Q → Go G c_Sp_goesOn "YawnRoute$Spreading" 7 (some .boolean) false d nOb nOb Q 32 [(0, .ref (ad E 65)), (1, .ref (ad E a1)), (2, .int x2), (3, .int x3), (4, .int x4), (5, .int x5)] [] P E := by
  intro n
  induction n with
  | zero =>
    intro x2 x3 x4 x5 P h
    rw [l_Sp_goesOn_32] at h
    exact St.none_ h
  | succ n ih =>
    intro x2 x3 x4 x5 P h
    rw [l_Sp_goesOn_32] at h
    refine Go.iload (i := 5) 5 (by decide +kernel) rfl ?_
    refine Go.aload_n (k := 0) (i := 0) 0 (by decide +kernel) rfl rfl ?_
    refine Go.get 65 0 (.ref (ad E 14)) (by decide) (by decide) sh65 (ltO hE sh65) (vlR hE rfl rfl) lk343 (by decide +kernel) ?_
    refine Go.get 14 0 (.int (P.1 14 0)) (by decide) (by decide) sh14 (ltO hE sh14) rfl lk90 (by decide +kernel) ?_
    refine Go.icmp_ge (off := 60) 101 (by decide +kernel) (by decide) (fun c1 => ?_) (fun c1 => ?_)
    · rw [if_pos c1] at h
      refine Go.sub [0, 1, 2, 3, 4] [(0, .ref (ad E 65)), (1, .ref (ad E a1)), (2, .int x2), (3, .int x3), (4, .int x4)] rfl ?_
      exact t_j_Sp_goesOn_101 hG hE d hd a1 n1 ha1 k17 hk17 x2 x3 x4 P h
    · rw [if_neg c1] at h
      refine Go.aload_n (k := 0) (i := 0) 0 (by decide +kernel) rfl rfl ?_
      refine Go.get 65 5 (.ref (ad E 68)) (by decide) (by decide) sh65 (ltO hE sh65) (vlR hE rfl rfl) lk348 (by decide +kernel) ?_
      refine Go.iload (i := 4) 4 (by decide +kernel) rfl ?_
      obtain ⟨b2, h⟩ := St.ck h
      refine Go.iaload 68 7 sh68 (ltA hE sh68 (by decide)) (inb_in b2) (by decide +kernel) ?_
      refine Go.if_le (off := 50) 101 (by decide +kernel) (by decide) (fun c3 => ?_) (fun c3 => ?_)
      · rw [if_pos c3] at h
        refine Go.sub [0, 1, 2, 3, 4] [(0, .ref (ad E 65)), (1, .ref (ad E a1)), (2, .int x2), (3, .int x3), (4, .int x4)] rfl ?_
        exact t_j_Sp_goesOn_101 hG hE d hd a1 n1 ha1 k17 hk17 x2 x3 x4 P h
      · rw [if_neg c3] at h
        refine Go.aload_n (k := 0) (i := 0) 0 (by decide +kernel) rfl rfl ?_
        refine Go.get 65 2 (.ref (ad E 58)) (by decide) (by decide) sh65 (ltO hE sh65) (vlR hE rfl rfl) lk345 (by decide +kernel) ?_
        refine Go.iload (i := 4) 4 (by decide +kernel) rfl ?_
        refine Go.aload_n (k := 0) (i := 0) 0 (by decide +kernel) rfl rfl ?_
        refine Go.get 65 5 (.ref (ad E 68)) (by decide) (by decide) sh65 (ltO hE sh65) (vlR hE rfl rfl) lk348 (by decide +kernel) ?_
        refine Go.iload (i := 4) 4 (by decide +kernel) rfl ?_
        obtain ⟨b4, h⟩ := St.ck h
        refine Go.iaload 68 7 sh68 (ltA hE sh68 (by decide)) (inb_in b4) (by decide +kernel) ?_
        refine Go.cSN_i (P1 := P) (v := (f_Yr_placeOf x4 (P.1 68 x4.toNatClampNeg) P)) (d - 1) [.int x4, .int (P.1 68 x4.toNatClampNeg)] hE w_Yr_placeOf (e_Yr_placeOf hG hE (d - 1) (by omega) x4 (P.1 68 x4.toNatClampNeg) P ⟨rfl, rfl, rfl⟩) nw21 rfl (by omega) (Nat.le_of_ble_eq_true rfl) (by decide +kernel) _ rfl ?_
        refine Go.iload (i := 5) 5 (by decide +kernel) rfl ?_
        refine Go.iload_n (k := 2) (i := 2) 2 (by decide +kernel) rfl rfl ?_
        obtain ⟨v5, hv5, h⟩ := St.bind h
        refine Go.cV_i (P1 := P) (v := v5) (d - 1) 58 [.int (f_Yr_placeOf x4 (P.1 68 x4.toNatClampNeg) P), .int x5, .int x2] sh58 hE w_Pa_after (e_Pa_after hG hE (d - 1) (by omega) (f_Yr_placeOf x4 (P.1 68 x4.toNatClampNeg) P) x5 x2 P ⟨_, hv5, rfl, rfl, rfl⟩) lk1103 rfl (by omega) (Nat.le_of_ble_eq_true rfl) (by decide +kernel) _ rfl ?_
        refine Go.istore (i := 6) [(6, .int v5), (0, .ref (ad E 65)), (1, .ref (ad E a1)), (2, .int x2), (3, .int x3), (4, .int x4), (5, .int x5)] (by decide +kernel) (by decide) rfl ?_
        refine Go.iload (i := 6) 0 (by decide +kernel) rfl ?_
        refine Go.aload_n (k := 1) (i := 1) 2 (by decide +kernel) rfl rfl ?_
        refine Go.iload (i := 5) 6 (by decide +kernel) rfl ?_
        obtain ⟨b6, h⟩ := St.ck h
        refine Go.iaload a1 n1 ha1 (ltA hE ha1 (by decide)) (inb_in b6) (by decide +kernel) ?_
        refine Go.icmp_le (off := 11) 95 (by decide +kernel) (by decide) (fun c7 => ?_) (fun c7 => ?_)
        · rw [if_pos c7] at h
          refine Go.sub [1, 2, 3, 4, 5, 6] [(0, .ref (ad E 65)), (1, .ref (ad E a1)), (2, .int x2), (3, .int x3), (4, .int x4), (5, .int x5)] rfl ?_
          exact t_j_Sp_goesOn_95 hG hE d hd a1 n1 ha1 k17 hk17 (fun z0 z1 z2 z3 Pz => l_Sp_goesOn_32 a1 n1 k17 n z0 z1 z2 z3 Pz) (fun z0 z1 z2 z3 Pz q => ih z0 z1 z2 z3 Pz q) x2 x3 x4 x5 P h
        · rw [if_neg c7] at h
          refine Go.aload_n (k := 1) (i := 1) 2 (by decide +kernel) rfl rfl ?_
          refine Go.iload (i := 5) 6 (by decide +kernel) rfl ?_
          refine Go.iload (i := 6) 0 (by decide +kernel) rfl ?_
          obtain ⟨b8, h⟩ := St.ck h
          refine Go.iastore a1 n1 ha1 (ltA hE ha1 (by decide)) (inb_in b8) (by decide +kernel) ?_
          refine Go.iconst (n := 1) (1 : Int32) (by decide +kernel) rfl ?_
          refine Go.istore_n (k := 3) (i := 3) [(3, .int (1 : Int32)), (6, .int v5), (0, .ref (ad E 65)), (1, .ref (ad E a1)), (2, .int x2), (4, .int x4), (5, .int x5)] (by decide +kernel) rfl (by decide) rfl ?_
          refine Go.sub [2, 3, 4, 0, 5, 6] [(0, .ref (ad E 65)), (1, .ref (ad E a1)), (2, .int x2), (3, .int (1 : Int32)), (4, .int x4), (5, .int x5)] rfl ?_
          exact t_j_Sp_goesOn_95 hG hE d hd a1 n1 ha1 k17 hk17 (fun z0 z1 z2 z3 Pz => l_Sp_goesOn_32 a1 n1 k17 n z0 z1 z2 z3 Pz) (fun z0 z1 z2 z3 Pz q => ih z0 z1 z2 z3 Pz q) x2 (1 : Int32) x4 x5 (u1 P a1 x5.toNatClampNeg v5) h
theorem t_l_Sp_goesOn_17 {G : GX} (hG : GOK G) {E : EV} (hE : E0 E) (d : Nat) (hd : 3 ≤ d) {Q : QT} (a1 : Nat) (n1 : Nat) (ha1 : sh a1 = .inr (0, n1)) : ∀ (n : Nat) (x2 : Int32) (x3 : Int32) (x4 : Int32) (P : PM), St E rIP (l_Sp_goesOn_17 a1 n1 n x2 x3 x4 P) Q → Go G c_Sp_goesOn "YawnRoute$Spreading" 7 (some .boolean) false d nOb nOb Q 17 [(0, .ref (ad E 65)), (1, .ref (ad E a1)), (2, .int x2), (3, .int x3), (4, .int x4)] [] P E := by
  intro n
  induction n with
  | zero =>
    intro x2 x3 x4 P h
    rw [l_Sp_goesOn_17] at h
    exact St.none_ h
  | succ n ih =>
    intro x2 x3 x4 P h
    rw [l_Sp_goesOn_17] at h
    refine Go.iload (i := 4) 4 (by decide +kernel) rfl ?_
    refine Go.aload_n (k := 0) (i := 0) 0 (by decide +kernel) rfl rfl ?_
    refine Go.get 65 0 (.ref (ad E 14)) (by decide) (by decide) sh65 (ltO hE sh65) (vlR hE rfl rfl) lk343 (by decide +kernel) ?_
    refine Go.get 14 0 (.int (P.1 14 0)) (by decide) (by decide) sh14 (ltO hE sh14) rfl lk90 (by decide +kernel) ?_
    refine Go.icmp_ge (off := 81) 107 (by decide +kernel) (by decide) (fun c1 => ?_) (fun c1 => ?_)
    · rw [if_pos c1] at h
      refine Go.iload_n (k := 3) (i := 3) 3 (by decide +kernel) rfl rfl ?_
      obtain ⟨b2, h⟩ := St.ck h
      exact Go.iret rfl (isz_b b2).1 hE.2 (by decide +kernel) (St.fIP h)
    · rw [if_neg c1] at h
      refine Go.iconst (n := 0) (0 : Int32) (by decide +kernel) rfl ?_
      refine Go.istore (i := 5) [(5, .int (0 : Int32)), (0, .ref (ad E 65)), (1, .ref (ad E a1)), (2, .int x2), (3, .int x3), (4, .int x4)] (by decide +kernel) (by decide) rfl ?_
      refine Go.sub [1, 2, 3, 4, 5, 0] [(0, .ref (ad E 65)), (1, .ref (ad E a1)), (2, .int x2), (3, .int x3), (4, .int x4), (5, .int (0 : Int32))] rfl ?_
      exact t_l_Sp_goesOn_32 hG hE d hd a1 n1 ha1 (fun z0 z1 z2 Pz => l_Sp_goesOn_17 a1 n1 n z0 z1 z2 Pz) (fun z0 z1 z2 Pz q => ih z0 z1 z2 Pz q) FU x2 x3 x4 (0 : Int32) P h
theorem t_f_Sp_goesOn {G : GX} (hG : GOK G) {E : EV} (hE : E0 E) (d : Nat) (hd : 3 ≤ d) {Q : QT} (a1 : Nat) (n1 : Nat) (ha1 : sh a1 = .inr (0, n1)) (a2 : Int32) (P : PM) (h : St E rIP (f_Sp_goesOn a1 n1 a2 P) Q) : Go G c_Sp_goesOn "YawnRoute$Spreading" 7 (some .boolean) false d nOb nOb Q 0 [(0, .ref (ad E 65)), (1, .ref (ad E a1)), (2, .int a2)] [] P E := by
  rw [f_Sp_goesOn] at h
  refine Go.iconst (n := 0) (0 : Int32) (by decide +kernel) rfl ?_
  refine Go.istore_n (k := 3) (i := 3) [(3, .int (0 : Int32)), (0, .ref (ad E 65)), (1, .ref (ad E a1)), (2, .int a2)] (by decide +kernel) rfl (by decide) rfl ?_
  refine Go.aload_n (k := 1) (i := 1) 2 (by decide +kernel) rfl rfl ?_
  refine Go.iconst (n := 0) (0 : Int32) (by decide +kernel) rfl ?_
  refine Go.aload_n (k := 0) (i := 0) 1 (by decide +kernel) rfl rfl ?_
  refine Go.get 65 5 (.ref (ad E 68)) (by decide) (by decide) sh65 (ltO hE sh65) (vlR hE rfl rfl) lk348 (by decide +kernel) ?_
  refine Go.iconst (n := 0) (0 : Int32) (by decide +kernel) rfl ?_
  refine Go.bipush (n := 7) (7 : Int32) (by decide +kernel) (by decide) ?_
  obtain ⟨b1, h⟩ := St.ck h
  refine Go.copy a1 68 n1 7 ha1 sh68 (ltA hE ha1 (by decide)) (ltA hE sh68 (by decide)) lk1101 (by decide) (by decide) (by decide) (by have q := of_decide_eq_true b1; exact q) (by decide) (by omega) (Nat.le_of_ble_eq_true rfl) (by decide +kernel) ?_
  refine Go.iconst (n := 0) (0 : Int32) (by decide +kernel) rfl ?_
  refine Go.istore (i := 4) [(4, .int (0 : Int32)), (3, .int (0 : Int32)), (0, .ref (ad E 65)), (1, .ref (ad E a1)), (2, .int a2)] (by decide +kernel) (by decide) rfl ?_
  refine Go.sub [2, 3, 4, 1, 0] [(0, .ref (ad E 65)), (1, .ref (ad E a1)), (2, .int a2), (3, .int (0 : Int32)), (4, .int (0 : Int32))] rfl ?_
  exact t_l_Sp_goesOn_17 hG hE d hd a1 n1 ha1 FU a2 (0 : Int32) (0 : Int32) (uc P a1 (0 : Int32).toNatClampNeg 68 (0 : Int32).toNatClampNeg (7 : Int32).toNatClampNeg) h
theorem e_Sp_goesOn {G : GX} (hG : GOK G) {E : EV} (hE : E0 E) (d : Nat) (hd : 3 ≤ d) (a1 : Nat) (n1 : Nat) (ha1 : sh a1 = .inr (0, n1)) (a2 : Int32) (P : PM) {Q : QT} (h : St E rIP (f_Sp_goesOn a1 n1 a2 P) Q) : Con G y_Sp_goesOn cw_Sp_goesOn d nOb nOb [.ref (ad E 65), .ref (ad E a1), .int a2] P E Q :=
  Con.of hG (by decide +kernel) rfl (fun h => by cases h) hE.2 (Nat.le_of_ble_eq_true rfl) (t_f_Sp_goesOn hG hE d hd a1 n1 ha1 a2 P h)
