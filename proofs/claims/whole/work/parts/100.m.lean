/-! methods as functions, by program: Ta_addFour Yr_feed Ja_fill_AII Ne_clear Ta_fail Ta_byteAt Ta_isBlank Ta_isDigit Ta_isLetter Ta_readNumber -/
abbrev c_Ta_addFour : ByteArray := prog_11_method_2_code
abbrev y_Ta_addFour : MethodName := ⟨"YawnRoute$Tape", "addFour", "(I)V"⟩
abbrev cw_Ta_addFour : Cond := .code y_Ta_addFour c_Ta_addFour 3 none
theorem w_Ta_addFour : VW 9 y_Ta_addFour c_Ta_addFour 3 none 1 := ⟨by decide, lk436, lk437, lk2, lk438, ⟨by decide, by decide, by decide +kernel⟩, by decide⟩
noncomputable def l_Ta_addFour_3 : Nat → Int32 → Int32 → PM → Option PM
  | 0, _, _, _ => none
  | n + 1, x1, x2, P => if x2 < (0 : Int32) then (some P) else (if (900 : Int32) ≤ (P.1 1 1) then (some P) else (ck (inb (P.1 1 1) 900) (l_Ta_addFour_3 n x1 (x2 + (-8 : Int32)) (u1 (u1 P 2 (P.1 1 1).toNatClampNeg (vp_nar .byte (((x1.toUInt32 >>> (x2.toUInt32 &&& Int32.toUInt32 31)).toInt32).toInt8.toInt32))) 1 1 (((u1 P 2 (P.1 1 1).toNatClampNeg (vp_nar .byte (((x1.toUInt32 >>> (x2.toUInt32 &&& Int32.toUInt32 31)).toInt32).toInt8.toInt32))).1 1 1) + (1 : Int32))))))
noncomputable def f_Ta_addFour (a1 : Int32) (P : PM) : Option PM := l_Ta_addFour_3 FU a1 (24 : Int32) P
theorem t_l_Ta_addFour_3 {G : GX} (hG : GOK G) {E : EV} (hE : E0 E) (d : Nat) (hd : 1 ≤ d) {Q : QT} : ∀ (n : Nat) (x1 : Int32) (x2 : Int32) (P : PM), St E rP (l_Ta_addFour_3 n x1 x2 P) Q → Go G c_Ta_addFour "YawnRoute$Tape" 3 none false d nOb nOb Q 3 [(0, .ref (ad E 1)), (1, .int x1), (2, .int x2)] [] P E := by
  intro n
  induction n with
  | zero =>
    intro x1 x2 P h
    rw [l_Ta_addFour_3] at h
    exact St.none_ h
  | succ n ih =>
    intro x1 x2 P h
    rw [l_Ta_addFour_3] at h
    refine Go.iload_n (k := 2) (i := 2) 2 (by decide +kernel) rfl rfl ?_
    refine Go.if_lt (off := 42) 46 (by decide +kernel) (by decide) (fun c1 => ?_) (fun c1 => ?_)
    · rw [if_pos c1] at h
      exact Go.vret rfl hE.2 (by decide +kernel) (St.fP h)
    · rw [if_neg c1] at h
      refine Go.aload_n (k := 0) (i := 0) 0 (by decide +kernel) rfl rfl ?_
      refine Go.get 1 1 (.int (P.1 1 1)) (by decide) (by decide) sh1 (ltO hE sh1) rfl lk39 (by decide +kernel) ?_
      refine Go.sipush (n := 900) (900 : Int32) (by decide +kernel) (by decide) ?_
      refine Go.icmp_ge (off := 32) 46 (by decide +kernel) (by decide) (fun c2 => ?_) (fun c2 => ?_)
      · rw [if_pos c2] at h
        exact Go.vret rfl hE.2 (by decide +kernel) (St.fP h)
      · rw [if_neg c2] at h
        refine Go.aload_n (k := 0) (i := 0) 0 (by decide +kernel) rfl rfl ?_
        refine Go.get 1 0 (.ref (ad E 2)) (by decide) (by decide) sh1 (ltO hE sh1) (vlR hE rfl rfl) lk37 (by decide +kernel) ?_
        refine Go.aload_n (k := 0) (i := 0) 0 (by decide +kernel) rfl rfl ?_
        refine Go.get 1 1 (.int (P.1 1 1)) (by decide) (by decide) sh1 (ltO hE sh1) rfl lk39 (by decide +kernel) ?_
        refine Go.iload_n (k := 1) (i := 1) 1 (by decide +kernel) rfl rfl ?_
        refine Go.iload_n (k := 2) (i := 2) 2 (by decide +kernel) rfl rfl ?_
        refine Go.iushr (by decide +kernel) ?_
        refine Go.i2b (by decide +kernel) ?_
        obtain ⟨b3, h⟩ := St.ck h
        refine Go.bastore 2 900 sh2 (ltA hE sh2 (by decide)) (inb_in b3) (by decide +kernel) ?_
        refine Go.aload_n (k := 0) (i := 0) 0 (by decide +kernel) rfl rfl ?_
        refine Go.dup (by decide +kernel) rfl ?_
        refine Go.get 1 1 (.int ((u1 P 2 (P.1 1 1).toNatClampNeg (vp_nar .byte (((x1.toUInt32 >>> (x2.toUInt32 &&& Int32.toUInt32 31)).toInt32).toInt8.toInt32))).1 1 1)) (by decide) (by decide) sh1 (ltO hE sh1) rfl lk39 (by decide +kernel) ?_
        refine Go.iconst (n := 1) (1 : Int32) (by decide +kernel) rfl ?_
        refine Go.iadd (by decide +kernel) ?_
        refine Go.put 1 1 (by decide) (by decide) sh1 (ltO hE sh1) (Or.inl rfl) rfl rfl rfl lk39 (by decide +kernel) ?_
        refine Go.iinc (i := 2) (n := -8) 2 (x2 + (-8 : Int32)) [(2, .int (x2 + (-8 : Int32))), (0, .ref (ad E 1)), (1, .int x1)] (by decide +kernel) rfl rfl (by decide) rfl ?_
        refine Go.goto (off := -40) 3 (by decide +kernel) (by decide) ?_
        refine Go.sub [1, 2, 0] [(0, .ref (ad E 1)), (1, .int x1), (2, .int (x2 + (-8 : Int32)))] rfl ?_
        exact ih x1 (x2 + (-8 : Int32)) (u1 (u1 P 2 (P.1 1 1).toNatClampNeg (vp_nar .byte (((x1.toUInt32 >>> (x2.toUInt32 &&& Int32.toUInt32 31)).toInt32).toInt8.toInt32))) 1 1 (((u1 P 2 (P.1 1 1).toNatClampNeg (vp_nar .byte (((x1.toUInt32 >>> (x2.toUInt32 &&& Int32.toUInt32 31)).toInt32).toInt8.toInt32))).1 1 1) + (1 : Int32))) h
theorem t_f_Ta_addFour {G : GX} (hG : GOK G) {E : EV} (hE : E0 E) (d : Nat) (hd : 1 ≤ d) {Q : QT} (a1 : Int32) (P : PM) (h : St E rP (f_Ta_addFour a1 P) Q) : Go G c_Ta_addFour "YawnRoute$Tape" 3 none false d nOb nOb Q 0 [(0, .ref (ad E 1)), (1, .int a1)] [] P E := by
  rw [f_Ta_addFour] at h
  refine Go.bipush (n := 24) (24 : Int32) (by decide +kernel) (by decide) ?_
  refine Go.istore_n (k := 2) (i := 2) [(2, .int (24 : Int32)), (0, .ref (ad E 1)), (1, .int a1)] (by decide +kernel) rfl (by decide) rfl ?_
  refine Go.sub [1, 2, 0] [(0, .ref (ad E 1)), (1, .int a1), (2, .int (24 : Int32))] rfl ?_
  exact t_l_Ta_addFour_3 hG hE d hd FU a1 (24 : Int32) P h
theorem e_Ta_addFour {G : GX} (hG : GOK G) {E : EV} (hE : E0 E) (d : Nat) (hd : 1 ≤ d) (a1 : Int32) (P : PM) {Q : QT} (h : St E rP (f_Ta_addFour a1 P) Q) : Con G y_Ta_addFour cw_Ta_addFour d nOb nOb [.ref (ad E 1), .int a1] P E Q :=
  Con.of hG (by decide +kernel) rfl (fun h => by cases h) hE.2 (Nat.le_of_ble_eq_true rfl) (t_f_Ta_addFour hG hE d hd a1 P h)
abbrev c_Yr_feed : ByteArray := prog_1_method_2_code
abbrev y_Yr_feed : MethodName := ⟨"YawnRoute", "feed", "(IIIII)I"⟩
abbrev cw_Yr_feed : Cond := .code y_Yr_feed c_Yr_feed 6 (some .int)
theorem w_Yr_feed : VW 11 y_Yr_feed c_Yr_feed 6 (some .int) 5 := ⟨by decide, lk432, lk433, lk1, lk434, ⟨by decide, by decide, by decide +kernel⟩, by decide⟩
noncomputable def f_Yr_feed (a1 : Int32) (a2 : Int32) (a3 : Int32) (a4 : Int32) (a5 : Int32) (P : PM) : Option (Int32 × PM) := if ((P.1 1 1) + (20 : Int32)) ≤ (900 : Int32) then ((f_Ta_addFour a1 P).bind (fun P2 => (f_Ta_addFour a2 P2).bind (fun P3 => (f_Ta_addFour a3 P3).bind (fun P4 => (f_Ta_addFour a4 P4).bind (fun P5 => (f_Ta_addFour a5 P5).bind (fun P6 => some ((P6.1 1 1), P6))))))) else (some ((-5 : Int32), P))
theorem t_f_Yr_feed {G : GX} (hG : GOK G) {E : EV} (hE : E0 E) (d : Nat) (hd : 2 ≤ d) {Q : QT} (a1 : Int32) (a2 : Int32) (a3 : Int32) (a4 : Int32) (a5 : Int32) (P : PM) (h : St E rIP (f_Yr_feed a1 a2 a3 a4 a5 P) Q) : Go G c_Yr_feed "YawnRoute" 6 (some .int) false d nOb nOb Q 0 [(0, .ref (ad E 0)), (1, .int a1), (2, .int a2), (3, .int a3), (4, .int a4), (5, .int a5)] [] P E := by
  rw [f_Yr_feed] at h
  refine Go.aload_n (k := 0) (i := 0) 0 (by decide +kernel) rfl rfl ?_
  refine Go.get 0 0 (.ref (ad E 1)) (by decide) (by decide) sh0 (ltO hE sh0) (vlR hE rfl rfl) lk390 (by decide +kernel) ?_
  refine Go.get 1 1 (.int (P.1 1 1)) (by decide) (by decide) sh1 (ltO hE sh1) rfl lk38 (by decide +kernel) ?_
  refine Go.bipush (n := 20) (20 : Int32) (by decide +kernel) (by decide) ?_
  refine Go.iadd (by decide +kernel) ?_
  refine Go.sipush (n := 900) (900 : Int32) (by decide +kernel) (by decide) ?_
  refine Go.icmp_le (off := 6) 19 (by decide +kernel) (by decide) (fun c1 => ?_) (fun c1 => ?_)
  · rw [if_pos c1] at h
    refine Go.aload_n (k := 0) (i := 0) 0 (by decide +kernel) rfl rfl ?_
    refine Go.get 0 0 (.ref (ad E 1)) (by decide) (by decide) sh0 (ltO hE sh0) (vlR hE rfl rfl) lk390 (by decide +kernel) ?_
    refine Go.iload_n (k := 1) (i := 1) 1 (by decide +kernel) rfl rfl ?_
    obtain ⟨P2, hP2, h⟩ := St.bind h
    refine Go.cV_v (P1 := P2) (d - 1) 1 [.int a1] sh1 hE w_Ta_addFour (e_Ta_addFour hG hE (d - 1) (by omega) a1 P ⟨_, hP2, rfl, rfl, rfl⟩) lk435 rfl (by omega) (Nat.le_of_ble_eq_true rfl) (by decide +kernel) _ rfl ?_
    refine Go.aload_n (k := 0) (i := 0) 0 (by decide +kernel) rfl rfl ?_
    refine Go.get 0 0 (.ref (ad E 1)) (by decide) (by decide) sh0 (ltO hE sh0) (vlR hE rfl rfl) lk390 (by decide +kernel) ?_
    refine Go.iload_n (k := 2) (i := 2) 2 (by decide +kernel) rfl rfl ?_
    obtain ⟨P3, hP3, h⟩ := St.bind h
    refine Go.cV_v (P1 := P3) (d - 1) 1 [.int a2] sh1 hE w_Ta_addFour (e_Ta_addFour hG hE (d - 1) (by omega) a2 P2 ⟨_, hP3, rfl, rfl, rfl⟩) lk435 rfl (by omega) (Nat.le_of_ble_eq_true rfl) (by decide +kernel) _ rfl ?_
    refine Go.aload_n (k := 0) (i := 0) 0 (by decide +kernel) rfl rfl ?_
    refine Go.get 0 0 (.ref (ad E 1)) (by decide) (by decide) sh0 (ltO hE sh0) (vlR hE rfl rfl) lk390 (by decide +kernel) ?_
    refine Go.iload_n (k := 3) (i := 3) 3 (by decide +kernel) rfl rfl ?_
    obtain ⟨P4, hP4, h⟩ := St.bind h
    refine Go.cV_v (P1 := P4) (d - 1) 1 [.int a3] sh1 hE w_Ta_addFour (e_Ta_addFour hG hE (d - 1) (by omega) a3 P3 ⟨_, hP4, rfl, rfl, rfl⟩) lk435 rfl (by omega) (Nat.le_of_ble_eq_true rfl) (by decide +kernel) _ rfl ?_
    refine Go.aload_n (k := 0) (i := 0) 0 (by decide +kernel) rfl rfl ?_
    refine Go.get 0 0 (.ref (ad E 1)) (by decide) (by decide) sh0 (ltO hE sh0) (vlR hE rfl rfl) lk390 (by decide +kernel) ?_
    refine Go.iload (i := 4) 4 (by decide +kernel) rfl ?_
    obtain ⟨P5, hP5, h⟩ := St.bind h
    refine Go.cV_v (P1 := P5) (d - 1) 1 [.int a4] sh1 hE w_Ta_addFour (e_Ta_addFour hG hE (d - 1) (by omega) a4 P4 ⟨_, hP5, rfl, rfl, rfl⟩) lk435 rfl (by omega) (Nat.le_of_ble_eq_true rfl) (by decide +kernel) _ rfl ?_
    refine Go.aload_n (k := 0) (i := 0) 0 (by decide +kernel) rfl rfl ?_
    refine Go.get 0 0 (.ref (ad E 1)) (by decide) (by decide) sh0 (ltO hE sh0) (vlR hE rfl rfl) lk390 (by decide +kernel) ?_
    refine Go.iload (i := 5) 5 (by decide +kernel) rfl ?_
    obtain ⟨P6, hP6, h⟩ := St.bind h
    refine Go.cV_v (P1 := P6) (d - 1) 1 [.int a5] sh1 hE w_Ta_addFour (e_Ta_addFour hG hE (d - 1) (by omega) a5 P5 ⟨_, hP6, rfl, rfl, rfl⟩) lk435 rfl (by omega) (Nat.le_of_ble_eq_true rfl) (by decide +kernel) _ rfl ?_
    refine Go.aload_n (k := 0) (i := 0) 0 (by decide +kernel) rfl rfl ?_
    refine Go.get 0 0 (.ref (ad E 1)) (by decide) (by decide) sh0 (ltO hE sh0) (vlR hE rfl rfl) lk390 (by decide +kernel) ?_
    refine Go.get 1 1 (.int (P6.1 1 1)) (by decide) (by decide) sh1 (ltO hE sh1) rfl lk38 (by decide +kernel) ?_
    exact Go.iret rfl rfl hE.2 (by decide +kernel) (St.fIP h)
  · rw [if_neg c1] at h
    refine Go.bipush (n := -5) (-5 : Int32) (by decide +kernel) (by decide) ?_
    exact Go.iret rfl rfl hE.2 (by decide +kernel) (St.fIP h)
theorem e_Yr_feed {G : GX} (hG : GOK G) {E : EV} (hE : E0 E) (d : Nat) (hd : 2 ≤ d) (a1 : Int32) (a2 : Int32) (a3 : Int32) (a4 : Int32) (a5 : Int32) (P : PM) {Q : QT} (h : St E rIP (f_Yr_feed a1 a2 a3 a4 a5 P) Q) : Con G y_Yr_feed cw_Yr_feed d nOb nOb [.ref (ad E 0), .int a1, .int a2, .int a3, .int a4, .int a5] P E Q :=
  Con.of hG (by decide +kernel) rfl (fun h => by cases h) hE.2 (Nat.le_of_ble_eq_true rfl) (t_f_Yr_feed hG hE d hd a1 a2 a3 a4 a5 P h)
abbrev c_Ja_fill_AII : ByteArray := prog_22_method_103_code
abbrev y_Ja_fill_AII : MethodName := ⟨"java/util/Arrays", "fill", "([II)V"⟩
abbrev cw_Ja_fill_AII : Cond := .code y_Ja_fill_AII c_Ja_fill_AII 4 none
theorem w_Ja_fill_AII : SW y_Ja_fill_AII c_Ja_fill_AII 4 none 2 := ⟨lk452, lk10, lk453, ⟨by decide, by decide, by decide +kernel⟩, by decide⟩
noncomputable def l_Ja_fill_AII_5 (a0 : Nat) (n0 : Nat) : Nat → Int32 → Int32 → Int32 → PM → Option PM
  | 0, _, _, _, _ => none
  | n + 1, x1, x2, x3, P => if x3 ≤ x2 then (some P) else (ck (inb x2 n0) (l_Ja_fill_AII_5 a0 n0 n x1 (x2 + (1 : Int32)) x3 (u1 P a0 x2.toNatClampNeg x1)))
noncomputable def f_Ja_fill_AII (a0 : Nat) (n0 : Nat) (a1 : Int32) (P : PM) : Option PM := lb (Int32.ofNat n0) (fun y1 => l_Ja_fill_AII_5 a0 n0 FU a1 (0 : Int32) y1 P)
theorem t_l_Ja_fill_AII_5 {G : GX} (hG : GOK G) {E : EV} (hE : E0 E) (d : Nat) (hd : 1 ≤ d) {Q : QT} (a0 : Nat) (n0 : Nat) (ha0 : sh a0 = .inr (0, n0)) : ∀ (n : Nat) (x1 : Int32) (x2 : Int32) (x3 : Int32) (P : PM), St E rP (l_Ja_fill_AII_5 a0 n0 n x1 x2 x3 P) Q → Go G c_Ja_fill_AII "java/util/Arrays" 4 none false d nOb nOb Q 5 [(0, .ref (ad E a0)), (1, .int x1), (2, .int x2), (3, .int x3)] [] P E := by
  intro n
  induction n with
  | zero =>
    intro x1 x2 x3 P h
    rw [l_Ja_fill_AII_5] at h
    exact St.none_ h
  | succ n ih =>
    intro x1 x2 x3 P h
    rw [l_Ja_fill_AII_5] at h
    refine Go.iload_n (k := 2) (i := 2) 2 (by decide +kernel) rfl rfl ?_
    refine Go.iload_n (k := 3) (i := 3) 3 (by decide +kernel) rfl rfl ?_
    refine Go.icmp_ge (off := 13) 20 (by decide +kernel) (by decide) (fun c1 => ?_) (fun c1 => ?_)
    · rw [if_pos c1] at h
      exact Go.vret rfl hE.2 (by decide +kernel) (St.fP h)
    · rw [if_neg c1] at h
      refine Go.aload_n (k := 0) (i := 0) 0 (by decide +kernel) rfl rfl ?_
      refine Go.iload_n (k := 2) (i := 2) 2 (by decide +kernel) rfl rfl ?_
      refine Go.iload_n (k := 1) (i := 1) 1 (by decide +kernel) rfl rfl ?_
      obtain ⟨b2, h⟩ := St.ck h
      refine Go.iastore a0 n0 ha0 (ltA hE ha0 (by decide)) (inb_in b2) (by decide +kernel) ?_
      refine Go.iinc (i := 2) (n := 1) 2 (x2 + (1 : Int32)) [(2, .int (x2 + (1 : Int32))), (0, .ref (ad E a0)), (1, .int x1), (3, .int x3)] (by decide +kernel) rfl rfl (by decide) rfl ?_
      refine Go.goto (off := -12) 5 (by decide +kernel) (by decide) ?_
      refine Go.sub [1, 2, 0, 3] [(0, .ref (ad E a0)), (1, .int x1), (2, .int (x2 + (1 : Int32))), (3, .int x3)] rfl ?_
      exact ih x1 (x2 + (1 : Int32)) x3 (u1 P a0 x2.toNatClampNeg x1) h
theorem t_f_Ja_fill_AII {G : GX} (hG : GOK G) {E : EV} (hE : E0 E) (d : Nat) (hd : 1 ≤ d) {Q : QT} (a0 : Nat) (n0 : Nat) (ha0 : sh a0 = .inr (0, n0)) (a1 : Int32) (P : PM) (h : St E rP (f_Ja_fill_AII a0 n0 a1 P) Q) : Go G c_Ja_fill_AII "java/util/Arrays" 4 none false d nOb nOb Q 0 [(0, .ref (ad E a0)), (1, .int a1)] [] P E := by
  rw [f_Ja_fill_AII] at h
  refine Go.iconst (n := 0) (0 : Int32) (by decide +kernel) rfl ?_
  refine Go.istore_n (k := 2) (i := 2) [(2, .int (0 : Int32)), (0, .ref (ad E a0)), (1, .int a1)] (by decide +kernel) rfl (by decide) rfl ?_
  refine Go.aload_n (k := 0) (i := 0) 1 (by decide +kernel) rfl rfl ?_
  refine Go.alen a0 0 n0 (Int32.ofNat n0) ha0 (by decide) (ltA hE ha0 (by decide)) rfl (by decide +kernel) ?_
  obtain ⟨y1, hy1, h⟩ := St.lb h
  refine Go.eqi y1 hy1 ?_
  refine Go.istore_n (k := 3) (i := 3) [(3, .int y1), (2, .int (0 : Int32)), (0, .ref (ad E a0)), (1, .int a1)] (by decide +kernel) rfl (by decide) rfl ?_
  refine Go.sub [2, 3, 1, 0] [(0, .ref (ad E a0)), (1, .int a1), (2, .int (0 : Int32)), (3, .int y1)] rfl ?_
  exact t_l_Ja_fill_AII_5 hG hE d hd a0 n0 ha0 FU a1 (0 : Int32) y1 P h
theorem e_Ja_fill_AII {G : GX} (hG : GOK G) {E : EV} (hE : E0 E) (d : Nat) (hd : 1 ≤ d) (a0 : Nat) (n0 : Nat) (ha0 : sh a0 = .inr (0, n0)) (a1 : Int32) (P : PM) {Q : QT} (h : St E rP (f_Ja_fill_AII a0 n0 a1 P) Q) : Con G y_Ja_fill_AII cw_Ja_fill_AII d nOb nOb [.ref (ad E a0), .int a1] P E Q :=
  Con.of hG (by decide +kernel) rfl (fun h => by cases h) hE.2 (Nat.le_of_ble_eq_true rfl) (t_f_Ja_fill_AII hG hE d hd a0 n0 ha0 a1 P h)
abbrev c_Ne_clear : ByteArray := prog_4_method_2_code
abbrev y_Ne_clear : MethodName := ⟨"YawnRoute$Net", "clear", "()V"⟩
abbrev cw_Ne_clear : Cond := .code y_Ne_clear c_Ne_clear 1 none
theorem w_Ne_clear : VW 2 y_Ne_clear c_Ne_clear 1 none 0 := ⟨by decide, lk448, lk449, lk4, lk450, ⟨by decide, by decide, by decide +kernel⟩, by decide⟩
noncomputable def f_Ne_clear (this : Nat) (P : PM) : Option PM := (f_Ja_fill_AII (this + 1) 7 (0 : Int32) (u1 (u1 (u1 (u1 (u1 (u1 (u1 P this 0 (0 : Int32)) this 1 (0 : Int32)) this 6 (0 : Int32)) this 7 (0 : Int32)) this 8 (0 : Int32)) this 9 (0 : Int32)) this 10 (0 : Int32))).bind (fun P1 => (f_Ja_fill_AII (this + 2) 49 (0 : Int32) P1).bind (fun P2 => (f_Ja_fill_AII (this + 3) 49 (0 : Int32) P2).bind (fun P3 => some P3)))
theorem t_f_Ne_clear {G : GX} (hG : GOK G) {E : EV} (hE : E0 E) (d : Nat) (hd : 2 ≤ d) {Q : QT} (this : Nat) (hthis : sh this = .inl 2) (P : PM) (h : St E rP (f_Ne_clear this P) Q) : Go G c_Ne_clear "YawnRoute$Net" 1 none false d nOb nOb Q 0 [(0, .ref (ad E this))] [] P E := by
  rw [f_Ne_clear] at h
  refine Go.aload_n (k := 0) (i := 0) 0 (by decide +kernel) rfl rfl ?_
  refine Go.iconst (n := 0) (0 : Int32) (by decide +kernel) rfl ?_
  refine Go.put this 0 (by decide) (by decide) hthis (ltO hE hthis) (Or.inl rfl) rfl rfl rfl lk86 (by decide +kernel) ?_
  refine Go.aload_n (k := 0) (i := 0) 0 (by decide +kernel) rfl rfl ?_
  refine Go.iconst (n := 0) (0 : Int32) (by decide +kernel) rfl ?_
  refine Go.put this 1 (by decide) (by decide) hthis (ltO hE hthis) (Or.inl rfl) rfl rfl rfl lk94 (by decide +kernel) ?_
  refine Go.aload_n (k := 0) (i := 0) 0 (by decide +kernel) rfl rfl ?_
  refine Go.iconst (n := 0) (0 : Int32) (by decide +kernel) rfl ?_
  refine Go.put this 6 (by decide) (by decide) hthis (ltO hE hthis) (Or.inl rfl) rfl rfl rfl lk103 (by decide +kernel) ?_
  refine Go.aload_n (k := 0) (i := 0) 0 (by decide +kernel) rfl rfl ?_
  refine Go.iconst (n := 0) (0 : Int32) (by decide +kernel) rfl ?_
  refine Go.put this 7 (by decide) (by decide) hthis (ltO hE hthis) (Or.inl rfl) rfl rfl rfl lk105 (by decide +kernel) ?_
  refine Go.aload_n (k := 0) (i := 0) 0 (by decide +kernel) rfl rfl ?_
  refine Go.iconst (n := 0) (0 : Int32) (by decide +kernel) rfl ?_
  refine Go.put this 8 (by decide) (by decide) hthis (ltO hE hthis) (Or.inl rfl) rfl rfl rfl lk107 (by decide +kernel) ?_
  refine Go.aload_n (k := 0) (i := 0) 0 (by decide +kernel) rfl rfl ?_
  refine Go.iconst (n := 0) (0 : Int32) (by decide +kernel) rfl ?_
  refine Go.put this 9 (by decide) (by decide) hthis (ltO hE hthis) (Or.inl rfl) rfl rfl rfl lk109 (by decide +kernel) ?_
  refine Go.aload_n (k := 0) (i := 0) 0 (by decide +kernel) rfl rfl ?_
  refine Go.iconst (n := 0) (0 : Int32) (by decide +kernel) rfl ?_
  refine Go.put this 10 (by decide) (by decide) hthis (ltO hE hthis) (Or.inl rfl) rfl rfl rfl lk111 (by decide +kernel) ?_
  refine Go.aload_n (k := 0) (i := 0) 0 (by decide +kernel) rfl rfl ?_
  refine Go.get this 2 (.ref (ad E (this + 1))) (by decide) (by decide) hthis (ltO hE hthis) (vlR hE rfl (rfNe_2 hthis)) lk97 (by decide +kernel) ?_
  refine Go.iconst (n := 0) (0 : Int32) (by decide +kernel) rfl ?_
  obtain ⟨P1, hP1, h⟩ := St.bind h
  refine Go.cS_v (P1 := P1) (d - 1) [.ref (ad E (this + 1)), .int (0 : Int32)] hE w_Ja_fill_AII (e_Ja_fill_AII hG hE (d - 1) (by omega) (this + 1) 7 (shNe_2 hthis) (0 : Int32) (u1 (u1 (u1 (u1 (u1 (u1 (u1 P this 0 (0 : Int32)) this 1 (0 : Int32)) this 6 (0 : Int32)) this 7 (0 : Int32)) this 8 (0 : Int32)) this 9 (0 : Int32)) this 10 (0 : Int32)) ⟨_, hP1, rfl, rfl, rfl⟩) lk451 rfl (by omega) (Nat.le_of_ble_eq_true rfl) (by decide +kernel) _ rfl ?_
  refine Go.aload_n (k := 0) (i := 0) 0 (by decide +kernel) rfl rfl ?_
  refine Go.get this 3 (.ref (ad E (this + 2))) (by decide) (by decide) hthis (ltO hE hthis) (vlR hE rfl (rfNe_3 hthis)) lk100 (by decide +kernel) ?_
  refine Go.iconst (n := 0) (0 : Int32) (by decide +kernel) rfl ?_
  obtain ⟨P2, hP2, h⟩ := St.bind h
  refine Go.cS_v (P1 := P2) (d - 1) [.ref (ad E (this + 2)), .int (0 : Int32)] hE w_Ja_fill_AII (e_Ja_fill_AII hG hE (d - 1) (by omega) (this + 2) 49 (shNe_3 hthis) (0 : Int32) P1 ⟨_, hP2, rfl, rfl, rfl⟩) lk451 rfl (by omega) (Nat.le_of_ble_eq_true rfl) (by decide +kernel) _ rfl ?_
  refine Go.aload_n (k := 0) (i := 0) 0 (by decide +kernel) rfl rfl ?_
  refine Go.get this 4 (.ref (ad E (this + 3))) (by decide) (by decide) hthis (ltO hE hthis) (vlR hE rfl (rfNe_4 hthis)) lk101 (by decide +kernel) ?_
  refine Go.iconst (n := 0) (0 : Int32) (by decide +kernel) rfl ?_
  obtain ⟨P3, hP3, h⟩ := St.bind h
  refine Go.cS_v (P1 := P3) (d - 1) [.ref (ad E (this + 3)), .int (0 : Int32)] hE w_Ja_fill_AII (e_Ja_fill_AII hG hE (d - 1) (by omega) (this + 3) 49 (shNe_4 hthis) (0 : Int32) P2 ⟨_, hP3, rfl, rfl, rfl⟩) lk451 rfl (by omega) (Nat.le_of_ble_eq_true rfl) (by decide +kernel) _ rfl ?_
  exact Go.vret rfl hE.2 (by decide +kernel) (St.fP h)
theorem e_Ne_clear {G : GX} (hG : GOK G) {E : EV} (hE : E0 E) (d : Nat) (hd : 2 ≤ d) (this : Nat) (hthis : sh this = .inl 2) (P : PM) {Q : QT} (h : St E rP (f_Ne_clear this P) Q) : Con G y_Ne_clear cw_Ne_clear d nOb nOb [.ref (ad E this)] P E Q :=
  Con.of hG (by decide +kernel) rfl (fun h => by cases h) hE.2 (Nat.le_of_ble_eq_true rfl) (t_f_Ne_clear hG hE d hd this hthis P h)
abbrev c_Ta_fail : ByteArray := prog_11_method_4_code
abbrev y_Ta_fail : MethodName := ⟨"YawnRoute$Tape", "fail", "(I)V"⟩
abbrev cw_Ta_fail : Cond := .code y_Ta_fail c_Ta_fail 2 none
theorem w_Ta_fail : VW 9 y_Ta_fail c_Ta_fail 2 none 1 := ⟨by decide, lk485, lk486, lk2, lk487, ⟨by decide, by decide, by decide +kernel⟩, by decide⟩
noncomputable def j_Ta_fail_20 (P : PM) : Option PM := some (u1 P 1 5 (0 : Int32))
noncomputable def f_Ta_fail (a1 : Int32) (P : PM) : Option PM := if (P.1 1 7) = (0 : Int32) then (j_Ta_fail_20 (u1 (u1 P 1 7 a1) 1 8 ((u1 P 1 7 a1).1 1 4))) else (j_Ta_fail_20 P)
theorem t_j_Ta_fail_20 {G : GX} (hG : GOK G) {E : EV} (hE : E0 E) (d : Nat) (hd : 1 ≤ d) {Q : QT} (P : PM) (h : St E rP (j_Ta_fail_20 P) Q) : Go G c_Ta_fail "YawnRoute$Tape" 2 none false d nOb nOb Q 20 [(0, .ref (ad E 1))] [] P E := by
  rw [j_Ta_fail_20] at h
  refine Go.aload_n (k := 0) (i := 0) 0 (by decide +kernel) rfl rfl ?_
  refine Go.iconst (n := 0) (0 : Int32) (by decide +kernel) rfl ?_
  refine Go.put 1 5 (by decide) (by decide) sh1 (ltO hE sh1) (Or.inl rfl) rfl rfl rfl lk45 (by decide +kernel) ?_
  exact Go.vret rfl hE.2 (by decide +kernel) (St.fP h)
theorem t_f_Ta_fail {G : GX} (hG : GOK G) {E : EV} (hE : E0 E) (d : Nat) (hd : 1 ≤ d) {Q : QT} (a1 : Int32) (P : PM) (h : St E rP (f_Ta_fail a1 P) Q) : Go G c_Ta_fail "YawnRoute$Tape" 2 none false d nOb nOb Q 0 [(0, .ref (ad E 1)), (1, .int a1)] [] P E := by
  rw [f_Ta_fail] at h
  refine Go.aload_n (k := 0) (i := 0) 0 (by decide +kernel) rfl rfl ?_
  refine Go.get 1 7 (.int (P.1 1 7)) (by decide) (by decide) sh1 (ltO hE sh1) rfl lk50 (by decide +kernel) ?_
  refine Go.if_ne (off := 16) 20 (by decide +kernel) (by decide) (fun c1 => ?_) (fun c1 => ?_)
  · rw [if_neg c1] at h
    refine Go.sub [0] [(0, .ref (ad E 1))] rfl ?_
    exact t_j_Ta_fail_20 hG hE d hd P h
  · rw [if_pos c1] at h
    refine Go.aload_n (k := 0) (i := 0) 0 (by decide +kernel) rfl rfl ?_
    refine Go.iload_n (k := 1) (i := 1) 1 (by decide +kernel) rfl rfl ?_
    refine Go.put 1 7 (by decide) (by decide) sh1 (ltO hE sh1) (Or.inl rfl) rfl rfl rfl lk50 (by decide +kernel) ?_
    refine Go.aload_n (k := 0) (i := 0) 0 (by decide +kernel) rfl rfl ?_
    refine Go.aload_n (k := 0) (i := 0) 0 (by decide +kernel) rfl rfl ?_
    refine Go.get 1 4 (.int ((u1 P 1 7 a1).1 1 4)) (by decide) (by decide) sh1 (ltO hE sh1) rfl lk42 (by decide +kernel) ?_
    refine Go.put 1 8 (by decide) (by decide) sh1 (ltO hE sh1) (Or.inl rfl) rfl rfl rfl lk52 (by decide +kernel) ?_
    refine Go.sub [0] [(0, .ref (ad E 1))] rfl ?_
    exact t_j_Ta_fail_20 hG hE d hd (u1 (u1 P 1 7 a1) 1 8 ((u1 P 1 7 a1).1 1 4)) h
theorem e_Ta_fail {G : GX} (hG : GOK G) {E : EV} (hE : E0 E) (d : Nat) (hd : 1 ≤ d) (a1 : Int32) (P : PM) {Q : QT} (h : St E rP (f_Ta_fail a1 P) Q) : Con G y_Ta_fail cw_Ta_fail d nOb nOb [.ref (ad E 1), .int a1] P E Q :=
  Con.of hG (by decide +kernel) rfl (fun h => by cases h) hE.2 (Nat.le_of_ble_eq_true rfl) (t_f_Ta_fail hG hE d hd a1 P h)
abbrev c_Ta_byteAt : ByteArray := prog_11_method_10_code
abbrev y_Ta_byteAt : MethodName := ⟨"YawnRoute$Tape", "byteAt", "(I)I"⟩
abbrev cw_Ta_byteAt : Cond := .code y_Ta_byteAt c_Ta_byteAt 2 (some .int)
theorem w_Ta_byteAt : VW 9 y_Ta_byteAt c_Ta_byteAt 2 (some .int) 1 := ⟨by decide, lk472, lp0_, lk2, lk473, ⟨by decide, by decide, by decide +kernel⟩, by decide⟩
noncomputable def j_Ta_byteAt_34 (P : PM) : Option Int32 := some (-1 : Int32)
noncomputable def f_Ta_byteAt (a1 : Int32) (P : PM) : Option Int32 := if a1 < (0 : Int32) then (j_Ta_byteAt_34 P) else (if (P.1 1 2) ≤ a1 then (j_Ta_byteAt_34 P) else (if (900 : Int32) ≤ a1 then (j_Ta_byteAt_34 P) else (ck (inb a1 900) (some ((P.1 2 a1.toNatClampNeg) &&& (255 : Int32))))))
theorem t_j_Ta_byteAt_34 {G : GX} (hG : GOK G) {E : EV} (hE : E0 E) (d : Nat) (hd : 1 ≤ d) {P : PM} {Q : QT} (h : St E (rI P) (j_Ta_byteAt_34 P) Q) : Go G c_Ta_byteAt "YawnRoute$Tape" 2 (some .int) false d nOb nOb Q 34 [] [] P E := by
  rw [j_Ta_byteAt_34] at h
  refine Go.iconst (n := -1) (-1 : Int32) (by decide +kernel) rfl ?_
  exact Go.iret rfl rfl hE.2 (by decide +kernel) (St.fI h)
theorem t_f_Ta_byteAt {G : GX} (hG : GOK G) {E : EV} (hE : E0 E) (d : Nat) (hd : 1 ≤ d) {P : PM} {Q : QT} (a1 : Int32) (h : St E (rI P) (f_Ta_byteAt a1 P) Q) : Go G c_Ta_byteAt "YawnRoute$Tape" 2 (some .int) false d nOb nOb Q 0 [(0, .ref (ad E 1)), (1, .int a1)] [] P E := by
  rw [f_Ta_byteAt] at h
  refine Go.iload_n (k := 1) (i := 1) 1 (by decide +kernel) rfl rfl ?_
  refine Go.if_lt (off := 33) 34 (by decide +kernel) (by decide) (fun c1 => ?_) (fun c1 => ?_)
  · rw [if_pos c1] at h
    refine Go.sub [] [] rfl ?_
    exact t_j_Ta_byteAt_34 hG hE d hd h
  · rw [if_neg c1] at h
    refine Go.iload_n (k := 1) (i := 1) 1 (by decide +kernel) rfl rfl ?_
    refine Go.aload_n (k := 0) (i := 0) 0 (by decide +kernel) rfl rfl ?_
    refine Go.get 1 2 (.int (P.1 1 2)) (by decide) (by decide) sh1 (ltO hE sh1) rfl lk40 (by decide +kernel) ?_
    refine Go.icmp_ge (off := 25) 34 (by decide +kernel) (by decide) (fun c2 => ?_) (fun c2 => ?_)
    · rw [if_pos c2] at h
      refine Go.sub [] [] rfl ?_
      exact t_j_Ta_byteAt_34 hG hE d hd h
    · rw [if_neg c2] at h
      refine Go.iload_n (k := 1) (i := 1) 1 (by decide +kernel) rfl rfl ?_
      refine Go.aload_n (k := 0) (i := 0) 0 (by decide +kernel) rfl rfl ?_
      refine Go.get 1 0 (.ref (ad E 2)) (by decide) (by decide) sh1 (ltO hE sh1) (vlR hE rfl rfl) lk37 (by decide +kernel) ?_
      refine Go.alen 2 1 900 (900 : Int32) sh2 (by decide) (ltA hE sh2 (by decide)) rfl (by decide +kernel) ?_
      refine Go.icmp_ge (off := 16) 34 (by decide +kernel) (by decide) (fun c3 => ?_) (fun c3 => ?_)
      · rw [if_pos c3] at h
        refine Go.sub [] [] rfl ?_
        exact t_j_Ta_byteAt_34 hG hE d hd h
      · rw [if_neg c3] at h
        refine Go.aload_n (k := 0) (i := 0) 0 (by decide +kernel) rfl rfl ?_
        refine Go.get 1 0 (.ref (ad E 2)) (by decide) (by decide) sh1 (ltO hE sh1) (vlR hE rfl rfl) lk37 (by decide +kernel) ?_
        refine Go.iload_n (k := 1) (i := 1) 1 (by decide +kernel) rfl rfl ?_
        obtain ⟨b4, h⟩ := St.ck h
        refine Go.baload 2 900 sh2 (ltA hE sh2 (by decide)) (inb_in b4) (by decide +kernel) ?_
        refine Go.sipush (n := 255) (255 : Int32) (by decide +kernel) (by decide) ?_
        refine Go.iand (by decide +kernel) ?_
        refine Go.goto (off := 4) 35 (by decide +kernel) (by decide) ?_
        exact Go.iret rfl rfl hE.2 (by decide +kernel) (St.fI h)
theorem e_Ta_byteAt {G : GX} (hG : GOK G) {E : EV} (hE : E0 E) (d : Nat) (hd : 1 ≤ d) (a1 : Int32) (P : PM) {Q : QT} (h : St E (rI P) (f_Ta_byteAt a1 P) Q) : Con G y_Ta_byteAt cw_Ta_byteAt d nOb nOb [.ref (ad E 1), .int a1] P E Q :=
  Con.of hG (by decide +kernel) rfl (fun h => by cases h) hE.2 (Nat.le_of_ble_eq_true rfl) (t_f_Ta_byteAt hG hE d hd a1 h)
abbrev c_Ta_isBlank : ByteArray := prog_11_method_11_code
abbrev y_Ta_isBlank : MethodName := ⟨"YawnRoute$Tape", "isBlank", "(I)Z"⟩
abbrev cw_Ta_isBlank : Cond := .code y_Ta_isBlank c_Ta_isBlank 1 (some .boolean)
theorem w_Ta_isBlank : SW y_Ta_isBlank c_Ta_isBlank 1 (some .boolean) 1 := ⟨lk475, lk2, lk476, ⟨by decide, by decide, by decide +kernel⟩, by decide⟩
noncomputable def j_Ta_isBlank_12 (P : PM) : Int32 := (1 : Int32)
noncomputable def f_Ta_isBlank (a0 : Int32) (P : PM) : Int32 := if a0 = (10 : Int32) then (j_Ta_isBlank_12 P) else (if a0 = (32 : Int32) then (j_Ta_isBlank_12 P) else ((0 : Int32)))
theorem t_j_Ta_isBlank_12 {G : GX} (hG : GOK G) {E : EV} (hE : E0 E) (d : Nat) (hd : 1 ≤ d) {P : PM} {Q : QT} (h : Q (some (.int (j_Ta_isBlank_12 P))) P E) : Go G c_Ta_isBlank "YawnRoute$Tape" 1 (some .boolean) false d nOb nOb Q 12 [] [] P E := by
  rw [j_Ta_isBlank_12] at h
  refine Go.iconst (n := 1) (1 : Int32) (by decide +kernel) rfl ?_
  refine Go.goto (off := 4) 17 (by decide +kernel) (by decide) ?_
  exact Go.iret rfl rfl hE.2 (by decide +kernel) h
theorem t_f_Ta_isBlank {G : GX} (hG : GOK G) {E : EV} (hE : E0 E) (d : Nat) (hd : 1 ≤ d) {P : PM} {Q : QT} (a0 : Int32) (h : Q (some (.int (f_Ta_isBlank a0 P))) P E) : Go G c_Ta_isBlank "YawnRoute$Tape" 1 (some .boolean) false d nOb nOb Q 0 [(0, .int a0)] [] P E := by
  rw [f_Ta_isBlank] at h
  refine Go.iload_n (k := 0) (i := 0) 0 (by decide +kernel) rfl rfl ?_
  refine Go.bipush (n := 10) (10 : Int32) (by decide +kernel) (by decide) ?_
  refine Go.icmp_eq (off := 9) 12 (by decide +kernel) (by decide) (fun c1 => ?_) (fun c1 => ?_)
  · rw [if_pos c1] at h
    refine Go.sub [] [] rfl ?_
    exact t_j_Ta_isBlank_12 hG hE d hd h
  · rw [if_neg c1] at h
    refine Go.iload_n (k := 0) (i := 0) 0 (by decide +kernel) rfl rfl ?_
    refine Go.bipush (n := 32) (32 : Int32) (by decide +kernel) (by decide) ?_
    refine Go.icmp_ne (off := 7) 16 (by decide +kernel) (by decide) (fun c2 => ?_) (fun c2 => ?_)
    · rw [if_neg c2] at h
      refine Go.iconst (n := 0) (0 : Int32) (by decide +kernel) rfl ?_
      exact Go.iret rfl rfl hE.2 (by decide +kernel) h
    · rw [if_pos c2] at h
      refine Go.sub [] [] rfl ?_
      exact t_j_Ta_isBlank_12 hG hE d hd h
theorem e_Ta_isBlank {G : GX} (hG : GOK G) {E : EV} (hE : E0 E) (d : Nat) (hd : 1 ≤ d) (a0 : Int32) (P : PM) {Q : QT} (h : Q (some (.int (f_Ta_isBlank a0 P))) P E) : Con G y_Ta_isBlank cw_Ta_isBlank d nOb nOb [.int a0] P E Q :=
  Con.of hG (by decide +kernel) rfl (fun h => by cases h) hE.2 (Nat.le_of_ble_eq_true rfl) (t_f_Ta_isBlank hG hE d hd a0 h)
abbrev c_Ta_isDigit : ByteArray := prog_11_method_12_code
abbrev y_Ta_isDigit : MethodName := ⟨"YawnRoute$Tape", "isDigit", "(I)Z"⟩
abbrev cw_Ta_isDigit : Cond := .code y_Ta_isDigit c_Ta_isDigit 1 (some .boolean)
theorem w_Ta_isDigit : SW y_Ta_isDigit c_Ta_isDigit 1 (some .boolean) 1 := ⟨lk478, lk2, lk479, ⟨by decide, by decide, by decide +kernel⟩, by decide⟩
noncomputable def j_Ta_isDigit_16 (P : PM) : Int32 := (0 : Int32)
noncomputable def f_Ta_isDigit (a0 : Int32) (P : PM) : Int32 := if a0 < (48 : Int32) then (j_Ta_isDigit_16 P) else (if (57 : Int32) < a0 then (j_Ta_isDigit_16 P) else ((1 : Int32)))
theorem t_j_Ta_isDigit_16 {G : GX} (hG : GOK G) {E : EV} (hE : E0 E) (d : Nat) (hd : 1 ≤ d) {P : PM} {Q : QT} (h : Q (some (.int (j_Ta_isDigit_16 P))) P E) : Go G c_Ta_isDigit "YawnRoute$Tape" 1 (some .boolean) false d nOb nOb Q 16 [] [] P E := by
  rw [j_Ta_isDigit_16] at h
  refine Go.iconst (n := 0) (0 : Int32) (by decide +kernel) rfl ?_
  exact Go.iret rfl rfl hE.2 (by decide +kernel) h
theorem t_f_Ta_isDigit {G : GX} (hG : GOK G) {E : EV} (hE : E0 E) (d : Nat) (hd : 1 ≤ d) {P : PM} {Q : QT} (a0 : Int32) (h : Q (some (.int (f_Ta_isDigit a0 P))) P E) : Go G c_Ta_isDigit "YawnRoute$Tape" 1 (some .boolean) false d nOb nOb Q 0 [(0, .int a0)] [] P E := by
  rw [f_Ta_isDigit] at h
  refine Go.iload_n (k := 0) (i := 0) 0 (by decide +kernel) rfl rfl ?_
  refine Go.bipush (n := 48) (48 : Int32) (by decide +kernel) (by decide) ?_
  refine Go.icmp_lt (off := 13) 16 (by decide +kernel) (by decide) (fun c1 => ?_) (fun c1 => ?_)
  · rw [if_pos c1] at h
    refine Go.sub [] [] rfl ?_
    exact t_j_Ta_isDigit_16 hG hE d hd h
  · rw [if_neg c1] at h
    refine Go.iload_n (k := 0) (i := 0) 0 (by decide +kernel) rfl rfl ?_
    refine Go.bipush (n := 57) (57 : Int32) (by decide +kernel) (by decide) ?_
    refine Go.icmp_gt (off := 7) 16 (by decide +kernel) (by decide) (fun c2 => ?_) (fun c2 => ?_)
    · rw [if_pos c2] at h
      refine Go.sub [] [] rfl ?_
      exact t_j_Ta_isDigit_16 hG hE d hd h
    · rw [if_neg c2] at h
      refine Go.iconst (n := 1) (1 : Int32) (by decide +kernel) rfl ?_
      refine Go.goto (off := 4) 17 (by decide +kernel) (by decide) ?_
      exact Go.iret rfl rfl hE.2 (by decide +kernel) h
theorem e_Ta_isDigit {G : GX} (hG : GOK G) {E : EV} (hE : E0 E) (d : Nat) (hd : 1 ≤ d) (a0 : Int32) (P : PM) {Q : QT} (h : Q (some (.int (f_Ta_isDigit a0 P))) P E) : Con G y_Ta_isDigit cw_Ta_isDigit d nOb nOb [.int a0] P E Q :=
  Con.of hG (by decide +kernel) rfl (fun h => by cases h) hE.2 (Nat.le_of_ble_eq_true rfl) (t_f_Ta_isDigit hG hE d hd a0 h)
abbrev c_Ta_isLetter : ByteArray := prog_11_method_13_code
abbrev y_Ta_isLetter : MethodName := ⟨"YawnRoute$Tape", "isLetter", "(I)Z"⟩
abbrev cw_Ta_isLetter : Cond := .code y_Ta_isLetter c_Ta_isLetter 1 (some .boolean)
theorem w_Ta_isLetter : SW y_Ta_isLetter c_Ta_isLetter 1 (some .boolean) 1 := ⟨lk489, lk2, lk490, ⟨by decide, by decide, by decide +kernel⟩, by decide⟩
noncomputable def j_Ta_isLetter_16 (P : PM) : Int32 := (0 : Int32)
noncomputable def f_Ta_isLetter (a0 : Int32) (P : PM) : Int32 := if a0 < (97 : Int32) then (j_Ta_isLetter_16 P) else (if (122 : Int32) < a0 then (j_Ta_isLetter_16 P) else ((1 : Int32)))
theorem t_j_Ta_isLetter_16 {G : GX} (hG : GOK G) {E : EV} (hE : E0 E) (d : Nat) (hd : 1 ≤ d) {P : PM} {Q : QT} (h : Q (some (.int (j_Ta_isLetter_16 P))) P E) : Go G c_Ta_isLetter "YawnRoute$Tape" 1 (some .boolean) false d nOb nOb Q 16 [] [] P E := by
  rw [j_Ta_isLetter_16] at h
  refine Go.iconst (n := 0) (0 : Int32) (by decide +kernel) rfl ?_
  exact Go.iret rfl rfl hE.2 (by decide +kernel) h
theorem t_f_Ta_isLetter {G : GX} (hG : GOK G) {E : EV} (hE : E0 E) (d : Nat) (hd : 1 ≤ d) {P : PM} {Q : QT} (a0 : Int32) (h : Q (some (.int (f_Ta_isLetter a0 P))) P E) : Go G c_Ta_isLetter "YawnRoute$Tape" 1 (some .boolean) false d nOb nOb Q 0 [(0, .int a0)] [] P E := by
  rw [f_Ta_isLetter] at h
  refine Go.iload_n (k := 0) (i := 0) 0 (by decide +kernel) rfl rfl ?_
  refine Go.bipush (n := 97) (97 : Int32) (by decide +kernel) (by decide) ?_
  refine Go.icmp_lt (off := 13) 16 (by decide +kernel) (by decide) (fun c1 => ?_) (fun c1 => ?_)
  · rw [if_pos c1] at h
    refine Go.sub [] [] rfl ?_
    exact t_j_Ta_isLetter_16 hG hE d hd h
  · rw [if_neg c1] at h
    refine Go.iload_n (k := 0) (i := 0) 0 (by decide +kernel) rfl rfl ?_
    refine Go.bipush (n := 122) (122 : Int32) (by decide +kernel) (by decide) ?_
    refine Go.icmp_gt (off := 7) 16 (by decide +kernel) (by decide) (fun c2 => ?_) (fun c2 => ?_)
    · rw [if_pos c2] at h
      refine Go.sub [] [] rfl ?_
      exact t_j_Ta_isLetter_16 hG hE d hd h
    · rw [if_neg c2] at h
      refine Go.iconst (n := 1) (1 : Int32) (by decide +kernel) rfl ?_
      refine Go.goto (off := 4) 17 (by decide +kernel) (by decide) ?_
      exact Go.iret rfl rfl hE.2 (by decide +kernel) h
theorem e_Ta_isLetter {G : GX} (hG : GOK G) {E : EV} (hE : E0 E) (d : Nat) (hd : 1 ≤ d) (a0 : Int32) (P : PM) {Q : QT} (h : Q (some (.int (f_Ta_isLetter a0 P))) P E) : Con G y_Ta_isLetter cw_Ta_isLetter d nOb nOb [.int a0] P E Q :=
  Con.of hG (by decide +kernel) rfl (fun h => by cases h) hE.2 (Nat.le_of_ble_eq_true rfl) (t_f_Ta_isLetter hG hE d hd a0 h)
abbrev c_Ta_readNumber : ByteArray := prog_11_method_8_code
abbrev y_Ta_readNumber : MethodName := ⟨"YawnRoute$Tape", "readNumber", "()V"⟩
abbrev cw_Ta_readNumber : Cond := .code y_Ta_readNumber c_Ta_readNumber 2 none
theorem w_Ta_readNumber : VW 9 y_Ta_readNumber c_Ta_readNumber 2 none 0 := ⟨by decide, lk482, lp1_, lk2, lk483, ⟨by decide, by decide, by decide +kernel⟩, by decide⟩
noncomputable def j_Ta_readNumber_60 (k7 : Int32 → PM → Option PM) (x1 : Int32) (s1 : Int32) (P : PM) : Option PM := k7 (x1 + (1 : Int32)) (u1 (u1 P 1 6 s1) 1 3 (((u1 P 1 6 s1).1 1 3) + (1 : Int32)))
noncomputable def j_Ta_readNumber_79 (P : PM) : Option PM := if (((u1 P 1 5 (1 : Int32)).1 1 3) - ((u1 P 1 5 (1 : Int32)).1 1 4)) ≤ (3 : Int32) then (some (u1 P 1 5 (1 : Int32))) else ((f_Ta_fail (1 : Int32) (u1 P 1 5 (1 : Int32))).bind (fun P2 => some P2))
noncomputable def l_Ta_readNumber_7 : Nat → Int32 → PM → Option PM
  | 0, _, _ => none
  | n + 1, x1, P => if (900 : Int32) ≤ x1 then (j_Ta_readNumber_79 P) else ((f_Ta_byteAt (P.1 1 3) P).bind (fun v2 => if (f_Ta_isDigit v2 P) = (0 : Int32) then (j_Ta_readNumber_79 P) else (if (3 : Int32) ≤ x1 then (j_Ta_readNumber_60 (fun z0 Pz => l_Ta_readNumber_7 n z0 Pz) x1 (P.1 1 6) P) else ((f_Ta_byteAt (P.1 1 3) P).bind (fun v5 => j_Ta_readNumber_60 (fun z0 Pz => l_Ta_readNumber_7 n z0 Pz) x1 ((((P.1 1 6) * (10 : Int32)) + v5) - (48 : Int32)) P)))))
noncomputable def f_Ta_readNumber (P : PM) : Option PM := l_Ta_readNumber_7 FU (0 : Int32) (u1 P 1 6 (0 : Int32))
theorem t_j_Ta_readNumber_60 {G : GX} (hG : GOK G) {E : EV} (hE : E0 E) (d : Nat) (hd : 2 ≤ d) {Q : QT} (k7 : Int32 → PM → Option PM) (hk7 : ∀ (x1 : Int32) (P : PM), St E rP (k7 x1 P) Q → Go G c_Ta_readNumber "YawnRoute$Tape" 2 none false d nOb nOb Q 7 [(0, .ref (ad E 1)), (1, .int x1)] [] P E) (x1 : Int32) (s1 : Int32) (P : PM) (h : St E rP (j_Ta_readNumber_60 k7 x1 s1 P) Q) : Go G c_Ta_readNumber "YawnRoute$Tape" 2 none false d nOb nOb Q 60 [(0, .ref (ad E 1)), (1, .int x1)] [.int s1, .ref (ad E 1)] P E := by
  rw [j_Ta_readNumber_60] at h
  refine Go.put 1 6 (by decide) (by decide) sh1 (ltO hE sh1) (Or.inl rfl) rfl rfl rfl lk46 (by decide +kernel) ?_
  refine Go.aload_n (k := 0) (i := 0) 0 (by decide +kernel) rfl rfl ?_
  refine Go.dup (by decide +kernel) rfl ?_
  refine Go.get 1 3 (.int ((u1 P 1 6 s1).1 1 3)) (by decide) (by decide) sh1 (ltO hE sh1) rfl lk41 (by decide +kernel) ?_
  refine Go.iconst (n := 1) (1 : Int32) (by decide +kernel) rfl ?_
  refine Go.iadd (by decide +kernel) ?_
  refine Go.put 1 3 (by decide) (by decide) sh1 (ltO hE sh1) (Or.inl rfl) rfl rfl rfl lk41 (by decide +kernel) ?_
  refine Go.iinc (i := 1) (n := 1) 1 (x1 + (1 : Int32)) [(1, .int (x1 + (1 : Int32))), (0, .ref (ad E 1))] (by decide +kernel) rfl rfl (by decide) rfl ?_
  refine Go.goto (off := -69) 7 (by decide +kernel) (by decide) ?_
  refine Go.sub [1, 0] [(0, .ref (ad E 1)), (1, .int (x1 + (1 : Int32)))] rfl ?_
  exact hk7 (x1 + (1 : Int32)) (u1 (u1 P 1 6 s1) 1 3 (((u1 P 1 6 s1).1 1 3) + (1 : Int32))) h
theorem t_j_Ta_readNumber_79 {G : GX} (hG : GOK G) {E : EV} (hE : E0 E) (d : Nat) (hd : 2 ≤ d) {Q : QT} (P : PM) (h : St E rP (j_Ta_readNumber_79 P) Q) : Go G c_Ta_readNumber "YawnRoute$Tape" 2 none false d nOb nOb Q 79 [(0, .ref (ad E 1))] [] P E := by
  rw [j_Ta_readNumber_79] at h
  refine Go.aload_n (k := 0) (i := 0) 0 (by decide +kernel) rfl rfl ?_
  refine Go.iconst (n := 1) (1 : Int32) (by decide +kernel) rfl ?_
  refine Go.put 1 5 (by decide) (by decide) sh1 (ltO hE sh1) (Or.inl rfl) rfl rfl rfl lk45 (by decide +kernel) ?_
  refine Go.aload_n (k := 0) (i := 0) 0 (by decide +kernel) rfl rfl ?_
  refine Go.get 1 3 (.int ((u1 P 1 5 (1 : Int32)).1 1 3)) (by decide) (by decide) sh1 (ltO hE sh1) rfl lk41 (by decide +kernel) ?_
  refine Go.aload_n (k := 0) (i := 0) 0 (by decide +kernel) rfl rfl ?_
  refine Go.get 1 4 (.int ((u1 P 1 5 (1 : Int32)).1 1 4)) (by decide) (by decide) sh1 (ltO hE sh1) rfl lk42 (by decide +kernel) ?_
  refine Go.isub (by decide +kernel) ?_
  refine Go.iconst (n := 3) (3 : Int32) (by decide +kernel) rfl ?_
  refine Go.icmp_le (off := 8) 102 (by decide +kernel) (by decide) (fun c1 => ?_) (fun c1 => ?_)
  · rw [if_pos c1] at h
    exact Go.vret rfl hE.2 (by decide +kernel) (St.fP h)
  · rw [if_neg c1] at h
    refine Go.aload_n (k := 0) (i := 0) 0 (by decide +kernel) rfl rfl ?_
    refine Go.iconst (n := 1) (1 : Int32) (by decide +kernel) rfl ?_
    obtain ⟨P2, hP2, h⟩ := St.bind h
    refine Go.cV_v (P1 := P2) (d - 1) 1 [.int (1 : Int32)] sh1 hE w_Ta_fail (e_Ta_fail hG hE (d - 1) (by omega) (1 : Int32) (u1 P 1 5 (1 : Int32)) ⟨_, hP2, rfl, rfl, rfl⟩) lk484 rfl (by omega) (Nat.le_of_ble_eq_true rfl) (by decide +kernel) _ rfl ?_
    exact Go.vret rfl hE.2 (by decide +kernel) (St.fP h)
theorem t_l_Ta_readNumber_7 {G : GX} (hG : GOK G) {E : EV} (hE : E0 E) (d : Nat) (hd : 2 ≤ d) {Q : QT} : ∀ (n : Nat) (x1 : Int32) (P : PM), St E rP (l_Ta_readNumber_7 n x1 P) Q → Go G c_Ta_readNumber "YawnRoute$Tape" 2 none false d nOb nOb Q 7 [(0, .ref (ad E 1)), (1, .int x1)] [] P E := by
  intro n
  induction n with
  | zero =>
    intro x1 P h
    rw [l_Ta_readNumber_7] at h
    exact St.none_ h
  | succ n ih =>
    intro x1 P h
    rw [l_Ta_readNumber_7] at h
    refine Go.iload_n (k := 1) (i := 1) 1 (by decide +kernel) rfl rfl ?_
    refine Go.sipush (n := 900) (900 : Int32) (by decide +kernel) (by decide) ?_
    refine Go.icmp_ge (off := 68) 79 (by decide +kernel) (by decide) (fun c1 => ?_) (fun c1 => ?_)
    · rw [if_pos c1] at h
      refine Go.sub [0] [(0, .ref (ad E 1))] rfl ?_
      exact t_j_Ta_readNumber_79 hG hE d hd P h
    · rw [if_neg c1] at h
      refine Go.aload_n (k := 0) (i := 0) 0 (by decide +kernel) rfl rfl ?_
      refine Go.aload_n (k := 0) (i := 0) 0 (by decide +kernel) rfl rfl ?_
      refine Go.get 1 3 (.int (P.1 1 3)) (by decide) (by decide) sh1 (ltO hE sh1) rfl lk41 (by decide +kernel) ?_
      obtain ⟨v2, hv2, h⟩ := St.bind h
      refine Go.cV_i (P1 := P) (v := v2) (d - 1) 1 [.int (P.1 1 3)] sh1 hE w_Ta_byteAt (e_Ta_byteAt hG hE (d - 1) (by omega) (P.1 1 3) P ⟨_, hv2, rfl, rfl, rfl⟩) lk470 rfl (by omega) (Nat.le_of_ble_eq_true rfl) (by decide +kernel) _ rfl ?_
      refine Go.cS_i (P1 := P) (v := (f_Ta_isDigit v2 P)) (d - 1) [.int v2] hE w_Ta_isDigit (e_Ta_isDigit hG hE (d - 1) (by omega) v2 P ⟨rfl, rfl, rfl⟩) lk477 rfl (by omega) (Nat.le_of_ble_eq_true rfl) (by decide +kernel) _ rfl ?_
      refine Go.if_eq (off := 54) 79 (by decide +kernel) (by decide) (fun c3 => ?_) (fun c3 => ?_)
      · rw [if_pos c3] at h
        refine Go.sub [0] [(0, .ref (ad E 1))] rfl ?_
        exact t_j_Ta_readNumber_79 hG hE d hd P h
      · rw [if_neg c3] at h
        refine Go.aload_n (k := 0) (i := 0) 0 (by decide +kernel) rfl rfl ?_
        refine Go.iload_n (k := 1) (i := 1) 1 (by decide +kernel) rfl rfl ?_
        refine Go.iconst (n := 3) (3 : Int32) (by decide +kernel) rfl ?_
        refine Go.icmp_ge (off := 25) 56 (by decide +kernel) (by decide) (fun c4 => ?_) (fun c4 => ?_)
        · rw [if_pos c4] at h
          refine Go.aload_n (k := 0) (i := 0) 0 (by decide +kernel) rfl rfl ?_
          refine Go.get 1 6 (.int (P.1 1 6)) (by decide) (by decide) sh1 (ltO hE sh1) rfl lk46 (by decide +kernel) ?_
          exact t_j_Ta_readNumber_60 hG hE d hd (fun z0 Pz => l_Ta_readNumber_7 n z0 Pz) (fun z0 Pz q => ih z0 Pz q) x1 (P.1 1 6) P h
        · rw [if_neg c4] at h
          refine Go.aload_n (k := 0) (i := 0) 0 (by decide +kernel) rfl rfl ?_
          refine Go.get 1 6 (.int (P.1 1 6)) (by decide) (by decide) sh1 (ltO hE sh1) rfl lk46 (by decide +kernel) ?_
          refine Go.bipush (n := 10) (10 : Int32) (by decide +kernel) (by decide) ?_
          refine Go.imul (by decide +kernel) ?_
          refine Go.aload_n (k := 0) (i := 0) 0 (by decide +kernel) rfl rfl ?_
          refine Go.aload_n (k := 0) (i := 0) 0 (by decide +kernel) rfl rfl ?_
          refine Go.get 1 3 (.int (P.1 1 3)) (by decide) (by decide) sh1 (ltO hE sh1) rfl lk41 (by decide +kernel) ?_
          obtain ⟨v5, hv5, h⟩ := St.bind h
          refine Go.cV_i (P1 := P) (v := v5) (d - 1) 1 [.int (P.1 1 3)] sh1 hE w_Ta_byteAt (e_Ta_byteAt hG hE (d - 1) (by omega) (P.1 1 3) P ⟨_, hv5, rfl, rfl, rfl⟩) lk470 rfl (by omega) (Nat.le_of_ble_eq_true rfl) (by decide +kernel) _ rfl ?_
          refine Go.iadd (by decide +kernel) ?_
          refine Go.bipush (n := 48) (48 : Int32) (by decide +kernel) (by decide) ?_
          refine Go.isub (by decide +kernel) ?_
          refine Go.goto (off := 7) 60 (by decide +kernel) (by decide) ?_
          exact t_j_Ta_readNumber_60 hG hE d hd (fun z0 Pz => l_Ta_readNumber_7 n z0 Pz) (fun z0 Pz q => ih z0 Pz q) x1 ((((P.1 1 6) * (10 : Int32)) + v5) - (48 : Int32)) P h
theorem t_f_Ta_readNumber {G : GX} (hG : GOK G) {E : EV} (hE : E0 E) (d : Nat) (hd : 2 ≤ d) {Q : QT} (P : PM) (h : St E rP (f_Ta_readNumber P) Q) : Go G c_Ta_readNumber "YawnRoute$Tape" 2 none false d nOb nOb Q 0 [(0, .ref (ad E 1))] [] P E := by
  rw [f_Ta_readNumber] at h
  refine Go.aload_n (k := 0) (i := 0) 0 (by decide +kernel) rfl rfl ?_
  refine Go.iconst (n := 0) (0 : Int32) (by decide +kernel) rfl ?_
  refine Go.put 1 6 (by decide) (by decide) sh1 (ltO hE sh1) (Or.inl rfl) rfl rfl rfl lk46 (by decide +kernel) ?_
  refine Go.iconst (n := 0) (0 : Int32) (by decide +kernel) rfl ?_
  refine Go.istore_n (k := 1) (i := 1) [(1, .int (0 : Int32)), (0, .ref (ad E 1))] (by decide +kernel) rfl (by decide) rfl ?_
  refine Go.sub [1, 0] [(0, .ref (ad E 1)), (1, .int (0 : Int32))] rfl ?_
  exact t_l_Ta_readNumber_7 hG hE d hd FU (0 : Int32) (u1 P 1 6 (0 : Int32)) h
theorem e_Ta_readNumber {G : GX} (hG : GOK G) {E : EV} (hE : E0 E) (d : Nat) (hd : 2 ≤ d) (P : PM) {Q : QT} (h : St E rP (f_Ta_readNumber P) Q) : Con G y_Ta_readNumber cw_Ta_readNumber d nOb nOb [.ref (ad E 1)] P E Q :=
  Con.of hG (by decide +kernel) rfl (fun h => by cases h) hE.2 (Nat.le_of_ble_eq_true rfl) (t_f_Ta_readNumber hG hE d hd P h)
