/-! methods as functions, by program: Tr_make Yr_numbers Tr_cut Tr_put Yr_write Yr_lists Yr_image Yr_restore Ne_waysInAll Yr_count Mo_within -/
abbrev c_Tr_make : ByteArray := prog_12_method_5_code
abbrev y_Tr_make : MethodName := ⟨"YawnRoute$Trays", "make", "(III)V"⟩
abbrev cw_Tr_make : Cond := .code y_Tr_make c_Tr_make 4 none
theorem w_Tr_make : VW 10 y_Tr_make c_Tr_make 4 none 3 := ⟨by decide, lk1279, lk1280, lk7, lk1281, ⟨by decide, by decide, by decide +kernel⟩, by decide⟩
def f_Tr_make (a1 : Int32) (a2 : Int32) (a3 : Int32) (P : PM) : Option PM := if (f_Tr_isTray a1 P) = (0 : Int32) then (some P) else (ck (inb a1 4) (ck (inb a1 4) (ck (inb a1 4) ((f_Ja_fill_AJJ (25 + a1.toNatClampNeg) 40 (0 : Int64) (u1 (u1 P 29 a1.toNatClampNeg a2) 30 a1.toNatClampNeg a3)).bind (fun P5 => some P5)))))
theorem t_f_Tr_make {G : GX} (hG : GOK G) {E : EV} (hE : E0 E) (d : Nat) (hd : 2 ≤ d) {Q : QT} (a1 : Int32) (a2 : Int32) (a3 : Int32) (P : PM) (h : St E rP (f_Tr_make a1 a2 a3 P) Q) : Go G c_Tr_make "YawnRoute$Trays" 4 none false d nOb nOb Q 0 [(0, .ref (ad E 23)), (1, .int a1), (2, .int a2), (3, .int a3)] [] P E := by
  rw [f_Tr_make] at h
  refine Go.aload_n (k := 0) (i := 0) 0 (by decide +kernel) rfl rfl ?_
  refine Go.iload_n (k := 1) (i := 1) 1 (by decide +kernel) rfl rfl ?_
  refine Go.cV_i (d - 1) 23 [.int a1] sh23 hE w_Tr_isTray (e_Tr_isTray hG hE (d - 1) (by omega) a1 P ⟨rfl, rfl, rfl⟩) lk858 rfl (by omega) (Nat.le_of_ble_eq_true rfl) (by decide +kernel) _ rfl ?_
  refine Go.if_eq (off := 27) 32 (by decide +kernel) (by decide) (fun c1 => ?_) (fun c1 => ?_)
  · rw [if_pos c1] at h
    exact Go.vret rfl hE.2 (by decide +kernel) h
  · rw [if_neg c1] at h
    refine Go.aload_n (k := 0) (i := 0) 0 (by decide +kernel) rfl rfl ?_
    refine Go.get 23 1 (.ref (ad E 29)) (by decide) (by decide) sh23 (ltO hE sh23) (vlR hE rfl rfl) lk223 (by decide +kernel) ?_
    refine Go.iload_n (k := 1) (i := 1) 1 (by decide +kernel) rfl rfl ?_
    refine Go.iload_n (k := 2) (i := 2) 2 (by decide +kernel) rfl rfl ?_
    obtain ⟨b2, h⟩ := St.ck h
    refine Go.iastore 29 4 sh29 (ltA hE sh29 (by decide)) (inb_in b2) (by decide +kernel) ?_
    refine Go.aload_n (k := 0) (i := 0) 0 (by decide +kernel) rfl rfl ?_
    refine Go.get 23 2 (.ref (ad E 30)) (by decide) (by decide) sh23 (ltO hE sh23) (vlR hE rfl rfl) lk224 (by decide +kernel) ?_
    refine Go.iload_n (k := 1) (i := 1) 1 (by decide +kernel) rfl rfl ?_
    refine Go.iload_n (k := 3) (i := 3) 3 (by decide +kernel) rfl rfl ?_
    obtain ⟨b3, h⟩ := St.ck h
    refine Go.iastore 30 4 sh30 (ltA hE sh30 (by decide)) (inb_in b3) (by decide +kernel) ?_
    refine Go.aload_n (k := 0) (i := 0) 0 (by decide +kernel) rfl rfl ?_
    refine Go.get 23 0 (.ref (ad E 24)) (by decide) (by decide) sh23 (ltO hE sh23) (vlR hE rfl rfl) lk222 (by decide +kernel) ?_
    refine Go.iload_n (k := 1) (i := 1) 1 (by decide +kernel) rfl rfl ?_
    obtain ⟨b4, h⟩ := St.ck h
    refine Go.aaload 24 7 4 (25 + a1.toNatClampNeg) sh24 (by decide) (ltA hE sh24 (by decide)) (inb_in b4) (by rw [hE.1]; exact raR24 b4) (by decide +kernel) ?_
    refine Go.lconst (n := 0) (0 : Int64) (by decide +kernel) rfl ?_
    obtain ⟨P5, hP5, h⟩ := St.bind h
    refine Go.cS_v (d - 1) [.ref (ad E (25 + a1.toNatClampNeg)), .long (0 : Int64)] hE w_Ja_fill_AJJ (e_Ja_fill_AJJ hG hE (d - 1) (by omega) (25 + a1.toNatClampNeg) 40 (raS24 b4) (0 : Int64) (u1 (u1 P 29 a1.toNatClampNeg a2) 30 a1.toNatClampNeg a3) (by rw [hP5]; exact ⟨rfl, rfl, rfl⟩)) lk1282 rfl (by omega) (Nat.le_of_ble_eq_true rfl) (by decide +kernel) _ rfl ?_
    exact Go.vret rfl hE.2 (by decide +kernel) h
theorem e_Tr_make {G : GX} (hG : GOK G) {E : EV} (hE : E0 E) (d : Nat) (hd : 2 ≤ d) (a1 : Int32) (a2 : Int32) (a3 : Int32) (P : PM) {Q : QT} (h : St E rP (f_Tr_make a1 a2 a3 P) Q) : Con G y_Tr_make cw_Tr_make d nOb nOb [.ref (ad E 23), .int a1, .int a2, .int a3] P E Q :=
  Con.of hG (by decide) rfl (fun h => by cases h) hE.2 (Nat.le_of_ble_eq_true rfl) (t_f_Tr_make hG hE d hd a1 a2 a3 P h)
abbrev c_Yr_numbers : ByteArray := prog_1_method_38_code
abbrev y_Yr_numbers : MethodName := ⟨"YawnRoute", "numbers", "(III)I"⟩
abbrev cw_Yr_numbers : Cond := .code y_Yr_numbers c_Yr_numbers 4 (some .int)
theorem w_Yr_numbers : VW 11 y_Yr_numbers c_Yr_numbers 4 (some .int) 3 := ⟨by decide, lk1275, lk1276, lk1, lk1277, ⟨by decide, by decide, by decide +kernel⟩, by decide⟩
def f_Yr_numbers (a1 : Int32) (a2 : Int32) (a3 : Int32) (P : PM) : Option (Int32 × PM) := if (f_Tr_isTray a1 P) = (0 : Int32) then (some ((-2 : Int32), P)) else (if a2 < (0 : Int32) then (some ((-2 : Int32), P)) else (if a2 ≤ (3 : Int32) then (if a3 < (0 : Int32) then (some ((-3 : Int32), P)) else (if a3 ≤ (40 : Int32) then ((f_Tr_make a1 a2 a3 P).bind (fun P6 => some ((0 : Int32), P6))) else (some ((-3 : Int32), P)))) else (some ((-2 : Int32), P))))
theorem t_f_Yr_numbers {G : GX} (hG : GOK G) {E : EV} (hE : E0 E) (d : Nat) (hd : 3 ≤ d) {Q : QT} (a1 : Int32) (a2 : Int32) (a3 : Int32) (P : PM) (h : St E rIP (f_Yr_numbers a1 a2 a3 P) Q) : Go G c_Yr_numbers "YawnRoute" 4 (some .int) false d nOb nOb Q 0 [(0, .ref (ad E 0)), (1, .int a1), (2, .int a2), (3, .int a3)] [] P E := by
  rw [f_Yr_numbers] at h
  refine Go.aload_n (k := 0) (i := 0) 0 (by decide +kernel) rfl rfl ?_
  refine Go.get 0 4 (.ref (ad E 23)) (by decide) (by decide) sh0 (ltO hE sh0) (vlR hE rfl rfl) lk394 (by decide +kernel) ?_
  refine Go.iload_n (k := 1) (i := 1) 1 (by decide +kernel) rfl rfl ?_
  refine Go.cV_i (d - 1) 23 [.int a1] sh23 hE w_Tr_isTray (e_Tr_isTray hG hE (d - 1) (by omega) a1 P ⟨rfl, rfl, rfl⟩) lk850 rfl (by omega) (Nat.le_of_ble_eq_true rfl) (by decide +kernel) _ rfl ?_
  refine Go.if_eq (off := 12) 20 (by decide +kernel) (by decide) (fun c1 => ?_) (fun c1 => ?_)
  · rw [if_pos c1] at h
    refine Go.bipush (n := -2) (-2 : Int32) (by decide +kernel) (by decide) ?_
    exact Go.iret rfl rfl hE.2 (by decide +kernel) h
  · rw [if_neg c1] at h
    refine Go.iload_n (k := 2) (i := 2) 2 (by decide +kernel) rfl rfl ?_
    refine Go.if_lt (off := 8) 20 (by decide +kernel) (by decide) (fun c2 => ?_) (fun c2 => ?_)
    · rw [if_pos c2] at h
      refine Go.bipush (n := -2) (-2 : Int32) (by decide +kernel) (by decide) ?_
      exact Go.iret rfl rfl hE.2 (by decide +kernel) h
    · rw [if_neg c2] at h
      refine Go.iload_n (k := 2) (i := 2) 2 (by decide +kernel) rfl rfl ?_
      refine Go.iconst (n := 3) (3 : Int32) (by decide +kernel) rfl ?_
      refine Go.icmp_le (off := 6) 23 (by decide +kernel) (by decide) (fun c3 => ?_) (fun c3 => ?_)
      · rw [if_pos c3] at h
        refine Go.iload_n (k := 3) (i := 3) 3 (by decide +kernel) rfl rfl ?_
        refine Go.if_lt (off := 9) 33 (by decide +kernel) (by decide) (fun c4 => ?_) (fun c4 => ?_)
        · rw [if_pos c4] at h
          refine Go.bipush (n := -3) (-3 : Int32) (by decide +kernel) (by decide) ?_
          exact Go.iret rfl rfl hE.2 (by decide +kernel) h
        · rw [if_neg c4] at h
          refine Go.iload_n (k := 3) (i := 3) 3 (by decide +kernel) rfl rfl ?_
          refine Go.bipush (n := 40) (40 : Int32) (by decide +kernel) (by decide) ?_
          refine Go.icmp_le (off := 6) 36 (by decide +kernel) (by decide) (fun c5 => ?_) (fun c5 => ?_)
          · rw [if_pos c5] at h
            refine Go.aload_n (k := 0) (i := 0) 0 (by decide +kernel) rfl rfl ?_
            refine Go.get 0 4 (.ref (ad E 23)) (by decide) (by decide) sh0 (ltO hE sh0) (vlR hE rfl rfl) lk394 (by decide +kernel) ?_
            refine Go.iload_n (k := 1) (i := 1) 1 (by decide +kernel) rfl rfl ?_
            refine Go.iload_n (k := 2) (i := 2) 2 (by decide +kernel) rfl rfl ?_
            refine Go.iload_n (k := 3) (i := 3) 3 (by decide +kernel) rfl rfl ?_
            obtain ⟨P6, hP6, h⟩ := St.bind h
            refine Go.cV_v (d - 1) 23 [.int a1, .int a2, .int a3] sh23 hE w_Tr_make (e_Tr_make hG hE (d - 1) (by omega) a1 a2 a3 P (by rw [hP6]; exact ⟨rfl, rfl, rfl⟩)) lk1278 rfl (by omega) (Nat.le_of_ble_eq_true rfl) (by decide +kernel) _ rfl ?_
            refine Go.iconst (n := 0) (0 : Int32) (by decide +kernel) rfl ?_
            exact Go.iret rfl rfl hE.2 (by decide +kernel) h
          · rw [if_neg c5] at h
            refine Go.bipush (n := -3) (-3 : Int32) (by decide +kernel) (by decide) ?_
            exact Go.iret rfl rfl hE.2 (by decide +kernel) h
      · rw [if_neg c3] at h
        refine Go.bipush (n := -2) (-2 : Int32) (by decide +kernel) (by decide) ?_
        exact Go.iret rfl rfl hE.2 (by decide +kernel) h
theorem e_Yr_numbers {G : GX} (hG : GOK G) {E : EV} (hE : E0 E) (d : Nat) (hd : 3 ≤ d) (a1 : Int32) (a2 : Int32) (a3 : Int32) (P : PM) {Q : QT} (h : St E rIP (f_Yr_numbers a1 a2 a3 P) Q) : Con G y_Yr_numbers cw_Yr_numbers d nOb nOb [.ref (ad E 0), .int a1, .int a2, .int a3] P E Q :=
  Con.of hG (by decide) rfl (fun h => by cases h) hE.2 (Nat.le_of_ble_eq_true rfl) (t_f_Yr_numbers hG hE d hd a1 a2 a3 P h)
abbrev c_Tr_cut : ByteArray := prog_12_method_8_code
abbrev y_Tr_cut : MethodName := ⟨"YawnRoute$Trays", "cut", "(IJ)J"⟩
abbrev cw_Tr_cut : Cond := .code y_Tr_cut c_Tr_cut 3 (some .long)
theorem w_Tr_cut : SW y_Tr_cut c_Tr_cut 3 (some .long) 2 := ⟨lk1295, lk7, lk1296, ⟨by decide, by decide, by decide +kernel⟩, by decide⟩
def f_Tr_cut (a0 : Int32) (a1 : Int64) (P : PM) : Int64 := if a0 = (0 : Int32) then ((((a1.toInt32).toInt8.toInt32).toInt64)) else (if a0 = (1 : Int32) then ((((a1.toInt32).toInt16.toInt32).toInt64)) else (if a0 = (2 : Int32) then (((a1.toInt32).toInt64)) else (a1)))
theorem t_f_Tr_cut {G : GX} (hG : GOK G) {E : EV} (hE : E0 E) (d : Nat) (hd : 1 ≤ d) {P : PM} {Q : QT} (a0 : Int32) (a1 : Int64) (h : Q (some (.long (f_Tr_cut a0 a1 P))) P E) : Go G c_Tr_cut "YawnRoute$Trays" 3 (some .long) false d nOb nOb Q 0 [(0, .int a0), (1, .long a1)] [] P E := by
  rw [f_Tr_cut] at h
  refine Go.iload_n (k := 0) (i := 0) 0 (by decide +kernel) rfl rfl ?_
  by_cases c1 : a0 = (0 : Int32)
  · rw [if_pos c1] at h
    refine Go.tabIn (dflt := 41) (lo := 0) (hi := 2) (offs := #[27, 32, 37]) (len := 27) (off := 27) 28 (by decide +kernel) (by rw [c1]; decide) (by rw [c1]; decide) (by rw [c1]; rfl) (by decide) ?_
    refine Go.lload_n (k := 1) (i := 1) 1 (by decide +kernel) rfl rfl ?_
    refine Go.l2i (by decide +kernel) ?_
    refine Go.i2b (by decide +kernel) ?_
    refine Go.i2l (by decide +kernel) ?_
    exact Go.lret rfl hE.2 (by decide +kernel) h
  · rw [if_neg c1] at h
    by_cases c2 : a0 = (1 : Int32)
    · rw [if_pos c2] at h
      refine Go.tabIn (dflt := 41) (lo := 0) (hi := 2) (offs := #[27, 32, 37]) (len := 27) (off := 32) 33 (by decide +kernel) (by rw [c2]; decide) (by rw [c2]; decide) (by rw [c2]; rfl) (by decide) ?_
      refine Go.lload_n (k := 1) (i := 1) 1 (by decide +kernel) rfl rfl ?_
      refine Go.l2i (by decide +kernel) ?_
      refine Go.i2s (by decide +kernel) ?_
      refine Go.i2l (by decide +kernel) ?_
      exact Go.lret rfl hE.2 (by decide +kernel) h
    · rw [if_neg c2] at h
      by_cases c3 : a0 = (2 : Int32)
      · rw [if_pos c3] at h
        refine Go.tabIn (dflt := 41) (lo := 0) (hi := 2) (offs := #[27, 32, 37]) (len := 27) (off := 37) 38 (by decide +kernel) (by rw [c3]; decide) (by rw [c3]; decide) (by rw [c3]; rfl) (by decide) ?_
        refine Go.lload_n (k := 1) (i := 1) 1 (by decide +kernel) rfl rfl ?_
        refine Go.l2i (by decide +kernel) ?_
        refine Go.i2l (by decide +kernel) ?_
        exact Go.lret rfl hE.2 (by decide +kernel) h
      · rw [if_neg c3] at h
        have qc1 := lv_neT (k := (0 : Int32)) (a := 0) c1 (by decide)
        have qc2 := lv_neT (k := (1 : Int32)) (a := 1) c2 (by decide)
        have qc3 := lv_neT (k := (2 : Int32)) (a := 2) c3 (by decide)
        refine Go.tabOut (dflt := 41) (lo := 0) (hi := 2) (offs := #[27, 32, 37]) (len := 27) 42 (by decide +kernel) (by omega) (by decide) ?_
        refine Go.lload_n (k := 1) (i := 1) 1 (by decide +kernel) rfl rfl ?_
        exact Go.lret rfl hE.2 (by decide +kernel) h
theorem e_Tr_cut {G : GX} (hG : GOK G) {E : EV} (hE : E0 E) (d : Nat) (hd : 1 ≤ d) (a0 : Int32) (a1 : Int64) (P : PM) {Q : QT} (h : Q (some (.long (f_Tr_cut a0 a1 P))) P E) : Con G y_Tr_cut cw_Tr_cut d nOb nOb [.int a0, .long a1] P E Q :=
  Con.of hG (by decide) rfl (fun h => by cases h) hE.2 (Nat.le_of_ble_eq_true rfl) (t_f_Tr_cut hG hE d hd a0 a1 h)
abbrev c_Tr_put : ByteArray := prog_12_method_6_code
abbrev y_Tr_put : MethodName := ⟨"YawnRoute$Trays", "put", "(IIJ)V"⟩
abbrev cw_Tr_put : Cond := .code y_Tr_put c_Tr_put 5 none
theorem w_Tr_put : VW 10 y_Tr_put c_Tr_put 5 none 3 := ⟨by decide, lk1291, lk1292, lk7, lk1293, ⟨by decide, by decide, by decide +kernel⟩, by decide⟩
def f_Tr_put (a1 : Int32) (a2 : Int32) (a3 : Int64) (P : PM) : Option PM := if (f_Tr_isTray a1 P) = (0 : Int32) then (some P) else (if a2 < (0 : Int32) then (some P) else (if (40 : Int32) ≤ a2 then (some P) else (ck (inb a1 4) (ck (inb a1 4) (ck (inb a2 40) (some (u2 P (25 + a1.toNatClampNeg) a2.toNatClampNeg (f_Tr_cut (P.1 29 a1.toNatClampNeg) a3 P))))))))
theorem t_f_Tr_put {G : GX} (hG : GOK G) {E : EV} (hE : E0 E) (d : Nat) (hd : 2 ≤ d) {Q : QT} (a1 : Int32) (a2 : Int32) (a3 : Int64) (P : PM) (h : St E rP (f_Tr_put a1 a2 a3 P) Q) : Go G c_Tr_put "YawnRoute$Trays" 5 none false d nOb nOb Q 0 [(0, .ref (ad E 23)), (1, .int a1), (2, .int a2), (3, .long a3)] [] P E := by
  rw [f_Tr_put] at h
  refine Go.aload_n (k := 0) (i := 0) 0 (by decide +kernel) rfl rfl ?_
  refine Go.iload_n (k := 1) (i := 1) 1 (by decide +kernel) rfl rfl ?_
  refine Go.cV_i (d - 1) 23 [.int a1] sh23 hE w_Tr_isTray (e_Tr_isTray hG hE (d - 1) (by omega) a1 P ⟨rfl, rfl, rfl⟩) lk858 rfl (by omega) (Nat.le_of_ble_eq_true rfl) (by decide +kernel) _ rfl ?_
  refine Go.if_eq (off := 31) 36 (by decide +kernel) (by decide) (fun c1 => ?_) (fun c1 => ?_)
  · rw [if_pos c1] at h
    exact Go.vret rfl hE.2 (by decide +kernel) h
  · rw [if_neg c1] at h
    refine Go.iload_n (k := 2) (i := 2) 2 (by decide +kernel) rfl rfl ?_
    refine Go.if_lt (off := 27) 36 (by decide +kernel) (by decide) (fun c2 => ?_) (fun c2 => ?_)
    · rw [if_pos c2] at h
      exact Go.vret rfl hE.2 (by decide +kernel) h
    · rw [if_neg c2] at h
      refine Go.iload_n (k := 2) (i := 2) 2 (by decide +kernel) rfl rfl ?_
      refine Go.bipush (n := 40) (40 : Int32) (by decide +kernel) (by decide) ?_
      refine Go.icmp_ge (off := 21) 36 (by decide +kernel) (by decide) (fun c3 => ?_) (fun c3 => ?_)
      · rw [if_pos c3] at h
        exact Go.vret rfl hE.2 (by decide +kernel) h
      · rw [if_neg c3] at h
        refine Go.aload_n (k := 0) (i := 0) 0 (by decide +kernel) rfl rfl ?_
        refine Go.get 23 0 (.ref (ad E 24)) (by decide) (by decide) sh23 (ltO hE sh23) (vlR hE rfl rfl) lk222 (by decide +kernel) ?_
        refine Go.iload_n (k := 1) (i := 1) 1 (by decide +kernel) rfl rfl ?_
        obtain ⟨b4, h⟩ := St.ck h
        refine Go.aaload 24 7 4 (25 + a1.toNatClampNeg) sh24 (by decide) (ltA hE sh24 (by decide)) (inb_in b4) (by rw [hE.1]; exact raR24 b4) (by decide +kernel) ?_
        refine Go.iload_n (k := 2) (i := 2) 2 (by decide +kernel) rfl rfl ?_
        refine Go.aload_n (k := 0) (i := 0) 0 (by decide +kernel) rfl rfl ?_
        refine Go.get 23 1 (.ref (ad E 29)) (by decide) (by decide) sh23 (ltO hE sh23) (vlR hE rfl rfl) lk223 (by decide +kernel) ?_
        refine Go.iload_n (k := 1) (i := 1) 1 (by decide +kernel) rfl rfl ?_
        obtain ⟨b5, h⟩ := St.ck h
        refine Go.iaload 29 4 sh29 (ltA hE sh29 (by decide)) (inb_in b5) (by decide +kernel) ?_
        refine Go.lload_n (k := 3) (i := 3) 3 (by decide +kernel) rfl rfl ?_
        refine Go.cS_l (d - 1) [.int (P.1 29 a1.toNatClampNeg), .long a3] hE w_Tr_cut (e_Tr_cut hG hE (d - 1) (by omega) (P.1 29 a1.toNatClampNeg) a3 P ⟨rfl, rfl, rfl⟩) lk1294 rfl (by omega) (Nat.le_of_ble_eq_true rfl) (by decide +kernel) _ rfl ?_
        obtain ⟨b6, h⟩ := St.ck h
        refine Go.lastore (25 + a1.toNatClampNeg) 40 (raS24 b4) (ltA hE (raS24 b4) (by decide)) (inb_in b6) (by decide +kernel) ?_
        exact Go.vret rfl hE.2 (by decide +kernel) h
theorem e_Tr_put {G : GX} (hG : GOK G) {E : EV} (hE : E0 E) (d : Nat) (hd : 2 ≤ d) (a1 : Int32) (a2 : Int32) (a3 : Int64) (P : PM) {Q : QT} (h : St E rP (f_Tr_put a1 a2 a3 P) Q) : Con G y_Tr_put cw_Tr_put d nOb nOb [.ref (ad E 23), .int a1, .int a2, .long a3] P E Q :=
  Con.of hG (by decide) rfl (fun h => by cases h) hE.2 (Nat.le_of_ble_eq_true rfl) (t_f_Tr_put hG hE d hd a1 a2 a3 P h)
abbrev c_Yr_write : ByteArray := prog_1_method_39_code
abbrev y_Yr_write : MethodName := ⟨"YawnRoute", "write", "(IIJ)J"⟩
abbrev cw_Yr_write : Cond := .code y_Yr_write c_Yr_write 5 (some .long)
theorem w_Yr_write : VW 11 y_Yr_write c_Yr_write 5 (some .long) 3 := ⟨by decide, lk1284, lk1285, lk1, lk1286, ⟨by decide, by decide, by decide +kernel⟩, by decide⟩
def f_Yr_write (a1 : Int32) (a2 : Int32) (a3 : Int64) (P : PM) : Option (Int64 × PM) := if (f_Tr_isTray a1 P) = (0 : Int32) then (some ((-2 : Int64), P)) else ((f_Tr_isMissing a1 P).bind (fun v2 => if v2 = (0 : Int32) then (if a2 < (0 : Int32) then (some ((-7 : Int64), P)) else ((f_Tr_lengthOf a1 P).bind (fun v5 => if a2 < v5 then ((f_Tr_put a1 a2 a3 P).bind (fun P7 => (f_Tr_numberAt a1 a2 P7).bind (fun v8 => some (v8, P7)))) else (some ((-7 : Int64), P))))) else (some ((-6 : Int64), P))))
theorem t_f_Yr_write {G : GX} (hG : GOK G) {E : EV} (hE : E0 E) (d : Nat) (hd : 3 ≤ d) {Q : QT} (a1 : Int32) (a2 : Int32) (a3 : Int64) (P : PM) (h : St E rLP (f_Yr_write a1 a2 a3 P) Q) : Go G c_Yr_write "YawnRoute" 5 (some .long) false d nOb nOb Q 0 [(0, .ref (ad E 0)), (1, .int a1), (2, .int a2), (3, .long a3)] [] P E := by
  rw [f_Yr_write] at h
  refine Go.aload_n (k := 0) (i := 0) 0 (by decide +kernel) rfl rfl ?_
  refine Go.get 0 4 (.ref (ad E 23)) (by decide) (by decide) sh0 (ltO hE sh0) (vlR hE rfl rfl) lk394 (by decide +kernel) ?_
  refine Go.iload_n (k := 1) (i := 1) 1 (by decide +kernel) rfl rfl ?_
  refine Go.cV_i (d - 1) 23 [.int a1] sh23 hE w_Tr_isTray (e_Tr_isTray hG hE (d - 1) (by omega) a1 P ⟨rfl, rfl, rfl⟩) lk850 rfl (by omega) (Nat.le_of_ble_eq_true rfl) (by decide +kernel) _ rfl ?_
  refine Go.if_ne (off := 7) 15 (by decide +kernel) (by decide) (fun c1 => ?_) (fun c1 => ?_)
  · rw [if_neg c1] at h
    refine Go.aload_n (k := 0) (i := 0) 0 (by decide +kernel) rfl rfl ?_
    refine Go.get 0 4 (.ref (ad E 23)) (by decide) (by decide) sh0 (ltO hE sh0) (vlR hE rfl rfl) lk394 (by decide +kernel) ?_
    refine Go.iload_n (k := 1) (i := 1) 1 (by decide +kernel) rfl rfl ?_
    obtain ⟨v2, hv2, h⟩ := St.bind h
    refine Go.cV_i (d - 1) 23 [.int a1] sh23 hE w_Tr_isMissing (e_Tr_isMissing hG hE (d - 1) (by omega) a1 P (by rw [hv2]; exact ⟨rfl, rfl, rfl⟩)) lk854 rfl (by omega) (Nat.le_of_ble_eq_true rfl) (by decide +kernel) _ rfl ?_
    refine Go.if_eq (off := 7) 30 (by decide +kernel) (by decide) (fun c3 => ?_) (fun c3 => ?_)
    · rw [if_pos c3] at h
      refine Go.iload_n (k := 2) (i := 2) 2 (by decide +kernel) rfl rfl ?_
      refine Go.if_lt (off := 15) 46 (by decide +kernel) (by decide) (fun c4 => ?_) (fun c4 => ?_)
      · rw [if_pos c4] at h
        refine Go.ldc2 (-7 : Int64) lk1289 (by decide +kernel) ?_
        exact Go.lret rfl hE.2 (by decide +kernel) h
      · rw [if_neg c4] at h
        refine Go.iload_n (k := 2) (i := 2) 2 (by decide +kernel) rfl rfl ?_
        refine Go.aload_n (k := 0) (i := 0) 0 (by decide +kernel) rfl rfl ?_
        refine Go.get 0 4 (.ref (ad E 23)) (by decide) (by decide) sh0 (ltO hE sh0) (vlR hE rfl rfl) lk394 (by decide +kernel) ?_
        refine Go.iload_n (k := 1) (i := 1) 1 (by decide +kernel) rfl rfl ?_
        obtain ⟨v5, hv5, h⟩ := St.bind h
        refine Go.cV_i (d - 1) 23 [.int a1] sh23 hE w_Tr_lengthOf (e_Tr_lengthOf hG hE (d - 1) (by omega) a1 P (by rw [hv5]; exact ⟨rfl, rfl, rfl⟩)) lk884 rfl (by omega) (Nat.le_of_ble_eq_true rfl) (by decide +kernel) _ rfl ?_
        refine Go.icmp_lt (off := 7) 50 (by decide +kernel) (by decide) (fun c6 => ?_) (fun c6 => ?_)
        · rw [if_pos c6] at h
          refine Go.aload_n (k := 0) (i := 0) 0 (by decide +kernel) rfl rfl ?_
          refine Go.get 0 4 (.ref (ad E 23)) (by decide) (by decide) sh0 (ltO hE sh0) (vlR hE rfl rfl) lk394 (by decide +kernel) ?_
          refine Go.iload_n (k := 1) (i := 1) 1 (by decide +kernel) rfl rfl ?_
          refine Go.iload_n (k := 2) (i := 2) 2 (by decide +kernel) rfl rfl ?_
          refine Go.lload_n (k := 3) (i := 3) 3 (by decide +kernel) rfl rfl ?_
          obtain ⟨P7, hP7, h⟩ := St.bind h
          refine Go.cV_v (d - 1) 23 [.int a1, .int a2, .long a3] sh23 hE w_Tr_put (e_Tr_put hG hE (d - 1) (by omega) a1 a2 a3 P (by rw [hP7]; exact ⟨rfl, rfl, rfl⟩)) lk1290 rfl (by omega) (Nat.le_of_ble_eq_true rfl) (by decide +kernel) _ rfl ?_
          refine Go.aload_n (k := 0) (i := 0) 0 (by decide +kernel) rfl rfl ?_
          refine Go.get 0 4 (.ref (ad E 23)) (by decide) (by decide) sh0 (ltO hE sh0) (vlR hE rfl rfl) lk394 (by decide +kernel) ?_
          refine Go.iload_n (k := 1) (i := 1) 1 (by decide +kernel) rfl rfl ?_
          refine Go.iload_n (k := 2) (i := 2) 2 (by decide +kernel) rfl rfl ?_
          obtain ⟨v8, hv8, h⟩ := St.bind h
          refine Go.cV_l (d - 1) 23 [.int a1, .int a2] sh23 hE w_Tr_numberAt (e_Tr_numberAt hG hE (d - 1) (by omega) a1 a2 P7 (by rw [hv8]; exact ⟨rfl, rfl, rfl⟩)) lk1297 rfl (by omega) (Nat.le_of_ble_eq_true rfl) (by decide +kernel) _ rfl ?_
          exact Go.lret rfl hE.2 (by decide +kernel) h
        · rw [if_neg c6] at h
          refine Go.ldc2 (-7 : Int64) lk1289 (by decide +kernel) ?_
          exact Go.lret rfl hE.2 (by decide +kernel) h
    · rw [if_neg c3] at h
      refine Go.ldc2 (-6 : Int64) lk1288 (by decide +kernel) ?_
      exact Go.lret rfl hE.2 (by decide +kernel) h
  · rw [if_pos c1] at h
    refine Go.ldc2 (-2 : Int64) lk1287 (by decide +kernel) ?_
    exact Go.lret rfl hE.2 (by decide +kernel) h
theorem e_Yr_write {G : GX} (hG : GOK G) {E : EV} (hE : E0 E) (d : Nat) (hd : 3 ≤ d) (a1 : Int32) (a2 : Int32) (a3 : Int64) (P : PM) {Q : QT} (h : St E rLP (f_Yr_write a1 a2 a3 P) Q) : Con G y_Yr_write cw_Yr_write d nOb nOb [.ref (ad E 0), .int a1, .int a2, .long a3] P E Q :=
  Con.of hG (by decide) rfl (fun h => by cases h) hE.2 (Nat.le_of_ble_eq_true rfl) (t_f_Yr_write hG hE d hd a1 a2 a3 P h)
abbrev c_Yr_lists : ByteArray := prog_1_method_40_code
abbrev y_Yr_lists : MethodName := ⟨"YawnRoute", "lists", "(II)I"⟩
abbrev cw_Yr_lists : Cond := .code y_Yr_lists c_Yr_lists 5 (some .int)
theorem w_Yr_lists : VW 11 y_Yr_lists c_Yr_lists 5 (some .int) 2 := ⟨by decide, lk1299, lk1300, lk1, lk1301, ⟨by decide, by decide, by decide +kernel⟩, by decide⟩
def l_Yr_lists_88 : Nat → Int32 → Int32 → Int32 → PM → Option (Int32 × PM)
  | 0, _, _, _, _ => none
  | n + 1, x1, x3, x4, P => if x3 ≤ x4 then (some (x3, P)) else ((f_Ro_stationAt x4 P).bind (fun v2 => (f_Tr_put x1 x4 (v2.toInt64) P).bind (fun P3 => l_Yr_lists_88 n x1 x3 (x4 + (1 : Int32)) P3)))
def f_Yr_lists (a1 : Int32) (a2 : Int32) (P : PM) : Option (Int32 × PM) := if (f_Tr_isTray a1 P) = (0 : Int32) then (some ((-2 : Int32), P)) else (if (f_Ne_isStation 14 a2 P) = (0 : Int32) then (some ((-2 : Int32), P)) else ((f_Tr_isMissing a1 P).bind (fun v3 => if v3 = (0 : Int32) then (if (P.1 21 0) = (-1 : Int32) then (some ((-5 : Int32), P)) else (bd2 (f_Ro_seek a2 (1 : Int32) (1 : Int32) P) (fun v6 P7 => if v6 = (0 : Int32) then (some ((-5 : Int32), P7)) else ((f_Ro_passingsNeeded P7).bind (fun v9 => (f_Tr_lengthOf a1 P7).bind (fun v10 => lb (mn v9 v10) (fun y11 => l_Yr_lists_88 FU a1 y11 (0 : Int32) P7))))))) else (some ((-6 : Int32), P)))))
theorem t_l_Yr_lists_88 {G : GX} (hG : GOK G) {E : EV} (hE : E0 E) (d : Nat) (hd : 7 ≤ d) {Q : QT} : ∀ (n : Nat) (x1 : Int32) (x3 : Int32) (x4 : Int32) (P : PM), St E rIP (l_Yr_lists_88 n x1 x3 x4 P) Q → Go G c_Yr_lists "YawnRoute" 5 (some .int) false d nOb nOb Q 88 [(0, .ref (ad E 0)), (1, .int x1), (3, .int x3), (4, .int x4)] [] P E := by
  intro n
  induction n with
  | zero =>
    intro x1 x3 x4 P h
    rw [l_Yr_lists_88] at h
    exact St.none_ h
  | succ n ih =>
    intro x1 x3 x4 P h
    rw [l_Yr_lists_88] at h
    refine Go.iload (i := 4) 3 (by decide +kernel) rfl ?_
    refine Go.iload_n (k := 3) (i := 3) 2 (by decide +kernel) rfl rfl ?_
    refine Go.icmp_ge (off := 29) 120 (by decide +kernel) (by decide) (fun c1 => ?_) (fun c1 => ?_)
    · rw [if_pos c1] at h
      refine Go.iload_n (k := 3) (i := 3) 2 (by decide +kernel) rfl rfl ?_
      exact Go.iret rfl rfl hE.2 (by decide +kernel) h
    · rw [if_neg c1] at h
      refine Go.aload_n (k := 0) (i := 0) 0 (by decide +kernel) rfl rfl ?_
      refine Go.get 0 4 (.ref (ad E 23)) (by decide) (by decide) sh0 (ltO hE sh0) (vlR hE rfl rfl) lk394 (by decide +kernel) ?_
      refine Go.iload_n (k := 1) (i := 1) 1 (by decide +kernel) rfl rfl ?_
      refine Go.iload (i := 4) 3 (by decide +kernel) rfl ?_
      refine Go.aload_n (k := 0) (i := 0) 0 (by decide +kernel) rfl rfl ?_
      refine Go.get 0 7 (.ref (ad E 63)) (by decide) (by decide) sh0 (ltO hE sh0) (vlR hE rfl rfl) lk397 (by decide +kernel) ?_
      refine Go.iload (i := 4) 3 (by decide +kernel) rfl ?_
      obtain ⟨v2, hv2, h⟩ := St.bind h
      refine Go.cV_i (d - 1) 63 [.int x4] sh63 hE w_Ro_stationAt (e_Ro_stationAt hG hE (d - 1) (by omega) x4 P (by rw [hv2]; exact ⟨rfl, rfl, rfl⟩)) lk1004 rfl (by omega) (Nat.le_of_ble_eq_true rfl) (by decide +kernel) _ rfl ?_
      refine Go.i2l (by decide +kernel) ?_
      obtain ⟨P3, hP3, h⟩ := St.bind h
      refine Go.cV_v (d - 1) 23 [.int x1, .int x4, .long (v2.toInt64)] sh23 hE w_Tr_put (e_Tr_put hG hE (d - 1) (by omega) x1 x4 (v2.toInt64) P (by rw [hP3]; exact ⟨rfl, rfl, rfl⟩)) lk1290 rfl (by omega) (Nat.le_of_ble_eq_true rfl) (by decide +kernel) _ rfl ?_
      refine Go.iinc (i := 4) (n := 1) 3 (x4 + (1 : Int32)) [(4, .int (x4 + (1 : Int32))), (0, .ref (ad E 0)), (1, .int x1), (3, .int x3)] (by decide +kernel) rfl rfl (by decide) rfl ?_
      refine Go.goto (off := -29) 88 (by decide +kernel) (by decide) ?_
      refine Go.sub [1, 2, 3, 0] [(0, .ref (ad E 0)), (1, .int x1), (3, .int x3), (4, .int (x4 + (1 : Int32)))] rfl ?_
      exact ih x1 x3 (x4 + (1 : Int32)) P3 h
theorem t_f_Yr_lists {G : GX} (hG : GOK G) {E : EV} (hE : E0 E) (d : Nat) (hd : 7 ≤ d) {Q : QT} (a1 : Int32) (a2 : Int32) (P : PM) (h : St E rIP (f_Yr_lists a1 a2 P) Q) : Go G c_Yr_lists "YawnRoute" 5 (some .int) false d nOb nOb Q 0 [(0, .ref (ad E 0)), (1, .int a1), (2, .int a2)] [] P E := by
  rw [f_Yr_lists] at h
  refine Go.aload_n (k := 0) (i := 0) 0 (by decide +kernel) rfl rfl ?_
  refine Go.get 0 4 (.ref (ad E 23)) (by decide) (by decide) sh0 (ltO hE sh0) (vlR hE rfl rfl) lk394 (by decide +kernel) ?_
  refine Go.iload_n (k := 1) (i := 1) 1 (by decide +kernel) rfl rfl ?_
  refine Go.cV_i (d - 1) 23 [.int a1] sh23 hE w_Tr_isTray (e_Tr_isTray hG hE (d - 1) (by omega) a1 P ⟨rfl, rfl, rfl⟩) lk850 rfl (by omega) (Nat.le_of_ble_eq_true rfl) (by decide +kernel) _ rfl ?_
  refine Go.if_eq (off := 14) 22 (by decide +kernel) (by decide) (fun c1 => ?_) (fun c1 => ?_)
  · rw [if_pos c1] at h
    refine Go.bipush (n := -2) (-2 : Int32) (by decide +kernel) (by decide) ?_
    exact Go.iret rfl rfl hE.2 (by decide +kernel) h
  · rw [if_neg c1] at h
    refine Go.aload_n (k := 0) (i := 0) 0 (by decide +kernel) rfl rfl ?_
    refine Go.get 0 2 (.ref (ad E 14)) (by decide) (by decide) sh0 (ltO hE sh0) (vlR hE rfl rfl) lk392 (by decide +kernel) ?_
    refine Go.iload_n (k := 2) (i := 2) 2 (by decide +kernel) rfl rfl ?_
    refine Go.cV_i (d - 1) 14 [.int a2] sh14 hE w_Ne_isStation (e_Ne_isStation hG hE (d - 1) (by omega) 14 sh14 a2 P ⟨rfl, rfl, rfl⟩) lk726 rfl (by omega) (Nat.le_of_ble_eq_true rfl) (by decide +kernel) _ rfl ?_
    refine Go.if_ne (off := 6) 25 (by decide +kernel) (by decide) (fun c2 => ?_) (fun c2 => ?_)
    · rw [if_neg c2] at h
      refine Go.aload_n (k := 0) (i := 0) 0 (by decide +kernel) rfl rfl ?_
      refine Go.get 0 4 (.ref (ad E 23)) (by decide) (by decide) sh0 (ltO hE sh0) (vlR hE rfl rfl) lk394 (by decide +kernel) ?_
      refine Go.iload_n (k := 1) (i := 1) 1 (by decide +kernel) rfl rfl ?_
      obtain ⟨v3, hv3, h⟩ := St.bind h
      refine Go.cV_i (d - 1) 23 [.int a1] sh23 hE w_Tr_isMissing (e_Tr_isMissing hG hE (d - 1) (by omega) a1 P (by rw [hv3]; exact ⟨rfl, rfl, rfl⟩)) lk854 rfl (by omega) (Nat.le_of_ble_eq_true rfl) (by decide +kernel) _ rfl ?_
      refine Go.if_eq (off := 6) 39 (by decide +kernel) (by decide) (fun c4 => ?_) (fun c4 => ?_)
      · rw [if_pos c4] at h
        refine Go.aload_n (k := 0) (i := 0) 0 (by decide +kernel) rfl rfl ?_
        refine Go.get 0 3 (.ref (ad E 21)) (by decide) (by decide) sh0 (ltO hE sh0) (vlR hE rfl rfl) lk393 (by decide +kernel) ?_
        refine Go.get 21 0 (.int (P.1 21 0)) (by decide) (by decide) sh21 (ltO hE sh21) rfl lk151 (by decide +kernel) ?_
        refine Go.iconst (n := -1) (-1 : Int32) (by decide +kernel) rfl ?_
        refine Go.icmp_eq (off := 16) 63 (by decide +kernel) (by decide) (fun c5 => ?_) (fun c5 => ?_)
        · rw [if_pos c5] at h
          refine Go.bipush (n := -5) (-5 : Int32) (by decide +kernel) (by decide) ?_
          exact Go.iret rfl rfl hE.2 (by decide +kernel) h
        · rw [if_neg c5] at h
          refine Go.aload_n (k := 0) (i := 0) 0 (by decide +kernel) rfl rfl ?_
          refine Go.get 0 7 (.ref (ad E 63)) (by decide) (by decide) sh0 (ltO hE sh0) (vlR hE rfl rfl) lk397 (by decide +kernel) ?_
          refine Go.iload_n (k := 2) (i := 2) 2 (by decide +kernel) rfl rfl ?_
          refine Go.iconst (n := 1) (1 : Int32) (by decide +kernel) rfl ?_
          refine Go.iconst (n := 1) (1 : Int32) (by decide +kernel) rfl ?_
          obtain ⟨v6, P7, hv6, h⟩ := St.bd2 h
          refine Go.cV_i (d - 1) 63 [.int a2, .int (1 : Int32), .int (1 : Int32)] sh63 hE w_Ro_seek (e_Ro_seek hG hE (d - 1) (by omega) a2 (1 : Int32) (1 : Int32) P (by rw [hv6]; exact ⟨rfl, rfl, rfl⟩)) lk916 rfl (by omega) (Nat.le_of_ble_eq_true rfl) (by decide +kernel) _ rfl ?_
          refine Go.if_ne (off := 6) 66 (by decide +kernel) (by decide) (fun c8 => ?_) (fun c8 => ?_)
          · rw [if_neg c8] at h
            refine Go.aload_n (k := 0) (i := 0) 0 (by decide +kernel) rfl rfl ?_
            refine Go.get 0 7 (.ref (ad E 63)) (by decide) (by decide) sh0 (ltO hE sh0) (vlR hE rfl rfl) lk397 (by decide +kernel) ?_
            obtain ⟨v9, hv9, h⟩ := St.bind h
            refine Go.cV_i (d - 1) 63 [] sh63 hE w_Ro_passingsNeeded (e_Ro_passingsNeeded hG hE (d - 1) (by omega) P7 (by rw [hv9]; exact ⟨rfl, rfl, rfl⟩)) lk1016 rfl (by omega) (Nat.le_of_ble_eq_true rfl) (by decide +kernel) _ rfl ?_
            refine Go.aload_n (k := 0) (i := 0) 0 (by decide +kernel) rfl rfl ?_
            refine Go.get 0 4 (.ref (ad E 23)) (by decide) (by decide) sh0 (ltO hE sh0) (vlR hE rfl rfl) lk394 (by decide +kernel) ?_
            refine Go.iload_n (k := 1) (i := 1) 1 (by decide +kernel) rfl rfl ?_
            obtain ⟨v10, hv10, h⟩ := St.bind h
            refine Go.cV_i (d - 1) 23 [.int a1] sh23 hE w_Tr_lengthOf (e_Tr_lengthOf hG hE (d - 1) (by omega) a1 P7 (by rw [hv10]; exact ⟨rfl, rfl, rfl⟩)) lk884 rfl (by omega) (Nat.le_of_ble_eq_true rfl) (by decide +kernel) _ rfl ?_
            refine Go.mmin lk1302 (Nat.le_of_eq hE.2) (by omega) (Nat.le_of_ble_eq_true rfl) (by decide +kernel) ?_
            obtain ⟨y11, hy11, h⟩ := St.lb h
            refine Go.eqi y11 hy11 ?_
            refine Go.istore_n (k := 3) (i := 3) [(3, .int y11), (0, .ref (ad E 0)), (1, .int a1), (2, .int a2)] (by decide +kernel) rfl (by decide) rfl ?_
            refine Go.iconst (n := 0) (0 : Int32) (by decide +kernel) rfl ?_
            refine Go.istore (i := 4) [(4, .int (0 : Int32)), (3, .int y11), (0, .ref (ad E 0)), (1, .int a1), (2, .int a2)] (by decide +kernel) (by decide) rfl ?_
            refine Go.sub [2, 3, 1, 0] [(0, .ref (ad E 0)), (1, .int a1), (3, .int y11), (4, .int (0 : Int32))] rfl ?_
            exact t_l_Yr_lists_88 hG hE d hd FU a1 y11 (0 : Int32) P7 h
          · rw [if_pos c8] at h
            refine Go.bipush (n := -5) (-5 : Int32) (by decide +kernel) (by decide) ?_
            exact Go.iret rfl rfl hE.2 (by decide +kernel) h
      · rw [if_neg c4] at h
        refine Go.bipush (n := -6) (-6 : Int32) (by decide +kernel) (by decide) ?_
        exact Go.iret rfl rfl hE.2 (by decide +kernel) h
    · rw [if_pos c2] at h
      refine Go.bipush (n := -2) (-2 : Int32) (by decide +kernel) (by decide) ?_
      exact Go.iret rfl rfl hE.2 (by decide +kernel) h
theorem e_Yr_lists {G : GX} (hG : GOK G) {E : EV} (hE : E0 E) (d : Nat) (hd : 7 ≤ d) (a1 : Int32) (a2 : Int32) (P : PM) {Q : QT} (h : St E rIP (f_Yr_lists a1 a2 P) Q) : Con G y_Yr_lists cw_Yr_lists d nOb nOb [.ref (ad E 0), .int a1, .int a2] P E Q :=
  Con.of hG (by decide) rfl (fun h => by cases h) hE.2 (Nat.le_of_ble_eq_true rfl) (t_f_Yr_lists hG hE d hd a1 a2 P h)
abbrev c_Yr_image : ByteArray := prog_1_method_41_code
abbrev y_Yr_image : MethodName := ⟨"YawnRoute", "image", "(I)I"⟩
abbrev cw_Yr_image : Cond := .code y_Yr_image c_Yr_image 2 (some .int)
theorem w_Yr_image : VW 11 y_Yr_image c_Yr_image 2 (some .int) 1 := ⟨by decide, lk1304, lk1305, lk1, lk1306, ⟨by decide, by decide, by decide +kernel⟩, by decide⟩
def f_Yr_image (a1 : Int32) (P : PM) : Option (Int32 × PM) := if a1 < (0 : Int32) then (some ((-2 : Int32), P)) else (if a1 < (2 : Int32) then (ck (inb a1 2) ((f_Ne_copy (89 + 7 * a1.toNatClampNeg) 14 P).bind (fun P4 => ck (inb a1 2) ((f_Sa_copy (104 + 2 * a1.toNatClampNeg) 21 P4).bind (fun P6 => ck (inb a1 2) (some ((0 : Int32), (u1 P6 108 a1.toNatClampNeg (vp_nar .boolean (1 : Int32)))))))))) else (some ((-2 : Int32), P)))
theorem t_f_Yr_image {G : GX} (hG : GOK G) {E : EV} (hE : E0 E) (d : Nat) (hd : 2 ≤ d) {Q : QT} (a1 : Int32) (P : PM) (h : St E rIP (f_Yr_image a1 P) Q) : Go G c_Yr_image "YawnRoute" 2 (some .int) false d nOb nOb Q 0 [(0, .ref (ad E 0)), (1, .int a1)] [] P E := by
  rw [f_Yr_image] at h
  refine Go.iload_n (k := 1) (i := 1) 1 (by decide +kernel) rfl rfl ?_
  refine Go.if_lt (off := 8) 9 (by decide +kernel) (by decide) (fun c1 => ?_) (fun c1 => ?_)
  · rw [if_pos c1] at h
    refine Go.bipush (n := -2) (-2 : Int32) (by decide +kernel) (by decide) ?_
    exact Go.iret rfl rfl hE.2 (by decide +kernel) h
  · rw [if_neg c1] at h
    refine Go.iload_n (k := 1) (i := 1) 1 (by decide +kernel) rfl rfl ?_
    refine Go.iconst (n := 2) (2 : Int32) (by decide +kernel) rfl ?_
    refine Go.icmp_lt (off := 6) 12 (by decide +kernel) (by decide) (fun c2 => ?_) (fun c2 => ?_)
    · rw [if_pos c2] at h
      refine Go.aload_n (k := 0) (i := 0) 0 (by decide +kernel) rfl rfl ?_
      refine Go.get 0 10 (.ref (ad E 88)) (by decide) (by decide) sh0 (ltO hE sh0) (vlR hE rfl rfl) lk400 (by decide +kernel) ?_
      refine Go.iload_n (k := 1) (i := 1) 1 (by decide +kernel) rfl rfl ?_
      obtain ⟨b3, h⟩ := St.ck h
      refine Go.aaload 88 5 2 (89 + 7 * a1.toNatClampNeg) sh88 (by decide) (ltA hE sh88 (by decide)) (inb_in b3) (by rw [hE.1]; exact raR88 b3) (by decide +kernel) ?_
      refine Go.aload_n (k := 0) (i := 0) 0 (by decide +kernel) rfl rfl ?_
      refine Go.get 0 2 (.ref (ad E 14)) (by decide) (by decide) sh0 (ltO hE sh0) (vlR hE rfl rfl) lk392 (by decide +kernel) ?_
      obtain ⟨P4, hP4, h⟩ := St.bind h
      refine Go.cV_v (d - 1) (89 + 7 * a1.toNatClampNeg) [.ref (ad E 14)] (raS88 b3) hE w_Ne_copy (e_Ne_copy hG hE (d - 1) (by omega) (89 + 7 * a1.toNatClampNeg) (raS88 b3) 14 sh14 P (by rw [hP4]; exact ⟨rfl, rfl, rfl⟩)) lk701 rfl (by omega) (Nat.le_of_ble_eq_true rfl) (by decide +kernel) _ rfl ?_
      refine Go.aload_n (k := 0) (i := 0) 0 (by decide +kernel) rfl rfl ?_
      refine Go.get 0 11 (.ref (ad E 103)) (by decide) (by decide) sh0 (ltO hE sh0) (vlR hE rfl rfl) lk401 (by decide +kernel) ?_
      refine Go.iload_n (k := 1) (i := 1) 1 (by decide +kernel) rfl rfl ?_
      obtain ⟨b5, h⟩ := St.ck h
      refine Go.aaload 103 4 2 (104 + 2 * a1.toNatClampNeg) sh103 (by decide) (ltA hE sh103 (by decide)) (inb_in b5) (by rw [hE.1]; exact raR103 b5) (by decide +kernel) ?_
      refine Go.aload_n (k := 0) (i := 0) 0 (by decide +kernel) rfl rfl ?_
      refine Go.get 0 3 (.ref (ad E 21)) (by decide) (by decide) sh0 (ltO hE sh0) (vlR hE rfl rfl) lk393 (by decide +kernel) ?_
      obtain ⟨P6, hP6, h⟩ := St.bind h
      refine Go.cV_v (d - 1) (104 + 2 * a1.toNatClampNeg) [.ref (ad E 21)] (raS103 b5) hE w_Sa_copy (e_Sa_copy hG hE (d - 1) (by omega) (104 + 2 * a1.toNatClampNeg) (raS103 b5) 21 sh21 P4 (by rw [hP6]; exact ⟨rfl, rfl, rfl⟩)) lk708 rfl (by omega) (Nat.le_of_ble_eq_true rfl) (by decide +kernel) _ rfl ?_
      refine Go.aload_n (k := 0) (i := 0) 0 (by decide +kernel) rfl rfl ?_
      refine Go.get 0 12 (.ref (ad E 108)) (by decide) (by decide) sh0 (ltO hE sh0) (vlR hE rfl rfl) lk402 (by decide +kernel) ?_
      refine Go.iload_n (k := 1) (i := 1) 1 (by decide +kernel) rfl rfl ?_
      refine Go.iconst (n := 1) (1 : Int32) (by decide +kernel) rfl ?_
      obtain ⟨b7, h⟩ := St.ck h
      refine Go.zastore 108 2 sh108 (ltA hE sh108 (by decide)) (inb_in b7) (by decide +kernel) ?_
      refine Go.iconst (n := 0) (0 : Int32) (by decide +kernel) rfl ?_
      exact Go.iret rfl rfl hE.2 (by decide +kernel) h
    · rw [if_neg c2] at h
      refine Go.bipush (n := -2) (-2 : Int32) (by decide +kernel) (by decide) ?_
      exact Go.iret rfl rfl hE.2 (by decide +kernel) h
theorem e_Yr_image {G : GX} (hG : GOK G) {E : EV} (hE : E0 E) (d : Nat) (hd : 2 ≤ d) (a1 : Int32) (P : PM) {Q : QT} (h : St E rIP (f_Yr_image a1 P) Q) : Con G y_Yr_image cw_Yr_image d nOb nOb [.ref (ad E 0), .int a1] P E Q :=
  Con.of hG (by decide) rfl (fun h => by cases h) hE.2 (Nat.le_of_ble_eq_true rfl) (t_f_Yr_image hG hE d hd a1 P h)
abbrev c_Yr_restore : ByteArray := prog_1_method_42_code
abbrev y_Yr_restore : MethodName := ⟨"YawnRoute", "restore", "(I)I"⟩
abbrev cw_Yr_restore : Cond := .code y_Yr_restore c_Yr_restore 2 (some .int)
theorem w_Yr_restore : VW 11 y_Yr_restore c_Yr_restore 2 (some .int) 1 := ⟨by decide, lk1308, lk1309, lk1, lk1310, ⟨by decide, by decide, by decide +kernel⟩, by decide⟩
def f_Yr_restore (a1 : Int32) (P : PM) : Option (Int32 × PM) := if a1 < (0 : Int32) then (some ((-2 : Int32), P)) else (if a1 < (2 : Int32) then (ck (inb a1 2) (if (P.1 108 a1.toNatClampNeg) = (0 : Int32) then (some ((-5 : Int32), P)) else (ck (inb a1 2) (ck (inb a1 2) ((f_Yr_takeOver (89 + 7 * a1.toNatClampNeg) (104 + 2 * a1.toNatClampNeg) P).bind (fun P7 => some ((0 : Int32), P7))))))) else (some ((-2 : Int32), P)))
theorem t_f_Yr_restore {G : GX} (hG : GOK G) {E : EV} (hE : E0 E) (d : Nat) (hd : 4 ≤ d) {Q : QT} (a1 : Int32) (P : PM) (h : St E rIP (f_Yr_restore a1 P) Q) : Go G c_Yr_restore "YawnRoute" 2 (some .int) false d nOb nOb Q 0 [(0, .ref (ad E 0)), (1, .int a1)] [] P E := by
  rw [f_Yr_restore] at h
  refine Go.iload_n (k := 1) (i := 1) 1 (by decide +kernel) rfl rfl ?_
  refine Go.if_lt (off := 8) 9 (by decide +kernel) (by decide) (fun c1 => ?_) (fun c1 => ?_)
  · rw [if_pos c1] at h
    refine Go.bipush (n := -2) (-2 : Int32) (by decide +kernel) (by decide) ?_
    exact Go.iret rfl rfl hE.2 (by decide +kernel) h
  · rw [if_neg c1] at h
    refine Go.iload_n (k := 1) (i := 1) 1 (by decide +kernel) rfl rfl ?_
    refine Go.iconst (n := 2) (2 : Int32) (by decide +kernel) rfl ?_
    refine Go.icmp_lt (off := 6) 12 (by decide +kernel) (by decide) (fun c2 => ?_) (fun c2 => ?_)
    · rw [if_pos c2] at h
      refine Go.aload_n (k := 0) (i := 0) 0 (by decide +kernel) rfl rfl ?_
      refine Go.get 0 12 (.ref (ad E 108)) (by decide) (by decide) sh0 (ltO hE sh0) (vlR hE rfl rfl) lk402 (by decide +kernel) ?_
      refine Go.iload_n (k := 1) (i := 1) 1 (by decide +kernel) rfl rfl ?_
      obtain ⟨b3, h⟩ := St.ck h
      refine Go.zaload 108 2 sh108 (ltA hE sh108 (by decide)) (inb_in b3) (by decide +kernel) ?_
      refine Go.if_ne (off := 6) 24 (by decide +kernel) (by decide) (fun c4 => ?_) (fun c4 => ?_)
      · rw [if_neg c4] at h
        refine Go.aload_n (k := 0) (i := 0) 0 (by decide +kernel) rfl rfl ?_
        refine Go.aload_n (k := 0) (i := 0) 0 (by decide +kernel) rfl rfl ?_
        refine Go.get 0 10 (.ref (ad E 88)) (by decide) (by decide) sh0 (ltO hE sh0) (vlR hE rfl rfl) lk400 (by decide +kernel) ?_
        refine Go.iload_n (k := 1) (i := 1) 1 (by decide +kernel) rfl rfl ?_
        obtain ⟨b5, h⟩ := St.ck h
        refine Go.aaload 88 5 2 (89 + 7 * a1.toNatClampNeg) sh88 (by decide) (ltA hE sh88 (by decide)) (inb_in b5) (by rw [hE.1]; exact raR88 b5) (by decide +kernel) ?_
        refine Go.aload_n (k := 0) (i := 0) 0 (by decide +kernel) rfl rfl ?_
        refine Go.get 0 11 (.ref (ad E 103)) (by decide) (by decide) sh0 (ltO hE sh0) (vlR hE rfl rfl) lk401 (by decide +kernel) ?_
        refine Go.iload_n (k := 1) (i := 1) 1 (by decide +kernel) rfl rfl ?_
        obtain ⟨b6, h⟩ := St.ck h
        refine Go.aaload 103 4 2 (104 + 2 * a1.toNatClampNeg) sh103 (by decide) (ltA hE sh103 (by decide)) (inb_in b6) (by rw [hE.1]; exact raR103 b6) (by decide +kernel) ?_
        obtain ⟨P7, hP7, h⟩ := St.bind h
        refine Go.cV_v (d - 1) 0 [.ref (ad E (89 + 7 * a1.toNatClampNeg)), .ref (ad E (104 + 2 * a1.toNatClampNeg))] sh0 hE w_Yr_takeOver (e_Yr_takeOver hG hE (d - 1) (by omega) (89 + 7 * a1.toNatClampNeg) (raS88 b5) (104 + 2 * a1.toNatClampNeg) (raS103 b6) P (by rw [hP7]; exact ⟨rfl, rfl, rfl⟩)) lk697 rfl (by omega) (Nat.le_of_ble_eq_true rfl) (by decide +kernel) _ rfl ?_
        refine Go.iconst (n := 0) (0 : Int32) (by decide +kernel) rfl ?_
        exact Go.iret rfl rfl hE.2 (by decide +kernel) h
      · rw [if_pos c4] at h
        refine Go.bipush (n := -5) (-5 : Int32) (by decide +kernel) (by decide) ?_
        exact Go.iret rfl rfl hE.2 (by decide +kernel) h
    · rw [if_neg c2] at h
      refine Go.bipush (n := -2) (-2 : Int32) (by decide +kernel) (by decide) ?_
      exact Go.iret rfl rfl hE.2 (by decide +kernel) h
theorem e_Yr_restore {G : GX} (hG : GOK G) {E : EV} (hE : E0 E) (d : Nat) (hd : 4 ≤ d) (a1 : Int32) (P : PM) {Q : QT} (h : St E rIP (f_Yr_restore a1 P) Q) : Con G y_Yr_restore cw_Yr_restore d nOb nOb [.ref (ad E 0), .int a1] P E Q :=
  Con.of hG (by decide) rfl (fun h => by cases h) hE.2 (Nat.le_of_ble_eq_true rfl) (t_f_Yr_restore hG hE d hd a1 P h)
abbrev c_Ne_waysInAll : ByteArray := prog_4_method_9_code
abbrev y_Ne_waysInAll : MethodName := ⟨"YawnRoute$Net", "waysInAll", "()I"⟩
abbrev cw_Ne_waysInAll : Cond := .code y_Ne_waysInAll c_Ne_waysInAll 3 (some .int)
theorem w_Ne_waysInAll : VW 2 y_Ne_waysInAll c_Ne_waysInAll 3 (some .int) 0 := ⟨by decide, lk1316, lk1317, lk4, lk1318, ⟨by decide, by decide, by decide +kernel⟩, by decide⟩
def l_Ne_waysInAll_4 (this : Nat) : Nat → Int32 → Int32 → PM → Option Int32
  | 0, _, _, _ => none
  | n + 1, x1, x2, P => if (P.1 this 0) ≤ x2 then (some x1) else ((f_Ne_waysFrom this x2 P).bind (fun v2 => lb (x1 + (f_Ji_bitCount v2 P)) (fun y3 => l_Ne_waysInAll_4 this n y3 (x2 + (1 : Int32)) P)))
def f_Ne_waysInAll (this : Nat) (P : PM) : Option Int32 := l_Ne_waysInAll_4 this FU (0 : Int32) (0 : Int32) P
theorem t_l_Ne_waysInAll_4 {G : GX} (hG : GOK G) {E : EV} (hE : E0 E) (d : Nat) (hd : 4 ≤ d) {P : PM} {Q : QT} (this : Nat) (hthis : sh this = .inl 2) : ∀ (n : Nat) (x1 : Int32) (x2 : Int32), St E (rI P) (l_Ne_waysInAll_4 this n x1 x2 P) Q → Go G c_Ne_waysInAll "YawnRoute$Net" 3 (some .int) false d nOb nOb Q 4 [(0, .ref (ad E this)), (1, .int x1), (2, .int x2)] [] P E := by
  intro n
  induction n with
  | zero =>
    intro x1 x2 h
    rw [l_Ne_waysInAll_4] at h
    exact St.none_ h
  | succ n ih =>
    intro x1 x2 h
    rw [l_Ne_waysInAll_4] at h
    refine Go.iload_n (k := 2) (i := 2) 2 (by decide +kernel) rfl rfl ?_
    refine Go.aload_n (k := 0) (i := 0) 0 (by decide +kernel) rfl rfl ?_
    refine Go.get this 0 (.int (P.1 this 0)) (by decide) (by decide) hthis (ltO hE hthis) rfl lk86 (by decide +kernel) ?_
    refine Go.icmp_ge (off := 20) 29 (by decide +kernel) (by decide) (fun c1 => ?_) (fun c1 => ?_)
    · rw [if_pos c1] at h
      refine Go.iload_n (k := 1) (i := 1) 1 (by decide +kernel) rfl rfl ?_
      exact Go.iret rfl rfl hE.2 (by decide +kernel) h
    · rw [if_neg c1] at h
      refine Go.iload_n (k := 1) (i := 1) 1 (by decide +kernel) rfl rfl ?_
      refine Go.aload_n (k := 0) (i := 0) 0 (by decide +kernel) rfl rfl ?_
      refine Go.iload_n (k := 2) (i := 2) 2 (by decide +kernel) rfl rfl ?_
      obtain ⟨v2, hv2, h⟩ := St.bind h
      refine Go.cV_i (d - 1) this [.int x2] hthis hE w_Ne_waysFrom (e_Ne_waysFrom hG hE (d - 1) (by omega) this hthis x2 P (by rw [hv2]; exact ⟨rfl, rfl, rfl⟩)) lk1319 rfl (by omega) (Nat.le_of_ble_eq_true rfl) (by decide +kernel) _ rfl ?_
      refine Go.cS_i (d - 1) [.int v2] hE w_Ji_bitCount (e_Ji_bitCount hG hE (d - 1) (by omega) v2 P ⟨rfl, rfl, rfl⟩) lk1320 rfl (by omega) (Nat.le_of_ble_eq_true rfl) (by decide +kernel) _ rfl ?_
      refine Go.iadd (by decide +kernel) ?_
      obtain ⟨y3, hy3, h⟩ := St.lb h
      refine Go.eqi y3 hy3 ?_
      refine Go.istore_n (k := 1) (i := 1) [(1, .int y3), (0, .ref (ad E this)), (2, .int x2)] (by decide +kernel) rfl (by decide) rfl ?_
      refine Go.iinc (i := 2) (n := 1) 2 (x2 + (1 : Int32)) [(2, .int (x2 + (1 : Int32))), (1, .int y3), (0, .ref (ad E this))] (by decide +kernel) rfl rfl (by decide) rfl ?_
      refine Go.goto (off := -22) 4 (by decide +kernel) (by decide) ?_
      refine Go.sub [2, 1, 0] [(0, .ref (ad E this)), (1, .int y3), (2, .int (x2 + (1 : Int32)))] rfl ?_
      exact ih y3 (x2 + (1 : Int32)) h
theorem t_f_Ne_waysInAll {G : GX} (hG : GOK G) {E : EV} (hE : E0 E) (d : Nat) (hd : 4 ≤ d) {P : PM} {Q : QT} (this : Nat) (hthis : sh this = .inl 2) (h : St E (rI P) (f_Ne_waysInAll this P) Q) : Go G c_Ne_waysInAll "YawnRoute$Net" 3 (some .int) false d nOb nOb Q 0 [(0, .ref (ad E this))] [] P E := by
  rw [f_Ne_waysInAll] at h
  refine Go.iconst (n := 0) (0 : Int32) (by decide +kernel) rfl ?_
  refine Go.istore_n (k := 1) (i := 1) [(1, .int (0 : Int32)), (0, .ref (ad E this))] (by decide +kernel) rfl (by decide) rfl ?_
  refine Go.iconst (n := 0) (0 : Int32) (by decide +kernel) rfl ?_
  refine Go.istore_n (k := 2) (i := 2) [(2, .int (0 : Int32)), (1, .int (0 : Int32)), (0, .ref (ad E this))] (by decide +kernel) rfl (by decide) rfl ?_
  refine Go.sub [2, 1, 0] [(0, .ref (ad E this)), (1, .int (0 : Int32)), (2, .int (0 : Int32))] rfl ?_
  exact t_l_Ne_waysInAll_4 hG hE d hd this hthis FU (0 : Int32) (0 : Int32) h
theorem e_Ne_waysInAll {G : GX} (hG : GOK G) {E : EV} (hE : E0 E) (d : Nat) (hd : 4 ≤ d) (this : Nat) (hthis : sh this = .inl 2) (P : PM) {Q : QT} (h : St E (rI P) (f_Ne_waysInAll this P) Q) : Con G y_Ne_waysInAll cw_Ne_waysInAll d nOb nOb [.ref (ad E this)] P E Q :=
  Con.of hG (by decide) rfl (fun h => by cases h) hE.2 (Nat.le_of_ble_eq_true rfl) (t_f_Ne_waysInAll hG hE d hd this hthis h)
abbrev c_Yr_count : ByteArray := prog_1_method_43_code
abbrev y_Yr_count : MethodName := ⟨"YawnRoute", "count", "(I)I"⟩
abbrev cw_Yr_count : Cond := .code y_Yr_count c_Yr_count 2 (some .int)
theorem w_Yr_count : VW 11 y_Yr_count c_Yr_count 2 (some .int) 1 := ⟨by decide, lk1312, lk1313, lk1, lk1314, ⟨by decide, by decide, by decide +kernel⟩, by decide⟩
def f_Yr_count (a1 : Int32) (P : PM) : Option Int32 := if a1 = (0 : Int32) then (some (P.1 14 0)) else (if a1 = (1 : Int32) then ((f_Ne_waysInAll 14 P).bind (fun v3 => some v3)) else (if a1 = (2 : Int32) then (some (P.1 21 0)) else (if a1 = (3 : Int32) then (some (P.1 21 1)) else (if a1 = (4 : Int32) then (some (P.1 21 3)) else (if a1 = (5 : Int32) then (some (P.1 21 2)) else (if a1 = (6 : Int32) then (some (P.1 31 5)) else (if a1 = (7 : Int32) then (some (P.1 1 1)) else (if a1 = (8 : Int32) then (some (P.1 14 1)) else (some (-1 : Int32))))))))))
theorem t_f_Yr_count {G : GX} (hG : GOK G) {E : EV} (hE : E0 E) (d : Nat) (hd : 5 ≤ d) {P : PM} {Q : QT} (a1 : Int32) (h : St E (rI P) (f_Yr_count a1 P) Q) : Go G c_Yr_count "YawnRoute" 2 (some .int) false d nOb nOb Q 0 [(0, .ref (ad E 0)), (1, .int a1)] [] P E := by
  rw [f_Yr_count] at h
  refine Go.iload_n (k := 1) (i := 1) 1 (by decide +kernel) rfl rfl ?_
  by_cases c1 : a1 = (0 : Int32)
  · rw [if_pos c1] at h
    refine Go.tabIn (dflt := 123) (lo := 0) (hi := 8) (offs := #[51, 59, 67, 75, 83, 91, 99, 107, 115]) (len := 51) (off := 51) 52 (by decide +kernel) (by rw [c1]; decide) (by rw [c1]; decide) (by rw [c1]; rfl) (by decide) ?_
    refine Go.aload_n (k := 0) (i := 0) 0 (by decide +kernel) rfl rfl ?_
    refine Go.get 0 2 (.ref (ad E 14)) (by decide) (by decide) sh0 (ltO hE sh0) (vlR hE rfl rfl) lk392 (by decide +kernel) ?_
    refine Go.get 14 0 (.int (P.1 14 0)) (by decide) (by decide) sh14 (ltO hE sh14) rfl lk93 (by decide +kernel) ?_
    exact Go.iret rfl rfl hE.2 (by decide +kernel) h
  · rw [if_neg c1] at h
    by_cases c2 : a1 = (1 : Int32)
    · rw [if_pos c2] at h
      refine Go.tabIn (dflt := 123) (lo := 0) (hi := 8) (offs := #[51, 59, 67, 75, 83, 91, 99, 107, 115]) (len := 51) (off := 59) 60 (by decide +kernel) (by rw [c2]; decide) (by rw [c2]; decide) (by rw [c2]; rfl) (by decide) ?_
      refine Go.aload_n (k := 0) (i := 0) 0 (by decide +kernel) rfl rfl ?_
      refine Go.get 0 2 (.ref (ad E 14)) (by decide) (by decide) sh0 (ltO hE sh0) (vlR hE rfl rfl) lk392 (by decide +kernel) ?_
      obtain ⟨v3, hv3, h⟩ := St.bind h
      refine Go.cV_i (d - 1) 14 [] sh14 hE w_Ne_waysInAll (e_Ne_waysInAll hG hE (d - 1) (by omega) 14 sh14 P (by rw [hv3]; exact ⟨rfl, rfl, rfl⟩)) lk1315 rfl (by omega) (Nat.le_of_ble_eq_true rfl) (by decide +kernel) _ rfl ?_
      exact Go.iret rfl rfl hE.2 (by decide +kernel) h
    · rw [if_neg c2] at h
      by_cases c4 : a1 = (2 : Int32)
      · rw [if_pos c4] at h
        refine Go.tabIn (dflt := 123) (lo := 0) (hi := 8) (offs := #[51, 59, 67, 75, 83, 91, 99, 107, 115]) (len := 51) (off := 67) 68 (by decide +kernel) (by rw [c4]; decide) (by rw [c4]; decide) (by rw [c4]; rfl) (by decide) ?_
        refine Go.aload_n (k := 0) (i := 0) 0 (by decide +kernel) rfl rfl ?_
        refine Go.get 0 3 (.ref (ad E 21)) (by decide) (by decide) sh0 (ltO hE sh0) (vlR hE rfl rfl) lk393 (by decide +kernel) ?_
        refine Go.get 21 0 (.int (P.1 21 0)) (by decide) (by decide) sh21 (ltO hE sh21) rfl lk151 (by decide +kernel) ?_
        exact Go.iret rfl rfl hE.2 (by decide +kernel) h
      · rw [if_neg c4] at h
        by_cases c5 : a1 = (3 : Int32)
        · rw [if_pos c5] at h
          refine Go.tabIn (dflt := 123) (lo := 0) (hi := 8) (offs := #[51, 59, 67, 75, 83, 91, 99, 107, 115]) (len := 51) (off := 75) 76 (by decide +kernel) (by rw [c5]; decide) (by rw [c5]; decide) (by rw [c5]; rfl) (by decide) ?_
          refine Go.aload_n (k := 0) (i := 0) 0 (by decide +kernel) rfl rfl ?_
          refine Go.get 0 3 (.ref (ad E 21)) (by decide) (by decide) sh0 (ltO hE sh0) (vlR hE rfl rfl) lk393 (by decide +kernel) ?_
          refine Go.get 21 1 (.int (P.1 21 1)) (by decide) (by decide) sh21 (ltO hE sh21) rfl lk159 (by decide +kernel) ?_
          exact Go.iret rfl rfl hE.2 (by decide +kernel) h
        · rw [if_neg c5] at h
          by_cases c6 : a1 = (4 : Int32)
          · rw [if_pos c6] at h
            refine Go.tabIn (dflt := 123) (lo := 0) (hi := 8) (offs := #[51, 59, 67, 75, 83, 91, 99, 107, 115]) (len := 51) (off := 83) 84 (by decide +kernel) (by rw [c6]; decide) (by rw [c6]; decide) (by rw [c6]; rfl) (by decide) ?_
            refine Go.aload_n (k := 0) (i := 0) 0 (by decide +kernel) rfl rfl ?_
            refine Go.get 0 3 (.ref (ad E 21)) (by decide) (by decide) sh0 (ltO hE sh0) (vlR hE rfl rfl) lk393 (by decide +kernel) ?_
            refine Go.get 21 3 (.int (P.1 21 3)) (by decide) (by decide) sh21 (ltO hE sh21) rfl lk169 (by decide +kernel) ?_
            exact Go.iret rfl rfl hE.2 (by decide +kernel) h
          · rw [if_neg c6] at h
            by_cases c7 : a1 = (5 : Int32)
            · rw [if_pos c7] at h
              refine Go.tabIn (dflt := 123) (lo := 0) (hi := 8) (offs := #[51, 59, 67, 75, 83, 91, 99, 107, 115]) (len := 51) (off := 91) 92 (by decide +kernel) (by rw [c7]; decide) (by rw [c7]; decide) (by rw [c7]; rfl) (by decide) ?_
              refine Go.aload_n (k := 0) (i := 0) 0 (by decide +kernel) rfl rfl ?_
              refine Go.get 0 3 (.ref (ad E 21)) (by decide) (by decide) sh0 (ltO hE sh0) (vlR hE rfl rfl) lk393 (by decide +kernel) ?_
              refine Go.get 21 2 (.int (P.1 21 2)) (by decide) (by decide) sh21 (ltO hE sh21) rfl lk162 (by decide +kernel) ?_
              exact Go.iret rfl rfl hE.2 (by decide +kernel) h
            · rw [if_neg c7] at h
              by_cases c8 : a1 = (6 : Int32)
              · rw [if_pos c8] at h
                refine Go.tabIn (dflt := 123) (lo := 0) (hi := 8) (offs := #[51, 59, 67, 75, 83, 91, 99, 107, 115]) (len := 51) (off := 99) 100 (by decide +kernel) (by rw [c8]; decide) (by rw [c8]; decide) (by rw [c8]; rfl) (by decide) ?_
                refine Go.aload_n (k := 0) (i := 0) 0 (by decide +kernel) rfl rfl ?_
                refine Go.get 0 5 (.ref (ad E 31)) (by decide) (by decide) sh0 (ltO hE sh0) (vlR hE rfl rfl) lk395 (by decide +kernel) ?_
                refine Go.get 31 5 (.int (P.1 31 5)) (by decide) (by decide) sh31 (ltO hE sh31) rfl lk250 (by decide +kernel) ?_
                exact Go.iret rfl rfl hE.2 (by decide +kernel) h
              · rw [if_neg c8] at h
                by_cases c9 : a1 = (7 : Int32)
                · rw [if_pos c9] at h
                  refine Go.tabIn (dflt := 123) (lo := 0) (hi := 8) (offs := #[51, 59, 67, 75, 83, 91, 99, 107, 115]) (len := 51) (off := 107) 108 (by decide +kernel) (by rw [c9]; decide) (by rw [c9]; decide) (by rw [c9]; rfl) (by decide) ?_
                  refine Go.aload_n (k := 0) (i := 0) 0 (by decide +kernel) rfl rfl ?_
                  refine Go.get 0 0 (.ref (ad E 1)) (by decide) (by decide) sh0 (ltO hE sh0) (vlR hE rfl rfl) lk390 (by decide +kernel) ?_
                  refine Go.get 1 1 (.int (P.1 1 1)) (by decide) (by decide) sh1 (ltO hE sh1) rfl lk38 (by decide +kernel) ?_
                  exact Go.iret rfl rfl hE.2 (by decide +kernel) h
                · rw [if_neg c9] at h
                  by_cases c10 : a1 = (8 : Int32)
                  · rw [if_pos c10] at h
                    refine Go.tabIn (dflt := 123) (lo := 0) (hi := 8) (offs := #[51, 59, 67, 75, 83, 91, 99, 107, 115]) (len := 51) (off := 115) 116 (by decide +kernel) (by rw [c10]; decide) (by rw [c10]; decide) (by rw [c10]; rfl) (by decide) ?_
                    refine Go.aload_n (k := 0) (i := 0) 0 (by decide +kernel) rfl rfl ?_
                    refine Go.get 0 2 (.ref (ad E 14)) (by decide) (by decide) sh0 (ltO hE sh0) (vlR hE rfl rfl) lk392 (by decide +kernel) ?_
                    refine Go.get 14 1 (.int (P.1 14 1)) (by decide) (by decide) sh14 (ltO hE sh14) rfl lk96 (by decide +kernel) ?_
                    exact Go.iret rfl rfl hE.2 (by decide +kernel) h
                  · rw [if_neg c10] at h
                    have qc1 := lv_neT (k := (0 : Int32)) (a := 0) c1 (by decide)
                    have qc2 := lv_neT (k := (1 : Int32)) (a := 1) c2 (by decide)
                    have qc4 := lv_neT (k := (2 : Int32)) (a := 2) c4 (by decide)
                    have qc5 := lv_neT (k := (3 : Int32)) (a := 3) c5 (by decide)
                    have qc6 := lv_neT (k := (4 : Int32)) (a := 4) c6 (by decide)
                    have qc7 := lv_neT (k := (5 : Int32)) (a := 5) c7 (by decide)
                    have qc8 := lv_neT (k := (6 : Int32)) (a := 6) c8 (by decide)
                    have qc9 := lv_neT (k := (7 : Int32)) (a := 7) c9 (by decide)
                    have qc10 := lv_neT (k := (8 : Int32)) (a := 8) c10 (by decide)
                    refine Go.tabOut (dflt := 123) (lo := 0) (hi := 8) (offs := #[51, 59, 67, 75, 83, 91, 99, 107, 115]) (len := 51) 124 (by decide +kernel) (by omega) (by decide) ?_
                    refine Go.iconst (n := -1) (-1 : Int32) (by decide +kernel) rfl ?_
                    exact Go.iret rfl rfl hE.2 (by decide +kernel) h
theorem e_Yr_count {G : GX} (hG : GOK G) {E : EV} (hE : E0 E) (d : Nat) (hd : 5 ≤ d) (a1 : Int32) (P : PM) {Q : QT} (h : St E (rI P) (f_Yr_count a1 P) Q) : Con G y_Yr_count cw_Yr_count d nOb nOb [.ref (ad E 0), .int a1] P E Q :=
  Con.of hG (by decide) rfl (fun h => by cases h) hE.2 (Nat.le_of_ble_eq_true rfl) (t_f_Yr_count hG hE d hd a1 h)
abbrev c_Mo_within : ByteArray := prog_14_method_2_code
abbrev y_Mo_within : MethodName := ⟨"YawnRouteModel", "within", "(JJJ)Z"⟩
abbrev cw_Mo_within : Cond := .code y_Mo_within c_Mo_within 6 (some .boolean)
theorem w_Mo_within : SW y_Mo_within c_Mo_within 6 (some .boolean) 3 := ⟨lk1439, lk14, lk1440, ⟨by decide, by decide, by decide +kernel⟩, by decide⟩
def j_Mo_within_17 (P : PM) : Int32 := (0 : Int32)
def f_Mo_within (a0 : Int64) (a2 : Int64) (a4 : Int64) (P : PM) : Int32 := if (lg_cmp a0 a2) < (0 : Int32) then (j_Mo_within_17 P) else (if (0 : Int32) < (lg_cmp a0 a4) then (j_Mo_within_17 P) else ((1 : Int32)))
theorem t_j_Mo_within_17 {G : GX} (hG : GOK G) {E : EV} (hE : E0 E) (d : Nat) (hd : 1 ≤ d) {P : PM} {Q : QT} (h : Q (some (.int (j_Mo_within_17 P))) P E) : Go G c_Mo_within "YawnRouteModel" 6 (some .boolean) false d nOb nOb Q 17 [] [] P E := by
  rw [j_Mo_within_17] at h
  refine Go.iconst (n := 0) (0 : Int32) (by decide +kernel) rfl ?_
  exact Go.iret rfl rfl hE.2 (by decide +kernel) h
theorem t_f_Mo_within {G : GX} (hG : GOK G) {E : EV} (hE : E0 E) (d : Nat) (hd : 1 ≤ d) {P : PM} {Q : QT} (a0 : Int64) (a2 : Int64) (a4 : Int64) (h : Q (some (.int (f_Mo_within a0 a2 a4 P))) P E) : Go G c_Mo_within "YawnRouteModel" 6 (some .boolean) false d nOb nOb Q 0 [(0, .long a0), (2, .long a2), (4, .long a4)] [] P E := by
  rw [f_Mo_within] at h
  refine Go.lload_n (k := 0) (i := 0) 0 (by decide +kernel) rfl rfl ?_
  refine Go.lload_n (k := 2) (i := 2) 1 (by decide +kernel) rfl rfl ?_
  refine Go.lcmp (by decide +kernel) ?_
  refine Go.if_lt (off := 14) 17 (by decide +kernel) (by decide) (fun c1 => ?_) (fun c1 => ?_)
  · rw [if_pos c1] at h
    refine Go.sub [] [] rfl ?_
    exact t_j_Mo_within_17 hG hE d hd h
  · rw [if_neg c1] at h
    refine Go.lload_n (k := 0) (i := 0) 0 (by decide +kernel) rfl rfl ?_
    refine Go.lload (i := 4) 2 (by decide +kernel) rfl ?_
    refine Go.lcmp (by decide +kernel) ?_
    refine Go.if_gt (off := 7) 17 (by decide +kernel) (by decide) (fun c2 => ?_) (fun c2 => ?_)
    · rw [if_pos c2] at h
      refine Go.sub [] [] rfl ?_
      exact t_j_Mo_within_17 hG hE d hd h
    · rw [if_neg c2] at h
      refine Go.iconst (n := 1) (1 : Int32) (by decide +kernel) rfl ?_
      refine Go.goto (off := 4) 18 (by decide +kernel) (by decide) ?_
      exact Go.iret rfl rfl hE.2 (by decide +kernel) h
theorem e_Mo_within {G : GX} (hG : GOK G) {E : EV} (hE : E0 E) (d : Nat) (hd : 1 ≤ d) (a0 : Int64) (a2 : Int64) (a4 : Int64) (P : PM) {Q : QT} (h : Q (some (.int (f_Mo_within a0 a2 a4 P))) P E) : Con G y_Mo_within cw_Mo_within d nOb nOb [.long a0, .long a2, .long a4] P E Q :=
  Con.of hG (by decide) rfl (fun h => by cases h) hE.2 (Nat.le_of_ble_eq_true rfl) (t_f_Mo_within hG hE d hd a0 a2 a4 h)
