/-! methods as functions, by program: Ne_joined Ne_valueOf -/
abbrev c_Ne_joined : ByteArray := prog_4_method_14_code
abbrev y_Ne_joined : MethodName := ⟨"YawnRoute$Net", "joined", "(III)I"⟩
abbrev cw_Ne_joined : Cond := .code y_Ne_joined c_Ne_joined 5 (some .int)
theorem w_Ne_joined : SW y_Ne_joined c_Ne_joined 5 (some .int) 3 := ⟨lk777, lk4, lk778, ⟨by decide, by decide, by decide +kernel⟩, by decide⟩
noncomputable def j_Ne_joined_150 (x3 : Int64) (P : PM) : Int32 := if (lg_cmp x3 (1000000 : Int64)) ≤ (0 : Int32) then (if (0 : Int32) ≤ (lg_cmp x3 (-1000000 : Int64)) then ((x3.toInt32)) else (((-1000000 : Int64).toInt32))) else (((1000000 : Int64).toInt32))
noncomputable def j_Ne_joined_105 (s0 : Int64) (P : PM) : Int32 := j_Ne_joined_150 s0 P
noncomputable def j_Ne_joined_119 (s0 : Int64) (P : PM) : Int32 := j_Ne_joined_150 s0 P
noncomputable def j_Ne_joined_133 (s0 : Int64) (P : PM) : Int32 := j_Ne_joined_150 s0 P
noncomputable def f_Ne_joined (a0 : Int32) (a1 : Int32) (a2 : Int32) (P : PM) : Int32 := if a0 = (42 : Int32) then (j_Ne_joined_150 ((a1.toInt64) * (a2.toInt64)) P) else (if a0 = (43 : Int32) then (j_Ne_joined_150 ((a1.toInt64) + (a2.toInt64)) P) else (if a0 = (45 : Int32) then (j_Ne_joined_150 ((a1.toInt64) - (a2.toInt64)) P) else (if a0 = (60 : Int32) then (if a2 ≤ a1 then (j_Ne_joined_119 (0 : Int64) P) else (j_Ne_joined_119 (1 : Int64) P)) else (if a0 = (61 : Int32) then (if a1 = a2 then (j_Ne_joined_105 (1 : Int64) P) else (j_Ne_joined_105 (0 : Int64) P)) else (if a0 = (62 : Int32) then (if a1 ≤ a2 then (j_Ne_joined_133 (0 : Int64) P) else (j_Ne_joined_133 (1 : Int64) P)) else (if a0 = (218 : Int32) then (j_Ne_joined_150 ((a1 &&& a2).toInt64) P) else (j_Ne_joined_150 ((a1 ||| a2).toInt64) P)))))))
theorem t_j_Ne_joined_150 {G : GX} (hG : GOK G) {E : EV} (hE : E0 E) (d : Nat) (hd : 1 ≤ d) {P : PM} {Q : QT} (x3 : Int64) (h : Q (some (.int (j_Ne_joined_150 x3 P))) P E) : Go G c_Ne_joined "YawnRoute$Net" 5 (some .int) false d nOb nOb Q 150 [(3, .long x3)] [] P E := by
  rw [j_Ne_joined_150] at h
  refine Go.lload_n (k := 3) (i := 3) 0 (by decide +kernel) rfl rfl ?_
  refine Go.ldc2 (1000000 : Int64) lk779 (by decide +kernel) ?_
  refine Go.lcmp (by decide +kernel) ?_
  refine Go.if_le (off := 9) 164 (by decide +kernel) (by decide) (fun c1 => ?_) (fun c1 => ?_)
  · rw [if_pos c1] at h
    refine Go.lload_n (k := 3) (i := 3) 0 (by decide +kernel) rfl rfl ?_
    refine Go.ldc2 (-1000000 : Int64) lk780 (by decide +kernel) ?_
    refine Go.lcmp (by decide +kernel) ?_
    refine Go.if_ge (off := 9) 178 (by decide +kernel) (by decide) (fun c2 => ?_) (fun c2 => ?_)
    · rw [if_pos c2] at h
      refine Go.lload_n (k := 3) (i := 3) 0 (by decide +kernel) rfl rfl ?_
      refine Go.l2i (by decide +kernel) ?_
      exact Go.iret rfl rfl hE.2 (by decide +kernel) h
    · rw [if_neg c2] at h
      refine Go.ldc2 (-1000000 : Int64) lk780 (by decide +kernel) ?_
      refine Go.goto (off := 4) 179 (by decide +kernel) (by decide) ?_
      refine Go.l2i (by decide +kernel) ?_
      exact Go.iret rfl rfl hE.2 (by decide +kernel) h
  · rw [if_neg c1] at h
    refine Go.ldc2 (1000000 : Int64) lk779 (by decide +kernel) ?_
    refine Go.goto (off := 18) 179 (by decide +kernel) (by decide) ?_
    refine Go.l2i (by decide +kernel) ?_
    exact Go.iret rfl rfl hE.2 (by decide +kernel) h
theorem t_j_Ne_joined_105 {G : GX} (hG : GOK G) {E : EV} (hE : E0 E) (d : Nat) (hd : 1 ≤ d) {P : PM} {Q : QT} (s0 : Int64) (h : Q (some (.int (j_Ne_joined_105 s0 P))) P E) : Go G c_Ne_joined "YawnRoute$Net" 5 (some .int) false d nOb nOb Q 105 [] [.long s0] P E := by
  rw [j_Ne_joined_105] at h
  refine Go.lstore_n (k := 3) (i := 3) [(3, .long s0)] (by decide +kernel) rfl (by decide) rfl ?_
  refine Go.goto (off := 44) 150 (by decide +kernel) (by decide) ?_
  exact t_j_Ne_joined_150 hG hE d hd s0 h
theorem t_j_Ne_joined_119 {G : GX} (hG : GOK G) {E : EV} (hE : E0 E) (d : Nat) (hd : 1 ≤ d) {P : PM} {Q : QT} (s0 : Int64) (h : Q (some (.int (j_Ne_joined_119 s0 P))) P E) : Go G c_Ne_joined "YawnRoute$Net" 5 (some .int) false d nOb nOb Q 119 [] [.long s0] P E := by
  rw [j_Ne_joined_119] at h
  refine Go.lstore_n (k := 3) (i := 3) [(3, .long s0)] (by decide +kernel) rfl (by decide) rfl ?_
  refine Go.goto (off := 30) 150 (by decide +kernel) (by decide) ?_
  exact t_j_Ne_joined_150 hG hE d hd s0 h
theorem t_j_Ne_joined_133 {G : GX} (hG : GOK G) {E : EV} (hE : E0 E) (d : Nat) (hd : 1 ≤ d) {P : PM} {Q : QT} (s0 : Int64) (h : Q (some (.int (j_Ne_joined_133 s0 P))) P E) : Go G c_Ne_joined "YawnRoute$Net" 5 (some .int) false d nOb nOb Q 133 [] [.long s0] P E := by
  rw [j_Ne_joined_133] at h
  refine Go.lstore_n (k := 3) (i := 3) [(3, .long s0)] (by decide +kernel) rfl (by decide) rfl ?_
  refine Go.goto (off := 16) 150 (by decide +kernel) (by decide) ?_
  exact t_j_Ne_joined_150 hG hE d hd s0 h
theorem t_f_Ne_joined {G : GX} (hG : GOK G) {E : EV} (hE : E0 E) (d : Nat) (hd : 1 ≤ d) {P : PM} {Q : QT} (a0 : Int32) (a1 : Int32) (a2 : Int32) (h : Q (some (.int (f_Ne_joined a0 a1 a2 P))) P E) : Go G c_Ne_joined "YawnRoute$Net" 5 (some .int) false d nOb nOb Q 0 [(0, .int a0), (1, .int a1), (2, .int a2)] [] P E := by
  rw [f_Ne_joined] at h
  refine Go.iload_n (k := 0) (i := 0) 0 (by decide +kernel) rfl rfl ?_
  by_cases c1 : a0 = (42 : Int32)
  · rw [if_pos c1] at h
    refine Go.look (dflt := 144) (ps := #[(42, 85), (43, 67), (45, 76), (60, 108), (61, 94), (62, 122), (218, 136)]) (len := 67) (off := 85) 86 (by decide +kernel) (by decide) (by rw [c1]; rfl) (by decide) ?_
    refine Go.iload_n (k := 1) (i := 1) 1 (by decide +kernel) rfl rfl ?_
    refine Go.i2l (by decide +kernel) ?_
    refine Go.iload_n (k := 2) (i := 2) 2 (by decide +kernel) rfl rfl ?_
    refine Go.i2l (by decide +kernel) ?_
    refine Go.lmul (by decide +kernel) ?_
    refine Go.lstore_n (k := 3) (i := 3) [(3, .long ((a1.toInt64) * (a2.toInt64))), (0, .int a0), (1, .int a1), (2, .int a2)] (by decide +kernel) rfl (by decide) rfl ?_
    refine Go.goto (off := 58) 150 (by decide +kernel) (by decide) ?_
    refine Go.sub [0] [(3, .long ((a1.toInt64) * (a2.toInt64)))] rfl ?_
    exact t_j_Ne_joined_150 hG hE d hd ((a1.toInt64) * (a2.toInt64)) h
  · rw [if_neg c1] at h
    by_cases c2 : a0 = (43 : Int32)
    · rw [if_pos c2] at h
      refine Go.look (dflt := 144) (ps := #[(42, 85), (43, 67), (45, 76), (60, 108), (61, 94), (62, 122), (218, 136)]) (len := 67) (off := 67) 68 (by decide +kernel) (by decide) (by rw [c2]; rfl) (by decide) ?_
      refine Go.iload_n (k := 1) (i := 1) 1 (by decide +kernel) rfl rfl ?_
      refine Go.i2l (by decide +kernel) ?_
      refine Go.iload_n (k := 2) (i := 2) 2 (by decide +kernel) rfl rfl ?_
      refine Go.i2l (by decide +kernel) ?_
      refine Go.ladd (by decide +kernel) ?_
      refine Go.lstore_n (k := 3) (i := 3) [(3, .long ((a1.toInt64) + (a2.toInt64))), (0, .int a0), (1, .int a1), (2, .int a2)] (by decide +kernel) rfl (by decide) rfl ?_
      refine Go.goto (off := 76) 150 (by decide +kernel) (by decide) ?_
      refine Go.sub [0] [(3, .long ((a1.toInt64) + (a2.toInt64)))] rfl ?_
      exact t_j_Ne_joined_150 hG hE d hd ((a1.toInt64) + (a2.toInt64)) h
    · rw [if_neg c2] at h
      by_cases c3 : a0 = (45 : Int32)
      · rw [if_pos c3] at h
        refine Go.look (dflt := 144) (ps := #[(42, 85), (43, 67), (45, 76), (60, 108), (61, 94), (62, 122), (218, 136)]) (len := 67) (off := 76) 77 (by decide +kernel) (by decide) (by rw [c3]; rfl) (by decide) ?_
        refine Go.iload_n (k := 1) (i := 1) 1 (by decide +kernel) rfl rfl ?_
        refine Go.i2l (by decide +kernel) ?_
        refine Go.iload_n (k := 2) (i := 2) 2 (by decide +kernel) rfl rfl ?_
        refine Go.i2l (by decide +kernel) ?_
        refine Go.lsub (by decide +kernel) ?_
        refine Go.lstore_n (k := 3) (i := 3) [(3, .long ((a1.toInt64) - (a2.toInt64))), (0, .int a0), (1, .int a1), (2, .int a2)] (by decide +kernel) rfl (by decide) rfl ?_
        refine Go.goto (off := 67) 150 (by decide +kernel) (by decide) ?_
        refine Go.sub [0] [(3, .long ((a1.toInt64) - (a2.toInt64)))] rfl ?_
        exact t_j_Ne_joined_150 hG hE d hd ((a1.toInt64) - (a2.toInt64)) h
      · rw [if_neg c3] at h
        by_cases c4 : a0 = (60 : Int32)
        · rw [if_pos c4] at h
          refine Go.look (dflt := 144) (ps := #[(42, 85), (43, 67), (45, 76), (60, 108), (61, 94), (62, 122), (218, 136)]) (len := 67) (off := 108) 109 (by decide +kernel) (by decide) (by rw [c4]; rfl) (by decide) ?_
          refine Go.iload_n (k := 1) (i := 1) 1 (by decide +kernel) rfl rfl ?_
          refine Go.iload_n (k := 2) (i := 2) 2 (by decide +kernel) rfl rfl ?_
          refine Go.icmp_ge (off := 7) 118 (by decide +kernel) (by decide) (fun c5 => ?_) (fun c5 => ?_)
          · rw [if_pos c5] at h
            refine Go.lconst (n := 0) (0 : Int64) (by decide +kernel) rfl ?_
            refine Go.sub [] [] rfl ?_
            exact t_j_Ne_joined_119 hG hE d hd (0 : Int64) h
          · rw [if_neg c5] at h
            refine Go.lconst (n := 1) (1 : Int64) (by decide +kernel) rfl ?_
            refine Go.goto (off := 4) 119 (by decide +kernel) (by decide) ?_
            refine Go.sub [] [] rfl ?_
            exact t_j_Ne_joined_119 hG hE d hd (1 : Int64) h
        · rw [if_neg c4] at h
          by_cases c6 : a0 = (61 : Int32)
          · rw [if_pos c6] at h
            refine Go.look (dflt := 144) (ps := #[(42, 85), (43, 67), (45, 76), (60, 108), (61, 94), (62, 122), (218, 136)]) (len := 67) (off := 94) 95 (by decide +kernel) (by decide) (by rw [c6]; rfl) (by decide) ?_
            refine Go.iload_n (k := 1) (i := 1) 1 (by decide +kernel) rfl rfl ?_
            refine Go.iload_n (k := 2) (i := 2) 2 (by decide +kernel) rfl rfl ?_
            refine Go.icmp_ne (off := 7) 104 (by decide +kernel) (by decide) (fun c7 => ?_) (fun c7 => ?_)
            · rw [if_neg c7] at h
              refine Go.lconst (n := 0) (0 : Int64) (by decide +kernel) rfl ?_
              refine Go.sub [] [] rfl ?_
              exact t_j_Ne_joined_105 hG hE d hd (0 : Int64) h
            · rw [if_pos c7] at h
              refine Go.lconst (n := 1) (1 : Int64) (by decide +kernel) rfl ?_
              refine Go.goto (off := 4) 105 (by decide +kernel) (by decide) ?_
              refine Go.sub [] [] rfl ?_
              exact t_j_Ne_joined_105 hG hE d hd (1 : Int64) h
          · rw [if_neg c6] at h
            by_cases c8 : a0 = (62 : Int32)
            · rw [if_pos c8] at h
              refine Go.look (dflt := 144) (ps := #[(42, 85), (43, 67), (45, 76), (60, 108), (61, 94), (62, 122), (218, 136)]) (len := 67) (off := 122) 123 (by decide +kernel) (by decide) (by rw [c8]; rfl) (by decide) ?_
              refine Go.iload_n (k := 1) (i := 1) 1 (by decide +kernel) rfl rfl ?_
              refine Go.iload_n (k := 2) (i := 2) 2 (by decide +kernel) rfl rfl ?_
              refine Go.icmp_le (off := 7) 132 (by decide +kernel) (by decide) (fun c9 => ?_) (fun c9 => ?_)
              · rw [if_pos c9] at h
                refine Go.lconst (n := 0) (0 : Int64) (by decide +kernel) rfl ?_
                refine Go.sub [] [] rfl ?_
                exact t_j_Ne_joined_133 hG hE d hd (0 : Int64) h
              · rw [if_neg c9] at h
                refine Go.lconst (n := 1) (1 : Int64) (by decide +kernel) rfl ?_
                refine Go.goto (off := 4) 133 (by decide +kernel) (by decide) ?_
                refine Go.sub [] [] rfl ?_
                exact t_j_Ne_joined_133 hG hE d hd (1 : Int64) h
            · rw [if_neg c8] at h
              by_cases c10 : a0 = (218 : Int32)
              · rw [if_pos c10] at h
                refine Go.look (dflt := 144) (ps := #[(42, 85), (43, 67), (45, 76), (60, 108), (61, 94), (62, 122), (218, 136)]) (len := 67) (off := 136) 137 (by decide +kernel) (by decide) (by rw [c10]; rfl) (by decide) ?_
                refine Go.iload_n (k := 1) (i := 1) 1 (by decide +kernel) rfl rfl ?_
                refine Go.iload_n (k := 2) (i := 2) 2 (by decide +kernel) rfl rfl ?_
                refine Go.iand (by decide +kernel) ?_
                refine Go.i2l (by decide +kernel) ?_
                refine Go.lstore_n (k := 3) (i := 3) [(3, .long ((a1 &&& a2).toInt64)), (0, .int a0), (1, .int a1), (2, .int a2)] (by decide +kernel) rfl (by decide) rfl ?_
                refine Go.goto (off := 8) 150 (by decide +kernel) (by decide) ?_
                refine Go.sub [0] [(3, .long ((a1 &&& a2).toInt64))] rfl ?_
                exact t_j_Ne_joined_150 hG hE d hd ((a1 &&& a2).toInt64) h
              · rw [if_neg c10] at h
                refine Go.look (dflt := 144) (ps := #[(42, 85), (43, 67), (45, 76), (60, 108), (61, 94), (62, 122), (218, 136)]) (len := 67) (off := 144) 145 (by decide +kernel) (by decide) ((lv_osw (k := (42 : Int32)) c1 (by decide)).trans ((lv_osw (k := (43 : Int32)) c2 (by decide)).trans ((lv_osw (k := (45 : Int32)) c3 (by decide)).trans ((lv_osw (k := (60 : Int32)) c4 (by decide)).trans ((lv_osw (k := (61 : Int32)) c6 (by decide)).trans ((lv_osw (k := (62 : Int32)) c8 (by decide)).trans ((lv_osw (k := (218 : Int32)) c10 (by decide)).trans rfl))))))) (by decide) ?_
                refine Go.iload_n (k := 1) (i := 1) 1 (by decide +kernel) rfl rfl ?_
                refine Go.iload_n (k := 2) (i := 2) 2 (by decide +kernel) rfl rfl ?_
                refine Go.ior (by decide +kernel) ?_
                refine Go.i2l (by decide +kernel) ?_
                refine Go.lstore_n (k := 3) (i := 3) [(3, .long ((a1 ||| a2).toInt64)), (0, .int a0), (1, .int a1), (2, .int a2)] (by decide +kernel) rfl (by decide) rfl ?_
                refine Go.sub [0] [(3, .long ((a1 ||| a2).toInt64))] rfl ?_
                exact t_j_Ne_joined_150 hG hE d hd ((a1 ||| a2).toInt64) h
theorem e_Ne_joined {G : GX} (hG : GOK G) {E : EV} (hE : E0 E) (d : Nat) (hd : 1 ≤ d) (a0 : Int32) (a1 : Int32) (a2 : Int32) (P : PM) {Q : QT} (h : Q (some (.int (f_Ne_joined a0 a1 a2 P))) P E) : Con G y_Ne_joined cw_Ne_joined d nOb nOb [.int a0, .int a1, .int a2] P E Q :=
  Con.of hG (by decide +kernel) rfl (fun h => by cases h) hE.2 (Nat.le_of_ble_eq_true rfl) (t_f_Ne_joined hG hE d hd a0 a1 a2 h)
abbrev c_Ne_valueOf : ByteArray := prog_4_method_12_code
abbrev y_Ne_valueOf : MethodName := ⟨"YawnRoute$Net", "valueOf", "(II)I"⟩
abbrev cw_Ne_valueOf : Cond := .code y_Ne_valueOf c_Ne_valueOf 6 (some .int)
theorem w_Ne_valueOf : VW 2 y_Ne_valueOf c_Ne_valueOf 6 (some .int) 2 := ⟨by decide, lk771, lp20_, lk4, lk772, ⟨by decide, by decide, by decide +kernel⟩, by decide⟩
noncomputable def j_Ne_valueOf_210 (this : Nat) (k5 : Int32 → Int32 → Int32 → PM → Option (Int32 × PM)) (x2 : Int32) (x3 : Int32) (x4 : Int32) (P : PM) : Option (Int32 × PM) := k5 x2 x3 (x4 + (1 : Int32)) P
noncomputable def j_Ne_valueOf_81 (this : Nat) (k5 : Int32 → Int32 → Int32 → PM → Option (Int32 × PM)) (x2 : Int32) (x3 : Int32) (x4 : Int32) (s1 : Int32) (s2 : Int32) (P : PM) : Option (Int32 × PM) := ck (inb s1 64) (j_Ne_valueOf_210 this k5 x2 x3 x4 (u1 P (this + 6) s1.toNatClampNeg s2))
noncomputable def j_Ne_valueOf_50 (this : Nat) (k5 : Int32 → Int32 → Int32 → PM → Option (Int32 × PM)) (x2 : Int32) (x4 : Int32) (x5 : Int32) (s0 : Int32) (s1 : Int32) (P : PM) : Option (Int32 × PM) := lb (s0 + s1) (fun y1 => if x5 < (0 : Int32) then (ck (inb ((-x5) - (200 : Int32)) 6) (j_Ne_valueOf_81 this k5 x2 y1 x4 (y1 - (1 : Int32)) (P.1 (this + 5) ((-x5) - (200 : Int32)).toNatClampNeg) P)) else (j_Ne_valueOf_81 this k5 x2 y1 x4 (y1 - (1 : Int32)) x5 P))
noncomputable def j_Ne_valueOf_170 (this : Nat) (k5 : Int32 → Int32 → Int32 → PM → Option (Int32 × PM)) (x2 : Int32) (x3 : Int32) (x4 : Int32) (s1 : Int32) (s2 : Int32) (P : PM) : Option (Int32 × PM) := ck (inb s1 64) (j_Ne_valueOf_210 this k5 x2 x3 x4 (u1 P (this + 6) s1.toNatClampNeg s2))
noncomputable def j_Ne_valueOf_174 (this : Nat) (k5 : Int32 → Int32 → Int32 → PM → Option (Int32 × PM)) (x2 : Int32) (x3 : Int32) (x4 : Int32) (x5 : Int32) (P : PM) : Option (Int32 × PM) := if x3 < (2 : Int32) then (j_Ne_valueOf_210 this k5 x2 x3 x4 P) else (ck (inb ((x3 + (-1 : Int32)) - (1 : Int32)) 64) (ck (inb (x3 + (-1 : Int32)) 64) (ck (inb ((x3 + (-1 : Int32)) - (1 : Int32)) 64) (j_Ne_valueOf_210 this k5 x2 (x3 + (-1 : Int32)) x4 (u1 P (this + 6) ((x3 + (-1 : Int32)) - (1 : Int32)).toNatClampNeg (f_Ne_joined (-x5) (P.1 (this + 6) ((x3 + (-1 : Int32)) - (1 : Int32)).toNatClampNeg) (P.1 (this + 6) (x3 + (-1 : Int32)).toNatClampNeg) P))))))
noncomputable def j_Ne_valueOf_119 (this : Nat) (k5 : Int32 → Int32 → Int32 → PM → Option (Int32 × PM)) (x2 : Int32) (x3 : Int32) (x4 : Int32) (x5 : Int32) (P : PM) : Option (Int32 × PM) := if x5 = (-213 : Int32) then (if x3 < (3 : Int32) then (j_Ne_valueOf_174 this k5 x2 x3 x4 x5 P) else (ck (inb ((x3 + (-2 : Int32)) - (1 : Int32)) 64) (if (P.1 (this + 6) ((x3 + (-2 : Int32)) - (1 : Int32)).toNatClampNeg) = (0 : Int32) then (ck (inb ((x3 + (-2 : Int32)) + (1 : Int32)) 64) (j_Ne_valueOf_170 this k5 x2 (x3 + (-2 : Int32)) x4 ((x3 + (-2 : Int32)) - (1 : Int32)) (P.1 (this + 6) ((x3 + (-2 : Int32)) + (1 : Int32)).toNatClampNeg) P)) else (ck (inb (x3 + (-2 : Int32)) 64) (j_Ne_valueOf_170 this k5 x2 (x3 + (-2 : Int32)) x4 ((x3 + (-2 : Int32)) - (1 : Int32)) (P.1 (this + 6) (x3 + (-2 : Int32)).toNatClampNeg) P))))) else (j_Ne_valueOf_174 this k5 x2 x3 x4 x5 P)
noncomputable def j_Ne_valueOf_216 (this : Nat) (x3 : Int32) (P : PM) : Option (Int32 × PM) := if x3 ≤ (0 : Int32) then (some ((0 : Int32), P)) else (ck (inb (x3 - (1 : Int32)) 64) (some ((P.1 (this + 6) (x3 - (1 : Int32)).toNatClampNeg), P)))
noncomputable def l_Ne_valueOf_5 (this : Nat) : Nat → Int32 → Int32 → Int32 → PM → Option (Int32 × PM)
  | 0, _, _, _, _ => none
  | n + 1, x2, x3, x4, P => if x2 ≤ x4 then (j_Ne_valueOf_216 this x3 P) else (if (900 : Int32) ≤ x4 then (j_Ne_valueOf_216 this x3 P) else (ck (inb x4 900) (lb (P.1 (this + 4) x4.toNatClampNeg) (fun y4 => if (f_Ne_isValue y4 P) = (0 : Int32) then (if y4 = (-219 : Int32) then (if x3 < (1 : Int32) then (j_Ne_valueOf_119 this (fun z0 z1 z2 Pz => l_Ne_valueOf_5 this n z0 z1 z2 Pz) x2 x3 x4 y4 P) else (ck (inb (x3 - (1 : Int32)) 64) (ck (inb (x3 - (1 : Int32)) 64) (j_Ne_valueOf_210 this (fun z0 z1 z2 Pz => l_Ne_valueOf_5 this n z0 z1 z2 Pz) x2 x3 x4 (u1 P (this + 6) (x3 - (1 : Int32)).toNatClampNeg ((1 : Int32) - (P.1 (this + 6) (x3 - (1 : Int32)).toNatClampNeg))))))) else (j_Ne_valueOf_119 this (fun z0 z1 z2 Pz => l_Ne_valueOf_5 this n z0 z1 z2 Pz) x2 x3 x4 y4 P)) else (if (64 : Int32) ≤ x3 then (j_Ne_valueOf_50 this (fun z0 z1 z2 Pz => l_Ne_valueOf_5 this n z0 z1 z2 Pz) x2 x4 y4 x3 (0 : Int32) P) else (j_Ne_valueOf_50 this (fun z0 z1 z2 Pz => l_Ne_valueOf_5 this n z0 z1 z2 Pz) x2 x4 y4 x3 (1 : Int32) P))))))
noncomputable def f_Ne_valueOf (this : Nat) (a1 : Int32) (a2 : Int32) (P : PM) : Option (Int32 × PM) := l_Ne_valueOf_5 this FU a2 (0 : Int32) a1 P
theorem t_j_Ne_valueOf_210 {G : GX} (hG : GOK G) {E : EV} (hE : E0 E) (d : Nat) (hd : 2 ≤ d) {Q : QT} (this : Nat) (hthis : sh this = .inl 2) (k5 : Int32 → Int32 → Int32 → PM → Option (Int32 × PM)) (hk5 : ∀ (x2 : Int32) (x3 : Int32) (x4 : Int32) (P : PM), St E rIP (k5 x2 x3 x4 P) Q → Go G c_Ne_valueOf "YawnRoute$Net" 6 (some .int) false d nOb nOb Q 5 [(0, .ref (ad E this)), (2, .int x2), (3, .int x3), (4, .int x4)] [] P E) (x2 : Int32) (x3 : Int32) (x4 : Int32) (P : PM) (h : St E rIP (j_Ne_valueOf_210 this k5 x2 x3 x4 P) Q) : Go G c_Ne_valueOf "YawnRoute$Net" 6 (some .int) false d nOb nOb Q 210 [(0, .ref (ad E this)), (2, .int x2), (3, .int x3), (4, .int x4)] [] P E := by
  rw [j_Ne_valueOf_210] at h
  refine Go.iinc (i := 4) (n := 1) 3 (x4 + (1 : Int32)) [(4, .int (x4 + (1 : Int32))), (0, .ref (ad E this)), (2, .int x2), (3, .int x3)] (by decide +kernel) rfl rfl (by decide) rfl ?_
  refine Go.goto (off := -208) 5 (by decide +kernel) (by decide) ?_
  refine Go.sub [1, 2, 3, 0] [(0, .ref (ad E this)), (2, .int x2), (3, .int x3), (4, .int (x4 + (1 : Int32)))] rfl ?_
  exact hk5 x2 x3 (x4 + (1 : Int32)) P h
theorem t_j_Ne_valueOf_81 {G : GX} (hG : GOK G) {E : EV} (hE : E0 E) (d : Nat) (hd : 2 ≤ d) {Q : QT} (this : Nat) (hthis : sh this = .inl 2) (k5 : Int32 → Int32 → Int32 → PM → Option (Int32 × PM)) (hk5 : ∀ (x2 : Int32) (x3 : Int32) (x4 : Int32) (P : PM), St E rIP (k5 x2 x3 x4 P) Q → Go G c_Ne_valueOf "YawnRoute$Net" 6 (some .int) false d nOb nOb Q 5 [(0, .ref (ad E this)), (2, .int x2), (3, .int x3), (4, .int x4)] [] P E) (x2 : Int32) (x3 : Int32) (x4 : Int32) (s1 : Int32) (s2 : Int32) (P : PM) (h : St E rIP (j_Ne_valueOf_81 this k5 x2 x3 x4 s1 s2 P) Q) : Go G c_Ne_valueOf "YawnRoute$Net" 6 (some .int) false d nOb nOb Q 81 [(0, .ref (ad E this)), (2, .int x2), (3, .int x3), (4, .int x4)] [.int s2, .int s1, .ref (ad E (this + 6))] P E := by
  rw [j_Ne_valueOf_81] at h
  obtain ⟨b1, h⟩ := St.ck h
  refine Go.iastore (this + 6) 64 (shNe_12 hthis) (ltA hE (shNe_12 hthis) (by decide)) (inb_in b1) (by decide +kernel) ?_
  refine Go.goto (off := 128) 210 (by decide +kernel) (by decide) ?_
  exact t_j_Ne_valueOf_210 hG hE d hd this hthis k5 hk5 x2 x3 x4 (u1 P (this + 6) s1.toNatClampNeg s2) h
theorem t_j_Ne_valueOf_50 {G : GX} (hG : GOK G) {E : EV} (hE : E0 E) (d : Nat) (hd : 2 ≤ d) {Q : QT} (this : Nat) (hthis : sh this = .inl 2) (k5 : Int32 → Int32 → Int32 → PM → Option (Int32 × PM)) (hk5 : ∀ (x2 : Int32) (x3 : Int32) (x4 : Int32) (P : PM), St E rIP (k5 x2 x3 x4 P) Q → Go G c_Ne_valueOf "YawnRoute$Net" 6 (some .int) false d nOb nOb Q 5 [(0, .ref (ad E this)), (2, .int x2), (3, .int x3), (4, .int x4)] [] P E) (x2 : Int32) (x4 : Int32) (x5 : Int32) (s0 : Int32) (s1 : Int32) (P : PM) (h : St E rIP (j_Ne_valueOf_50 this k5 x2 x4 x5 s0 s1 P) Q) : Go G c_Ne_valueOf "YawnRoute$Net" 6 (some .int) false d nOb nOb Q 50 [(0, .ref (ad E this)), (2, .int x2), (4, .int x4), (5, .int x5)] [.int s1, .int s0] P E := by
  rw [j_Ne_valueOf_50] at h
  refine Go.iadd (by decide +kernel) ?_
  obtain ⟨y1, hy1, h⟩ := St.lb h
  refine Go.eqi y1 hy1 ?_
  refine Go.istore_n (k := 3) (i := 3) [(3, .int y1), (0, .ref (ad E this)), (2, .int x2), (4, .int x4), (5, .int x5)] (by decide +kernel) rfl (by decide) rfl ?_
  refine Go.aload_n (k := 0) (i := 0) 1 (by decide +kernel) rfl rfl ?_
  refine Go.get this 12 (.ref (ad E (this + 6))) (by decide) (by decide) hthis (ltO hE hthis) (vlR hE rfl (rfNe_12 hthis)) lk114 (by decide +kernel) ?_
  refine Go.iload_n (k := 3) (i := 3) 0 (by decide +kernel) rfl rfl ?_
  refine Go.iconst (n := 1) (1 : Int32) (by decide +kernel) rfl ?_
  refine Go.isub (by decide +kernel) ?_
  refine Go.iload (i := 5) 4 (by decide +kernel) rfl ?_
  refine Go.if_lt (off := 8) 69 (by decide +kernel) (by decide) (fun c2 => ?_) (fun c2 => ?_)
  · rw [if_pos c2] at h
    refine Go.aload_n (k := 0) (i := 0) 1 (by decide +kernel) rfl rfl ?_
    refine Go.get this 11 (.ref (ad E (this + 5))) (by decide) (by decide) hthis (ltO hE hthis) (vlR hE rfl (rfNe_11 hthis)) lk113 (by decide +kernel) ?_
    refine Go.iload (i := 5) 4 (by decide +kernel) rfl ?_
    refine Go.ineg (by decide +kernel) ?_
    refine Go.sipush (n := 200) (200 : Int32) (by decide +kernel) (by decide) ?_
    refine Go.isub (by decide +kernel) ?_
    obtain ⟨b3, h⟩ := St.ck h
    refine Go.iaload (this + 5) 6 (shNe_11 hthis) (ltA hE (shNe_11 hthis) (by decide)) (inb_in b3) (by decide +kernel) ?_
    refine Go.sub [1, 2, 0, 3] [(0, .ref (ad E this)), (2, .int x2), (3, .int y1), (4, .int x4)] rfl ?_
    exact t_j_Ne_valueOf_81 hG hE d hd this hthis k5 hk5 x2 y1 x4 (y1 - (1 : Int32)) (P.1 (this + 5) ((-x5) - (200 : Int32)).toNatClampNeg) P h
  · rw [if_neg c2] at h
    refine Go.iload (i := 5) 4 (by decide +kernel) rfl ?_
    refine Go.goto (off := 15) 81 (by decide +kernel) (by decide) ?_
    refine Go.sub [1, 2, 0, 3] [(0, .ref (ad E this)), (2, .int x2), (3, .int y1), (4, .int x4)] rfl ?_
    exact t_j_Ne_valueOf_81 hG hE d hd this hthis k5 hk5 x2 y1 x4 (y1 - (1 : Int32)) x5 P h
theorem t_j_Ne_valueOf_170 {G : GX} (hG : GOK G) {E : EV} (hE : E0 E) (d : Nat) (hd : 2 ≤ d) {Q : QT} (this : Nat) (hthis : sh this = .inl 2) (k5 : Int32 → Int32 → Int32 → PM → Option (Int32 × PM)) (hk5 : ∀ (x2 : Int32) (x3 : Int32) (x4 : Int32) (P : PM), St E rIP (k5 x2 x3 x4 P) Q → Go G c_Ne_valueOf "YawnRoute$Net" 6 (some .int) false d nOb nOb Q 5 [(0, .ref (ad E this)), (2, .int x2), (3, .int x3), (4, .int x4)] [] P E) (x2 : Int32) (x3 : Int32) (x4 : Int32) (s1 : Int32) (s2 : Int32) (P : PM) (h : St E rIP (j_Ne_valueOf_170 this k5 x2 x3 x4 s1 s2 P) Q) : Go G c_Ne_valueOf "YawnRoute$Net" 6 (some .int) false d nOb nOb Q 170 [(0, .ref (ad E this)), (2, .int x2), (3, .int x3), (4, .int x4)] [.int s2, .int s1, .ref (ad E (this + 6))] P E := by
  rw [j_Ne_valueOf_170] at h
  obtain ⟨b1, h⟩ := St.ck h
  refine Go.iastore (this + 6) 64 (shNe_12 hthis) (ltA hE (shNe_12 hthis) (by decide)) (inb_in b1) (by decide +kernel) ?_
  refine Go.goto (off := 39) 210 (by decide +kernel) (by decide) ?_
  exact t_j_Ne_valueOf_210 hG hE d hd this hthis k5 hk5 x2 x3 x4 (u1 P (this + 6) s1.toNatClampNeg s2) h
theorem t_j_Ne_valueOf_174 {G : GX} (hG : GOK G) {E : EV} (hE : E0 E) (d : Nat) (hd : 2 ≤ d) {Q : QT} (this : Nat) (hthis : sh this = .inl 2) (k5 : Int32 → Int32 → Int32 → PM → Option (Int32 × PM)) (hk5 : ∀ (x2 : Int32) (x3 : Int32) (x4 : Int32) (P : PM), St E rIP (k5 x2 x3 x4 P) Q → Go G c_Ne_valueOf "YawnRoute$Net" 6 (some .int) false d nOb nOb Q 5 [(0, .ref (ad E this)), (2, .int x2), (3, .int x3), (4, .int x4)] [] P E) (x2 : Int32) (x3 : Int32) (x4 : Int32) (x5 : Int32) (P : PM) (h : St E rIP (j_Ne_valueOf_174 this k5 x2 x3 x4 x5 P) Q) : Go G c_Ne_valueOf "YawnRoute$Net" 6 (some .int) false d nOb nOb Q 174 [(0, .ref (ad E this)), (2, .int x2), (3, .int x3), (4, .int x4), (5, .int x5)] [] P E := by
  rw [j_Ne_valueOf_174] at h
  refine Go.iload_n (k := 3) (i := 3) 2 (by decide +kernel) rfl rfl ?_
  refine Go.iconst (n := 2) (2 : Int32) (by decide +kernel) rfl ?_
  refine Go.icmp_lt (off := 34) 210 (by decide +kernel) (by decide) (fun c1 => ?_) (fun c1 => ?_)
  · rw [if_pos c1] at h
    refine Go.sub [0, 1, 2, 3] [(0, .ref (ad E this)), (2, .int x2), (3, .int x3), (4, .int x4)] rfl ?_
    exact t_j_Ne_valueOf_210 hG hE d hd this hthis k5 hk5 x2 x3 x4 P h
  · rw [if_neg c1] at h
    refine Go.iinc (i := 3) (n := -1) 2 (x3 + (-1 : Int32)) [(3, .int (x3 + (-1 : Int32))), (0, .ref (ad E this)), (2, .int x2), (4, .int x4), (5, .int x5)] (by decide +kernel) rfl rfl (by decide) rfl ?_
    refine Go.aload_n (k := 0) (i := 0) 1 (by decide +kernel) rfl rfl ?_
    refine Go.get this 12 (.ref (ad E (this + 6))) (by decide) (by decide) hthis (ltO hE hthis) (vlR hE rfl (rfNe_12 hthis)) lk114 (by decide +kernel) ?_
    refine Go.iload_n (k := 3) (i := 3) 0 (by decide +kernel) rfl rfl ?_
    refine Go.iconst (n := 1) (1 : Int32) (by decide +kernel) rfl ?_
    refine Go.isub (by decide +kernel) ?_
    refine Go.iload (i := 5) 4 (by decide +kernel) rfl ?_
    refine Go.ineg (by decide +kernel) ?_
    refine Go.aload_n (k := 0) (i := 0) 1 (by decide +kernel) rfl rfl ?_
    refine Go.get this 12 (.ref (ad E (this + 6))) (by decide) (by decide) hthis (ltO hE hthis) (vlR hE rfl (rfNe_12 hthis)) lk114 (by decide +kernel) ?_
    refine Go.iload_n (k := 3) (i := 3) 0 (by decide +kernel) rfl rfl ?_
    refine Go.iconst (n := 1) (1 : Int32) (by decide +kernel) rfl ?_
    refine Go.isub (by decide +kernel) ?_
    obtain ⟨b2, h⟩ := St.ck h
    refine Go.iaload (this + 6) 64 (shNe_12 hthis) (ltA hE (shNe_12 hthis) (by decide)) (inb_in b2) (by decide +kernel) ?_
    refine Go.aload_n (k := 0) (i := 0) 1 (by decide +kernel) rfl rfl ?_
    refine Go.get this 12 (.ref (ad E (this + 6))) (by decide) (by decide) hthis (ltO hE hthis) (vlR hE rfl (rfNe_12 hthis)) lk114 (by decide +kernel) ?_
    refine Go.iload_n (k := 3) (i := 3) 0 (by decide +kernel) rfl rfl ?_
    obtain ⟨b3, h⟩ := St.ck h
    refine Go.iaload (this + 6) 64 (shNe_12 hthis) (ltA hE (shNe_12 hthis) (by decide)) (inb_in b3) (by decide +kernel) ?_
    refine Go.cS_i (P1 := P) (v := (f_Ne_joined (-x5) (P.1 (this + 6) ((x3 + (-1 : Int32)) - (1 : Int32)).toNatClampNeg) (P.1 (this + 6) (x3 + (-1 : Int32)).toNatClampNeg) P)) (d - 1) [.int (-x5), .int (P.1 (this + 6) ((x3 + (-1 : Int32)) - (1 : Int32)).toNatClampNeg), .int (P.1 (this + 6) (x3 + (-1 : Int32)).toNatClampNeg)] hE w_Ne_joined (e_Ne_joined hG hE (d - 1) (by omega) (-x5) (P.1 (this + 6) ((x3 + (-1 : Int32)) - (1 : Int32)).toNatClampNeg) (P.1 (this + 6) (x3 + (-1 : Int32)).toNatClampNeg) P ⟨rfl, rfl, rfl⟩) lk776 rfl (by omega) (Nat.le_of_ble_eq_true rfl) (by decide +kernel) _ rfl ?_
    obtain ⟨b4, h⟩ := St.ck h
    refine Go.iastore (this + 6) 64 (shNe_12 hthis) (ltA hE (shNe_12 hthis) (by decide)) (inb_in b4) (by decide +kernel) ?_
    refine Go.sub [1, 2, 0, 3] [(0, .ref (ad E this)), (2, .int x2), (3, .int (x3 + (-1 : Int32))), (4, .int x4)] rfl ?_
    exact t_j_Ne_valueOf_210 hG hE d hd this hthis k5 hk5 x2 (x3 + (-1 : Int32)) x4 (u1 P (this + 6) ((x3 + (-1 : Int32)) - (1 : Int32)).toNatClampNeg (f_Ne_joined (-x5) (P.1 (this + 6) ((x3 + (-1 : Int32)) - (1 : Int32)).toNatClampNeg) (P.1 (this + 6) (x3 + (-1 : Int32)).toNatClampNeg) P)) h
theorem t_j_Ne_valueOf_119 {G : GX} (hG : GOK G) {E : EV} (hE : E0 E) (d : Nat) (hd : 2 ≤ d) {Q : QT} (this : Nat) (hthis : sh this = .inl 2) (k5 : Int32 → Int32 → Int32 → PM → Option (Int32 × PM)) (hk5 : ∀ (x2 : Int32) (x3 : Int32) (x4 : Int32) (P : PM), St E rIP (k5 x2 x3 x4 P) Q → Go G c_Ne_valueOf "YawnRoute$Net" 6 (some .int) false d nOb nOb Q 5 [(0, .ref (ad E this)), (2, .int x2), (3, .int x3), (4, .int x4)] [] P E) (x2 : Int32) (x3 : Int32) (x4 : Int32) (x5 : Int32) (P : PM) (h : St E rIP (j_Ne_valueOf_119 this k5 x2 x3 x4 x5 P) Q) : Go G c_Ne_valueOf "YawnRoute$Net" 6 (some .int) false d nOb nOb Q 119 [(0, .ref (ad E this)), (2, .int x2), (3, .int x3), (4, .int x4), (5, .int x5)] [] P E := by
  rw [j_Ne_valueOf_119] at h
  refine Go.iload (i := 5) 4 (by decide +kernel) rfl ?_
  refine Go.sipush (n := -213) (-213 : Int32) (by decide +kernel) (by decide) ?_
  refine Go.icmp_ne (off := 50) 174 (by decide +kernel) (by decide) (fun c1 => ?_) (fun c1 => ?_)
  · rw [if_neg c1] at h
    exact t_j_Ne_valueOf_174 hG hE d hd this hthis k5 hk5 x2 x3 x4 x5 P h
  · rw [if_pos c1] at h
    refine Go.iload_n (k := 3) (i := 3) 2 (by decide +kernel) rfl rfl ?_
    refine Go.iconst (n := 3) (3 : Int32) (by decide +kernel) rfl ?_
    refine Go.icmp_lt (off := 45) 174 (by decide +kernel) (by decide) (fun c2 => ?_) (fun c2 => ?_)
    · rw [if_pos c2] at h
      exact t_j_Ne_valueOf_174 hG hE d hd this hthis k5 hk5 x2 x3 x4 x5 P h
    · rw [if_neg c2] at h
      refine Go.iinc (i := 3) (n := -2) 2 (x3 + (-2 : Int32)) [(3, .int (x3 + (-2 : Int32))), (0, .ref (ad E this)), (2, .int x2), (4, .int x4), (5, .int x5)] (by decide +kernel) rfl rfl (by decide) rfl ?_
      refine Go.aload_n (k := 0) (i := 0) 1 (by decide +kernel) rfl rfl ?_
      refine Go.get this 12 (.ref (ad E (this + 6))) (by decide) (by decide) hthis (ltO hE hthis) (vlR hE rfl (rfNe_12 hthis)) lk114 (by decide +kernel) ?_
      refine Go.iload_n (k := 3) (i := 3) 0 (by decide +kernel) rfl rfl ?_
      refine Go.iconst (n := 1) (1 : Int32) (by decide +kernel) rfl ?_
      refine Go.isub (by decide +kernel) ?_
      refine Go.aload_n (k := 0) (i := 0) 1 (by decide +kernel) rfl rfl ?_
      refine Go.get this 12 (.ref (ad E (this + 6))) (by decide) (by decide) hthis (ltO hE hthis) (vlR hE rfl (rfNe_12 hthis)) lk114 (by decide +kernel) ?_
      refine Go.iload_n (k := 3) (i := 3) 0 (by decide +kernel) rfl rfl ?_
      refine Go.iconst (n := 1) (1 : Int32) (by decide +kernel) rfl ?_
      refine Go.isub (by decide +kernel) ?_
      obtain ⟨b3, h⟩ := St.ck h
      refine Go.iaload (this + 6) 64 (shNe_12 hthis) (ltA hE (shNe_12 hthis) (by decide)) (inb_in b3) (by decide +kernel) ?_
      refine Go.if_eq (off := 12) 162 (by decide +kernel) (by decide) (fun c4 => ?_) (fun c4 => ?_)
      · rw [if_pos c4] at h
        refine Go.aload_n (k := 0) (i := 0) 1 (by decide +kernel) rfl rfl ?_
        refine Go.get this 12 (.ref (ad E (this + 6))) (by decide) (by decide) hthis (ltO hE hthis) (vlR hE rfl (rfNe_12 hthis)) lk114 (by decide +kernel) ?_
        refine Go.iload_n (k := 3) (i := 3) 0 (by decide +kernel) rfl rfl ?_
        refine Go.iconst (n := 1) (1 : Int32) (by decide +kernel) rfl ?_
        refine Go.iadd (by decide +kernel) ?_
        obtain ⟨b5, h⟩ := St.ck h
        refine Go.iaload (this + 6) 64 (shNe_12 hthis) (ltA hE (shNe_12 hthis) (by decide)) (inb_in b5) (by decide +kernel) ?_
        refine Go.sub [1, 2, 0, 3] [(0, .ref (ad E this)), (2, .int x2), (3, .int (x3 + (-2 : Int32))), (4, .int x4)] rfl ?_
        exact t_j_Ne_valueOf_170 hG hE d hd this hthis k5 hk5 x2 (x3 + (-2 : Int32)) x4 ((x3 + (-2 : Int32)) - (1 : Int32)) (P.1 (this + 6) ((x3 + (-2 : Int32)) + (1 : Int32)).toNatClampNeg) P h
      · rw [if_neg c4] at h
        refine Go.aload_n (k := 0) (i := 0) 1 (by decide +kernel) rfl rfl ?_
        refine Go.get this 12 (.ref (ad E (this + 6))) (by decide) (by decide) hthis (ltO hE hthis) (vlR hE rfl (rfNe_12 hthis)) lk114 (by decide +kernel) ?_
        refine Go.iload_n (k := 3) (i := 3) 0 (by decide +kernel) rfl rfl ?_
        obtain ⟨b6, h⟩ := St.ck h
        refine Go.iaload (this + 6) 64 (shNe_12 hthis) (ltA hE (shNe_12 hthis) (by decide)) (inb_in b6) (by decide +kernel) ?_
        refine Go.goto (off := 11) 170 (by decide +kernel) (by decide) ?_
        refine Go.sub [1, 2, 0, 3] [(0, .ref (ad E this)), (2, .int x2), (3, .int (x3 + (-2 : Int32))), (4, .int x4)] rfl ?_
        exact t_j_Ne_valueOf_170 hG hE d hd this hthis k5 hk5 x2 (x3 + (-2 : Int32)) x4 ((x3 + (-2 : Int32)) - (1 : Int32)) (P.1 (this + 6) (x3 + (-2 : Int32)).toNatClampNeg) P h
theorem t_j_Ne_valueOf_216 {G : GX} (hG : GOK G) {E : EV} (hE : E0 E) (d : Nat) (hd : 2 ≤ d) {Q : QT} (this : Nat) (hthis : sh this = .inl 2) (x3 : Int32) (P : PM) (h : St E rIP (j_Ne_valueOf_216 this x3 P) Q) : Go G c_Ne_valueOf "YawnRoute$Net" 6 (some .int) false d nOb nOb Q 216 [(0, .ref (ad E this)), (3, .int x3)] [] P E := by
  rw [j_Ne_valueOf_216] at h
  refine Go.iload_n (k := 3) (i := 3) 1 (by decide +kernel) rfl rfl ?_
  refine Go.if_le (off := 14) 231 (by decide +kernel) (by decide) (fun c1 => ?_) (fun c1 => ?_)
  · rw [if_pos c1] at h
    refine Go.iconst (n := 0) (0 : Int32) (by decide +kernel) rfl ?_
    exact Go.iret rfl rfl hE.2 (by decide +kernel) (St.fIP h)
  · rw [if_neg c1] at h
    refine Go.aload_n (k := 0) (i := 0) 0 (by decide +kernel) rfl rfl ?_
    refine Go.get this 12 (.ref (ad E (this + 6))) (by decide) (by decide) hthis (ltO hE hthis) (vlR hE rfl (rfNe_12 hthis)) lk114 (by decide +kernel) ?_
    refine Go.iload_n (k := 3) (i := 3) 1 (by decide +kernel) rfl rfl ?_
    refine Go.iconst (n := 1) (1 : Int32) (by decide +kernel) rfl ?_
    refine Go.isub (by decide +kernel) ?_
    obtain ⟨b2, h⟩ := St.ck h
    refine Go.iaload (this + 6) 64 (shNe_12 hthis) (ltA hE (shNe_12 hthis) (by decide)) (inb_in b2) (by decide +kernel) ?_
    refine Go.goto (off := 4) 232 (by decide +kernel) (by decide) ?_
    exact Go.iret rfl rfl hE.2 (by decide +kernel) (St.fIP h)
theorem t_l_Ne_valueOf_5 {G : GX} (hG : GOK G) {E : EV} (hE : E0 E) (d : Nat) (hd : 2 ≤ d) {Q : QT} (this : Nat) (hthis : sh this = .inl 2) : ∀ (n : Nat) (x2 : Int32) (x3 : Int32) (x4 : Int32) (P : PM), St E rIP (l_Ne_valueOf_5 this n x2 x3 x4 P) Q → Go G c_Ne_valueOf "YawnRoute$Net" 6 (some .int) false d nOb nOb Q 5 [(0, .ref (ad E this)), (2, .int x2), (3, .int x3), (4, .int x4)] [] P E := by
  intro n
  induction n with
  | zero =>
    intro x2 x3 x4 P h
    rw [l_Ne_valueOf_5] at h
    exact St.none_ h
  | succ n ih =>
    intro x2 x3 x4 P h
    rw [l_Ne_valueOf_5] at h
    refine Go.iload (i := 4) 3 (by decide +kernel) rfl ?_
    refine Go.iload_n (k := 2) (i := 2) 1 (by decide +kernel) rfl rfl ?_
    refine Go.icmp_ge (off := 208) 216 (by decide +kernel) (by decide) (fun c1 => ?_) (fun c1 => ?_)
    · rw [if_pos c1] at h
      refine Go.sub [0, 2] [(0, .ref (ad E this)), (3, .int x3)] rfl ?_
      exact t_j_Ne_valueOf_216 hG hE d hd this hthis x3 P h
    · rw [if_neg c1] at h
      refine Go.iload (i := 4) 3 (by decide +kernel) rfl ?_
      refine Go.aload_n (k := 0) (i := 0) 0 (by decide +kernel) rfl rfl ?_
      refine Go.get this 5 (.ref (ad E (this + 4))) (by decide) (by decide) hthis (ltO hE hthis) (vlR hE rfl (rfNe_5 hthis)) lk102 (by decide +kernel) ?_
      refine Go.alen (this + 4) 0 900 (900 : Int32) (shNe_5 hthis) (by decide) (ltA hE (shNe_5 hthis) (by decide)) rfl (by decide +kernel) ?_
      refine Go.icmp_ge (off := 198) 216 (by decide +kernel) (by decide) (fun c2 => ?_) (fun c2 => ?_)
      · rw [if_pos c2] at h
        refine Go.sub [0, 2] [(0, .ref (ad E this)), (3, .int x3)] rfl ?_
        exact t_j_Ne_valueOf_216 hG hE d hd this hthis x3 P h
      · rw [if_neg c2] at h
        refine Go.aload_n (k := 0) (i := 0) 0 (by decide +kernel) rfl rfl ?_
        refine Go.get this 5 (.ref (ad E (this + 4))) (by decide) (by decide) hthis (ltO hE hthis) (vlR hE rfl (rfNe_5 hthis)) lk102 (by decide +kernel) ?_
        refine Go.iload (i := 4) 3 (by decide +kernel) rfl ?_
        obtain ⟨b3, h⟩ := St.ck h
        refine Go.iaload (this + 4) 900 (shNe_5 hthis) (ltA hE (shNe_5 hthis) (by decide)) (inb_in b3) (by decide +kernel) ?_
        obtain ⟨y4, hy4, h⟩ := St.lb h
        refine Go.eqi y4 hy4 ?_
        refine Go.istore (i := 5) [(5, .int y4), (0, .ref (ad E this)), (2, .int x2), (3, .int x3), (4, .int x4)] (by decide +kernel) (by decide) rfl ?_
        refine Go.iload (i := 5) 0 (by decide +kernel) rfl ?_
        refine Go.cS_i (P1 := P) (v := (f_Ne_isValue y4 P)) (d - 1) [.int y4] hE w_Ne_isValue (e_Ne_isValue hG hE (d - 1) (by omega) y4 P ⟨rfl, rfl, rfl⟩) lk773 rfl (by omega) (Nat.le_of_ble_eq_true rfl) (by decide +kernel) _ rfl ?_
        refine Go.if_eq (off := 50) 85 (by decide +kernel) (by decide) (fun c5 => ?_) (fun c5 => ?_)
        · rw [if_pos c5] at h
          refine Go.iload (i := 5) 0 (by decide +kernel) rfl ?_
          refine Go.sipush (n := -219) (-219 : Int32) (by decide +kernel) (by decide) ?_
          refine Go.icmp_ne (off := 29) 119 (by decide +kernel) (by decide) (fun c6 => ?_) (fun c6 => ?_)
          · rw [if_neg c6] at h
            refine Go.sub [1, 2, 3, 4, 0] [(0, .ref (ad E this)), (2, .int x2), (3, .int x3), (4, .int x4), (5, .int y4)] rfl ?_
            exact t_j_Ne_valueOf_119 hG hE d hd this hthis (fun z0 z1 z2 Pz => l_Ne_valueOf_5 this n z0 z1 z2 Pz) (fun z0 z1 z2 Pz q => ih z0 z1 z2 Pz q) x2 x3 x4 y4 P h
          · rw [if_pos c6] at h
            refine Go.iload_n (k := 3) (i := 3) 3 (by decide +kernel) rfl rfl ?_
            refine Go.iconst (n := 1) (1 : Int32) (by decide +kernel) rfl ?_
            refine Go.icmp_lt (off := 24) 119 (by decide +kernel) (by decide) (fun c7 => ?_) (fun c7 => ?_)
            · rw [if_pos c7] at h
              refine Go.sub [1, 2, 3, 4, 0] [(0, .ref (ad E this)), (2, .int x2), (3, .int x3), (4, .int x4), (5, .int y4)] rfl ?_
              exact t_j_Ne_valueOf_119 hG hE d hd this hthis (fun z0 z1 z2 Pz => l_Ne_valueOf_5 this n z0 z1 z2 Pz) (fun z0 z1 z2 Pz q => ih z0 z1 z2 Pz q) x2 x3 x4 y4 P h
            · rw [if_neg c7] at h
              refine Go.aload_n (k := 0) (i := 0) 1 (by decide +kernel) rfl rfl ?_
              refine Go.get this 12 (.ref (ad E (this + 6))) (by decide) (by decide) hthis (ltO hE hthis) (vlR hE rfl (rfNe_12 hthis)) lk114 (by decide +kernel) ?_
              refine Go.iload_n (k := 3) (i := 3) 3 (by decide +kernel) rfl rfl ?_
              refine Go.iconst (n := 1) (1 : Int32) (by decide +kernel) rfl ?_
              refine Go.isub (by decide +kernel) ?_
              refine Go.iconst (n := 1) (1 : Int32) (by decide +kernel) rfl ?_
              refine Go.aload_n (k := 0) (i := 0) 1 (by decide +kernel) rfl rfl ?_
              refine Go.get this 12 (.ref (ad E (this + 6))) (by decide) (by decide) hthis (ltO hE hthis) (vlR hE rfl (rfNe_12 hthis)) lk114 (by decide +kernel) ?_
              refine Go.iload_n (k := 3) (i := 3) 3 (by decide +kernel) rfl rfl ?_
              refine Go.iconst (n := 1) (1 : Int32) (by decide +kernel) rfl ?_
              refine Go.isub (by decide +kernel) ?_
              obtain ⟨b8, h⟩ := St.ck h
              refine Go.iaload (this + 6) 64 (shNe_12 hthis) (ltA hE (shNe_12 hthis) (by decide)) (inb_in b8) (by decide +kernel) ?_
              refine Go.isub (by decide +kernel) ?_
              obtain ⟨b9, h⟩ := St.ck h
              refine Go.iastore (this + 6) 64 (shNe_12 hthis) (ltA hE (shNe_12 hthis) (by decide)) (inb_in b9) (by decide +kernel) ?_
              refine Go.goto (off := 94) 210 (by decide +kernel) (by decide) ?_
              refine Go.sub [1, 2, 3, 4] [(0, .ref (ad E this)), (2, .int x2), (3, .int x3), (4, .int x4)] rfl ?_
              exact t_j_Ne_valueOf_210 hG hE d hd this hthis (fun z0 z1 z2 Pz => l_Ne_valueOf_5 this n z0 z1 z2 Pz) (fun z0 z1 z2 Pz q => ih z0 z1 z2 Pz q) x2 x3 x4 (u1 P (this + 6) (x3 - (1 : Int32)).toNatClampNeg ((1 : Int32) - (P.1 (this + 6) (x3 - (1 : Int32)).toNatClampNeg))) h
        · rw [if_neg c5] at h
          refine Go.iload_n (k := 3) (i := 3) 3 (by decide +kernel) rfl rfl ?_
          refine Go.iload_n (k := 3) (i := 3) 3 (by decide +kernel) rfl rfl ?_
          refine Go.bipush (n := 64) (64 : Int32) (by decide +kernel) (by decide) ?_
          refine Go.icmp_ge (off := 7) 49 (by decide +kernel) (by decide) (fun c10 => ?_) (fun c10 => ?_)
          · rw [if_pos c10] at h
            refine Go.iconst (n := 0) (0 : Int32) (by decide +kernel) rfl ?_
            refine Go.sub [1, 2, 4, 0] [(0, .ref (ad E this)), (2, .int x2), (4, .int x4), (5, .int y4)] rfl ?_
            exact t_j_Ne_valueOf_50 hG hE d hd this hthis (fun z0 z1 z2 Pz => l_Ne_valueOf_5 this n z0 z1 z2 Pz) (fun z0 z1 z2 Pz q => ih z0 z1 z2 Pz q) x2 x4 y4 x3 (0 : Int32) P h
          · rw [if_neg c10] at h
            refine Go.iconst (n := 1) (1 : Int32) (by decide +kernel) rfl ?_
            refine Go.goto (off := 4) 50 (by decide +kernel) (by decide) ?_
            refine Go.sub [1, 2, 4, 0] [(0, .ref (ad E this)), (2, .int x2), (4, .int x4), (5, .int y4)] rfl ?_
            exact t_j_Ne_valueOf_50 hG hE d hd this hthis (fun z0 z1 z2 Pz => l_Ne_valueOf_5 this n z0 z1 z2 Pz) (fun z0 z1 z2 Pz q => ih z0 z1 z2 Pz q) x2 x4 y4 x3 (1 : Int32) P h
theorem t_f_Ne_valueOf {G : GX} (hG : GOK G) {E : EV} (hE : E0 E) (d : Nat) (hd : 2 ≤ d) {Q : QT} (this : Nat) (hthis : sh this = .inl 2) (a1 : Int32) (a2 : Int32) (P : PM) (h : St E rIP (f_Ne_valueOf this a1 a2 P) Q) : Go G c_Ne_valueOf "YawnRoute$Net" 6 (some .int) false d nOb nOb Q 0 [(0, .ref (ad E this)), (1, .int a1), (2, .int a2)] [] P E := by
  rw [f_Ne_valueOf] at h
  refine Go.iconst (n := 0) (0 : Int32) (by decide +kernel) rfl ?_
  refine Go.istore_n (k := 3) (i := 3) [(3, .int (0 : Int32)), (0, .ref (ad E this)), (1, .int a1), (2, .int a2)] (by decide +kernel) rfl (by decide) rfl ?_
  refine Go.iload_n (k := 1) (i := 1) 2 (by decide +kernel) rfl rfl ?_
  refine Go.istore (i := 4) [(4, .int a1), (3, .int (0 : Int32)), (0, .ref (ad E this)), (1, .int a1), (2, .int a2)] (by decide +kernel) (by decide) rfl ?_
  refine Go.sub [2, 4, 1, 0] [(0, .ref (ad E this)), (2, .int a2), (3, .int (0 : Int32)), (4, .int a1)] rfl ?_
  exact t_l_Ne_valueOf_5 hG hE d hd this hthis FU a2 (0 : Int32) a1 P h
theorem e_Ne_valueOf {G : GX} (hG : GOK G) {E : EV} (hE : E0 E) (d : Nat) (hd : 2 ≤ d) (this : Nat) (hthis : sh this = .inl 2) (a1 : Int32) (a2 : Int32) (P : PM) {Q : QT} (h : St E rIP (f_Ne_valueOf this a1 a2 P) Q) : Con G y_Ne_valueOf cw_Ne_valueOf d nOb nOb [.ref (ad E this), .int a1, .int a2] P E Q :=
  Con.of hG (by decide +kernel) rfl (fun h => by cases h) hE.2 (Nat.le_of_ble_eq_true rfl) (t_f_Ne_valueOf hG hE d hd this hthis a1 a2 P h)
