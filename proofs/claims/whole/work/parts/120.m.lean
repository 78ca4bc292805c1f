/-! methods as functions, by program: Yr_restore Ne_waysInAll Yr_count Mo_within Mo_plain Mo_feed Mo_see Mo_isSmall Mo_isDigit Mo_keyAt -/
abbrev c_Yr_restore : ByteArray := prog_1_method_42_code
abbrev y_Yr_restore : MethodName := ⟨"YawnRoute", "restore", "(I)I"⟩
abbrev cw_Yr_restore : Cond := .code y_Yr_restore c_Yr_restore 2 (some .int)
theorem w_Yr_restore : VW 11 y_Yr_restore c_Yr_restore 2 (some .int) 1 := ⟨by decide, lk1308, lk1309, lk1, lk1310, ⟨by decide, by decide, by decide +kernel⟩, by decide⟩
noncomputable def f_Yr_restore (a1 : Int32) (P : PM) : Option (Int32 × PM) := if a1 < (0 : Int32) then (some ((-2 : Int32), P)) else (if a1 < (2 : Int32) then (ck (inb a1 2) (if (P.1 108 a1.toNatClampNeg) = (0 : Int32) then (some ((-5 : Int32), P)) else (ck (inb a1 2) (ck (inb a1 2) ((f_Yr_takeOver (89 + 7 * a1.toNatClampNeg) (104 + 2 * a1.toNatClampNeg) P).bind (fun P7 => some ((0 : Int32), P7))))))) else (some ((-2 : Int32), P)))
theorem t_f_Yr_restore {G : GX} (hG : GOK G) {E : EV} (hE : E0 E) (d : Nat) (hd : 4 ≤ d) {Q : QT} (a1 : Int32) (P : PM) (h : St E rIP (f_Yr_restore a1 P) Q) : Go G c_Yr_restore "YawnRoute" 2 (some .int) false d nOb nOb Q 0 [(0, .ref (ad E 0)), (1, .int a1)] [] P E := by
  rw [f_Yr_restore] at h
  refine Go.iload_n (k := 1) (i := 1) 1 (by decide +kernel) rfl rfl ?_
  refine Go.if_lt (off := 8) 9 (by decide +kernel) (by decide) (fun c1 => ?_) (fun c1 => ?_)
  · rw [if_pos c1] at h
    refine Go.bipush (n := -2) (-2 : Int32) (by decide +kernel) (by decide) ?_
    exact Go.iret rfl rfl hE.2 (by decide +kernel) (St.fIP h)
  · rw [if_neg c1] at h
    refine Go.iload_n (k := 1) (i := 1) 1 (by decide +kernel) rfl rfl ?_
    refine Go.iconst (n := 2) (2 : Int32) (by decide +kernel) rfl ?_
    refine Go.icmp_lt (off := 6) 12 (by decide +kernel) (by decide) (fun c2 => ?_) (fun c2 => ?_)
    · rw [if_pos c2] at h
      refine Go.aload_n (k := 0) (i := 0) 0 (by decide +kernel) rfl rfl ?_
      refine Go.get 0 12 (.ref (ad E 108)) (by decide) (by decide) sh0 (ltO hE sh0) (vlR hE rfl rfl) lk402 (by decide +kernel) ?_
      refine Go.iload_n (k := 1) (i := 1) 1 (by decide +kernel) rfl rfl ?_
      obtain ⟨b3, h⟩ := St.ck h
      refine Go.zaload 108 2 sh108 (ltA hE sh108 (by decide)) (inb_in b3) (by decide +kernel) ?_
      refine Go.if_ne (off := 6) 24 (by decide +kernel) (by decide) (fun c4 => ?_) (fun c4 => ?_)
      · rw [if_neg c4] at h
        refine Go.aload_n (k := 0) (i := 0) 0 (by decide +kernel) rfl rfl ?_
        refine Go.aload_n (k := 0) (i := 0) 0 (by decide +kernel) rfl rfl ?_
        refine Go.get 0 10 (.ref (ad E 88)) (by decide) (by decide) sh0 (ltO hE sh0) (vlR hE rfl rfl) lk400 (by decide +kernel) ?_
        refine Go.iload_n (k := 1) (i := 1) 1 (by decide +kernel) rfl rfl ?_
        obtain ⟨b5, h⟩ := St.ck h
        refine Go.aaload 88 5 2 (89 + 7 * a1.toNatClampNeg) sh88 (by decide) (ltA hE sh88 (by decide)) (inb_in b5) (by rw [hE.1]; exact raR88 b5) (by decide +kernel) ?_
        refine Go.aload_n (k := 0) (i := 0) 0 (by decide +kernel) rfl rfl ?_
        refine Go.get 0 11 (.ref (ad E 103)) (by decide) (by decide) sh0 (ltO hE sh0) (vlR hE rfl rfl) lk401 (by decide +kernel) ?_
        refine Go.iload_n (k := 1) (i := 1) 1 (by decide +kernel) rfl rfl ?_
        obtain ⟨b6, h⟩ := St.ck h
        refine Go.aaload 103 4 2 (104 + 2 * a1.toNatClampNeg) sh103 (by decide) (ltA hE sh103 (by decide)) (inb_in b6) (by rw [hE.1]; exact raR103 b6) (by decide +kernel) ?_
        obtain ⟨P7, hP7, h⟩ := St.bind h
        refine Go.cV_v (P1 := P7) (d - 1) 0 [.ref (ad E (89 + 7 * a1.toNatClampNeg)), .ref (ad E (104 + 2 * a1.toNatClampNeg))] sh0 hE w_Yr_takeOver (e_Yr_takeOver hG hE (d - 1) (by omega) (89 + 7 * a1.toNatClampNeg) (raS88 b5) (104 + 2 * a1.toNatClampNeg) (raS103 b6) P ⟨_, hP7, rfl, rfl, rfl⟩) lk697 rfl (by omega) (Nat.le_of_ble_eq_true rfl) (by decide +kernel) _ rfl ?_
        refine Go.iconst (n := 0) (0 : Int32) (by decide +kernel) rfl ?_
        exact Go.iret rfl rfl hE.2 (by decide +kernel) (St.fIP h)
      · rw [if_pos c4] at h
        refine Go.bipush (n := -5) (-5 : Int32) (by decide +kernel) (by decide) ?_
        exact Go.iret rfl rfl hE.2 (by decide +kernel) (St.fIP h)
    · rw [if_neg c2] at h
      refine Go.bipush (n := -2) (-2 : Int32) (by decide +kernel) (by decide) ?_
      exact Go.iret rfl rfl hE.2 (by decide +kernel) (St.fIP h)
theorem e_Yr_restore {G : GX} (hG : GOK G) {E : EV} (hE : E0 E) (d : Nat) (hd : 4 ≤ d) (a1 : Int32) (P : PM) {Q : QT} (h : St E rIP (f_Yr_restore a1 P) Q) : Con G y_Yr_restore cw_Yr_restore d nOb nOb [.ref (ad E 0), .int a1] P E Q :=
  Con.of hG (by decide +kernel) rfl (fun h => by cases h) hE.2 (Nat.le_of_ble_eq_true rfl) (t_f_Yr_restore hG hE d hd a1 P h)
abbrev c_Ne_waysInAll : ByteArray := prog_4_method_9_code
abbrev y_Ne_waysInAll : MethodName := ⟨"YawnRoute$Net", "waysInAll", "()I"⟩
abbrev cw_Ne_waysInAll : Cond := .code y_Ne_waysInAll c_Ne_waysInAll 3 (some .int)
theorem w_Ne_waysInAll : VW 2 y_Ne_waysInAll c_Ne_waysInAll 3 (some .int) 0 := ⟨by decide, lk1316, lk1317, lk4, lk1318, ⟨by decide, by decide, by decide +kernel⟩, by decide⟩
noncomputable def l_Ne_waysInAll_4 (this : Nat) : Nat → Int32 → Int32 → PM → Option Int32
  | 0, _, _, _ => none
  | n + 1, x1, x2, P => if (P.1 this 0) ≤ x2 then (some x1) else ((f_Ne_waysFrom this x2 P).bind (fun v2 => lb (x1 + (f_Ji_bitCount v2 P)) (fun y3 => l_Ne_waysInAll_4 this n y3 (x2 + (1 : Int32)) P)))
noncomputable def f_Ne_waysInAll (this : Nat) (P : PM) : Option Int32 := l_Ne_waysInAll_4 this FU (0 : Int32) (0 : Int32) P
theorem t_l_Ne_waysInAll_4 {G : GX} (hG : GOK G) {E : EV} (hE : E0 E) (d : Nat) (hd : 4 ≤ d) {P : PM} {Q : QT} (this : Nat) (hthis : sh this = .inl 2) : ∀ (n : Nat) (x1 : Int32) (x2 : Int32), St E (rI P) (l_Ne_waysInAll_4 this n x1 x2 P) Q → Go G c_Ne_waysInAll "YawnRoute$Net" 3 (some .int) false d nOb nOb Q 4 [(0, .ref (ad E this)), (1, .int x1), (2, .int x2)] [] P E := by
  intro n
  induction n with
  | zero =>
    intro x1 x2 h
    rw [l_Ne_waysInAll_4] at h
    exact St.none_ h
  | succ n ih =>
    intro x1 x2 h
    rw [l_Ne_waysInAll_4] at h
    refine Go.iload_n (k := 2) (i := 2) 2 (by decide +kernel) rfl rfl ?_
    refine Go.aload_n (k := 0) (i := 0) 0 (by decide +kernel) rfl rfl ?_
    refine Go.get this 0 (.int (P.1 this 0)) (by decide) (by decide) hthis (ltO hE hthis) rfl lk86 (by decide +kernel) ?_
    refine Go.icmp_ge (off := 20) 29 (by decide +kernel) (by decide) (fun c1 => ?_) (fun c1 => ?_)
    · rw [if_pos c1] at h
      refine Go.iload_n (k := 1) (i := 1) 1 (by decide +kernel) rfl rfl ?_
      exact Go.iret rfl rfl hE.2 (by decide +kernel) (St.fI h)
    · rw [if_neg c1] at h
      refine Go.iload_n (k := 1) (i := 1) 1 (by decide +kernel) rfl rfl ?_
      refine Go.aload_n (k := 0) (i := 0) 0 (by decide +kernel) rfl rfl ?_
      refine Go.iload_n (k := 2) (i := 2) 2 (by decide +kernel) rfl rfl ?_
      obtain ⟨v2, hv2, h⟩ := St.bind h
      refine Go.cV_i (P1 := P) (v := v2) (d - 1) this [.int x2] hthis hE w_Ne_waysFrom (e_Ne_waysFrom hG hE (d - 1) (by omega) this hthis x2 P ⟨_, hv2, rfl, rfl, rfl⟩) lk1319 rfl (by omega) (Nat.le_of_ble_eq_true rfl) (by decide +kernel) _ rfl ?_
      refine Go.cS_i (P1 := P) (v := (f_Ji_bitCount v2 P)) (d - 1) [.int v2] hE w_Ji_bitCount (e_Ji_bitCount hG hE (d - 1) (by omega) v2 P ⟨rfl, rfl, rfl⟩) lk1320 rfl (by omega) (Nat.le_of_ble_eq_true rfl) (by decide +kernel) _ rfl ?_
      refine Go.iadd (by decide +kernel) ?_
      obtain ⟨y3, hy3, h⟩ := St.lb h
      refine Go.eqi y3 hy3 ?_
      refine Go.istore_n (k := 1) (i := 1) [(1, .int y3), (0, .ref (ad E this)), (2, .int x2)] (by decide +kernel) rfl (by decide) rfl ?_
      refine Go.iinc (i := 2) (n := 1) 2 (x2 + (1 : Int32)) [(2, .int (x2 + (1 : Int32))), (1, .int y3), (0, .ref (ad E this))] (by decide +kernel) rfl rfl (by decide) rfl ?_
      refine Go.goto (off := -22) 4 (by decide +kernel) (by decide) ?_
      refine Go.sub [2, 1, 0] [(0, .ref (ad E this)), (1, .int y3), (2, .int (x2 + (1 : Int32)))] rfl ?_
      exact ih y3 (x2 + (1 : Int32)) h
theorem t_f_Ne_waysInAll {G : GX} (hG : GOK G) {E : EV} (hE : E0 E) (d : Nat) (hd : 4 ≤ d) {P : PM} {Q : QT} (this : Nat) (hthis : sh this = .inl 2) (h : St E (rI P) (f_Ne_waysInAll this P) Q) : Go G c_Ne_waysInAll "YawnRoute$Net" 3 (some .int) false d nOb nOb Q 0 [(0, .ref (ad E this))] [] P E := by
  rw [f_Ne_waysInAll] at h
  refine Go.iconst (n := 0) (0 : Int32) (by decide +kernel) rfl ?_
  refine Go.istore_n (k := 1) (i := 1) [(1, .int (0 : Int32)), (0, .ref (ad E this))] (by decide +kernel) rfl (by decide) rfl ?_
  refine Go.iconst (n := 0) (0 : Int32) (by decide +kernel) rfl ?_
  refine Go.istore_n (k := 2) (i := 2) [(2, .int (0 : Int32)), (1, .int (0 : Int32)), (0, .ref (ad E this))] (by decide +kernel) rfl (by decide) rfl ?_
  refine Go.sub [2, 1, 0] [(0, .ref (ad E this)), (1, .int (0 : Int32)), (2, .int (0 : Int32))] rfl ?_
  exact t_l_Ne_waysInAll_4 hG hE d hd this hthis FU (0 : Int32) (0 : Int32) h
theorem e_Ne_waysInAll {G : GX} (hG : GOK G) {E : EV} (hE : E0 E) (d : Nat) (hd : 4 ≤ d) (this : Nat) (hthis : sh this = .inl 2) (P : PM) {Q : QT} (h : St E (rI P) (f_Ne_waysInAll this P) Q) : Con G y_Ne_waysInAll cw_Ne_waysInAll d nOb nOb [.ref (ad E this)] P E Q :=
  Con.of hG (by decide +kernel) rfl (fun h => by cases h) hE.2 (Nat.le_of_ble_eq_true rfl) (t_f_Ne_waysInAll hG hE d hd this hthis h)
abbrev c_Yr_count : ByteArray := prog_1_method_43_code
abbrev y_Yr_count : MethodName := ⟨"YawnRoute", "count", "(I)I"⟩
abbrev cw_Yr_count : Cond := .code y_Yr_count c_Yr_count 2 (some .int)
theorem w_Yr_count : VW 11 y_Yr_count c_Yr_count 2 (some .int) 1 := ⟨by decide, lk1312, lk1313, lk1, lk1314, ⟨by decide, by decide, by decide +kernel⟩, by decide⟩
noncomputable def f_Yr_count (a1 : Int32) (P : PM) : Option Int32 := if a1 = (0 : Int32) then (some (P.1 14 0)) else (if a1 = (1 : Int32) then ((f_Ne_waysInAll 14 P).bind (fun v3 => some v3)) else (if a1 = (2 : Int32) then (some (P.1 21 0)) else (if a1 = (3 : Int32) then (some (P.1 21 1)) else (if a1 = (4 : Int32) then (some (P.1 21 3)) else (if a1 = (5 : Int32) then (some (P.1 21 2)) else (if a1 = (6 : Int32) then (some (P.1 31 5)) else (if a1 = (7 : Int32) then (some (P.1 1 1)) else (if a1 = (8 : Int32) then (some (P.1 14 1)) else (some (-1 : Int32))))))))))
theorem t_f_Yr_count {G : GX} (hG : GOK G) {E : EV} (hE : E0 E) (d : Nat) (hd : 5 ≤ d) {P : PM} {Q : QT} (a1 : Int32) (h : St E (rI P) (f_Yr_count a1 P) Q) : Go G c_Yr_count "YawnRoute" 2 (some .int) false d nOb nOb Q 0 [(0, .ref (ad E 0)), (1, .int a1)] [] P E := by
  rw [f_Yr_count] at h
  refine Go.iload_n (k := 1) (i := 1) 1 (by decide +kernel) rfl rfl ?_
  by_cases c1 : a1 = (0 : Int32)
  · rw [if_pos c1] at h
    refine Go.tabIn (dflt := 123) (lo := 0) (hi := 8) (offs := #[51, 59, 67, 75, 83, 91, 99, 107, 115]) (len := 51) (off := 51) 52 (by decide +kernel) (by rw [c1]; decide) (by rw [c1]; decide) (by rw [c1]; rfl) (by decide) ?_
    refine Go.aload_n (k := 0) (i := 0) 0 (by decide +kernel) rfl rfl ?_
    refine Go.get 0 2 (.ref (ad E 14)) (by decide) (by decide) sh0 (ltO hE sh0) (vlR hE rfl rfl) lk392 (by decide +kernel) ?_
    refine Go.get 14 0 (.int (P.1 14 0)) (by decide) (by decide) sh14 (ltO hE sh14) rfl lk93 (by decide +kernel) ?_
    exact Go.iret rfl rfl hE.2 (by decide +kernel) (St.fI h)
  · rw [if_neg c1] at h
    by_cases c2 : a1 = (1 : Int32)
    · rw [if_pos c2] at h
      refine Go.tabIn (dflt := 123) (lo := 0) (hi := 8) (offs := #[51, 59, 67, 75, 83, 91, 99, 107, 115]) (len := 51) (off := 59) 60 (by decide +kernel) (by rw [c2]; decide) (by rw [c2]; decide) (by rw [c2]; rfl) (by decide) ?_
      refine Go.aload_n (k := 0) (i := 0) 0 (by decide +kernel) rfl rfl ?_
      refine Go.get 0 2 (.ref (ad E 14)) (by decide) (by decide) sh0 (ltO hE sh0) (vlR hE rfl rfl) lk392 (by decide +kernel) ?_
      obtain ⟨v3, hv3, h⟩ := St.bind h
      refine Go.cV_i (P1 := P) (v := v3) (d - 1) 14 [] sh14 hE w_Ne_waysInAll (e_Ne_waysInAll hG hE (d - 1) (by omega) 14 sh14 P ⟨_, hv3, rfl, rfl, rfl⟩) lk1315 rfl (by omega) (Nat.le_of_ble_eq_true rfl) (by decide +kernel) _ rfl ?_
      exact Go.iret rfl rfl hE.2 (by decide +kernel) (St.fI h)
    · rw [if_neg c2] at h
      by_cases c4 : a1 = (2 : Int32)
      · rw [if_pos c4] at h
        refine Go.tabIn (dflt := 123) (lo := 0) (hi := 8) (offs := #[51, 59, 67, 75, 83, 91, 99, 107, 115]) (len := 51) (off := 67) 68 (by decide +kernel) (by rw [c4]; decide) (by rw [c4]; decide) (by rw [c4]; rfl) (by decide) ?_
        refine Go.aload_n (k := 0) (i := 0) 0 (by decide +kernel) rfl rfl ?_
        refine Go.get 0 3 (.ref (ad E 21)) (by decide) (by decide) sh0 (ltO hE sh0) (vlR hE rfl rfl) lk393 (by decide +kernel) ?_
        refine Go.get 21 0 (.int (P.1 21 0)) (by decide) (by decide) sh21 (ltO hE sh21) rfl lk151 (by decide +kernel) ?_
        exact Go.iret rfl rfl hE.2 (by decide +kernel) (St.fI h)
      · rw [if_neg c4] at h
        by_cases c5 : a1 = (3 : Int32)
        · rw [if_pos c5] at h
          refine Go.tabIn (dflt := 123) (lo := 0) (hi := 8) (offs := #[51, 59, 67, 75, 83, 91, 99, 107, 115]) (len := 51) (off := 75) 76 (by decide +kernel) (by rw [c5]; decide) (by rw [c5]; decide) (by rw [c5]; rfl) (by decide) ?_
          refine Go.aload_n (k := 0) (i := 0) 0 (by decide +kernel) rfl rfl ?_
          refine Go.get 0 3 (.ref (ad E 21)) (by decide) (by decide) sh0 (ltO hE sh0) (vlR hE rfl rfl) lk393 (by decide +kernel) ?_
          refine Go.get 21 1 (.int (P.1 21 1)) (by decide) (by decide) sh21 (ltO hE sh21) rfl lk159 (by decide +kernel) ?_
          exact Go.iret rfl rfl hE.2 (by decide +kernel) (St.fI h)
        · rw [if_neg c5] at h
          by_cases c6 : a1 = (4 : Int32)
          · rw [if_pos c6] at h
            refine Go.tabIn (dflt := 123) (lo := 0) (hi := 8) (offs := #[51, 59, 67, 75, 83, 91, 99, 107, 115]) (len := 51) (off := 83) 84 (by decide +kernel) (by rw [c6]; decide) (by rw [c6]; decide) (by rw [c6]; rfl) (by decide) ?_
            refine Go.aload_n (k := 0) (i := 0) 0 (by decide +kernel) rfl rfl ?_
            refine Go.get 0 3 (.ref (ad E 21)) (by decide) (by decide) sh0 (ltO hE sh0) (vlR hE rfl rfl) lk393 (by decide +kernel) ?_
            refine Go.get 21 3 (.int (P.1 21 3)) (by decide) (by decide) sh21 (ltO hE sh21) rfl lk169 (by decide +kernel) ?_
            exact Go.iret rfl rfl hE.2 (by decide +kernel) (St.fI h)
          · rw [if_neg c6] at h
            by_cases c7 : a1 = (5 : Int32)
            · rw [if_pos c7] at h
              refine Go.tabIn (dflt := 123) (lo := 0) (hi := 8) (offs := #[51, 59, 67, 75, 83, 91, 99, 107, 115]) (len := 51) (off := 91) 92 (by decide +kernel) (by rw [c7]; decide) (by rw [c7]; decide) (by rw [c7]; rfl) (by decide) ?_
              refine Go.aload_n (k := 0) (i := 0) 0 (by decide +kernel) rfl rfl ?_
              refine Go.get 0 3 (.ref (ad E 21)) (by decide) (by decide) sh0 (ltO hE sh0) (vlR hE rfl rfl) lk393 (by decide +kernel) ?_
              refine Go.get 21 2 (.int (P.1 21 2)) (by decide) (by decide) sh21 (ltO hE sh21) rfl lk162 (by decide +kernel) ?_
              exact Go.iret rfl rfl hE.2 (by decide +kernel) (St.fI h)
            · rw [if_neg c7] at h
              by_cases c8 : a1 = (6 : Int32)
              · rw [if_pos c8] at h
                refine Go.tabIn (dflt := 123) (lo := 0) (hi := 8) (offs := #[51, 59, 67, 75, 83, 91, 99, 107, 115]) (len := 51) (off := 99) 100 (by decide +kernel) (by rw [c8]; decide) (by rw [c8]; decide) (by rw [c8]; rfl) (by decide) ?_
                refine Go.aload_n (k := 0) (i := 0) 0 (by decide +kernel) rfl rfl ?_
                refine Go.get 0 5 (.ref (ad E 31)) (by decide) (by decide) sh0 (ltO hE sh0) (vlR hE rfl rfl) lk395 (by decide +kernel) ?_
                refine Go.get 31 5 (.int (P.1 31 5)) (by decide) (by decide) sh31 (ltO hE sh31) rfl lk250 (by decide +kernel) ?_
                exact Go.iret rfl rfl hE.2 (by decide +kernel) (St.fI h)
              · rw [if_neg c8] at h
                by_cases c9 : a1 = (7 : Int32)
                · rw [if_pos c9] at h
                  refine Go.tabIn (dflt := 123) (lo := 0) (hi := 8) (offs := #[51, 59, 67, 75, 83, 91, 99, 107, 115]) (len := 51) (off := 107) 108 (by decide +kernel) (by rw [c9]; decide) (by rw [c9]; decide) (by rw [c9]; rfl) (by decide) ?_
                  refine Go.aload_n (k := 0) (i := 0) 0 (by decide +kernel) rfl rfl ?_
                  refine Go.get 0 0 (.ref (ad E 1)) (by decide) (by decide) sh0 (ltO hE sh0) (vlR hE rfl rfl) lk390 (by decide +kernel) ?_
                  refine Go.get 1 1 (.int (P.1 1 1)) (by decide) (by decide) sh1 (ltO hE sh1) rfl lk38 (by decide +kernel) ?_
                  exact Go.iret rfl rfl hE.2 (by decide +kernel) (St.fI h)
                · rw [if_neg c9] at h
                  by_cases c10 : a1 = (8 : Int32)
                  · rw [if_pos c10] at h
                    refine Go.tabIn (dflt := 123) (lo := 0) (hi := 8) (offs := #[51, 59, 67, 75, 83, 91, 99, 107, 115]) (len := 51) (off := 115) 116 (by decide +kernel) (by rw [c10]; decide) (by rw [c10]; decide) (by rw [c10]; rfl) (by decide) ?_
                    refine Go.aload_n (k := 0) (i := 0) 0 (by decide +kernel) rfl rfl ?_
                    refine Go.get 0 2 (.ref (ad E 14)) (by decide) (by decide) sh0 (ltO hE sh0) (vlR hE rfl rfl) lk392 (by decide +kernel) ?_
                    refine Go.get 14 1 (.int (P.1 14 1)) (by decide) (by decide) sh14 (ltO hE sh14) rfl lk96 (by decide +kernel) ?_
                    exact Go.iret rfl rfl hE.2 (by decide +kernel) (St.fI h)
                  · rw [if_neg c10] at h
                    have qc1 := lv_neT (k := (0 : Int32)) (a := 0) c1 (by decide)
                    have qc2 := lv_neT (k := (1 : Int32)) (a := 1) c2 (by decide)
                    have qc4 := lv_neT (k := (2 : Int32)) (a := 2) c4 (by decide)
                    have qc5 := lv_neT (k := (3 : Int32)) (a := 3) c5 (by decide)
                    have qc6 := lv_neT (k := (4 : Int32)) (a := 4) c6 (by decide)
                    have qc7 := lv_neT (k := (5 : Int32)) (a := 5) c7 (by decide)
                    have qc8 := lv_neT (k := (6 : Int32)) (a := 6) c8 (by decide)
                    have qc9 := lv_neT (k := (7 : Int32)) (a := 7) c9 (by decide)
                    have qc10 := lv_neT (k := (8 : Int32)) (a := 8) c10 (by decide)
                    refine Go.tabOut (dflt := 123) (lo := 0) (hi := 8) (offs := #[51, 59, 67, 75, 83, 91, 99, 107, 115]) (len := 51) 124 (by decide +kernel) (by omega) (by decide) ?_
                    refine Go.iconst (n := -1) (-1 : Int32) (by decide +kernel) rfl ?_
                    exact Go.iret rfl rfl hE.2 (by decide +kernel) (St.fI h)
theorem e_Yr_count {G : GX} (hG : GOK G) {E : EV} (hE : E0 E) (d : Nat) (hd : 5 ≤ d) (a1 : Int32) (P : PM) {Q : QT} (h : St E (rI P) (f_Yr_count a1 P) Q) : Con G y_Yr_count cw_Yr_count d nOb nOb [.ref (ad E 0), .int a1] P E Q :=
  Con.of hG (by decide +kernel) rfl (fun h => by cases h) hE.2 (Nat.le_of_ble_eq_true rfl) (t_f_Yr_count hG hE d hd a1 h)
abbrev c_Mo_within : ByteArray := prog_14_method_2_code
abbrev y_Mo_within : MethodName := ⟨"YawnRouteModel", "within", "(JJJ)Z"⟩
abbrev cw_Mo_within : Cond := .code y_Mo_within c_Mo_within 6 (some .boolean)
theorem w_Mo_within : SW y_Mo_within c_Mo_within 6 (some .boolean) 3 := ⟨lk1439, lk14, lk1440, ⟨by decide, by decide, by decide +kernel⟩, by decide⟩
noncomputable def j_Mo_within_17 (P : PM) : Int32 := (0 : Int32)
noncomputable def f_Mo_within (a0 : Int64) (a2 : Int64) (a4 : Int64) (P : PM) : Int32 := if (lg_cmp a0 a2) < (0 : Int32) then (j_Mo_within_17 P) else (if (0 : Int32) < (lg_cmp a0 a4) then (j_Mo_within_17 P) else ((1 : Int32)))
theorem t_j_Mo_within_17 {G : GX} (hG : GOK G) {E : EV} (hE : E0 E) (d : Nat) (hd : 1 ≤ d) {P : PM} {Q : QT} (h : Q (some (.int (j_Mo_within_17 P))) P E) : Go G c_Mo_within "YawnRouteModel" 6 (some .boolean) false d nOb nOb Q 17 [] [] P E := by
  rw [j_Mo_within_17] at h
  refine Go.iconst (n := 0) (0 : Int32) (by decide +kernel) rfl ?_
  exact Go.iret rfl rfl hE.2 (by decide +kernel) h
theorem t_f_Mo_within {G : GX} (hG : GOK G) {E : EV} (hE : E0 E) (d : Nat) (hd : 1 ≤ d) {P : PM} {Q : QT} (a0 : Int64) (a2 : Int64) (a4 : Int64) (h : Q (some (.int (f_Mo_within a0 a2 a4 P))) P E) : Go G c_Mo_within "YawnRouteModel" 6 (some .boolean) false d nOb nOb Q 0 [(0, .long a0), (2, .long a2), (4, .long a4)] [] P E := by
  rw [f_Mo_within] at h
  refine Go.lload_n (k := 0) (i := 0) 0 (by decide +kernel) rfl rfl ?_
  refine Go.lload_n (k := 2) (i := 2) 1 (by decide +kernel) rfl rfl ?_
  refine Go.lcmp (by decide +kernel) ?_
  refine Go.if_lt (off := 14) 17 (by decide +kernel) (by decide) (fun c1 => ?_) (fun c1 => ?_)
  · rw [if_pos c1] at h
    refine Go.sub [] [] rfl ?_
    exact t_j_Mo_within_17 hG hE d hd h
  · rw [if_neg c1] at h
    refine Go.lload_n (k := 0) (i := 0) 0 (by decide +kernel) rfl rfl ?_
    refine Go.lload (i := 4) 2 (by decide +kernel) rfl ?_
    refine Go.lcmp (by decide +kernel) ?_
    refine Go.if_gt (off := 7) 17 (by decide +kernel) (by decide) (fun c2 => ?_) (fun c2 => ?_)
    · rw [if_pos c2] at h
      refine Go.sub [] [] rfl ?_
      exact t_j_Mo_within_17 hG hE d hd h
    · rw [if_neg c2] at h
      refine Go.iconst (n := 1) (1 : Int32) (by decide +kernel) rfl ?_
      refine Go.goto (off := 4) 18 (by decide +kernel) (by decide) ?_
      exact Go.iret rfl rfl hE.2 (by decide +kernel) h
theorem e_Mo_within {G : GX} (hG : GOK G) {E : EV} (hE : E0 E) (d : Nat) (hd : 1 ≤ d) (a0 : Int64) (a2 : Int64) (a4 : Int64) (P : PM) {Q : QT} (h : Q (some (.int (f_Mo_within a0 a2 a4 P))) P E) : Con G y_Mo_within cw_Mo_within d nOb nOb [.long a0, .long a2, .long a4] P E Q :=
  Con.of hG (by decide +kernel) rfl (fun h => by cases h) hE.2 (Nat.le_of_ble_eq_true rfl) (t_f_Mo_within hG hE d hd a0 a2 a4 h)
abbrev c_Mo_plain : ByteArray := prog_14_method_4_code
abbrev y_Mo_plain : MethodName := ⟨"YawnRouteModel", "plain", "([I)V"⟩
abbrev cw_Mo_plain : Cond := .code y_Mo_plain c_Mo_plain 2 none
theorem w_Mo_plain : SW y_Mo_plain c_Mo_plain 2 none 1 := ⟨lk1328, lk14, lk1329, ⟨by decide, by decide, by decide +kernel⟩, by decide⟩
noncomputable def l_Mo_plain_2 (a0 : Nat) (n0 : Nat) : Nat → Int32 → PM → Option PM
  | 0, _, _ => none
  | n + 1, x1, P => if (1136 : Int32) ≤ x1 then (ck (inb (113 : Int32) n0) (some (u1 P a0 (113 : Int32).toNatClampNeg (-1 : Int32)))) else (ck (inb x1 n0) (l_Mo_plain_2 a0 n0 n (x1 + (1 : Int32)) (u1 P a0 x1.toNatClampNeg (0 : Int32))))
noncomputable def f_Mo_plain (a0 : Nat) (n0 : Nat) (P : PM) : Option PM := l_Mo_plain_2 a0 n0 FU (0 : Int32) P
theorem t_l_Mo_plain_2 {G : GX} (hG : GOK G) {E : EV} (hE : E0 E) (d : Nat) (hd : 1 ≤ d) {Q : QT} (a0 : Nat) (n0 : Nat) (ha0 : sh a0 = .inr (0, n0)) : ∀ (n : Nat) (x1 : Int32) (P : PM), St E rP (l_Mo_plain_2 a0 n0 n x1 P) Q → Go G c_Mo_plain "YawnRouteModel" 2 none false d nOb nOb Q 2 [(0, .ref (ad E a0)), (1, .int x1)] [] P E := by
  intro n
  induction n with
  | zero =>
    intro x1 P h
    rw [l_Mo_plain_2] at h
    exact St.none_ h
  | succ n ih =>
    intro x1 P h
    rw [l_Mo_plain_2] at h
    refine Go.iload_n (k := 1) (i := 1) 1 (by decide +kernel) rfl rfl ?_
    refine Go.sipush (n := 1136) (1136 : Int32) (by decide +kernel) (by decide) ?_
    refine Go.icmp_ge (off := 13) 19 (by decide +kernel) (by decide) (fun c1 => ?_) (fun c1 => ?_)
    · rw [if_pos c1] at h
      refine Go.aload_n (k := 0) (i := 0) 0 (by decide +kernel) rfl rfl ?_
      refine Go.bipush (n := 113) (113 : Int32) (by decide +kernel) (by decide) ?_
      refine Go.iconst (n := -1) (-1 : Int32) (by decide +kernel) rfl ?_
      obtain ⟨b2, h⟩ := St.ck h
      refine Go.iastore a0 n0 ha0 (ltA hE ha0 (by decide)) (inb_in b2) (by decide +kernel) ?_
      exact Go.vret rfl hE.2 (by decide +kernel) (St.fP h)
    · rw [if_neg c1] at h
      refine Go.aload_n (k := 0) (i := 0) 0 (by decide +kernel) rfl rfl ?_
      refine Go.iload_n (k := 1) (i := 1) 1 (by decide +kernel) rfl rfl ?_
      refine Go.iconst (n := 0) (0 : Int32) (by decide +kernel) rfl ?_
      obtain ⟨b3, h⟩ := St.ck h
      refine Go.iastore a0 n0 ha0 (ltA hE ha0 (by decide)) (inb_in b3) (by decide +kernel) ?_
      refine Go.iinc (i := 1) (n := 1) 1 (x1 + (1 : Int32)) [(1, .int (x1 + (1 : Int32))), (0, .ref (ad E a0))] (by decide +kernel) rfl rfl (by decide) rfl ?_
      refine Go.goto (off := -14) 2 (by decide +kernel) (by decide) ?_
      refine Go.sub [1, 0] [(0, .ref (ad E a0)), (1, .int (x1 + (1 : Int32)))] rfl ?_
      exact ih (x1 + (1 : Int32)) (u1 P a0 x1.toNatClampNeg (0 : Int32)) h
theorem t_f_Mo_plain {G : GX} (hG : GOK G) {E : EV} (hE : E0 E) (d : Nat) (hd : 1 ≤ d) {Q : QT} (a0 : Nat) (n0 : Nat) (ha0 : sh a0 = .inr (0, n0)) (P : PM) (h : St E rP (f_Mo_plain a0 n0 P) Q) : Go G c_Mo_plain "YawnRouteModel" 2 none false d nOb nOb Q 0 [(0, .ref (ad E a0))] [] P E := by
  rw [f_Mo_plain] at h
  refine Go.iconst (n := 0) (0 : Int32) (by decide +kernel) rfl ?_
  refine Go.istore_n (k := 1) (i := 1) [(1, .int (0 : Int32)), (0, .ref (ad E a0))] (by decide +kernel) rfl (by decide) rfl ?_
  refine Go.sub [1, 0] [(0, .ref (ad E a0)), (1, .int (0 : Int32))] rfl ?_
  exact t_l_Mo_plain_2 hG hE d hd a0 n0 ha0 FU (0 : Int32) P h
theorem e_Mo_plain {G : GX} (hG : GOK G) {E : EV} (hE : E0 E) (d : Nat) (hd : 1 ≤ d) (a0 : Nat) (n0 : Nat) (ha0 : sh a0 = .inr (0, n0)) (P : PM) {Q : QT} (h : St E rP (f_Mo_plain a0 n0 P) Q) : Con G y_Mo_plain cw_Mo_plain d nOb nOb [.ref (ad E a0)] P E Q :=
  Con.of hG (by decide +kernel) rfl (fun h => by cases h) hE.2 (Nat.le_of_ble_eq_true rfl) (t_f_Mo_plain hG hE d hd a0 n0 ha0 P h)
abbrev c_Mo_feed : ByteArray := prog_14_method_5_code
abbrev y_Mo_feed : MethodName := ⟨"YawnRouteModel", "feed", "(IIIII)I"⟩
abbrev cw_Mo_feed : Cond := .code y_Mo_feed c_Mo_feed 8 (some .int)
theorem w_Mo_feed : VW 12 y_Mo_feed c_Mo_feed 8 (some .int) 5 := ⟨by decide, lk1431, lk1432, lk14, lk1433, ⟨by decide, by decide, by decide +kernel⟩, by decide⟩
noncomputable def j_Mo_feed_77 (k24 : Int32 → Int32 → Int32 → Int32 → Int32 → Int32 → PM → Option (Int32 × PM)) (x1 : Int32) (x2 : Int32) (x3 : Int32) (x4 : Int32) (x5 : Int32) (x6 : Int32) (s0 : Int32) (P : PM) : Option (Int32 × PM) := ck (inb (P.1 109 5) 900) (k24 x1 x2 x3 x4 x5 (x6 + (1 : Int32)) (u1 (u1 P 112 (P.1 109 5).toNatClampNeg ((s0 >>> (((24 : Int32) - ((8 : Int32) * (x6 - x6 / (4 : Int32) * (4 : Int32)))) &&& 31)) &&& (255 : Int32))) 109 5 (((u1 P 112 (P.1 109 5).toNatClampNeg ((s0 >>> (((24 : Int32) - ((8 : Int32) * (x6 - x6 / (4 : Int32) * (4 : Int32)))) &&& 31)) &&& (255 : Int32))).1 109 5) + (1 : Int32))))
noncomputable def l_Mo_feed_24 : Nat → Int32 → Int32 → Int32 → Int32 → Int32 → Int32 → PM → Option (Int32 × PM)
  | 0, _, _, _, _, _, _, _ => none
  | n + 1, x1, x2, x3, x4, x5, x6, P => if (20 : Int32) ≤ x6 then (some ((P.1 109 5), P)) else (if (4 : Int32) ≤ x6 then (if (8 : Int32) ≤ x6 then (if (12 : Int32) ≤ x6 then (if (16 : Int32) ≤ x6 then (j_Mo_feed_77 (fun z0 z1 z2 z3 z4 z5 Pz => l_Mo_feed_24 n z0 z1 z2 z3 z4 z5 Pz) x1 x2 x3 x4 x5 x6 x5 P) else (j_Mo_feed_77 (fun z0 z1 z2 z3 z4 z5 Pz => l_Mo_feed_24 n z0 z1 z2 z3 z4 z5 Pz) x1 x2 x3 x4 x5 x6 x4 P)) else (j_Mo_feed_77 (fun z0 z1 z2 z3 z4 z5 Pz => l_Mo_feed_24 n z0 z1 z2 z3 z4 z5 Pz) x1 x2 x3 x4 x5 x6 x3 P)) else (j_Mo_feed_77 (fun z0 z1 z2 z3 z4 z5 Pz => l_Mo_feed_24 n z0 z1 z2 z3 z4 z5 Pz) x1 x2 x3 x4 x5 x6 x2 P)) else (j_Mo_feed_77 (fun z0 z1 z2 z3 z4 z5 Pz => l_Mo_feed_24 n z0 z1 z2 z3 z4 z5 Pz) x1 x2 x3 x4 x5 x6 x1 P))
noncomputable def f_Mo_feed (a1 : Int32) (a2 : Int32) (a3 : Int32) (a4 : Int32) (a5 : Int32) (P : PM) : Option (Int32 × PM) := if (((u1 P 109 0 (0 : Int32)).1 109 5) + (20 : Int32)) ≤ (900 : Int32) then (l_Mo_feed_24 FU a1 a2 a3 a4 a5 (0 : Int32) (u1 P 109 0 (0 : Int32))) else (some ((-5 : Int32), (u1 P 109 0 (0 : Int32))))
theorem t_j_Mo_feed_77 {G : GX} (hG : GOK G) {E : EV} (hE : E0 E) (d : Nat) (hd : 1 ≤ d) {Q : QT} (k24 : Int32 → Int32 → Int32 → Int32 → Int32 → Int32 → PM → Option (Int32 × PM)) (hk24 : ∀ (x1 : Int32) (x2 : Int32) (x3 : Int32) (x4 : Int32) (x5 : Int32) (x6 : Int32) (P : PM), St E rIP (k24 x1 x2 x3 x4 x5 x6 P) Q → Go G c_Mo_feed "YawnRouteModel" 8 (some .int) false d nOb nOb Q 24 [(0, .ref (ad E 109)), (1, .int x1), (2, .int x2), (3, .int x3), (4, .int x4), (5, .int x5), (6, .int x6)] [] P E) (x1 : Int32) (x2 : Int32) (x3 : Int32) (x4 : Int32) (x5 : Int32) (x6 : Int32) (s0 : Int32) (P : PM) (h : St E rIP (j_Mo_feed_77 k24 x1 x2 x3 x4 x5 x6 s0 P) Q) : Go G c_Mo_feed "YawnRouteModel" 8 (some .int) false d nOb nOb Q 77 [(0, .ref (ad E 109)), (1, .int x1), (2, .int x2), (3, .int x3), (4, .int x4), (5, .int x5), (6, .int x6)] [.int s0] P E := by
  rw [j_Mo_feed_77] at h
  refine Go.istore (i := 7) [(7, .int s0), (0, .ref (ad E 109)), (1, .int x1), (2, .int x2), (3, .int x3), (4, .int x4), (5, .int x5), (6, .int x6)] (by decide +kernel) (by decide) rfl ?_
  refine Go.aload_n (k := 0) (i := 0) 1 (by decide +kernel) rfl rfl ?_
  refine Go.get 109 3 (.ref (ad E 112)) (by decide) (by decide) sh109 (ltO hE sh109) (vlR hE rfl rfl) lk1333 (by decide +kernel) ?_
  refine Go.aload_n (k := 0) (i := 0) 1 (by decide +kernel) rfl rfl ?_
  refine Go.get 109 5 (.int (P.1 109 5)) (by decide) (by decide) sh109 (ltO hE sh109) rfl lk1335 (by decide +kernel) ?_
  refine Go.iload (i := 7) 0 (by decide +kernel) rfl ?_
  refine Go.bipush (n := 24) (24 : Int32) (by decide +kernel) (by decide) ?_
  refine Go.bipush (n := 8) (8 : Int32) (by decide +kernel) (by decide) ?_
  refine Go.iload (i := 6) 7 (by decide +kernel) rfl ?_
  refine Go.iconst (n := 4) (4 : Int32) (by decide +kernel) rfl ?_
  refine Go.irem (by decide +kernel) (by decide) ?_
  refine Go.imul (by decide +kernel) ?_
  refine Go.isub (by decide +kernel) ?_
  refine Go.ishr (by decide +kernel) ?_
  refine Go.sipush (n := 255) (255 : Int32) (by decide +kernel) (by decide) ?_
  refine Go.iand (by decide +kernel) ?_
  obtain ⟨b1, h⟩ := St.ck h
  refine Go.iastore 112 900 sh112 (ltA hE sh112 (by decide)) (inb_in b1) (by decide +kernel) ?_
  refine Go.aload_n (k := 0) (i := 0) 1 (by decide +kernel) rfl rfl ?_
  refine Go.dup (by decide +kernel) rfl ?_
  refine Go.get 109 5 (.int ((u1 P 112 (P.1 109 5).toNatClampNeg ((s0 >>> (((24 : Int32) - ((8 : Int32) * (x6 - x6 / (4 : Int32) * (4 : Int32)))) &&& 31)) &&& (255 : Int32))).1 109 5)) (by decide) (by decide) sh109 (ltO hE sh109) rfl lk1335 (by decide +kernel) ?_
  refine Go.iconst (n := 1) (1 : Int32) (by decide +kernel) rfl ?_
  refine Go.iadd (by decide +kernel) ?_
  refine Go.put 109 5 (by decide) (by decide) sh109 (ltO hE sh109) (Or.inl rfl) rfl rfl rfl lk1335 (by decide +kernel) ?_
  refine Go.iinc (i := 6) (n := 1) 7 (x6 + (1 : Int32)) [(6, .int (x6 + (1 : Int32))), (7, .int s0), (0, .ref (ad E 109)), (1, .int x1), (2, .int x2), (3, .int x3), (4, .int x4), (5, .int x5)] (by decide +kernel) rfl rfl (by decide) rfl ?_
  refine Go.goto (off := -94) 24 (by decide +kernel) (by decide) ?_
  refine Go.sub [2, 3, 4, 5, 6, 7, 0] [(0, .ref (ad E 109)), (1, .int x1), (2, .int x2), (3, .int x3), (4, .int x4), (5, .int x5), (6, .int (x6 + (1 : Int32)))] rfl ?_
  exact hk24 x1 x2 x3 x4 x5 (x6 + (1 : Int32)) (u1 (u1 P 112 (P.1 109 5).toNatClampNeg ((s0 >>> (((24 : Int32) - ((8 : Int32) * (x6 - x6 / (4 : Int32) * (4 : Int32)))) &&& 31)) &&& (255 : Int32))) 109 5 (((u1 P 112 (P.1 109 5).toNatClampNeg ((s0 >>> (((24 : Int32) - ((8 : Int32) * (x6 - x6 / (4 : Int32) * (4 : Int32)))) &&& 31)) &&& (255 : Int32))).1 109 5) + (1 : Int32))) h
theorem t_l_Mo_feed_24 {G : GX} (hG : GOK G) {E : EV} (hE : E0 E) (d : Nat) (hd : 1 ≤ d) {Q : QT} : ∀ (n : Nat) (x1 : Int32) (x2 : Int32) (x3 : Int32) (x4 : Int32) (x5 : Int32) (x6 : Int32) (P : PM), St E rIP (l_Mo_feed_24 n x1 x2 x3 x4 x5 x6 P) Q → Go G c_Mo_feed "YawnRouteModel" 8 (some .int) false d nOb nOb Q 24 [(0, .ref (ad E 109)), (1, .int x1), (2, .int x2), (3, .int x3), (4, .int x4), (5, .int x5), (6, .int x6)] [] P E := by
  intro n
  induction n with
  | zero =>
    intro x1 x2 x3 x4 x5 x6 P h
    rw [l_Mo_feed_24] at h
    exact St.none_ h
  | succ n ih =>
    intro x1 x2 x3 x4 x5 x6 P h
    rw [l_Mo_feed_24] at h
    refine Go.iload (i := 6) 6 (by decide +kernel) rfl ?_
    refine Go.bipush (n := 20) (20 : Int32) (by decide +kernel) (by decide) ?_
    refine Go.icmp_ge (off := 93) 121 (by decide +kernel) (by decide) (fun c1 => ?_) (fun c1 => ?_)
    · rw [if_pos c1] at h
      refine Go.aload_n (k := 0) (i := 0) 0 (by decide +kernel) rfl rfl ?_
      refine Go.get 109 5 (.int (P.1 109 5)) (by decide) (by decide) sh109 (ltO hE sh109) rfl lk1335 (by decide +kernel) ?_
      exact Go.iret rfl rfl hE.2 (by decide +kernel) (St.fIP h)
    · rw [if_neg c1] at h
      refine Go.iload (i := 6) 6 (by decide +kernel) rfl ?_
      refine Go.iconst (n := 4) (4 : Int32) (by decide +kernel) rfl ?_
      refine Go.icmp_ge (off := 7) 41 (by decide +kernel) (by decide) (fun c2 => ?_) (fun c2 => ?_)
      · rw [if_pos c2] at h
        refine Go.iload (i := 6) 6 (by decide +kernel) rfl ?_
        refine Go.bipush (n := 8) (8 : Int32) (by decide +kernel) (by decide) ?_
        refine Go.icmp_ge (off := 7) 52 (by decide +kernel) (by decide) (fun c3 => ?_) (fun c3 => ?_)
        · rw [if_pos c3] at h
          refine Go.iload (i := 6) 6 (by decide +kernel) rfl ?_
          refine Go.bipush (n := 12) (12 : Int32) (by decide +kernel) (by decide) ?_
          refine Go.icmp_ge (off := 7) 63 (by decide +kernel) (by decide) (fun c4 => ?_) (fun c4 => ?_)
          · rw [if_pos c4] at h
            refine Go.iload (i := 6) 6 (by decide +kernel) rfl ?_
            refine Go.bipush (n := 16) (16 : Int32) (by decide +kernel) (by decide) ?_
            refine Go.icmp_ge (off := 8) 75 (by decide +kernel) (by decide) (fun c5 => ?_) (fun c5 => ?_)
            · rw [if_pos c5] at h
              refine Go.iload (i := 5) 5 (by decide +kernel) rfl ?_
              exact t_j_Mo_feed_77 hG hE d hd (fun z0 z1 z2 z3 z4 z5 Pz => l_Mo_feed_24 n z0 z1 z2 z3 z4 z5 Pz) (fun z0 z1 z2 z3 z4 z5 Pz q => ih z0 z1 z2 z3 z4 z5 Pz q) x1 x2 x3 x4 x5 x6 x5 P h
            · rw [if_neg c5] at h
              refine Go.iload (i := 4) 4 (by decide +kernel) rfl ?_
              refine Go.goto (off := 5) 77 (by decide +kernel) (by decide) ?_
              exact t_j_Mo_feed_77 hG hE d hd (fun z0 z1 z2 z3 z4 z5 Pz => l_Mo_feed_24 n z0 z1 z2 z3 z4 z5 Pz) (fun z0 z1 z2 z3 z4 z5 Pz q => ih z0 z1 z2 z3 z4 z5 Pz q) x1 x2 x3 x4 x5 x6 x4 P h
          · rw [if_neg c4] at h
            refine Go.iload_n (k := 3) (i := 3) 3 (by decide +kernel) rfl rfl ?_
            refine Go.goto (off := 17) 77 (by decide +kernel) (by decide) ?_
            exact t_j_Mo_feed_77 hG hE d hd (fun z0 z1 z2 z3 z4 z5 Pz => l_Mo_feed_24 n z0 z1 z2 z3 z4 z5 Pz) (fun z0 z1 z2 z3 z4 z5 Pz q => ih z0 z1 z2 z3 z4 z5 Pz q) x1 x2 x3 x4 x5 x6 x3 P h
        · rw [if_neg c3] at h
          refine Go.iload_n (k := 2) (i := 2) 2 (by decide +kernel) rfl rfl ?_
          refine Go.goto (off := 28) 77 (by decide +kernel) (by decide) ?_
          exact t_j_Mo_feed_77 hG hE d hd (fun z0 z1 z2 z3 z4 z5 Pz => l_Mo_feed_24 n z0 z1 z2 z3 z4 z5 Pz) (fun z0 z1 z2 z3 z4 z5 Pz q => ih z0 z1 z2 z3 z4 z5 Pz q) x1 x2 x3 x4 x5 x6 x2 P h
      · rw [if_neg c2] at h
        refine Go.iload_n (k := 1) (i := 1) 1 (by decide +kernel) rfl rfl ?_
        refine Go.goto (off := 39) 77 (by decide +kernel) (by decide) ?_
        exact t_j_Mo_feed_77 hG hE d hd (fun z0 z1 z2 z3 z4 z5 Pz => l_Mo_feed_24 n z0 z1 z2 z3 z4 z5 Pz) (fun z0 z1 z2 z3 z4 z5 Pz q => ih z0 z1 z2 z3 z4 z5 Pz q) x1 x2 x3 x4 x5 x6 x1 P h
theorem t_f_Mo_feed {G : GX} (hG : GOK G) {E : EV} (hE : E0 E) (d : Nat) (hd : 1 ≤ d) {Q : QT} (a1 : Int32) (a2 : Int32) (a3 : Int32) (a4 : Int32) (a5 : Int32) (P : PM) (h : St E rIP (f_Mo_feed a1 a2 a3 a4 a5 P) Q) : Go G c_Mo_feed "YawnRouteModel" 8 (some .int) false d nOb nOb Q 0 [(0, .ref (ad E 109)), (1, .int a1), (2, .int a2), (3, .int a3), (4, .int a4), (5, .int a5)] [] P E := by
  rw [f_Mo_feed] at h
  refine Go.aload_n (k := 0) (i := 0) 0 (by decide +kernel) rfl rfl ?_
  refine Go.iconst (n := 0) (0 : Int32) (by decide +kernel) rfl ?_
  refine Go.put 109 0 (by decide) (by decide) sh109 (ltO hE sh109) (Or.inl rfl) rfl rfl rfl lk1330 (by decide +kernel) ?_
  refine Go.aload_n (k := 0) (i := 0) 0 (by decide +kernel) rfl rfl ?_
  refine Go.get 109 5 (.int ((u1 P 109 0 (0 : Int32)).1 109 5)) (by decide) (by decide) sh109 (ltO hE sh109) rfl lk1335 (by decide +kernel) ?_
  refine Go.bipush (n := 20) (20 : Int32) (by decide +kernel) (by decide) ?_
  refine Go.iadd (by decide +kernel) ?_
  refine Go.sipush (n := 900) (900 : Int32) (by decide +kernel) (by decide) ?_
  refine Go.icmp_le (off := 6) 21 (by decide +kernel) (by decide) (fun c1 => ?_) (fun c1 => ?_)
  · rw [if_pos c1] at h
    refine Go.iconst (n := 0) (0 : Int32) (by decide +kernel) rfl ?_
    refine Go.istore (i := 6) [(6, .int (0 : Int32)), (0, .ref (ad E 109)), (1, .int a1), (2, .int a2), (3, .int a3), (4, .int a4), (5, .int a5)] (by decide +kernel) (by decide) rfl ?_
    refine Go.sub [1, 2, 3, 4, 5, 6, 0] [(0, .ref (ad E 109)), (1, .int a1), (2, .int a2), (3, .int a3), (4, .int a4), (5, .int a5), (6, .int (0 : Int32))] rfl ?_
    exact t_l_Mo_feed_24 hG hE d hd FU a1 a2 a3 a4 a5 (0 : Int32) (u1 P 109 0 (0 : Int32)) h
  · rw [if_neg c1] at h
    refine Go.bipush (n := -5) (-5 : Int32) (by decide +kernel) (by decide) ?_
    exact Go.iret rfl rfl hE.2 (by decide +kernel) (St.fIP h)
theorem e_Mo_feed {G : GX} (hG : GOK G) {E : EV} (hE : E0 E) (d : Nat) (hd : 1 ≤ d) (a1 : Int32) (a2 : Int32) (a3 : Int32) (a4 : Int32) (a5 : Int32) (P : PM) {Q : QT} (h : St E rIP (f_Mo_feed a1 a2 a3 a4 a5 P) Q) : Con G y_Mo_feed cw_Mo_feed d nOb nOb [.ref (ad E 109), .int a1, .int a2, .int a3, .int a4, .int a5] P E Q :=
  Con.of hG (by decide +kernel) rfl (fun h => by cases h) hE.2 (Nat.le_of_ble_eq_true rfl) (t_f_Mo_feed hG hE d hd a1 a2 a3 a4 a5 P h)
abbrev c_Mo_see : ByteArray := prog_14_method_6_code
abbrev y_Mo_see : MethodName := ⟨"YawnRouteModel", "see", "(I)I"⟩
abbrev cw_Mo_see : Cond := .code y_Mo_see c_Mo_see 2 (some .int)
theorem w_Mo_see : VW 12 y_Mo_see c_Mo_see 2 (some .int) 1 := ⟨by decide, lk1447, lp47_, lk14, lk1448, ⟨by decide, by decide, by decide +kernel⟩, by decide⟩
noncomputable def f_Mo_see (a1 : Int32) (P : PM) : Option Int32 := if (P.1 109 8) ≤ a1 then (some (-1 : Int32)) else (ck (inb a1 900) (some (P.1 112 a1.toNatClampNeg)))
theorem t_f_Mo_see {G : GX} (hG : GOK G) {E : EV} (hE : E0 E) (d : Nat) (hd : 1 ≤ d) {P : PM} {Q : QT} (a1 : Int32) (h : St E (rI P) (f_Mo_see a1 P) Q) : Go G c_Mo_see "YawnRouteModel" 2 (some .int) false d nOb nOb Q 0 [(0, .ref (ad E 109)), (1, .int a1)] [] P E := by
  rw [f_Mo_see] at h
  refine Go.iload_n (k := 1) (i := 1) 1 (by decide +kernel) rfl rfl ?_
  refine Go.aload_n (k := 0) (i := 0) 0 (by decide +kernel) rfl rfl ?_
  refine Go.get 109 8 (.int (P.1 109 8)) (by decide) (by decide) sh109 (ltO hE sh109) rfl lk1338 (by decide +kernel) ?_
  refine Go.icmp_ge (off := 12) 17 (by decide +kernel) (by decide) (fun c1 => ?_) (fun c1 => ?_)
  · rw [if_pos c1] at h
    refine Go.iconst (n := -1) (-1 : Int32) (by decide +kernel) rfl ?_
    exact Go.iret rfl rfl hE.2 (by decide +kernel) (St.fI h)
  · rw [if_neg c1] at h
    refine Go.aload_n (k := 0) (i := 0) 0 (by decide +kernel) rfl rfl ?_
    refine Go.get 109 3 (.ref (ad E 112)) (by decide) (by decide) sh109 (ltO hE sh109) (vlR hE rfl rfl) lk1333 (by decide +kernel) ?_
    refine Go.iload_n (k := 1) (i := 1) 1 (by decide +kernel) rfl rfl ?_
    obtain ⟨b2, h⟩ := St.ck h
    refine Go.iaload 112 900 sh112 (ltA hE sh112 (by decide)) (inb_in b2) (by decide +kernel) ?_
    refine Go.goto (off := 4) 18 (by decide +kernel) (by decide) ?_
    exact Go.iret rfl rfl hE.2 (by decide +kernel) (St.fI h)
theorem e_Mo_see {G : GX} (hG : GOK G) {E : EV} (hE : E0 E) (d : Nat) (hd : 1 ≤ d) (a1 : Int32) (P : PM) {Q : QT} (h : St E (rI P) (f_Mo_see a1 P) Q) : Con G y_Mo_see cw_Mo_see d nOb nOb [.ref (ad E 109), .int a1] P E Q :=
  Con.of hG (by decide +kernel) rfl (fun h => by cases h) hE.2 (Nat.le_of_ble_eq_true rfl) (t_f_Mo_see hG hE d hd a1 h)
abbrev c_Mo_isSmall : ByteArray := prog_14_method_7_code
abbrev y_Mo_isSmall : MethodName := ⟨"YawnRouteModel", "isSmall", "(I)Z"⟩
abbrev cw_Mo_isSmall : Cond := .code y_Mo_isSmall c_Mo_isSmall 1 (some .boolean)
theorem w_Mo_isSmall : SW y_Mo_isSmall c_Mo_isSmall 1 (some .boolean) 1 := ⟨lk1450, lk14, lk1451, ⟨by decide, by decide, by decide +kernel⟩, by decide⟩
noncomputable def j_Mo_isSmall_16 (P : PM) : Int32 := (0 : Int32)
noncomputable def f_Mo_isSmall (a0 : Int32) (P : PM) : Int32 := if a0 < (97 : Int32) then (j_Mo_isSmall_16 P) else (if (122 : Int32) < a0 then (j_Mo_isSmall_16 P) else ((1 : Int32)))
theorem t_j_Mo_isSmall_16 {G : GX} (hG : GOK G) {E : EV} (hE : E0 E) (d : Nat) (hd : 1 ≤ d) {P : PM} {Q : QT} (h : Q (some (.int (j_Mo_isSmall_16 P))) P E) : Go G c_Mo_isSmall "YawnRouteModel" 1 (some .boolean) false d nOb nOb Q 16 [] [] P E := by
  rw [j_Mo_isSmall_16] at h
  refine Go.iconst (n := 0) (0 : Int32) (by decide +kernel) rfl ?_
  exact Go.iret rfl rfl hE.2 (by decide +kernel) h
theorem t_f_Mo_isSmall {G : GX} (hG : GOK G) {E : EV} (hE : E0 E) (d : Nat) (hd : 1 ≤ d) {P : PM} {Q : QT} (a0 : Int32) (h : Q (some (.int (f_Mo_isSmall a0 P))) P E) : Go G c_Mo_isSmall "YawnRouteModel" 1 (some .boolean) false d nOb nOb Q 0 [(0, .int a0)] [] P E := by
  rw [f_Mo_isSmall] at h
  refine Go.iload_n (k := 0) (i := 0) 0 (by decide +kernel) rfl rfl ?_
  refine Go.bipush (n := 97) (97 : Int32) (by decide +kernel) (by decide) ?_
  refine Go.icmp_lt (off := 13) 16 (by decide +kernel) (by decide) (fun c1 => ?_) (fun c1 => ?_)
  · rw [if_pos c1] at h
    refine Go.sub [] [] rfl ?_
    exact t_j_Mo_isSmall_16 hG hE d hd h
  · rw [if_neg c1] at h
    refine Go.iload_n (k := 0) (i := 0) 0 (by decide +kernel) rfl rfl ?_
    refine Go.bipush (n := 122) (122 : Int32) (by decide +kernel) (by decide) ?_
    refine Go.icmp_gt (off := 7) 16 (by decide +kernel) (by decide) (fun c2 => ?_) (fun c2 => ?_)
    · rw [if_pos c2] at h
      refine Go.sub [] [] rfl ?_
      exact t_j_Mo_isSmall_16 hG hE d hd h
    · rw [if_neg c2] at h
      refine Go.iconst (n := 1) (1 : Int32) (by decide +kernel) rfl ?_
      refine Go.goto (off := 4) 17 (by decide +kernel) (by decide) ?_
      exact Go.iret rfl rfl hE.2 (by decide +kernel) h
theorem e_Mo_isSmall {G : GX} (hG : GOK G) {E : EV} (hE : E0 E) (d : Nat) (hd : 1 ≤ d) (a0 : Int32) (P : PM) {Q : QT} (h : Q (some (.int (f_Mo_isSmall a0 P))) P E) : Con G y_Mo_isSmall cw_Mo_isSmall d nOb nOb [.int a0] P E Q :=
  Con.of hG (by decide +kernel) rfl (fun h => by cases h) hE.2 (Nat.le_of_ble_eq_true rfl) (t_f_Mo_isSmall hG hE d hd a0 h)
abbrev c_Mo_isDigit : ByteArray := prog_14_method_8_code
abbrev y_Mo_isDigit : MethodName := ⟨"YawnRouteModel", "isDigit", "(I)Z"⟩
abbrev cw_Mo_isDigit : Cond := .code y_Mo_isDigit c_Mo_isDigit 1 (some .boolean)
theorem w_Mo_isDigit : SW y_Mo_isDigit c_Mo_isDigit 1 (some .boolean) 1 := ⟨lk1460, lk14, lk1461, ⟨by decide, by decide, by decide +kernel⟩, by decide⟩
noncomputable def j_Mo_isDigit_16 (P : PM) : Int32 := (0 : Int32)
noncomputable def f_Mo_isDigit (a0 : Int32) (P : PM) : Int32 := if a0 < (48 : Int32) then (j_Mo_isDigit_16 P) else (if (57 : Int32) < a0 then (j_Mo_isDigit_16 P) else ((1 : Int32)))
theorem t_j_Mo_isDigit_16 {G : GX} (hG : GOK G) {E : EV} (hE : E0 E) (d : Nat) (hd : 1 ≤ d) {P : PM} {Q : QT} (h : Q (some (.int (j_Mo_isDigit_16 P))) P E) : Go G c_Mo_isDigit "YawnRouteModel" 1 (some .boolean) false d nOb nOb Q 16 [] [] P E := by
  rw [j_Mo_isDigit_16] at h
  refine Go.iconst (n := 0) (0 : Int32) (by decide +kernel) rfl ?_
  exact Go.iret rfl rfl hE.2 (by decide +kernel) h
theorem t_f_Mo_isDigit {G : GX} (hG : GOK G) {E : EV} (hE : E0 E) (d : Nat) (hd : 1 ≤ d) {P : PM} {Q : QT} (a0 : Int32) (h : Q (some (.int (f_Mo_isDigit a0 P))) P E) : Go G c_Mo_isDigit "YawnRouteModel" 1 (some .boolean) false d nOb nOb Q 0 [(0, .int a0)] [] P E := by
  rw [f_Mo_isDigit] at h
  refine Go.iload_n (k := 0) (i := 0) 0 (by decide +kernel) rfl rfl ?_
  refine Go.bipush (n := 48) (48 : Int32) (by decide +kernel) (by decide) ?_
  refine Go.icmp_lt (off := 13) 16 (by decide +kernel) (by decide) (fun c1 => ?_) (fun c1 => ?_)
  · rw [if_pos c1] at h
    refine Go.sub [] [] rfl ?_
    exact t_j_Mo_isDigit_16 hG hE d hd h
  · rw [if_neg c1] at h
    refine Go.iload_n (k := 0) (i := 0) 0 (by decide +kernel) rfl rfl ?_
    refine Go.bipush (n := 57) (57 : Int32) (by decide +kernel) (by decide) ?_
    refine Go.icmp_gt (off := 7) 16 (by decide +kernel) (by decide) (fun c2 => ?_) (fun c2 => ?_)
    · rw [if_pos c2] at h
      refine Go.sub [] [] rfl ?_
      exact t_j_Mo_isDigit_16 hG hE d hd h
    · rw [if_neg c2] at h
      refine Go.iconst (n := 1) (1 : Int32) (by decide +kernel) rfl ?_
      refine Go.goto (off := 4) 17 (by decide +kernel) (by decide) ?_
      exact Go.iret rfl rfl hE.2 (by decide +kernel) h
theorem e_Mo_isDigit {G : GX} (hG : GOK G) {E : EV} (hE : E0 E) (d : Nat) (hd : 1 ≤ d) (a0 : Int32) (P : PM) {Q : QT} (h : Q (some (.int (f_Mo_isDigit a0 P))) P E) : Con G y_Mo_isDigit cw_Mo_isDigit d nOb nOb [.int a0] P E Q :=
  Con.of hG (by decide +kernel) rfl (fun h => by cases h) hE.2 (Nat.le_of_ble_eq_true rfl) (t_f_Mo_isDigit hG hE d hd a0 h)
abbrev c_Mo_keyAt : ByteArray := prog_14_method_9_code
abbrev y_Mo_keyAt : MethodName := ⟨"YawnRouteModel", "keyAt", "()I"⟩
abbrev cw_Mo_keyAt : Cond := .code y_Mo_keyAt c_Mo_keyAt 4 (some .int)
theorem w_Mo_keyAt : VW 12 y_Mo_keyAt c_Mo_keyAt 4 (some .int) 0 := ⟨by decide, lk1454, lp48_, lk14, lk1455, ⟨by decide, by decide, by decide +kernel⟩, by decide⟩
noncomputable def l_Mo_keyAt_97 (k4 : Int32 → Int32 → Option Int32) : Nat → Int32 → Int32 → PM → Option Int32
  | 0, _, _, _ => none
  | n + 1, x1, x2, P => ck (inb x2 99) (if (sch 2 x2) = (32 : Int32) then (k4 (x1 + (1 : Int32)) (x2 + (1 : Int32))) else (l_Mo_keyAt_97 k4 n x1 (x2 + (1 : Int32)) P))
noncomputable def j_Mo_keyAt_69 (k4 : Int32 → Int32 → Option Int32) (x1 : Int32) (x2 : Int32) (x3 : Int32) (P : PM) : Option Int32 := ck (inb (x2 + x3) 99) (if (sch 2 (x2 + x3)) = (32 : Int32) then (if ((P.1 109 6) + x3) = (P.1 109 7) then (some x1) else (l_Mo_keyAt_97 k4 FU x1 x2 P)) else (l_Mo_keyAt_97 k4 FU x1 x2 P))
noncomputable def l_Mo_keyAt_15 (k4 : Int32 → Int32 → Option Int32) : Nat → Int32 → Int32 → Int32 → PM → Option Int32
  | 0, _, _, _, _ => none
  | n + 1, x1, x2, x3, P => ck (inb (x2 + x3) 99) (if (sch 2 (x2 + x3)) = (32 : Int32) then (j_Mo_keyAt_69 k4 x1 x2 x3 P) else (if (P.1 109 7) ≤ ((P.1 109 6) + x3) then (j_Mo_keyAt_69 k4 x1 x2 x3 P) else (ck (inb ((P.1 109 6) + x3) 900) (ck (inb (x2 + x3) 99) (if (P.1 112 ((P.1 109 6) + x3).toNatClampNeg) = (sch 2 (x2 + x3)) then (l_Mo_keyAt_15 k4 n x1 x2 (x3 + (1 : Int32)) P) else (j_Mo_keyAt_69 k4 x1 x2 x3 P))))))
noncomputable def l_Mo_keyAt_4 : Nat → Int32 → Int32 → PM → Option Int32
  | 0, _, _, _ => none
  | n + 1, x1, x2, P => if (99 : Int32) ≤ x2 then (some (22 : Int32)) else (l_Mo_keyAt_15 (fun z0 z1 => l_Mo_keyAt_4 n z0 z1 P) FU x1 x2 (0 : Int32) P)
noncomputable def f_Mo_keyAt (P : PM) : Option Int32 := l_Mo_keyAt_4 FU (0 : Int32) (1 : Int32) P
theorem t_l_Mo_keyAt_97 {G : GX} (hG : GOK G) {E : EV} (hE : E0 E) (d : Nat) (hd : 5 ≤ d) {P : PM} {Q : QT} (k4 : Int32 → Int32 → Option Int32) (hk4 : ∀ (x1 : Int32) (x2 : Int32), St E (rI P) (k4 x1 x2) Q → Go G c_Mo_keyAt "YawnRouteModel" 4 (some .int) false d nOb nOb Q 4 [(0, .ref (ad E 109)), (1, .int x1), (2, .int x2)] [] P E) : ∀ (n : Nat) (x1 : Int32) (x2 : Int32), St E (rI P) (l_Mo_keyAt_97 k4 n x1 x2 P) Q → Go G c_Mo_keyAt "YawnRouteModel" 4 (some .int) false d nOb nOb Q 97 [(0, .ref (ad E 109)), (1, .int x1), (2, .int x2)] [] P E := by
  intro n
  induction n with
  | zero =>
    intro x1 x2 h
    rw [l_Mo_keyAt_97] at h
    exact St.none_ h
  | succ n ih =>
    intro x1 x2 h
    rw [l_Mo_keyAt_97] at h
    refine Go.ldcS (idx := 89) 2 (by decide) rfl (by decide +kernel) ?_
    refine Go.iload_n (k := 2) (i := 2) 2 (by decide +kernel) rfl rfl ?_
    obtain ⟨b1, h⟩ := St.ck h
    refine Go.strChar (i := 2) (by decide) b1 lk1458 hE (by omega) (Nat.le_of_ble_eq_true rfl) (by decide +kernel) ?_
    refine Go.bipush (n := 32) (32 : Int32) (by decide +kernel) (by decide) ?_
    refine Go.icmp_eq (off := 9) 114 (by decide +kernel) (by decide) (fun c2 => ?_) (fun c2 => ?_)
    · rw [if_pos c2] at h
      refine Go.iinc (i := 2) (n := 1) 2 (x2 + (1 : Int32)) [(2, .int (x2 + (1 : Int32))), (0, .ref (ad E 109)), (1, .int x1)] (by decide +kernel) rfl rfl (by decide) rfl ?_
      refine Go.iinc (i := 1) (n := 1) 2 (x1 + (1 : Int32)) [(1, .int (x1 + (1 : Int32))), (2, .int (x2 + (1 : Int32))), (0, .ref (ad E 109))] (by decide +kernel) rfl rfl (by decide) rfl ?_
      refine Go.goto (off := -116) 4 (by decide +kernel) (by decide) ?_
      refine Go.sub [2, 0, 1] [(0, .ref (ad E 109)), (1, .int (x1 + (1 : Int32))), (2, .int (x2 + (1 : Int32)))] rfl ?_
      exact hk4 (x1 + (1 : Int32)) (x2 + (1 : Int32)) h
    · rw [if_neg c2] at h
      refine Go.iinc (i := 2) (n := 1) 2 (x2 + (1 : Int32)) [(2, .int (x2 + (1 : Int32))), (0, .ref (ad E 109)), (1, .int x1)] (by decide +kernel) rfl rfl (by decide) rfl ?_
      refine Go.goto (off := -14) 97 (by decide +kernel) (by decide) ?_
      refine Go.sub [1, 2, 0] [(0, .ref (ad E 109)), (1, .int x1), (2, .int (x2 + (1 : Int32)))] rfl ?_
      exact ih x1 (x2 + (1 : Int32)) h
theorem t_j_Mo_keyAt_69 {G : GX} (hG : GOK G) {E : EV} (hE : E0 E) (d : Nat) (hd : 5 ≤ d) {P : PM} {Q : QT} (k4 : Int32 → Int32 → Option Int32) (hk4 : ∀ (x1 : Int32) (x2 : Int32), St E (rI P) (k4 x1 x2) Q → Go G c_Mo_keyAt "YawnRouteModel" 4 (some .int) false d nOb nOb Q 4 [(0, .ref (ad E 109)), (1, .int x1), (2, .int x2)] [] P E) (x1 : Int32) (x2 : Int32) (x3 : Int32) (h : St E (rI P) (j_Mo_keyAt_69 k4 x1 x2 x3 P) Q) : Go G c_Mo_keyAt "YawnRouteModel" 4 (some .int) false d nOb nOb Q 69 [(0, .ref (ad E 109)), (1, .int x1), (2, .int x2), (3, .int x3)] [] P E := by
  rw [j_Mo_keyAt_69] at h
  refine Go.ldcS (idx := 89) 2 (by decide) rfl (by decide +kernel) ?_
  refine Go.iload_n (k := 2) (i := 2) 2 (by decide +kernel) rfl rfl ?_
  refine Go.iload_n (k := 3) (i := 3) 3 (by decide +kernel) rfl rfl ?_
  refine Go.iadd (by decide +kernel) ?_
  obtain ⟨b1, h⟩ := St.ck h
  refine Go.strChar (i := 2) (by decide) b1 lk1458 hE (by omega) (Nat.le_of_ble_eq_true rfl) (by decide +kernel) ?_
  refine Go.bipush (n := 32) (32 : Int32) (by decide +kernel) (by decide) ?_
  refine Go.icmp_ne (off := 18) 97 (by decide +kernel) (by decide) (fun c2 => ?_) (fun c2 => ?_)
  · rw [if_neg c2] at h
    refine Go.sub [0, 1, 2] [(0, .ref (ad E 109)), (1, .int x1), (2, .int x2)] rfl ?_
    exact t_l_Mo_keyAt_97 hG hE d hd k4 hk4 FU x1 x2 h
  · rw [if_pos c2] at h
    refine Go.aload_n (k := 0) (i := 0) 0 (by decide +kernel) rfl rfl ?_
    refine Go.get 109 6 (.int (P.1 109 6)) (by decide) (by decide) sh109 (ltO hE sh109) rfl lk1336 (by decide +kernel) ?_
    refine Go.iload_n (k := 3) (i := 3) 3 (by decide +kernel) rfl rfl ?_
    refine Go.iadd (by decide +kernel) ?_
    refine Go.aload_n (k := 0) (i := 0) 0 (by decide +kernel) rfl rfl ?_
    refine Go.get 109 7 (.int (P.1 109 7)) (by decide) (by decide) sh109 (ltO hE sh109) rfl lk1337 (by decide +kernel) ?_
    refine Go.icmp_ne (off := 5) 97 (by decide +kernel) (by decide) (fun c3 => ?_) (fun c3 => ?_)
    · rw [if_neg c3] at h
      refine Go.sub [0, 1, 2] [(0, .ref (ad E 109)), (1, .int x1), (2, .int x2)] rfl ?_
      exact t_l_Mo_keyAt_97 hG hE d hd k4 hk4 FU x1 x2 h
    · rw [if_pos c3] at h
      refine Go.iload_n (k := 1) (i := 1) 1 (by decide +kernel) rfl rfl ?_
      exact Go.iret rfl rfl hE.2 (by decide +kernel) (St.fI h)
theorem t_l_Mo_keyAt_15 {G : GX} (hG : GOK G) {E : EV} (hE : E0 E) (d : Nat) (hd : 5 ≤ d) {P : PM} {Q : QT} (k4 : Int32 → Int32 → Option Int32) (hk4 : ∀ (x1 : Int32) (x2 : Int32), St E (rI P) (k4 x1 x2) Q → Go G c_Mo_keyAt "YawnRouteModel" 4 (some .int) false d nOb nOb Q 4 [(0, .ref (ad E 109)), (1, .int x1), (2, .int x2)] [] P E) : ∀ (n : Nat) (x1 : Int32) (x2 : Int32) (x3 : Int32), St E (rI P) (l_Mo_keyAt_15 k4 n x1 x2 x3 P) Q → Go G c_Mo_keyAt "YawnRouteModel" 4 (some .int) false d nOb nOb Q 15 [(0, .ref (ad E 109)), (1, .int x1), (2, .int x2), (3, .int x3)] [] P E := by
  intro n
  induction n with
  | zero =>
    intro x1 x2 x3 h
    rw [l_Mo_keyAt_15] at h
    exact St.none_ h
  | succ n ih =>
    intro x1 x2 x3 h
    rw [l_Mo_keyAt_15] at h
    refine Go.ldcS (idx := 89) 2 (by decide) rfl (by decide +kernel) ?_
    refine Go.iload_n (k := 2) (i := 2) 2 (by decide +kernel) rfl rfl ?_
    refine Go.iload_n (k := 3) (i := 3) 3 (by decide +kernel) rfl rfl ?_
    refine Go.iadd (by decide +kernel) ?_
    obtain ⟨b1, h⟩ := St.ck h
    refine Go.strChar (i := 2) (by decide) b1 lk1458 hE (by omega) (Nat.le_of_ble_eq_true rfl) (by decide +kernel) ?_
    refine Go.bipush (n := 32) (32 : Int32) (by decide +kernel) (by decide) ?_
    refine Go.icmp_eq (off := 44) 69 (by decide +kernel) (by decide) (fun c2 => ?_) (fun c2 => ?_)
    · rw [if_pos c2] at h
      exact t_j_Mo_keyAt_69 hG hE d hd k4 hk4 x1 x2 x3 h
    · rw [if_neg c2] at h
      refine Go.aload_n (k := 0) (i := 0) 0 (by decide +kernel) rfl rfl ?_
      refine Go.get 109 6 (.int (P.1 109 6)) (by decide) (by decide) sh109 (ltO hE sh109) rfl lk1336 (by decide +kernel) ?_
      refine Go.iload_n (k := 3) (i := 3) 3 (by decide +kernel) rfl rfl ?_
      refine Go.iadd (by decide +kernel) ?_
      refine Go.aload_n (k := 0) (i := 0) 0 (by decide +kernel) rfl rfl ?_
      refine Go.get 109 7 (.int (P.1 109 7)) (by decide) (by decide) sh109 (ltO hE sh109) rfl lk1337 (by decide +kernel) ?_
      refine Go.icmp_ge (off := 31) 69 (by decide +kernel) (by decide) (fun c3 => ?_) (fun c3 => ?_)
      · rw [if_pos c3] at h
        exact t_j_Mo_keyAt_69 hG hE d hd k4 hk4 x1 x2 x3 h
      · rw [if_neg c3] at h
        refine Go.aload_n (k := 0) (i := 0) 0 (by decide +kernel) rfl rfl ?_
        refine Go.get 109 3 (.ref (ad E 112)) (by decide) (by decide) sh109 (ltO hE sh109) (vlR hE rfl rfl) lk1333 (by decide +kernel) ?_
        refine Go.aload_n (k := 0) (i := 0) 0 (by decide +kernel) rfl rfl ?_
        refine Go.get 109 6 (.int (P.1 109 6)) (by decide) (by decide) sh109 (ltO hE sh109) rfl lk1336 (by decide +kernel) ?_
        refine Go.iload_n (k := 3) (i := 3) 3 (by decide +kernel) rfl rfl ?_
        refine Go.iadd (by decide +kernel) ?_
        obtain ⟨b4, h⟩ := St.ck h
        refine Go.iaload 112 900 sh112 (ltA hE sh112 (by decide)) (inb_in b4) (by decide +kernel) ?_
        refine Go.ldcS (idx := 89) 2 (by decide) rfl (by decide +kernel) ?_
        refine Go.iload_n (k := 2) (i := 2) 2 (by decide +kernel) rfl rfl ?_
        refine Go.iload_n (k := 3) (i := 3) 3 (by decide +kernel) rfl rfl ?_
        refine Go.iadd (by decide +kernel) ?_
        obtain ⟨b5, h⟩ := St.ck h
        refine Go.strChar (i := 2) (by decide) b5 lk1458 hE (by omega) (Nat.le_of_ble_eq_true rfl) (by decide +kernel) ?_
        refine Go.icmp_ne (off := 9) 69 (by decide +kernel) (by decide) (fun c6 => ?_) (fun c6 => ?_)
        · rw [if_neg c6] at h
          exact t_j_Mo_keyAt_69 hG hE d hd k4 hk4 x1 x2 x3 h
        · rw [if_pos c6] at h
          refine Go.iinc (i := 3) (n := 1) 3 (x3 + (1 : Int32)) [(3, .int (x3 + (1 : Int32))), (0, .ref (ad E 109)), (1, .int x1), (2, .int x2)] (by decide +kernel) rfl rfl (by decide) rfl ?_
          refine Go.goto (off := -51) 15 (by decide +kernel) (by decide) ?_
          refine Go.sub [1, 2, 3, 0] [(0, .ref (ad E 109)), (1, .int x1), (2, .int x2), (3, .int (x3 + (1 : Int32)))] rfl ?_
          exact ih x1 x2 (x3 + (1 : Int32)) h
theorem t_l_Mo_keyAt_4 {G : GX} (hG : GOK G) {E : EV} (hE : E0 E) (d : Nat) (hd : 5 ≤ d) {P : PM} {Q : QT} : ∀ (n : Nat) (x1 : Int32) (x2 : Int32), St E (rI P) (l_Mo_keyAt_4 n x1 x2 P) Q → Go G c_Mo_keyAt "YawnRouteModel" 4 (some .int) false d nOb nOb Q 4 [(0, .ref (ad E 109)), (1, .int x1), (2, .int x2)] [] P E := by
  intro n
  induction n with
  | zero =>
    intro x1 x2 h
    rw [l_Mo_keyAt_4] at h
    exact St.none_ h
  | succ n ih =>
    intro x1 x2 h
    rw [l_Mo_keyAt_4] at h
    refine Go.iload_n (k := 2) (i := 2) 2 (by decide +kernel) rfl rfl ?_
    refine Go.ldcS (idx := 89) 2 (by decide) rfl (by decide +kernel) ?_
    refine Go.strLen (i := 2) (99 : Int32) (by decide) rfl lk1457 hE (by omega) (Nat.le_of_ble_eq_true rfl) (by decide +kernel) ?_
    refine Go.icmp_ge (off := 113) 123 (by decide +kernel) (by decide) (fun c1 => ?_) (fun c1 => ?_)
    · rw [if_pos c1] at h
      refine Go.bipush (n := 22) (22 : Int32) (by decide +kernel) (by decide) ?_
      exact Go.iret rfl rfl hE.2 (by decide +kernel) (St.fI h)
    · rw [if_neg c1] at h
      refine Go.iconst (n := 0) (0 : Int32) (by decide +kernel) rfl ?_
      refine Go.istore_n (k := 3) (i := 3) [(3, .int (0 : Int32)), (0, .ref (ad E 109)), (1, .int x1), (2, .int x2)] (by decide +kernel) rfl (by decide) rfl ?_
      refine Go.sub [1, 2, 3, 0] [(0, .ref (ad E 109)), (1, .int x1), (2, .int x2), (3, .int (0 : Int32))] rfl ?_
      exact t_l_Mo_keyAt_15 hG hE d hd (fun z0 z1 => l_Mo_keyAt_4 n z0 z1 P) (fun z0 z1 q => ih z0 z1 q) FU x1 x2 (0 : Int32) h
theorem t_f_Mo_keyAt {G : GX} (hG : GOK G) {E : EV} (hE : E0 E) (d : Nat) (hd : 5 ≤ d) {P : PM} {Q : QT} (h : St E (rI P) (f_Mo_keyAt P) Q) : Go G c_Mo_keyAt "YawnRouteModel" 4 (some .int) false d nOb nOb Q 0 [(0, .ref (ad E 109))] [] P E := by
  rw [f_Mo_keyAt] at h
  refine Go.iconst (n := 0) (0 : Int32) (by decide +kernel) rfl ?_
  refine Go.istore_n (k := 1) (i := 1) [(1, .int (0 : Int32)), (0, .ref (ad E 109))] (by decide +kernel) rfl (by decide) rfl ?_
  refine Go.iconst (n := 1) (1 : Int32) (by decide +kernel) rfl ?_
  refine Go.istore_n (k := 2) (i := 2) [(2, .int (1 : Int32)), (1, .int (0 : Int32)), (0, .ref (ad E 109))] (by decide +kernel) rfl (by decide) rfl ?_
  refine Go.sub [2, 1, 0] [(0, .ref (ad E 109)), (1, .int (0 : Int32)), (2, .int (1 : Int32))] rfl ?_
  exact t_l_Mo_keyAt_4 hG hE d hd FU (0 : Int32) (1 : Int32) h
theorem e_Mo_keyAt {G : GX} (hG : GOK G) {E : EV} (hE : E0 E) (d : Nat) (hd : 5 ≤ d) (P : PM) {Q : QT} (h : St E (rI P) (f_Mo_keyAt P) Q) : Con G y_Mo_keyAt cw_Mo_keyAt d nOb nOb [.ref (ad E 109)] P E Q :=
  Con.of hG (by decide +kernel) rfl (fun h => by cases h) hE.2 (Nat.le_of_ble_eq_true rfl) (t_f_Mo_keyAt hG hE d hd h)
