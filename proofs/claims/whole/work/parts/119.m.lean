/-! methods as functions, by program: Yr_chance St_greatestShare Yr_likeliest Tr_make Yr_numbers Tr_cut Tr_put Yr_write Yr_lists Yr_image -/
abbrev c_Yr_chance : ByteArray := prog_1_method_36_code
abbrev y_Yr_chance : MethodName := ⟨"YawnRoute", "chance", "(III)J"⟩
abbrev cw_Yr_chance : Cond := .code y_Yr_chance c_Yr_chance 8 (some .long)
theorem w_Yr_chance : VW 11 y_Yr_chance c_Yr_chance 8 (some .long) 3 := ⟨by decide, lk1234, lk1235, lk1, lk1236, ⟨by decide, by decide, by decide +kernel⟩, by decide⟩
noncomputable def j_Yr_chance_26 (x1 : Int32) (x2 : Int32) (x3 : Int32) (s1 : Int32) (P : PM) : Option (Int64 × PM) := lb (f_Yr_refusal s1 (f_Yr_isDraws x2 P) P) (fun y1 => if y1 = (0 : Int32) then ((f_St_drawLots x2 P).bind (fun P3 => (f_St_shareOf x1 x2 P3).bind (fun v4 => (f_St_sharesIn x2 P3).bind (fun v5 => (f_Yr_commonDivisor v4 v5 P3).bind (fun v6 => if x3 = (0 : Int32) then (ck (decide (¬ v6 = 0)) (some (((v4 / v6).toInt64), P3))) else (ck (decide (¬ v6 = 0)) (some (((v5 / v6).toInt64), P3)))))))) else (some ((y1.toInt64), P)))
noncomputable def j_Yr_chance_21 (x1 : Int32) (x2 : Int32) (x3 : Int32) (P : PM) : Option (Int64 × PM) := j_Yr_chance_26 x1 x2 x3 (1 : Int32) P
noncomputable def j_Yr_chance_25 (x1 : Int32) (x2 : Int32) (x3 : Int32) (P : PM) : Option (Int64 × PM) := j_Yr_chance_26 x1 x2 x3 (0 : Int32) P
noncomputable def f_Yr_chance (a1 : Int32) (a2 : Int32) (a3 : Int32) (P : PM) : Option (Int64 × PM) := if (f_Ne_isStation 14 a1 P) = (0 : Int32) then (j_Yr_chance_25 a1 a2 a3 P) else (if a3 = (0 : Int32) then (j_Yr_chance_21 a1 a2 a3 P) else (if a3 = (1 : Int32) then (j_Yr_chance_21 a1 a2 a3 P) else (j_Yr_chance_25 a1 a2 a3 P)))
theorem t_j_Yr_chance_26 {G : GX} (hG : GOK G) {E : EV} (hE : E0 E) (d : Nat) (hd : 7 ≤ d) {Q : QT} (x1 : Int32) (x2 : Int32) (x3 : Int32) (s1 : Int32) (P : PM) (h : St E rLP (j_Yr_chance_26 x1 x2 x3 s1 P) Q) : Go G c_Yr_chance "YawnRoute" 8 (some .long) false d nOb nOb Q 26 [(0, .ref (ad E 0)), (1, .int x1), (2, .int x2), (3, .int x3)] [.int s1, .ref (ad E 0)] P E := by
  rw [j_Yr_chance_26] at h
  refine Go.iload_n (k := 2) (i := 2) 2 (by decide +kernel) rfl rfl ?_
  refine Go.cS_i (P1 := P) (v := (f_Yr_isDraws x2 P)) (d - 1) [.int x2] hE w_Yr_isDraws (e_Yr_isDraws hG hE (d - 1) (by omega) x2 P ⟨rfl, rfl, rfl⟩) lk1237 rfl (by omega) (Nat.le_of_ble_eq_true rfl) (by decide +kernel) _ rfl ?_
  refine Go.cV_i (P1 := P) (v := (f_Yr_refusal s1 (f_Yr_isDraws x2 P) P)) (d - 1) 0 [.int s1, .int (f_Yr_isDraws x2 P)] sh0 hE w_Yr_refusal (e_Yr_refusal hG hE (d - 1) (by omega) s1 (f_Yr_isDraws x2 P) P ⟨rfl, rfl, rfl⟩) lk912 rfl (by omega) (Nat.le_of_ble_eq_true rfl) (by decide +kernel) _ rfl ?_
  obtain ⟨y1, hy1, h⟩ := St.lb h
  refine Go.eqi y1 hy1 ?_
  refine Go.istore (i := 4) [(4, .int y1), (0, .ref (ad E 0)), (1, .int x1), (2, .int x2), (3, .int x3)] (by decide +kernel) (by decide) rfl ?_
  refine Go.iload (i := 4) 0 (by decide +kernel) rfl ?_
  refine Go.if_eq (off := 7) 44 (by decide +kernel) (by decide) (fun c2 => ?_) (fun c2 => ?_)
  · rw [if_pos c2] at h
    refine Go.aload_n (k := 0) (i := 0) 1 (by decide +kernel) rfl rfl ?_
    refine Go.get 0 9 (.ref (ad E 69)) (by decide) (by decide) sh0 (ltO hE sh0) (vlR hE rfl rfl) lk399 (by decide +kernel) ?_
    refine Go.iload_n (k := 2) (i := 2) 3 (by decide +kernel) rfl rfl ?_
    obtain ⟨P3, hP3, h⟩ := St.bind h
    refine Go.cV_v (P1 := P3) (d - 1) 69 [.int x2] sh69 hE w_St_drawLots (e_St_drawLots hG hE (d - 1) (by omega) x2 P ⟨_, hP3, rfl, rfl, rfl⟩) lk1240 rfl (by omega) (Nat.le_of_ble_eq_true rfl) (by decide +kernel) _ rfl ?_
    refine Go.aload_n (k := 0) (i := 0) 1 (by decide +kernel) rfl rfl ?_
    refine Go.get 0 9 (.ref (ad E 69)) (by decide) (by decide) sh0 (ltO hE sh0) (vlR hE rfl rfl) lk399 (by decide +kernel) ?_
    refine Go.iload_n (k := 1) (i := 1) 2 (by decide +kernel) rfl rfl ?_
    refine Go.iload_n (k := 2) (i := 2) 3 (by decide +kernel) rfl rfl ?_
    obtain ⟨v4, hv4, h⟩ := St.bind h
    refine Go.cV_i (P1 := P3) (v := v4) (d - 1) 69 [.int x1, .int x2] sh69 hE w_St_shareOf (e_St_shareOf hG hE (d - 1) (by omega) x1 x2 P3 ⟨_, hv4, rfl, rfl, rfl⟩) lk1253 rfl (by omega) (Nat.le_of_ble_eq_true rfl) (by decide +kernel) _ rfl ?_
    refine Go.istore (i := 5) [(5, .int v4), (4, .int y1), (0, .ref (ad E 0)), (1, .int x1), (2, .int x2), (3, .int x3)] (by decide +kernel) (by decide) rfl ?_
    refine Go.aload_n (k := 0) (i := 0) 2 (by decide +kernel) rfl rfl ?_
    refine Go.get 0 9 (.ref (ad E 69)) (by decide) (by decide) sh0 (ltO hE sh0) (vlR hE rfl rfl) lk399 (by decide +kernel) ?_
    refine Go.iload_n (k := 2) (i := 2) 4 (by decide +kernel) rfl rfl ?_
    obtain ⟨v5, hv5, h⟩ := St.bind h
    refine Go.cV_i (P1 := P3) (v := v5) (d - 1) 69 [.int x2] sh69 hE w_St_sharesIn (e_St_sharesIn hG hE (d - 1) (by omega) x2 P3 ⟨_, hv5, rfl, rfl, rfl⟩) lk1257 rfl (by omega) (Nat.le_of_ble_eq_true rfl) (by decide +kernel) _ rfl ?_
    refine Go.istore (i := 6) [(6, .int v5), (5, .int v4), (4, .int y1), (0, .ref (ad E 0)), (1, .int x1), (2, .int x2), (3, .int x3)] (by decide +kernel) (by decide) rfl ?_
    refine Go.iload (i := 5) 1 (by decide +kernel) rfl ?_
    refine Go.iload (i := 6) 0 (by decide +kernel) rfl ?_
    obtain ⟨v6, hv6, h⟩ := St.bind h
    refine Go.cS_i (P1 := P3) (v := v6) (d - 1) [.int v4, .int v5] hE w_Yr_commonDivisor (e_Yr_commonDivisor hG hE (d - 1) (by omega) v4 v5 P3 ⟨_, hv6, rfl, rfl, rfl⟩) lk1261 rfl (by omega) (Nat.le_of_ble_eq_true rfl) (by decide +kernel) _ rfl ?_
    refine Go.istore (i := 7) [(7, .int v6), (6, .int v5), (5, .int v4), (4, .int y1), (0, .ref (ad E 0)), (1, .int x1), (2, .int x2), (3, .int x3)] (by decide +kernel) (by decide) rfl ?_
    refine Go.iload_n (k := 3) (i := 3) 7 (by decide +kernel) rfl rfl ?_
    refine Go.if_ne (off := 12) 95 (by decide +kernel) (by decide) (fun c7 => ?_) (fun c7 => ?_)
    · rw [if_neg c7] at h
      refine Go.iload (i := 6) 1 (by decide +kernel) rfl ?_
      refine Go.iload (i := 7) 0 (by decide +kernel) rfl ?_
      obtain ⟨b8, h⟩ := St.ck h
      refine Go.idiv (by decide +kernel) (of_decide_eq_true b8) ?_
      refine Go.i2l (by decide +kernel) ?_
      exact Go.lret rfl hE.2 (by decide +kernel) (St.fLP h)
    · rw [if_pos c7] at h
      refine Go.iload (i := 5) 2 (by decide +kernel) rfl ?_
      refine Go.iload (i := 7) 0 (by decide +kernel) rfl ?_
      obtain ⟨b9, h⟩ := St.ck h
      refine Go.idiv (by decide +kernel) (of_decide_eq_true b9) ?_
      refine Go.i2l (by decide +kernel) ?_
      refine Go.goto (off := 9) 101 (by decide +kernel) (by decide) ?_
      exact Go.lret rfl hE.2 (by decide +kernel) (St.fLP h)
  · rw [if_neg c2] at h
    refine Go.iload (i := 4) 0 (by decide +kernel) rfl ?_
    refine Go.i2l (by decide +kernel) ?_
    exact Go.lret rfl hE.2 (by decide +kernel) (St.fLP h)
theorem t_j_Yr_chance_21 {G : GX} (hG : GOK G) {E : EV} (hE : E0 E) (d : Nat) (hd : 7 ≤ d) {Q : QT} (x1 : Int32) (x2 : Int32) (x3 : Int32) (P : PM) (h : St E rLP (j_Yr_chance_21 x1 x2 x3 P) Q) : Go G c_Yr_chance "YawnRoute" 8 (some .long) false d nOb nOb Q 21 [(0, .ref (ad E 0)), (1, .int x1), (2, .int x2), (3, .int x3)] [.ref (ad E 0)] P E := by
  rw [j_Yr_chance_21] at h
  refine Go.iconst (n := 1) (1 : Int32) (by decide +kernel) rfl ?_
  refine Go.goto (off := 4) 26 (by decide +kernel) (by decide) ?_
  exact t_j_Yr_chance_26 hG hE d hd x1 x2 x3 (1 : Int32) P h
theorem t_j_Yr_chance_25 {G : GX} (hG : GOK G) {E : EV} (hE : E0 E) (d : Nat) (hd : 7 ≤ d) {Q : QT} (x1 : Int32) (x2 : Int32) (x3 : Int32) (P : PM) (h : St E rLP (j_Yr_chance_25 x1 x2 x3 P) Q) : Go G c_Yr_chance "YawnRoute" 8 (some .long) false d nOb nOb Q 25 [(0, .ref (ad E 0)), (1, .int x1), (2, .int x2), (3, .int x3)] [.ref (ad E 0)] P E := by
  rw [j_Yr_chance_25] at h
  refine Go.iconst (n := 0) (0 : Int32) (by decide +kernel) rfl ?_
  exact t_j_Yr_chance_26 hG hE d hd x1 x2 x3 (0 : Int32) P h
theorem t_f_Yr_chance {G : GX} (hG : GOK G) {E : EV} (hE : E0 E) (d : Nat) (hd : 7 ≤ d) {Q : QT} (a1 : Int32) (a2 : Int32) (a3 : Int32) (P : PM) (h : St E rLP (f_Yr_chance a1 a2 a3 P) Q) : Go G c_Yr_chance "YawnRoute" 8 (some .long) false d nOb nOb Q 0 [(0, .ref (ad E 0)), (1, .int a1), (2, .int a2), (3, .int a3)] [] P E := by
  rw [f_Yr_chance] at h
  refine Go.aload_n (k := 0) (i := 0) 0 (by decide +kernel) rfl rfl ?_
  refine Go.aload_n (k := 0) (i := 0) 0 (by decide +kernel) rfl rfl ?_
  refine Go.get 0 2 (.ref (ad E 14)) (by decide) (by decide) sh0 (ltO hE sh0) (vlR hE rfl rfl) lk392 (by decide +kernel) ?_
  refine Go.iload_n (k := 1) (i := 1) 1 (by decide +kernel) rfl rfl ?_
  refine Go.cV_i (P1 := P) (v := (f_Ne_isStation 14 a1 P)) (d - 1) 14 [.int a1] sh14 hE w_Ne_isStation (e_Ne_isStation hG hE (d - 1) (by omega) 14 sh14 a1 P ⟨rfl, rfl, rfl⟩) lk726 rfl (by omega) (Nat.le_of_ble_eq_true rfl) (by decide +kernel) _ rfl ?_
  refine Go.if_eq (off := 16) 25 (by decide +kernel) (by decide) (fun c1 => ?_) (fun c1 => ?_)
  · rw [if_pos c1] at h
    exact t_j_Yr_chance_25 hG hE d hd a1 a2 a3 P h
  · rw [if_neg c1] at h
    refine Go.iload_n (k := 3) (i := 3) 3 (by decide +kernel) rfl rfl ?_
    refine Go.if_eq (off := 8) 21 (by decide +kernel) (by decide) (fun c2 => ?_) (fun c2 => ?_)
    · rw [if_pos c2] at h
      exact t_j_Yr_chance_21 hG hE d hd a1 a2 a3 P h
    · rw [if_neg c2] at h
      refine Go.iload_n (k := 3) (i := 3) 3 (by decide +kernel) rfl rfl ?_
      refine Go.iconst (n := 1) (1 : Int32) (by decide +kernel) rfl ?_
      refine Go.icmp_ne (off := 7) 25 (by decide +kernel) (by decide) (fun c3 => ?_) (fun c3 => ?_)
      · rw [if_neg c3] at h
        exact t_j_Yr_chance_25 hG hE d hd a1 a2 a3 P h
      · rw [if_pos c3] at h
        exact t_j_Yr_chance_21 hG hE d hd a1 a2 a3 P h
theorem e_Yr_chance {G : GX} (hG : GOK G) {E : EV} (hE : E0 E) (d : Nat) (hd : 7 ≤ d) (a1 : Int32) (a2 : Int32) (a3 : Int32) (P : PM) {Q : QT} (h : St E rLP (f_Yr_chance a1 a2 a3 P) Q) : Con G y_Yr_chance cw_Yr_chance d nOb nOb [.ref (ad E 0), .int a1, .int a2, .int a3] P E Q :=
  Con.of hG (by decide +kernel) rfl (fun h => by cases h) hE.2 (Nat.le_of_ble_eq_true rfl) (t_f_Yr_chance hG hE d hd a1 a2 a3 P h)
abbrev c_St_greatestShare : ByteArray := prog_10_method_12_code
abbrev y_St_greatestShare : MethodName := ⟨"YawnRoute$Steps", "greatestShare", "(I)I"⟩
abbrev cw_St_greatestShare : Cond := .code y_St_greatestShare c_St_greatestShare 5 (some .int)
theorem w_St_greatestShare : VW 8 y_St_greatestShare c_St_greatestShare 5 (some .int) 1 := ⟨by decide, lk1270, lk1271, lk13, lk1272, ⟨by decide, by decide, by decide +kernel⟩, by decide⟩
noncomputable def j_St_greatestShare_41 (k7 : Int32 → Int32 → Int32 → Int32 → Option Int32) (x1 : Int32) (x2 : Int32) (x3 : Int32) (x4 : Int32) (P : PM) : Option Int32 := k7 x1 x2 x3 (x4 + (1 : Int32))
noncomputable def l_St_greatestShare_7 : Nat → Int32 → Int32 → Int32 → Int32 → PM → Option Int32
  | 0, _, _, _, _, _ => none
  | n + 1, x1, x2, x3, x4, P => if (P.1 14 0) ≤ x4 then (some x2) else ((f_St_shareOf x4 x1 P).bind (fun v2 => if v2 ≤ x3 then (j_St_greatestShare_41 (fun z0 z1 z2 z3 => l_St_greatestShare_7 n z0 z1 z2 z3 P) x1 x2 x3 x4 P) else ((f_St_shareOf x4 x1 P).bind (fun v4 => j_St_greatestShare_41 (fun z0 z1 z2 z3 => l_St_greatestShare_7 n z0 z1 z2 z3 P) x1 x4 v4 x4 P))))
noncomputable def f_St_greatestShare (a1 : Int32) (P : PM) : Option Int32 := l_St_greatestShare_7 FU a1 (-1 : Int32) (0 : Int32) (0 : Int32) P
theorem t_j_St_greatestShare_41 {G : GX} (hG : GOK G) {E : EV} (hE : E0 E) (d : Nat) (hd : 3 ≤ d) {P : PM} {Q : QT} (k7 : Int32 → Int32 → Int32 → Int32 → Option Int32) (hk7 : ∀ (x1 : Int32) (x2 : Int32) (x3 : Int32) (x4 : Int32), St E (rI P) (k7 x1 x2 x3 x4) Q → Go G c_St_greatestShare "YawnRoute$Steps" 5 (some .int) false d nOb nOb Q 7 [(0, .ref (ad E 69)), (1, .int x1), (2, .int x2), (3, .int x3), (4, .int x4)] [] P E) (x1 : Int32) (x2 : Int32) (x3 : Int32) (x4 : Int32) (h : St E (rI P) (j_St_greatestShare_41 k7 x1 x2 x3 x4 P) Q) : Go G c_St_greatestShare "YawnRoute$Steps" 5 (some .int) false d nOb nOb Q 41 [(0, .ref (ad E 69)), (1, .int x1), (2, .int x2), (3, .int x3), (4, .int x4)] [] P E := by
  rw [j_St_greatestShare_41] at h
  refine Go.iinc (i := 4) (n := 1) 4 (x4 + (1 : Int32)) [(4, .int (x4 + (1 : Int32))), (0, .ref (ad E 69)), (1, .int x1), (2, .int x2), (3, .int x3)] (by decide +kernel) rfl rfl (by decide) rfl ?_
  refine Go.goto (off := -37) 7 (by decide +kernel) (by decide) ?_
  refine Go.sub [1, 2, 3, 4, 0] [(0, .ref (ad E 69)), (1, .int x1), (2, .int x2), (3, .int x3), (4, .int (x4 + (1 : Int32)))] rfl ?_
  exact hk7 x1 x2 x3 (x4 + (1 : Int32)) h
theorem t_l_St_greatestShare_7 {G : GX} (hG : GOK G) {E : EV} (hE : E0 E) (d : Nat) (hd : 3 ≤ d) {P : PM} {Q : QT} : ∀ (n : Nat) (x1 : Int32) (x2 : Int32) (x3 : Int32) (x4 : Int32), St E (rI P) (l_St_greatestShare_7 n x1 x2 x3 x4 P) Q → Go G c_St_greatestShare "YawnRoute$Steps" 5 (some .int) false d nOb nOb Q 7 [(0, .ref (ad E 69)), (1, .int x1), (2, .int x2), (3, .int x3), (4, .int x4)] [] P E := by
  intro n
  induction n with
  | zero =>
    intro x1 x2 x3 x4 h
    rw [l_St_greatestShare_7] at h
    exact St.none_ h
  | succ n ih =>
    intro x1 x2 x3 x4 h
    rw [l_St_greatestShare_7] at h
    refine Go.iload (i := 4) 4 (by decide +kernel) rfl ?_
    refine Go.aload_n (k := 0) (i := 0) 0 (by decide +kernel) rfl rfl ?_
    refine Go.get 69 0 (.ref (ad E 14)) (by decide) (by decide) sh69 (ltO hE sh69) (vlR hE rfl rfl) lk370 (by decide +kernel) ?_
    refine Go.get 14 0 (.int (P.1 14 0)) (by decide) (by decide) sh14 (ltO hE sh14) rfl lk88 (by decide +kernel) ?_
    refine Go.icmp_ge (off := 31) 47 (by decide +kernel) (by decide) (fun c1 => ?_) (fun c1 => ?_)
    · rw [if_pos c1] at h
      refine Go.iload_n (k := 2) (i := 2) 2 (by decide +kernel) rfl rfl ?_
      exact Go.iret rfl rfl hE.2 (by decide +kernel) (St.fI h)
    · rw [if_neg c1] at h
      refine Go.aload_n (k := 0) (i := 0) 0 (by decide +kernel) rfl rfl ?_
      refine Go.iload (i := 4) 4 (by decide +kernel) rfl ?_
      refine Go.iload_n (k := 1) (i := 1) 1 (by decide +kernel) rfl rfl ?_
      obtain ⟨v2, hv2, h⟩ := St.bind h
      refine Go.cV_i (P1 := P) (v := v2) (d - 1) 69 [.int x4, .int x1] sh69 hE w_St_shareOf (e_St_shareOf hG hE (d - 1) (by omega) x4 x1 P ⟨_, hv2, rfl, rfl, rfl⟩) lk1273 rfl (by omega) (Nat.le_of_ble_eq_true rfl) (by decide +kernel) _ rfl ?_
      refine Go.iload_n (k := 3) (i := 3) 3 (by decide +kernel) rfl rfl ?_
      refine Go.icmp_le (off := 14) 41 (by decide +kernel) (by decide) (fun c3 => ?_) (fun c3 => ?_)
      · rw [if_pos c3] at h
        exact t_j_St_greatestShare_41 hG hE d hd (fun z0 z1 z2 z3 => l_St_greatestShare_7 n z0 z1 z2 z3 P) (fun z0 z1 z2 z3 q => ih z0 z1 z2 z3 q) x1 x2 x3 x4 h
      · rw [if_neg c3] at h
        refine Go.aload_n (k := 0) (i := 0) 0 (by decide +kernel) rfl rfl ?_
        refine Go.iload (i := 4) 4 (by decide +kernel) rfl ?_
        refine Go.iload_n (k := 1) (i := 1) 1 (by decide +kernel) rfl rfl ?_
        obtain ⟨v4, hv4, h⟩ := St.bind h
        refine Go.cV_i (P1 := P) (v := v4) (d - 1) 69 [.int x4, .int x1] sh69 hE w_St_shareOf (e_St_shareOf hG hE (d - 1) (by omega) x4 x1 P ⟨_, hv4, rfl, rfl, rfl⟩) lk1273 rfl (by omega) (Nat.le_of_ble_eq_true rfl) (by decide +kernel) _ rfl ?_
        refine Go.istore_n (k := 3) (i := 3) [(3, .int v4), (0, .ref (ad E 69)), (1, .int x1), (2, .int x2), (4, .int x4)] (by decide +kernel) rfl (by decide) rfl ?_
        refine Go.iload (i := 4) 4 (by decide +kernel) rfl ?_
        refine Go.istore_n (k := 2) (i := 2) [(2, .int x4), (3, .int v4), (0, .ref (ad E 69)), (1, .int x1), (4, .int x4)] (by decide +kernel) rfl (by decide) rfl ?_
        refine Go.sub [2, 3, 0, 1, 4] [(0, .ref (ad E 69)), (1, .int x1), (2, .int x4), (3, .int v4), (4, .int x4)] rfl ?_
        exact t_j_St_greatestShare_41 hG hE d hd (fun z0 z1 z2 z3 => l_St_greatestShare_7 n z0 z1 z2 z3 P) (fun z0 z1 z2 z3 q => ih z0 z1 z2 z3 q) x1 x4 v4 x4 h
theorem t_f_St_greatestShare {G : GX} (hG : GOK G) {E : EV} (hE : E0 E) (d : Nat) (hd : 3 ≤ d) {P : PM} {Q : QT} (a1 : Int32) (h : St E (rI P) (f_St_greatestShare a1 P) Q) : Go G c_St_greatestShare "YawnRoute$Steps" 5 (some .int) false d nOb nOb Q 0 [(0, .ref (ad E 69)), (1, .int a1)] [] P E := by
  rw [f_St_greatestShare] at h
  refine Go.iconst (n := -1) (-1 : Int32) (by decide +kernel) rfl ?_
  refine Go.istore_n (k := 2) (i := 2) [(2, .int (-1 : Int32)), (0, .ref (ad E 69)), (1, .int a1)] (by decide +kernel) rfl (by decide) rfl ?_
  refine Go.iconst (n := 0) (0 : Int32) (by decide +kernel) rfl ?_
  refine Go.istore_n (k := 3) (i := 3) [(3, .int (0 : Int32)), (2, .int (-1 : Int32)), (0, .ref (ad E 69)), (1, .int a1)] (by decide +kernel) rfl (by decide) rfl ?_
  refine Go.iconst (n := 0) (0 : Int32) (by decide +kernel) rfl ?_
  refine Go.istore (i := 4) [(4, .int (0 : Int32)), (3, .int (0 : Int32)), (2, .int (-1 : Int32)), (0, .ref (ad E 69)), (1, .int a1)] (by decide +kernel) (by decide) rfl ?_
  refine Go.sub [3, 4, 2, 1, 0] [(0, .ref (ad E 69)), (1, .int a1), (2, .int (-1 : Int32)), (3, .int (0 : Int32)), (4, .int (0 : Int32))] rfl ?_
  exact t_l_St_greatestShare_7 hG hE d hd FU a1 (-1 : Int32) (0 : Int32) (0 : Int32) h
theorem e_St_greatestShare {G : GX} (hG : GOK G) {E : EV} (hE : E0 E) (d : Nat) (hd : 3 ≤ d) (a1 : Int32) (P : PM) {Q : QT} (h : St E (rI P) (f_St_greatestShare a1 P) Q) : Con G y_St_greatestShare cw_St_greatestShare d nOb nOb [.ref (ad E 69), .int a1] P E Q :=
  Con.of hG (by decide +kernel) rfl (fun h => by cases h) hE.2 (Nat.le_of_ble_eq_true rfl) (t_f_St_greatestShare hG hE d hd a1 h)
abbrev c_Yr_likeliest : ByteArray := prog_1_method_37_code
abbrev y_Yr_likeliest : MethodName := ⟨"YawnRoute", "likeliest", "(I)I"⟩
abbrev cw_Yr_likeliest : Cond := .code y_Yr_likeliest c_Yr_likeliest 3 (some .int)
theorem w_Yr_likeliest : VW 11 y_Yr_likeliest c_Yr_likeliest 3 (some .int) 1 := ⟨by decide, lk1266, lk1267, lk1, lk1268, ⟨by decide, by decide, by decide +kernel⟩, by decide⟩
noncomputable def f_Yr_likeliest (a1 : Int32) (P : PM) : Option (Int32 × PM) := lb (f_Yr_refusal (1 : Int32) (f_Yr_isDraws a1 P) P) (fun y1 => if y1 = (0 : Int32) then ((f_St_drawLots a1 P).bind (fun P3 => (f_St_greatestShare a1 P3).bind (fun v4 => some (v4, P3)))) else (some (y1, P)))
theorem t_f_Yr_likeliest {G : GX} (hG : GOK G) {E : EV} (hE : E0 E) (d : Nat) (hd : 7 ≤ d) {Q : QT} (a1 : Int32) (P : PM) (h : St E rIP (f_Yr_likeliest a1 P) Q) : Go G c_Yr_likeliest "YawnRoute" 3 (some .int) false d nOb nOb Q 0 [(0, .ref (ad E 0)), (1, .int a1)] [] P E := by
  rw [f_Yr_likeliest] at h
  refine Go.aload_n (k := 0) (i := 0) 0 (by decide +kernel) rfl rfl ?_
  refine Go.iconst (n := 1) (1 : Int32) (by decide +kernel) rfl ?_
  refine Go.iload_n (k := 1) (i := 1) 1 (by decide +kernel) rfl rfl ?_
  refine Go.cS_i (P1 := P) (v := (f_Yr_isDraws a1 P)) (d - 1) [.int a1] hE w_Yr_isDraws (e_Yr_isDraws hG hE (d - 1) (by omega) a1 P ⟨rfl, rfl, rfl⟩) lk1237 rfl (by omega) (Nat.le_of_ble_eq_true rfl) (by decide +kernel) _ rfl ?_
  refine Go.cV_i (P1 := P) (v := (f_Yr_refusal (1 : Int32) (f_Yr_isDraws a1 P) P)) (d - 1) 0 [.int (1 : Int32), .int (f_Yr_isDraws a1 P)] sh0 hE w_Yr_refusal (e_Yr_refusal hG hE (d - 1) (by omega) (1 : Int32) (f_Yr_isDraws a1 P) P ⟨rfl, rfl, rfl⟩) lk912 rfl (by omega) (Nat.le_of_ble_eq_true rfl) (by decide +kernel) _ rfl ?_
  obtain ⟨y1, hy1, h⟩ := St.lb h
  refine Go.eqi y1 hy1 ?_
  refine Go.istore_n (k := 2) (i := 2) [(2, .int y1), (0, .ref (ad E 0)), (1, .int a1)] (by decide +kernel) rfl (by decide) rfl ?_
  refine Go.iload_n (k := 2) (i := 2) 0 (by decide +kernel) rfl rfl ?_
  refine Go.if_eq (off := 5) 16 (by decide +kernel) (by decide) (fun c2 => ?_) (fun c2 => ?_)
  · rw [if_pos c2] at h
    refine Go.aload_n (k := 0) (i := 0) 1 (by decide +kernel) rfl rfl ?_
    refine Go.get 0 9 (.ref (ad E 69)) (by decide) (by decide) sh0 (ltO hE sh0) (vlR hE rfl rfl) lk399 (by decide +kernel) ?_
    refine Go.iload_n (k := 1) (i := 1) 2 (by decide +kernel) rfl rfl ?_
    obtain ⟨P3, hP3, h⟩ := St.bind h
    refine Go.cV_v (P1 := P3) (d - 1) 69 [.int a1] sh69 hE w_St_drawLots (e_St_drawLots hG hE (d - 1) (by omega) a1 P ⟨_, hP3, rfl, rfl, rfl⟩) lk1240 rfl (by omega) (Nat.le_of_ble_eq_true rfl) (by decide +kernel) _ rfl ?_
    refine Go.aload_n (k := 0) (i := 0) 1 (by decide +kernel) rfl rfl ?_
    refine Go.get 0 9 (.ref (ad E 69)) (by decide) (by decide) sh0 (ltO hE sh0) (vlR hE rfl rfl) lk399 (by decide +kernel) ?_
    refine Go.iload_n (k := 1) (i := 1) 2 (by decide +kernel) rfl rfl ?_
    obtain ⟨v4, hv4, h⟩ := St.bind h
    refine Go.cV_i (P1 := P3) (v := v4) (d - 1) 69 [.int a1] sh69 hE w_St_greatestShare (e_St_greatestShare hG hE (d - 1) (by omega) a1 P3 ⟨_, hv4, rfl, rfl, rfl⟩) lk1269 rfl (by omega) (Nat.le_of_ble_eq_true rfl) (by decide +kernel) _ rfl ?_
    exact Go.iret rfl rfl hE.2 (by decide +kernel) (St.fIP h)
  · rw [if_neg c2] at h
    refine Go.iload_n (k := 2) (i := 2) 0 (by decide +kernel) rfl rfl ?_
    exact Go.iret rfl rfl hE.2 (by decide +kernel) (St.fIP h)
theorem e_Yr_likeliest {G : GX} (hG : GOK G) {E : EV} (hE : E0 E) (d : Nat) (hd : 7 ≤ d) (a1 : Int32) (P : PM) {Q : QT} (h : St E rIP (f_Yr_likeliest a1 P) Q) : Con G y_Yr_likeliest cw_Yr_likeliest d nOb nOb [.ref (ad E 0), .int a1] P E Q :=
  Con.of hG (by decide +kernel) rfl (fun h => by cases h) hE.2 (Nat.le_of_ble_eq_true rfl) (t_f_Yr_likeliest hG hE d hd a1 P h)
abbrev c_Tr_make : ByteArray := prog_12_method_5_code
abbrev y_Tr_make : MethodName := ⟨"YawnRoute$Trays", "make", "(III)V"⟩
abbrev cw_Tr_make : Cond := .code y_Tr_make c_Tr_make 4 none
theorem w_Tr_make : VW 10 y_Tr_make c_Tr_make 4 none 3 := ⟨by decide, lk1279, lk1280, lk7, lk1281, ⟨by decide, by decide, by decide +kernel⟩, by decide⟩
noncomputable def f_Tr_make (a1 : Int32) (a2 : Int32) (a3 : Int32) (P : PM) : Option PM := if (f_Tr_isTray a1 P) = (0 : Int32) then (some P) else (ck (inb a1 4) (ck (inb a1 4) (ck (inb a1 4) ((f_Ja_fill_AJJ (25 + a1.toNatClampNeg) 40 (0 : Int64) (u1 (u1 P 29 a1.toNatClampNeg a2) 30 a1.toNatClampNeg a3)).bind (fun P5 => some P5)))))
theorem t_f_Tr_make {G : GX} (hG : GOK G) {E : EV} (hE : E0 E) (d : Nat) (hd : 2 ≤ d) {Q : QT} (a1 : Int32) (a2 : Int32) (a3 : Int32) (P : PM) (h : St E rP (f_Tr_make a1 a2 a3 P) Q) : Go G c_Tr_make "YawnRoute$Trays" 4 none false d nOb nOb Q 0 [(0, .ref (ad E 23)), (1, .int a1), (2, .int a2), (3, .int a3)] [] P E := by
  rw [f_Tr_make] at h
  refine Go.aload_n (k := 0) (i := 0) 0 (by decide +kernel) rfl rfl ?_
  refine Go.iload_n (k := 1) (i := 1) 1 (by decide +kernel) rfl rfl ?_
  refine Go.cV_i (P1 := P) (v := (f_Tr_isTray a1 P)) (d - 1) 23 [.int a1] sh23 hE w_Tr_isTray (e_Tr_isTray hG hE (d - 1) (by omega) a1 P ⟨rfl, rfl, rfl⟩) lk858 rfl (by omega) (Nat.le_of_ble_eq_true rfl) (by decide +kernel) _ rfl ?_
  refine Go.if_eq (off := 27) 32 (by decide +kernel) (by decide) (fun c1 => ?_) (fun c1 => ?_)
  · rw [if_pos c1] at h
    exact Go.vret rfl hE.2 (by decide +kernel) (St.fP h)
  · rw [if_neg c1] at h
    refine Go.aload_n (k := 0) (i := 0) 0 (by decide +kernel) rfl rfl ?_
    refine Go.get 23 1 (.ref (ad E 29)) (by decide) (by decide) sh23 (ltO hE sh23) (vlR hE rfl rfl) lk223 (by decide +kernel) ?_
    refine Go.iload_n (k := 1) (i := 1) 1 (by decide +kernel) rfl rfl ?_
    refine Go.iload_n (k := 2) (i := 2) 2 (by decide +kernel) rfl rfl ?_
    obtain ⟨b2, h⟩ := St.ck h
    refine Go.iastore 29 4 sh29 (ltA hE sh29 (by decide)) (inb_in b2) (by decide +kernel) ?_
    refine Go.aload_n (k := 0) (i := 0) 0 (by decide +kernel) rfl rfl ?_
    refine Go.get 23 2 (.ref (ad E 30)) (by decide) (by decide) sh23 (ltO hE sh23) (vlR hE rfl rfl) lk224 (by decide +kernel) ?_
    refine Go.iload_n (k := 1) (i := 1) 1 (by decide +kernel) rfl rfl ?_
    refine Go.iload_n (k := 3) (i := 3) 3 (by decide +kernel) rfl rfl ?_
    obtain ⟨b3, h⟩ := St.ck h
    refine Go.iastore 30 4 sh30 (ltA hE sh30 (by decide)) (inb_in b3) (by decide +kernel) ?_
    refine Go.aload_n (k := 0) (i := 0) 0 (by decide +kernel) rfl rfl ?_
    refine Go.get 23 0 (.ref (ad E 24)) (by decide) (by decide) sh23 (ltO hE sh23) (vlR hE rfl rfl) lk222 (by decide +kernel) ?_
    refine Go.iload_n (k := 1) (i := 1) 1 (by decide +kernel) rfl rfl ?_
    obtain ⟨b4, h⟩ := St.ck h
    refine Go.aaload 24 7 4 (25 + a1.toNatClampNeg) sh24 (by decide) (ltA hE sh24 (by decide)) (inb_in b4) (by rw [hE.1]; exact raR24 b4) (by decide +kernel) ?_
    refine Go.lconst (n := 0) (0 : Int64) (by decide +kernel) rfl ?_
    obtain ⟨P5, hP5, h⟩ := St.bind h
    refine Go.cS_v (P1 := P5) (d - 1) [.ref (ad E (25 + a1.toNatClampNeg)), .long (0 : Int64)] hE w_Ja_fill_AJJ (e_Ja_fill_AJJ hG hE (d - 1) (by omega) (25 + a1.toNatClampNeg) 40 (raS24 b4) (0 : Int64) (u1 (u1 P 29 a1.toNatClampNeg a2) 30 a1.toNatClampNeg a3) ⟨_, hP5, rfl, rfl, rfl⟩) lk1282 rfl (by omega) (Nat.le_of_ble_eq_true rfl) (by decide +kernel) _ rfl ?_
    exact Go.vret rfl hE.2 (by decide +kernel) (St.fP h)
theorem e_Tr_make {G : GX} (hG : GOK G) {E : EV} (hE : E0 E) (d : Nat) (hd : 2 ≤ d) (a1 : Int32) (a2 : Int32) (a3 : Int32) (P : PM) {Q : QT} (h : St E rP (f_Tr_make a1 a2 a3 P) Q) : Con G y_Tr_make cw_Tr_make d nOb nOb [.ref (ad E 23), .int a1, .int a2, .int a3] P E Q :=
  Con.of hG (by decide +kernel) rfl (fun h => by cases h) hE.2 (Nat.le_of_ble_eq_true rfl) (t_f_Tr_make hG hE d hd a1 a2 a3 P h)
abbrev c_Yr_numbers : ByteArray := prog_1_method_38_code
abbrev y_Yr_numbers : MethodName := ⟨"YawnRoute", "numbers", "(III)I"⟩
abbrev cw_Yr_numbers : Cond := .code y_Yr_numbers c_Yr_numbers 4 (some .int)
theorem w_Yr_numbers : VW 11 y_Yr_numbers c_Yr_numbers 4 (some .int) 3 := ⟨by decide, lk1275, lk1276, lk1, lk1277, ⟨by decide, by decide, by decide +kernel⟩, by decide⟩
noncomputable def f_Yr_numbers (a1 : Int32) (a2 : Int32) (a3 : Int32) (P : PM) : Option (Int32 × PM) := if (f_Tr_isTray a1 P) = (0 : Int32) then (some ((-2 : Int32), P)) else (if a2 < (0 : Int32) then (some ((-2 : Int32), P)) else (if a2 ≤ (3 : Int32) then (if a3 < (0 : Int32) then (some ((-3 : Int32), P)) else (if a3 ≤ (40 : Int32) then ((f_Tr_make a1 a2 a3 P).bind (fun P6 => some ((0 : Int32), P6))) else (some ((-3 : Int32), P)))) else (some ((-2 : Int32), P))))
theorem t_f_Yr_numbers {G : GX} (hG : GOK G) {E : EV} (hE : E0 E) (d : Nat) (hd : 3 ≤ d) {Q : QT} (a1 : Int32) (a2 : Int32) (a3 : Int32) (P : PM) (h : St E rIP (f_Yr_numbers a1 a2 a3 P) Q) : Go G c_Yr_numbers "YawnRoute" 4 (some .int) false d nOb nOb Q 0 [(0, .ref (ad E 0)), (1, .int a1), (2, .int a2), (3, .int a3)] [] P E := by
  rw [f_Yr_numbers] at h
  refine Go.aload_n (k := 0) (i := 0) 0 (by decide +kernel) rfl rfl ?_
  refine Go.get 0 4 (.ref (ad E 23)) (by decide) (by decide) sh0 (ltO hE sh0) (vlR hE rfl rfl) lk394 (by decide +kernel) ?_
  refine Go.iload_n (k := 1) (i := 1) 1 (by decide +kernel) rfl rfl ?_
  refine Go.cV_i (P1 := P) (v := (f_Tr_isTray a1 P)) (d - 1) 23 [.int a1] sh23 hE w_Tr_isTray (e_Tr_isTray hG hE (d - 1) (by omega) a1 P ⟨rfl, rfl, rfl⟩) lk850 rfl (by omega) (Nat.le_of_ble_eq_true rfl) (by decide +kernel) _ rfl ?_
  refine Go.if_eq (off := 12) 20 (by decide +kernel) (by decide) (fun c1 => ?_) (fun c1 => ?_)
  · rw [if_pos c1] at h
    refine Go.bipush (n := -2) (-2 : Int32) (by decide +kernel) (by decide) ?_
    exact Go.iret rfl rfl hE.2 (by decide +kernel) (St.fIP h)
  · rw [if_neg c1] at h
    refine Go.iload_n (k := 2) (i := 2) 2 (by decide +kernel) rfl rfl ?_
    refine Go.if_lt (off := 8) 20 (by decide +kernel) (by decide) (fun c2 => ?_) (fun c2 => ?_)
    · rw [if_pos c2] at h
      refine Go.bipush (n := -2) (-2 : Int32) (by decide +kernel) (by decide) ?_
      exact Go.iret rfl rfl hE.2 (by decide +kernel) (St.fIP h)
    · rw [if_neg c2] at h
      refine Go.iload_n (k := 2) (i := 2) 2 (by decide +kernel) rfl rfl ?_
      refine Go.iconst (n := 3) (3 : Int32) (by decide +kernel) rfl ?_
      refine Go.icmp_le (off := 6) 23 (by decide +kernel) (by decide) (fun c3 => ?_) (fun c3 => ?_)
      · rw [if_pos c3] at h
        refine Go.iload_n (k := 3) (i := 3) 3 (by decide +kernel) rfl rfl ?_
        refine Go.if_lt (off := 9) 33 (by decide +kernel) (by decide) (fun c4 => ?_) (fun c4 => ?_)
        · rw [if_pos c4] at h
          refine Go.bipush (n := -3) (-3 : Int32) (by decide +kernel) (by decide) ?_
          exact Go.iret rfl rfl hE.2 (by decide +kernel) (St.fIP h)
        · rw [if_neg c4] at h
          refine Go.iload_n (k := 3) (i := 3) 3 (by decide +kernel) rfl rfl ?_
          refine Go.bipush (n := 40) (40 : Int32) (by decide +kernel) (by decide) ?_
          refine Go.icmp_le (off := 6) 36 (by decide +kernel) (by decide) (fun c5 => ?_) (fun c5 => ?_)
          · rw [if_pos c5] at h
            refine Go.aload_n (k := 0) (i := 0) 0 (by decide +kernel) rfl rfl ?_
            refine Go.get 0 4 (.ref (ad E 23)) (by decide) (by decide) sh0 (ltO hE sh0) (vlR hE rfl rfl) lk394 (by decide +kernel) ?_
            refine Go.iload_n (k := 1) (i := 1) 1 (by decide +kernel) rfl rfl ?_
            refine Go.iload_n (k := 2) (i := 2) 2 (by decide +kernel) rfl rfl ?_
            refine Go.iload_n (k := 3) (i := 3) 3 (by decide +kernel) rfl rfl ?_
            obtain ⟨P6, hP6, h⟩ := St.bind h
            refine Go.cV_v (P1 := P6) (d - 1) 23 [.int a1, .int a2, .int a3] sh23 hE w_Tr_make (e_Tr_make hG hE (d - 1) (by omega) a1 a2 a3 P ⟨_, hP6, rfl, rfl, rfl⟩) lk1278 rfl (by omega) (Nat.le_of_ble_eq_true rfl) (by decide +kernel) _ rfl ?_
            refine Go.iconst (n := 0) (0 : Int32) (by decide +kernel) rfl ?_
            exact Go.iret rfl rfl hE.2 (by decide +kernel) (St.fIP h)
          · rw [if_neg c5] at h
            refine Go.bipush (n := -3) (-3 : Int32) (by decide +kernel) (by decide) ?_
            exact Go.iret rfl rfl hE.2 (by decide +kernel) (St.fIP h)
      · rw [if_neg c3] at h
        refine Go.bipush (n := -2) (-2 : Int32) (by decide +kernel) (by decide) ?_
        exact Go.iret rfl rfl hE.2 (by decide +kernel) (St.fIP h)
theorem e_Yr_numbers {G : GX} (hG : GOK G) {E : EV} (hE : E0 E) (d : Nat) (hd : 3 ≤ d) (a1 : Int32) (a2 : Int32) (a3 : Int32) (P : PM) {Q : QT} (h : St E rIP (f_Yr_numbers a1 a2 a3 P) Q) : Con G y_Yr_numbers cw_Yr_numbers d nOb nOb [.ref (ad E 0), .int a1, .int a2, .int a3] P E Q :=
  Con.of hG (by decide +kernel) rfl (fun h => by cases h) hE.2 (Nat.le_of_ble_eq_true rfl) (t_f_Yr_numbers hG hE d hd a1 a2 a3 P h)
abbrev c_Tr_cut : ByteArray := prog_12_method_8_code
abbrev y_Tr_cut : MethodName := ⟨"YawnRoute$Trays", "cut", "(IJ)J"⟩
abbrev cw_Tr_cut : Cond := .code y_Tr_cut c_Tr_cut 3 (some .long)
theorem w_Tr_cut : SW y_Tr_cut c_Tr_cut 3 (some .long) 2 := ⟨lk1295, lk7, lk1296, ⟨by decide, by decide, by decide +kernel⟩, by decide⟩
noncomputable def f_Tr_cut (a0 : Int32) (a1 : Int64) (P : PM) : Int64 := if a0 = (0 : Int32) then ((((a1.toInt32).toInt8.toInt32).toInt64)) else (if a0 = (1 : Int32) then ((((a1.toInt32).toInt16.toInt32).toInt64)) else (if a0 = (2 : Int32) then (((a1.toInt32).toInt64)) else (a1)))
theorem t_f_Tr_cut {G : GX} (hG : GOK G) {E : EV} (hE : E0 E) (d : Nat) (hd : 1 ≤ d) {P : PM} {Q : QT} (a0 : Int32) (a1 : Int64) (h : Q (some (.long (f_Tr_cut a0 a1 P))) P E) : Go G c_Tr_cut "YawnRoute$Trays" 3 (some .long) false d nOb nOb Q 0 [(0, .int a0), (1, .long a1)] [] P E := by
  rw [f_Tr_cut] at h
  refine Go.iload_n (k := 0) (i := 0) 0 (by decide +kernel) rfl rfl ?_
  by_cases c1 : a0 = (0 : Int32)
  · rw [if_pos c1] at h
    refine Go.tabIn (dflt := 41) (lo := 0) (hi := 2) (offs := #[27, 32, 37]) (len := 27) (off := 27) 28 (by decide +kernel) (by rw [c1]; decide) (by rw [c1]; decide) (by rw [c1]; rfl) (by decide) ?_
    refine Go.lload_n (k := 1) (i := 1) 1 (by decide +kernel) rfl rfl ?_
    refine Go.l2i (by decide +kernel) ?_
    refine Go.i2b (by decide +kernel) ?_
    refine Go.i2l (by decide +kernel) ?_
    exact Go.lret rfl hE.2 (by decide +kernel) h
  · rw [if_neg c1] at h
    by_cases c2 : a0 = (1 : Int32)
    · rw [if_pos c2] at h
      refine Go.tabIn (dflt := 41) (lo := 0) (hi := 2) (offs := #[27, 32, 37]) (len := 27) (off := 32) 33 (by decide +kernel) (by rw [c2]; decide) (by rw [c2]; decide) (by rw [c2]; rfl) (by decide) ?_
      refine Go.lload_n (k := 1) (i := 1) 1 (by decide +kernel) rfl rfl ?_
      refine Go.l2i (by decide +kernel) ?_
      refine Go.i2s (by decide +kernel) ?_
      refine Go.i2l (by decide +kernel) ?_
      exact Go.lret rfl hE.2 (by decide +kernel) h
    · rw [if_neg c2] at h
      by_cases c3 : a0 = (2 : Int32)
      · rw [if_pos c3] at h
        refine Go.tabIn (dflt := 41) (lo := 0) (hi := 2) (offs := #[27, 32, 37]) (len := 27) (off := 37) 38 (by decide +kernel) (by rw [c3]; decide) (by rw [c3]; decide) (by rw [c3]; rfl) (by decide) ?_
        refine Go.lload_n (k := 1) (i := 1) 1 (by decide +kernel) rfl rfl ?_
        refine Go.l2i (by decide +kernel) ?_
        refine Go.i2l (by decide +kernel) ?_
        exact Go.lret rfl hE.2 (by decide +kernel) h
      · rw [if_neg c3] at h
        have qc1 := lv_neT (k := (0 : Int32)) (a := 0) c1 (by decide)
        have qc2 := lv_neT (k := (1 : Int32)) (a := 1) c2 (by decide)
        have qc3 := lv_neT (k := (2 : Int32)) (a := 2) c3 (by decide)
        refine Go.tabOut (dflt := 41) (lo := 0) (hi := 2) (offs := #[27, 32, 37]) (len := 27) 42 (by decide +kernel) (by omega) (by decide) ?_
        refine Go.lload_n (k := 1) (i := 1) 1 (by decide +kernel) rfl rfl ?_
        exact Go.lret rfl hE.2 (by decide +kernel) h
theorem e_Tr_cut {G : GX} (hG : GOK G) {E : EV} (hE : E0 E) (d : Nat) (hd : 1 ≤ d) (a0 : Int32) (a1 : Int64) (P : PM) {Q : QT} (h : Q (some (.long (f_Tr_cut a0 a1 P))) P E) : Con G y_Tr_cut cw_Tr_cut d nOb nOb [.int a0, .long a1] P E Q :=
  Con.of hG (by decide +kernel) rfl (fun h => by cases h) hE.2 (Nat.le_of_ble_eq_true rfl) (t_f_Tr_cut hG hE d hd a0 a1 h)
abbrev c_Tr_put : ByteArray := prog_12_method_6_code
abbrev y_Tr_put : MethodName := ⟨"YawnRoute$Trays", "put", "(IIJ)V"⟩
abbrev cw_Tr_put : Cond := .code y_Tr_put c_Tr_put 5 none
theorem w_Tr_put : VW 10 y_Tr_put c_Tr_put 5 none 3 := ⟨by decide, lk1291, lk1292, lk7, lk1293, ⟨by decide, by decide, by decide +kernel⟩, by decide⟩
noncomputable def f_Tr_put (a1 : Int32) (a2 : Int32) (a3 : Int64) (P : PM) : Option PM := if (f_Tr_isTray a1 P) = (0 : Int32) then (some P) else (if a2 < (0 : Int32) then (some P) else (if (40 : Int32) ≤ a2 then (some P) else (ck (inb a1 4) (ck (inb a1 4) (ck (inb a2 40) (some (u2 P (25 + a1.toNatClampNeg) a2.toNatClampNeg (f_Tr_cut (P.1 29 a1.toNatClampNeg) a3 P))))))))
theorem t_f_Tr_put {G : GX} (hG : GOK G) {E : EV} (hE : E0 E) (d : Nat) (hd : 2 ≤ d) {Q : QT} (a1 : Int32) (a2 : Int32) (a3 : Int64) (P : PM) (h : St E rP (f_Tr_put a1 a2 a3 P) Q) : Go G c_Tr_put "YawnRoute$Trays" 5 none false d nOb nOb Q 0 [(0, .ref (ad E 23)), (1, .int a1), (2, .int a2), (3, .long a3)] [] P E := by
  rw [f_Tr_put] at h
  refine Go.aload_n (k := 0) (i := 0) 0 (by decide +kernel) rfl rfl ?_
  refine Go.iload_n (k := 1) (i := 1) 1 (by decide +kernel) rfl rfl ?_
  refine Go.cV_i (P1 := P) (v := (f_Tr_isTray a1 P)) (d - 1) 23 [.int a1] sh23 hE w_Tr_isTray (e_Tr_isTray hG hE (d - 1) (by omega) a1 P ⟨rfl, rfl, rfl⟩) lk858 rfl (by omega) (Nat.le_of_ble_eq_true rfl) (by decide +kernel) _ rfl ?_
  refine Go.if_eq (off := 31) 36 (by decide +kernel) (by decide) (fun c1 => ?_) (fun c1 => ?_)
  · rw [if_pos c1] at h
    exact Go.vret rfl hE.2 (by decide +kernel) (St.fP h)
  · rw [if_neg c1] at h
    refine Go.iload_n (k := 2) (i := 2) 2 (by decide +kernel) rfl rfl ?_
    refine Go.if_lt (off := 27) 36 (by decide +kernel) (by decide) (fun c2 => ?_) (fun c2 => ?_)
    · rw [if_pos c2] at h
      exact Go.vret rfl hE.2 (by decide +kernel) (St.fP h)
    · rw [if_neg c2] at h
      refine Go.iload_n (k := 2) (i := 2) 2 (by decide +kernel) rfl rfl ?_
      refine Go.bipush (n := 40) (40 : Int32) (by decide +kernel) (by decide) ?_
      refine Go.icmp_ge (off := 21) 36 (by decide +kernel) (by decide) (fun c3 => ?_) (fun c3 => ?_)
      · rw [if_pos c3] at h
        exact Go.vret rfl hE.2 (by decide +kernel) (St.fP h)
      · rw [if_neg c3] at h
        refine Go.aload_n (k := 0) (i := 0) 0 (by decide +kernel) rfl rfl ?_
        refine Go.get 23 0 (.ref (ad E 24)) (by decide) (by decide) sh23 (ltO hE sh23) (vlR hE rfl rfl) lk222 (by decide +kernel) ?_
        refine Go.iload_n (k := 1) (i := 1) 1 (by decide +kernel) rfl rfl ?_
        obtain ⟨b4, h⟩ := St.ck h
        refine Go.aaload 24 7 4 (25 + a1.toNatClampNeg) sh24 (by decide) (ltA hE sh24 (by decide)) (inb_in b4) (by rw [hE.1]; exact raR24 b4) (by decide +kernel) ?_
        refine Go.iload_n (k := 2) (i := 2) 2 (by decide +kernel) rfl rfl ?_
        refine Go.aload_n (k := 0) (i := 0) 0 (by decide +kernel) rfl rfl ?_
        refine Go.get 23 1 (.ref (ad E 29)) (by decide) (by decide) sh23 (ltO hE sh23) (vlR hE rfl rfl) lk223 (by decide +kernel) ?_
        refine Go.iload_n (k := 1) (i := 1) 1 (by decide +kernel) rfl rfl ?_
        obtain ⟨b5, h⟩ := St.ck h
        refine Go.iaload 29 4 sh29 (ltA hE sh29 (by decide)) (inb_in b5) (by decide +kernel) ?_
        refine Go.lload_n (k := 3) (i := 3) 3 (by decide +kernel) rfl rfl ?_
        refine Go.cS_l (P1 := P) (v := (f_Tr_cut (P.1 29 a1.toNatClampNeg) a3 P)) (d - 1) [.int (P.1 29 a1.toNatClampNeg), .long a3] hE w_Tr_cut (e_Tr_cut hG hE (d - 1) (by omega) (P.1 29 a1.toNatClampNeg) a3 P ⟨rfl, rfl, rfl⟩) lk1294 rfl (by omega) (Nat.le_of_ble_eq_true rfl) (by decide +kernel) _ rfl ?_
        obtain ⟨b6, h⟩ := St.ck h
        refine Go.lastore (25 + a1.toNatClampNeg) 40 (raS24 b4) (ltA hE (raS24 b4) (by decide)) (inb_in b6) (by decide +kernel) ?_
        exact Go.vret rfl hE.2 (by decide +kernel) (St.fP h)
theorem e_Tr_put {G : GX} (hG : GOK G) {E : EV} (hE : E0 E) (d : Nat) (hd : 2 ≤ d) (a1 : Int32) (a2 : Int32) (a3 : Int64) (P : PM) {Q : QT} (h : St E rP (f_Tr_put a1 a2 a3 P) Q) : Con G y_Tr_put cw_Tr_put d nOb nOb [.ref (ad E 23), .int a1, .int a2, .long a3] P E Q :=
  Con.of hG (by decide +kernel) rfl (fun h => by cases h) hE.2 (Nat.le_of_ble_eq_true rfl) (t_f_Tr_put hG hE d hd a1 a2 a3 P h)
abbrev c_Yr_write : ByteArray := prog_1_method_39_code
abbrev y_Yr_write : MethodName := ⟨"YawnRoute", "write", "(IIJ)J"⟩
abbrev cw_Yr_write : Cond := .code y_Yr_write c_Yr_write 5 (some .long)
theorem w_Yr_write : VW 11 y_Yr_write c_Yr_write 5 (some .long) 3 := ⟨by decide, lk1284, lk1285, lk1, lk1286, ⟨by decide, by decide, by decide +kernel⟩, by decide⟩
noncomputable def f_Yr_write (a1 : Int32) (a2 : Int32) (a3 : Int64) (P : PM) : Option (Int64 × PM) := if (f_Tr_isTray a1 P) = (0 : Int32) then (some ((-2 : Int64), P)) else ((f_Tr_isMissing a1 P).bind (fun v2 => if v2 = (0 : Int32) then (if a2 < (0 : Int32) then (some ((-7 : Int64), P)) else ((f_Tr_lengthOf a1 P).bind (fun v5 => if a2 < v5 then ((f_Tr_put a1 a2 a3 P).bind (fun P7 => (f_Tr_numberAt a1 a2 P7).bind (fun v8 => some (v8, P7)))) else (some ((-7 : Int64), P))))) else (some ((-6 : Int64), P))))
theorem t_f_Yr_write {G : GX} (hG : GOK G) {E : EV} (hE : E0 E) (d : Nat) (hd : 3 ≤ d) {Q : QT} (a1 : Int32) (a2 : Int32) (a3 : Int64) (P : PM) (h : St E rLP (f_Yr_write a1 a2 a3 P) Q) : Go G c_Yr_write "YawnRoute" 5 (some .long) false d nOb nOb Q 0 [(0, .ref (ad E 0)), (1, .int a1), (2, .int a2), (3, .long a3)] [] P E := by
  rw [f_Yr_write] at h
  refine Go.aload_n (k := 0) (i := 0) 0 (by decide +kernel) rfl rfl ?_
  refine Go.get 0 4 (.ref (ad E 23)) (by decide) (by decide) sh0 (ltO hE sh0) (vlR hE rfl rfl) lk394 (by decide +kernel) ?_
  refine Go.iload_n (k := 1) (i := 1) 1 (by decide +kernel) rfl rfl ?_
  refine Go.cV_i (P1 := P) (v := (f_Tr_isTray a1 P)) (d - 1) 23 [.int a1] sh23 hE w_Tr_isTray (e_Tr_isTray hG hE (d - 1) (by omega) a1 P ⟨rfl, rfl, rfl⟩) lk850 rfl (by omega) (Nat.le_of_ble_eq_true rfl) (by decide +kernel) _ rfl ?_
  refine Go.if_ne (off := 7) 15 (by decide +kernel) (by decide) (fun c1 => ?_) (fun c1 => ?_)
  · rw [if_neg c1] at h
    refine Go.aload_n (k := 0) (i := 0) 0 (by decide +kernel) rfl rfl ?_
    refine Go.get 0 4 (.ref (ad E 23)) (by decide) (by decide) sh0 (ltO hE sh0) (vlR hE rfl rfl) lk394 (by decide +kernel) ?_
    refine Go.iload_n (k := 1) (i := 1) 1 (by decide +kernel) rfl rfl ?_
    obtain ⟨v2, hv2, h⟩ := St.bind h
    refine Go.cV_i (P1 := P) (v := v2) (d - 1) 23 [.int a1] sh23 hE w_Tr_isMissing (e_Tr_isMissing hG hE (d - 1) (by omega) a1 P ⟨_, hv2, rfl, rfl, rfl⟩) lk854 rfl (by omega) (Nat.le_of_ble_eq_true rfl) (by decide +kernel) _ rfl ?_
    refine Go.if_eq (off := 7) 30 (by decide +kernel) (by decide) (fun c3 => ?_) (fun c3 => ?_)
    · rw [if_pos c3] at h
      refine Go.iload_n (k := 2) (i := 2) 2 (by decide +kernel) rfl rfl ?_
      refine Go.if_lt (off := 15) 46 (by decide +kernel) (by decide) (fun c4 => ?_) (fun c4 => ?_)
      · rw [if_pos c4] at h
        refine Go.ldc2 (-7 : Int64) lk1289 (by decide +kernel) ?_
        exact Go.lret rfl hE.2 (by decide +kernel) (St.fLP h)
      · rw [if_neg c4] at h
        refine Go.iload_n (k := 2) (i := 2) 2 (by decide +kernel) rfl rfl ?_
        refine Go.aload_n (k := 0) (i := 0) 0 (by decide +kernel) rfl rfl ?_
        refine Go.get 0 4 (.ref (ad E 23)) (by decide) (by decide) sh0 (ltO hE sh0) (vlR hE rfl rfl) lk394 (by decide +kernel) ?_
        refine Go.iload_n (k := 1) (i := 1) 1 (by decide +kernel) rfl rfl ?_
        obtain ⟨v5, hv5, h⟩ := St.bind h
        refine Go.cV_i (P1 := P) (v := v5) (d - 1) 23 [.int a1] sh23 hE w_Tr_lengthOf (e_Tr_lengthOf hG hE (d - 1) (by omega) a1 P ⟨_, hv5, rfl, rfl, rfl⟩) lk884 rfl (by omega) (Nat.le_of_ble_eq_true rfl) (by decide +kernel) _ rfl ?_
        refine Go.icmp_lt (off := 7) 50 (by decide +kernel) (by decide) (fun c6 => ?_) (fun c6 => ?_)
        · rw [if_pos c6] at h
          refine Go.aload_n (k := 0) (i := 0) 0 (by decide +kernel) rfl rfl ?_
          refine Go.get 0 4 (.ref (ad E 23)) (by decide) (by decide) sh0 (ltO hE sh0) (vlR hE rfl rfl) lk394 (by decide +kernel) ?_
          refine Go.iload_n (k := 1) (i := 1) 1 (by decide +kernel) rfl rfl ?_
          refine Go.iload_n (k := 2) (i := 2) 2 (by decide +kernel) rfl rfl ?_
          refine Go.lload_n (k := 3) (i := 3) 3 (by decide +kernel) rfl rfl ?_
          obtain ⟨P7, hP7, h⟩ := St.bind h
          refine Go.cV_v (P1 := P7) (d - 1) 23 [.int a1, .int a2, .long a3] sh23 hE w_Tr_put (e_Tr_put hG hE (d - 1) (by omega) a1 a2 a3 P ⟨_, hP7, rfl, rfl, rfl⟩) lk1290 rfl (by omega) (Nat.le_of_ble_eq_true rfl) (by decide +kernel) _ rfl ?_
          refine Go.aload_n (k := 0) (i := 0) 0 (by decide +kernel) rfl rfl ?_
          refine Go.get 0 4 (.ref (ad E 23)) (by decide) (by decide) sh0 (ltO hE sh0) (vlR hE rfl rfl) lk394 (by decide +kernel) ?_
          refine Go.iload_n (k := 1) (i := 1) 1 (by decide +kernel) rfl rfl ?_
          refine Go.iload_n (k := 2) (i := 2) 2 (by decide +kernel) rfl rfl ?_
          obtain ⟨v8, hv8, h⟩ := St.bind h
          refine Go.cV_l (P1 := P7) (v := v8) (d - 1) 23 [.int a1, .int a2] sh23 hE w_Tr_numberAt (e_Tr_numberAt hG hE (d - 1) (by omega) a1 a2 P7 ⟨_, hv8, rfl, rfl, rfl⟩) lk1297 rfl (by omega) (Nat.le_of_ble_eq_true rfl) (by decide +kernel) _ rfl ?_
          exact Go.lret rfl hE.2 (by decide +kernel) (St.fLP h)
        · rw [if_neg c6] at h
          refine Go.ldc2 (-7 : Int64) lk1289 (by decide +kernel) ?_
          exact Go.lret rfl hE.2 (by decide +kernel) (St.fLP h)
    · rw [if_neg c3] at h
      refine Go.ldc2 (-6 : Int64) lk1288 (by decide +kernel) ?_
      exact Go.lret rfl hE.2 (by decide +kernel) (St.fLP h)
  · rw [if_pos c1] at h
    refine Go.ldc2 (-2 : Int64) lk1287 (by decide +kernel) ?_
    exact Go.lret rfl hE.2 (by decide +kernel) (St.fLP h)
theorem e_Yr_write {G : GX} (hG : GOK G) {E : EV} (hE : E0 E) (d : Nat) (hd : 3 ≤ d) (a1 : Int32) (a2 : Int32) (a3 : Int64) (P : PM) {Q : QT} (h : St E rLP (f_Yr_write a1 a2 a3 P) Q) : Con G y_Yr_write cw_Yr_write d nOb nOb [.ref (ad E 0), .int a1, .int a2, .long a3] P E Q :=
  Con.of hG (by decide +kernel) rfl (fun h => by cases h) hE.2 (Nat.le_of_ble_eq_true rfl) (t_f_Yr_write hG hE d hd a1 a2 a3 P h)
abbrev c_Yr_lists : ByteArray := prog_1_method_40_code
abbrev y_Yr_lists : MethodName := ⟨"YawnRoute", "lists", "(II)I"⟩
abbrev cw_Yr_lists : Cond := .code y_Yr_lists c_Yr_lists 5 (some .int)
theorem w_Yr_lists : VW 11 y_Yr_lists c_Yr_lists 5 (some .int) 2 := ⟨by decide, lk1299, lk1300, lk1, lk1301, ⟨by decide, by decide, by decide +kernel⟩, by decide⟩
noncomputable def l_Yr_lists_88 : Nat → Int32 → Int32 → Int32 → PM → Option (Int32 × PM)
  | 0, _, _, _, _ => none
  | n + 1, x1, x3, x4, P => if x3 ≤ x4 then (some (x3, P)) else ((f_Ro_stationAt x4 P).bind (fun v2 => (f_Tr_put x1 x4 (v2.toInt64) P).bind (fun P3 => l_Yr_lists_88 n x1 x3 (x4 + (1 : Int32)) P3)))
noncomputable def f_Yr_lists (a1 : Int32) (a2 : Int32) (P : PM) : Option (Int32 × PM) := if (f_Tr_isTray a1 P) = (0 : Int32) then (some ((-2 : Int32), P)) else (if (f_Ne_isStation 14 a2 P) = (0 : Int32) then (some ((-2 : Int32), P)) else ((f_Tr_isMissing a1 P).bind (fun v3 => if v3 = (0 : Int32) then (if (P.1 21 0) = (-1 : Int32) then (some ((-5 : Int32), P)) else (bd2 (f_Ro_seek a2 (1 : Int32) (1 : Int32) P) (fun v6 P7 => if v6 = (0 : Int32) then (some ((-5 : Int32), P7)) else ((f_Ro_passingsNeeded P7).bind (fun v9 => (f_Tr_lengthOf a1 P7).bind (fun v10 => lb (mn v9 v10) (fun y11 => l_Yr_lists_88 FU a1 y11 (0 : Int32) P7))))))) else (some ((-6 : Int32), P)))))
theorem t_l_Yr_lists_88 {G : GX} (hG : GOK G) {E : EV} (hE : E0 E) (d : Nat) (hd : 7 ≤ d) {Q : QT} : ∀ (n : Nat) (x1 : Int32) (x3 : Int32) (x4 : Int32) (P : PM), St E rIP (l_Yr_lists_88 n x1 x3 x4 P) Q → Go G c_Yr_lists "YawnRoute" 5 (some .int) false d nOb nOb Q 88 [(0, .ref (ad E 0)), (1, .int x1), (3, .int x3), (4, .int x4)] [] P E := by
  intro n
  induction n with
  | zero =>
    intro x1 x3 x4 P h
    rw [l_Yr_lists_88] at h
    exact St.none_ h
  | succ n ih =>
    intro x1 x3 x4 P h
    rw [l_Yr_lists_88] at h
    refine Go.iload (i := 4) 3 (by decide +kernel) rfl ?_
    refine Go.iload_n (k := 3) (i := 3) 2 (by decide +kernel) rfl rfl ?_
    refine Go.icmp_ge (off := 29) 120 (by decide +kernel) (by decide) (fun c1 => ?_) (fun c1 => ?_)
    · rw [if_pos c1] at h
      refine Go.iload_n (k := 3) (i := 3) 2 (by decide +kernel) rfl rfl ?_
      exact Go.iret rfl rfl hE.2 (by decide +kernel) (St.fIP h)
    · rw [if_neg c1] at h
      refine Go.aload_n (k := 0) (i := 0) 0 (by decide +kernel) rfl rfl ?_
      refine Go.get 0 4 (.ref (ad E 23)) (by decide) (by decide) sh0 (ltO hE sh0) (vlR hE rfl rfl) lk394 (by decide +kernel) ?_
      refine Go.iload_n (k := 1) (i := 1) 1 (by decide +kernel) rfl rfl ?_
      refine Go.iload (i := 4) 3 (by decide +kernel) rfl ?_
      refine Go.aload_n (k := 0) (i := 0) 0 (by decide +kernel) rfl rfl ?_
      refine Go.get 0 7 (.ref (ad E 63)) (by decide) (by decide) sh0 (ltO hE sh0) (vlR hE rfl rfl) lk397 (by decide +kernel) ?_
      refine Go.iload (i := 4) 3 (by decide +kernel) rfl ?_
      obtain ⟨v2, hv2, h⟩ := St.bind h
      refine Go.cV_i (P1 := P) (v := v2) (d - 1) 63 [.int x4] sh63 hE w_Ro_stationAt (e_Ro_stationAt hG hE (d - 1) (by omega) x4 P ⟨_, hv2, rfl, rfl, rfl⟩) lk1004 rfl (by omega) (Nat.le_of_ble_eq_true rfl) (by decide +kernel) _ rfl ?_
      refine Go.i2l (by decide +kernel) ?_
      obtain ⟨P3, hP3, h⟩ := St.bind h
      refine Go.cV_v (P1 := P3) (d - 1) 23 [.int x1, .int x4, .long (v2.toInt64)] sh23 hE w_Tr_put (e_Tr_put hG hE (d - 1) (by omega) x1 x4 (v2.toInt64) P ⟨_, hP3, rfl, rfl, rfl⟩) lk1290 rfl (by omega) (Nat.le_of_ble_eq_true rfl) (by decide +kernel) _ rfl ?_
      refine Go.iinc (i := 4) (n := 1) 3 (x4 + (1 : Int32)) [(4, .int (x4 + (1 : Int32))), (0, .ref (ad E 0)), (1, .int x1), (3, .int x3)] (by decide +kernel) rfl rfl (by decide) rfl ?_
      refine Go.goto (off := -29) 88 (by decide +kernel) (by decide) ?_
      refine Go.sub [1, 2, 3, 0] [(0, .ref (ad E 0)), (1, .int x1), (3, .int x3), (4, .int (x4 + (1 : Int32)))] rfl ?_
      exact ih x1 x3 (x4 + (1 : Int32)) P3 h
theorem t_f_Yr_lists {G : GX} (hG : GOK G) {E : EV} (hE : E0 E) (d : Nat) (hd : 7 ≤ d) {Q : QT} (a1 : Int32) (a2 : Int32) (P : PM) (h : St E rIP (f_Yr_lists a1 a2 P) Q) : Go G c_Yr_lists "YawnRoute" 5 (some .int) false d nOb nOb Q 0 [(0, .ref (ad E 0)), (1, .int a1), (2, .int a2)] [] P E := by
  rw [f_Yr_lists] at h
  refine Go.aload_n (k := 0) (i := 0) 0 (by decide +kernel) rfl rfl ?_
  refine Go.get 0 4 (.ref (ad E 23)) (by decide) (by decide) sh0 (ltO hE sh0) (vlR hE rfl rfl) lk394 (by decide +kernel) ?_
  refine Go.iload_n (k := 1) (i := 1) 1 (by decide +kernel) rfl rfl ?_
  refine Go.cV_i (P1 := P) (v := (f_Tr_isTray a1 P)) (d - 1) 23 [.int a1] sh23 hE w_Tr_isTray (e_Tr_isTray hG hE (d - 1) (by omega) a1 P ⟨rfl, rfl, rfl⟩) lk850 rfl (by omega) (Nat.le_of_ble_eq_true rfl) (by decide +kernel) _ rfl ?_
  refine Go.if_eq (off := 14) 22 (by decide +kernel) (by decide) (fun c1 => ?_) (fun c1 => ?_)
  · rw [if_pos c1] at h
    refine Go.bipush (n := -2) (-2 : Int32) (by decide +kernel) (by decide) ?_
    exact Go.iret rfl rfl hE.2 (by decide +kernel) (St.fIP h)
  · rw [if_neg c1] at h
    refine Go.aload_n (k := 0) (i := 0) 0 (by decide +kernel) rfl rfl ?_
    refine Go.get 0 2 (.ref (ad E 14)) (by decide) (by decide) sh0 (ltO hE sh0) (vlR hE rfl rfl) lk392 (by decide +kernel) ?_
    refine Go.iload_n (k := 2) (i := 2) 2 (by decide +kernel) rfl rfl ?_
    refine Go.cV_i (P1 := P) (v := (f_Ne_isStation 14 a2 P)) (d - 1) 14 [.int a2] sh14 hE w_Ne_isStation (e_Ne_isStation hG hE (d - 1) (by omega) 14 sh14 a2 P ⟨rfl, rfl, rfl⟩) lk726 rfl (by omega) (Nat.le_of_ble_eq_true rfl) (by decide +kernel) _ rfl ?_
    refine Go.if_ne (off := 6) 25 (by decide +kernel) (by decide) (fun c2 => ?_) (fun c2 => ?_)
    · rw [if_neg c2] at h
      refine Go.aload_n (k := 0) (i := 0) 0 (by decide +kernel) rfl rfl ?_
      refine Go.get 0 4 (.ref (ad E 23)) (by decide) (by decide) sh0 (ltO hE sh0) (vlR hE rfl rfl) lk394 (by decide +kernel) ?_
      refine Go.iload_n (k := 1) (i := 1) 1 (by decide +kernel) rfl rfl ?_
      obtain ⟨v3, hv3, h⟩ := St.bind h
      refine Go.cV_i (P1 := P) (v := v3) (d - 1) 23 [.int a1] sh23 hE w_Tr_isMissing (e_Tr_isMissing hG hE (d - 1) (by omega) a1 P ⟨_, hv3, rfl, rfl, rfl⟩) lk854 rfl (by omega) (Nat.le_of_ble_eq_true rfl) (by decide +kernel) _ rfl ?_
      refine Go.if_eq (off := 6) 39 (by decide +kernel) (by decide) (fun c4 => ?_) (fun c4 => ?_)
      · rw [if_pos c4] at h
        refine Go.aload_n (k := 0) (i := 0) 0 (by decide +kernel) rfl rfl ?_
        refine Go.get 0 3 (.ref (ad E 21)) (by decide) (by decide) sh0 (ltO hE sh0) (vlR hE rfl rfl) lk393 (by decide +kernel) ?_
        refine Go.get 21 0 (.int (P.1 21 0)) (by decide) (by decide) sh21 (ltO hE sh21) rfl lk151 (by decide +kernel) ?_
        refine Go.iconst (n := -1) (-1 : Int32) (by decide +kernel) rfl ?_
        refine Go.icmp_eq (off := 16) 63 (by decide +kernel) (by decide) (fun c5 => ?_) (fun c5 => ?_)
        · rw [if_pos c5] at h
          refine Go.bipush (n := -5) (-5 : Int32) (by decide +kernel) (by decide) ?_
          exact Go.iret rfl rfl hE.2 (by decide +kernel) (St.fIP h)
        · rw [if_neg c5] at h
          refine Go.aload_n (k := 0) (i := 0) 0 (by decide +kernel) rfl rfl ?_
          refine Go.get 0 7 (.ref (ad E 63)) (by decide) (by decide) sh0 (ltO hE sh0) (vlR hE rfl rfl) lk397 (by decide +kernel) ?_
          refine Go.iload_n (k := 2) (i := 2) 2 (by decide +kernel) rfl rfl ?_
          refine Go.iconst (n := 1) (1 : Int32) (by decide +kernel) rfl ?_
          refine Go.iconst (n := 1) (1 : Int32) (by decide +kernel) rfl ?_
          obtain ⟨v6, P7, hv6, h⟩ := St.bd2 h
          refine Go.cV_i (P1 := P7) (v := v6) (d - 1) 63 [.int a2, .int (1 : Int32), .int (1 : Int32)] sh63 hE w_Ro_seek (e_Ro_seek hG hE (d - 1) (by omega) a2 (1 : Int32) (1 : Int32) P ⟨_, hv6, rfl, rfl, rfl⟩) lk916 rfl (by omega) (Nat.le_of_ble_eq_true rfl) (by decide +kernel) _ rfl ?_
          refine Go.if_ne (off := 6) 66 (by decide +kernel) (by decide) (fun c8 => ?_) (fun c8 => ?_)
          · rw [if_neg c8] at h
            refine Go.aload_n (k := 0) (i := 0) 0 (by decide +kernel) rfl rfl ?_
            refine Go.get 0 7 (.ref (ad E 63)) (by decide) (by decide) sh0 (ltO hE sh0) (vlR hE rfl rfl) lk397 (by decide +kernel) ?_
            obtain ⟨v9, hv9, h⟩ := St.bind h
            refine Go.cV_i (P1 := P7) (v := v9) (d - 1) 63 [] sh63 hE w_Ro_passingsNeeded (e_Ro_passingsNeeded hG hE (d - 1) (by omega) P7 ⟨_, hv9, rfl, rfl, rfl⟩) lk1016 rfl (by omega) (Nat.le_of_ble_eq_true rfl) (by decide +kernel) _ rfl ?_
            refine Go.aload_n (k := 0) (i := 0) 0 (by decide +kernel) rfl rfl ?_
            refine Go.get 0 4 (.ref (ad E 23)) (by decide) (by decide) sh0 (ltO hE sh0) (vlR hE rfl rfl) lk394 (by decide +kernel) ?_
            refine Go.iload_n (k := 1) (i := 1) 1 (by decide +kernel) rfl rfl ?_
            obtain ⟨v10, hv10, h⟩ := St.bind h
            refine Go.cV_i (P1 := P7) (v := v10) (d - 1) 23 [.int a1] sh23 hE w_Tr_lengthOf (e_Tr_lengthOf hG hE (d - 1) (by omega) a1 P7 ⟨_, hv10, rfl, rfl, rfl⟩) lk884 rfl (by omega) (Nat.le_of_ble_eq_true rfl) (by decide +kernel) _ rfl ?_
            refine Go.mmin lk1302 (Nat.le_of_eq hE.2) (by omega) (Nat.le_of_ble_eq_true rfl) (by decide +kernel) ?_
            obtain ⟨y11, hy11, h⟩ := St.lb h
            refine Go.eqi y11 hy11 ?_
            refine Go.istore_n (k := 3) (i := 3) [(3, .int y11), (0, .ref (ad E 0)), (1, .int a1), (2, .int a2)] (by decide +kernel) rfl (by decide) rfl ?_
            refine Go.iconst (n := 0) (0 : Int32) (by decide +kernel) rfl ?_
            refine Go.istore (i := 4) [(4, .int (0 : Int32)), (3, .int y11), (0, .ref (ad E 0)), (1, .int a1), (2, .int a2)] (by decide +kernel) (by decide) rfl ?_
            refine Go.sub [2, 3, 1, 0] [(0, .ref (ad E 0)), (1, .int a1), (3, .int y11), (4, .int (0 : Int32))] rfl ?_
            exact t_l_Yr_lists_88 hG hE d hd FU a1 y11 (0 : Int32) P7 h
          · rw [if_pos c8] at h
            refine Go.bipush (n := -5) (-5 : Int32) (by decide +kernel) (by decide) ?_
            exact Go.iret rfl rfl hE.2 (by decide +kernel) (St.fIP h)
      · rw [if_neg c4] at h
        refine Go.bipush (n := -6) (-6 : Int32) (by decide +kernel) (by decide) ?_
        exact Go.iret rfl rfl hE.2 (by decide +kernel) (St.fIP h)
    · rw [if_pos c2] at h
      refine Go.bipush (n := -2) (-2 : Int32) (by decide +kernel) (by decide) ?_
      exact Go.iret rfl rfl hE.2 (by decide +kernel) (St.fIP h)
theorem e_Yr_lists {G : GX} (hG : GOK G) {E : EV} (hE : E0 E) (d : Nat) (hd : 7 ≤ d) (a1 : Int32) (a2 : Int32) (P : PM) {Q : QT} (h : St E rIP (f_Yr_lists a1 a2 P) Q) : Con G y_Yr_lists cw_Yr_lists d nOb nOb [.ref (ad E 0), .int a1, .int a2] P E Q :=
  Con.of hG (by decide +kernel) rfl (fun h => by cases h) hE.2 (Nat.le_of_ble_eq_true rfl) (t_f_Yr_lists hG hE d hd a1 a2 P h)
abbrev c_Yr_image : ByteArray := prog_1_method_41_code
abbrev y_Yr_image : MethodName := ⟨"YawnRoute", "image", "(I)I"⟩
abbrev cw_Yr_image : Cond := .code y_Yr_image c_Yr_image 2 (some .int)
theorem w_Yr_image : VW 11 y_Yr_image c_Yr_image 2 (some .int) 1 := ⟨by decide, lk1304, lk1305, lk1, lk1306, ⟨by decide, by decide, by decide +kernel⟩, by decide⟩
noncomputable def f_Yr_image (a1 : Int32) (P : PM) : Option (Int32 × PM) := if a1 < (0 : Int32) then (some ((-2 : Int32), P)) else (if a1 < (2 : Int32) then (ck (inb a1 2) ((f_Ne_copy (89 + 7 * a1.toNatClampNeg) 14 P).bind (fun P4 => ck (inb a1 2) ((f_Sa_copy (104 + 2 * a1.toNatClampNeg) 21 P4).bind (fun P6 => ck (inb a1 2) (some ((0 : Int32), (u1 P6 108 a1.toNatClampNeg (vp_nar .boolean (1 : Int32)))))))))) else (some ((-2 : Int32), P)))
theorem t_f_Yr_image {G : GX} (hG : GOK G) {E : EV} (hE : E0 E) (d : Nat) (hd : 2 ≤ d) {Q : QT} (a1 : Int32) (P : PM) (h : St E rIP (f_Yr_image a1 P) Q) : Go G c_Yr_image "YawnRoute" 2 (some .int) false d nOb nOb Q 0 [(0, .ref (ad E 0)), (1, .int a1)] [] P E := by
  rw [f_Yr_image] at h
  refine Go.iload_n (k := 1) (i := 1) 1 (by decide +kernel) rfl rfl ?_
  refine Go.if_lt (off := 8) 9 (by decide +kernel) (by decide) (fun c1 => ?_) (fun c1 => ?_)
  · rw [if_pos c1] at h
    refine Go.bipush (n := -2) (-2 : Int32) (by decide +kernel) (by decide) ?_
    exact Go.iret rfl rfl hE.2 (by decide +kernel) (St.fIP h)
  · rw [if_neg c1] at h
    refine Go.iload_n (k := 1) (i := 1) 1 (by decide +kernel) rfl rfl ?_
    refine Go.iconst (n := 2) (2 : Int32) (by decide +kernel) rfl ?_
    refine Go.icmp_lt (off := 6) 12 (by decide +kernel) (by decide) (fun c2 => ?_) (fun c2 => ?_)
    · rw [if_pos c2] at h
      refine Go.aload_n (k := 0) (i := 0) 0 (by decide +kernel) rfl rfl ?_
      refine Go.get 0 10 (.ref (ad E 88)) (by decide) (by decide) sh0 (ltO hE sh0) (vlR hE rfl rfl) lk400 (by decide +kernel) ?_
      refine Go.iload_n (k := 1) (i := 1) 1 (by decide +kernel) rfl rfl ?_
      obtain ⟨b3, h⟩ := St.ck h
      refine Go.aaload 88 5 2 (89 + 7 * a1.toNatClampNeg) sh88 (by decide) (ltA hE sh88 (by decide)) (inb_in b3) (by rw [hE.1]; exact raR88 b3) (by decide +kernel) ?_
      refine Go.aload_n (k := 0) (i := 0) 0 (by decide +kernel) rfl rfl ?_
      refine Go.get 0 2 (.ref (ad E 14)) (by decide) (by decide) sh0 (ltO hE sh0) (vlR hE rfl rfl) lk392 (by decide +kernel) ?_
      obtain ⟨P4, hP4, h⟩ := St.bind h
      refine Go.cV_v (P1 := P4) (d - 1) (89 + 7 * a1.toNatClampNeg) [.ref (ad E 14)] (raS88 b3) hE w_Ne_copy (e_Ne_copy hG hE (d - 1) (by omega) (89 + 7 * a1.toNatClampNeg) (raS88 b3) 14 sh14 P ⟨_, hP4, rfl, rfl, rfl⟩) lk701 rfl (by omega) (Nat.le_of_ble_eq_true rfl) (by decide +kernel) _ rfl ?_
      refine Go.aload_n (k := 0) (i := 0) 0 (by decide +kernel) rfl rfl ?_
      refine Go.get 0 11 (.ref (ad E 103)) (by decide) (by decide) sh0 (ltO hE sh0) (vlR hE rfl rfl) lk401 (by decide +kernel) ?_
      refine Go.iload_n (k := 1) (i := 1) 1 (by decide +kernel) rfl rfl ?_
      obtain ⟨b5, h⟩ := St.ck h
      refine Go.aaload 103 4 2 (104 + 2 * a1.toNatClampNeg) sh103 (by decide) (ltA hE sh103 (by decide)) (inb_in b5) (by rw [hE.1]; exact raR103 b5) (by decide +kernel) ?_
      refine Go.aload_n (k := 0) (i := 0) 0 (by decide +kernel) rfl rfl ?_
      refine Go.get 0 3 (.ref (ad E 21)) (by decide) (by decide) sh0 (ltO hE sh0) (vlR hE rfl rfl) lk393 (by decide +kernel) ?_
      obtain ⟨P6, hP6, h⟩ := St.bind h
      refine Go.cV_v (P1 := P6) (d - 1) (104 + 2 * a1.toNatClampNeg) [.ref (ad E 21)] (raS103 b5) hE w_Sa_copy (e_Sa_copy hG hE (d - 1) (by omega) (104 + 2 * a1.toNatClampNeg) (raS103 b5) 21 sh21 P4 ⟨_, hP6, rfl, rfl, rfl⟩) lk708 rfl (by omega) (Nat.le_of_ble_eq_true rfl) (by decide +kernel) _ rfl ?_
      refine Go.aload_n (k := 0) (i := 0) 0 (by decide +kernel) rfl rfl ?_
      refine Go.get 0 12 (.ref (ad E 108)) (by decide) (by decide) sh0 (ltO hE sh0) (vlR hE rfl rfl) lk402 (by decide +kernel) ?_
      refine Go.iload_n (k := 1) (i := 1) 1 (by decide +kernel) rfl rfl ?_
      refine Go.iconst (n := 1) (1 : Int32) (by decide +kernel) rfl ?_
      obtain ⟨b7, h⟩ := St.ck h
      refine Go.zastore 108 2 sh108 (ltA hE sh108 (by decide)) (inb_in b7) (by decide +kernel) ?_
      refine Go.iconst (n := 0) (0 : Int32) (by decide +kernel) rfl ?_
      exact Go.iret rfl rfl hE.2 (by decide +kernel) (St.fIP h)
    · rw [if_neg c2] at h
      refine Go.bipush (n := -2) (-2 : Int32) (by decide +kernel) (by decide) ?_
      exact Go.iret rfl rfl hE.2 (by decide +kernel) (St.fIP h)
theorem e_Yr_image {G : GX} (hG : GOK G) {E : EV} (hE : E0 E) (d : Nat) (hd : 2 ≤ d) (a1 : Int32) (P : PM) {Q : QT} (h : St E rIP (f_Yr_image a1 P) Q) : Con G y_Yr_image cw_Yr_image d nOb nOb [.ref (ad E 0), .int a1] P E Q :=
  Con.of hG (by decide +kernel) rfl (fun h => by cases h) hE.2 (Nat.le_of_ble_eq_true rfl) (t_f_Yr_image hG hE d hd a1 P h)
