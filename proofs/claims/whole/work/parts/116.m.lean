/-! methods as functions, by program: St_firstBack St_stationBack Yr_backBy St_sureBack Yr_surely De_sizeTold De_dullsTold De_tellsStations -/
abbrev c_St_firstBack : ByteArray := prog_10_method_7_code
abbrev y_St_firstBack : MethodName := ⟨"YawnRoute$Steps", "firstBack", "(II)I"⟩
abbrev cw_St_firstBack : Cond := .code y_St_firstBack c_St_firstBack 4 (some .int)
theorem w_St_firstBack : VW 8 y_St_firstBack c_St_firstBack 4 (some .int) 2 := ⟨by decide, lk1179, lp41_, lk13, lk1180, ⟨by decide, by decide, by decide +kernel⟩, by decide⟩
noncomputable def l_St_firstBack_2 : Nat → Int32 → Int32 → Int32 → PM → Option Int32
  | 0, _, _, _, _ => none
  | n + 1, x1, x2, x3, P => if (P.1 14 0) ≤ x3 then (some (-1 : Int32)) else ((f_Pa_next x2 x3 (P.1 21 3) P).bind (fun v2 => (f_St_routesFrom (x1 - (1 : Int32)) v2 P).bind (fun v3 => if v3 ≤ (0 : Int32) then (l_St_firstBack_2 n x1 x2 (x3 + (1 : Int32)) P) else (some x3))))
noncomputable def f_St_firstBack (a1 : Int32) (a2 : Int32) (P : PM) : Option Int32 := l_St_firstBack_2 FU a1 a2 (0 : Int32) P
theorem t_l_St_firstBack_2 {G : GX} (hG : GOK G) {E : EV} (hE : E0 E) (d : Nat) (hd : 4 ≤ d) {P : PM} {Q : QT} : ∀ (n : Nat) (x1 : Int32) (x2 : Int32) (x3 : Int32), St E (rI P) (l_St_firstBack_2 n x1 x2 x3 P) Q → Go G c_St_firstBack "YawnRoute$Steps" 4 (some .int) false d nOb nOb Q 2 [(0, .ref (ad E 69)), (1, .int x1), (2, .int x2), (3, .int x3)] [] P E := by
  intro n
  induction n with
  | zero =>
    intro x1 x2 x3 h
    rw [l_St_firstBack_2] at h
    exact St.none_ h
  | succ n ih =>
    intro x1 x2 x3 h
    rw [l_St_firstBack_2] at h
    refine Go.iload_n (k := 3) (i := 3) 3 (by decide +kernel) rfl rfl ?_
    refine Go.aload_n (k := 0) (i := 0) 0 (by decide +kernel) rfl rfl ?_
    refine Go.get 69 0 (.ref (ad E 14)) (by decide) (by decide) sh69 (ltO hE sh69) (vlR hE rfl rfl) lk370 (by decide +kernel) ?_
    refine Go.get 14 0 (.int (P.1 14 0)) (by decide) (by decide) sh14 (ltO hE sh14) rfl lk88 (by decide +kernel) ?_
    refine Go.icmp_ge (off := 37) 47 (by decide +kernel) (by decide) (fun c1 => ?_) (fun c1 => ?_)
    · rw [if_pos c1] at h
      refine Go.iconst (n := -1) (-1 : Int32) (by decide +kernel) rfl ?_
      exact Go.iret rfl rfl hE.2 (by decide +kernel) (St.fI h)
    · rw [if_neg c1] at h
      refine Go.aload_n (k := 0) (i := 0) 0 (by decide +kernel) rfl rfl ?_
      refine Go.iload_n (k := 1) (i := 1) 1 (by decide +kernel) rfl rfl ?_
      refine Go.iconst (n := 1) (1 : Int32) (by decide +kernel) rfl ?_
      refine Go.isub (by decide +kernel) ?_
      refine Go.aload_n (k := 0) (i := 0) 0 (by decide +kernel) rfl rfl ?_
      refine Go.get 69 2 (.ref (ad E 58)) (by decide) (by decide) sh69 (ltO hE sh69) (vlR hE rfl rfl) lk372 (by decide +kernel) ?_
      refine Go.iload_n (k := 2) (i := 2) 2 (by decide +kernel) rfl rfl ?_
      refine Go.iload_n (k := 3) (i := 3) 3 (by decide +kernel) rfl rfl ?_
      refine Go.aload_n (k := 0) (i := 0) 0 (by decide +kernel) rfl rfl ?_
      refine Go.get 69 1 (.ref (ad E 21)) (by decide) (by decide) sh69 (ltO hE sh69) (vlR hE rfl rfl) lk371 (by decide +kernel) ?_
      refine Go.get 21 3 (.int (P.1 21 3)) (by decide) (by decide) sh21 (ltO hE sh21) rfl lk164 (by decide +kernel) ?_
      obtain ⟨v2, hv2, h⟩ := St.bind h
      refine Go.cV_i (P1 := P) (v := v2) (d - 1) 58 [.int x2, .int x3, .int (P.1 21 3)] sh58 hE w_Pa_next (e_Pa_next hG hE (d - 1) (by omega) x2 x3 (P.1 21 3) P ⟨_, hv2, rfl, rfl, rfl⟩) lk1164 rfl (by omega) (Nat.le_of_ble_eq_true rfl) (by decide +kernel) _ rfl ?_
      obtain ⟨v3, hv3, h⟩ := St.bind h
      refine Go.cV_i (P1 := P) (v := v3) (d - 1) 69 [.int (x1 - (1 : Int32)), .int v2] sh69 hE w_St_routesFrom (e_St_routesFrom hG hE (d - 1) (by omega) (x1 - (1 : Int32)) v2 P ⟨_, hv3, rfl, rfl, rfl⟩) lk1165 rfl (by omega) (Nat.le_of_ble_eq_true rfl) (by decide +kernel) _ rfl ?_
      refine Go.if_le (off := 5) 41 (by decide +kernel) (by decide) (fun c4 => ?_) (fun c4 => ?_)
      · rw [if_pos c4] at h
        refine Go.iinc (i := 3) (n := 1) 3 (x3 + (1 : Int32)) [(3, .int (x3 + (1 : Int32))), (0, .ref (ad E 69)), (1, .int x1), (2, .int x2)] (by decide +kernel) rfl rfl (by decide) rfl ?_
        refine Go.goto (off := -42) 2 (by decide +kernel) (by decide) ?_
        refine Go.sub [1, 2, 3, 0] [(0, .ref (ad E 69)), (1, .int x1), (2, .int x2), (3, .int (x3 + (1 : Int32)))] rfl ?_
        exact ih x1 x2 (x3 + (1 : Int32)) h
      · rw [if_neg c4] at h
        refine Go.iload_n (k := 3) (i := 3) 3 (by decide +kernel) rfl rfl ?_
        exact Go.iret rfl rfl hE.2 (by decide +kernel) (St.fI h)
theorem t_f_St_firstBack {G : GX} (hG : GOK G) {E : EV} (hE : E0 E) (d : Nat) (hd : 4 ≤ d) {P : PM} {Q : QT} (a1 : Int32) (a2 : Int32) (h : St E (rI P) (f_St_firstBack a1 a2 P) Q) : Go G c_St_firstBack "YawnRoute$Steps" 4 (some .int) false d nOb nOb Q 0 [(0, .ref (ad E 69)), (1, .int a1), (2, .int a2)] [] P E := by
  rw [f_St_firstBack] at h
  refine Go.iconst (n := 0) (0 : Int32) (by decide +kernel) rfl ?_
  refine Go.istore_n (k := 3) (i := 3) [(3, .int (0 : Int32)), (0, .ref (ad E 69)), (1, .int a1), (2, .int a2)] (by decide +kernel) rfl (by decide) rfl ?_
  refine Go.sub [1, 2, 3, 0] [(0, .ref (ad E 69)), (1, .int a1), (2, .int a2), (3, .int (0 : Int32))] rfl ?_
  exact t_l_St_firstBack_2 hG hE d hd FU a1 a2 (0 : Int32) h
theorem e_St_firstBack {G : GX} (hG : GOK G) {E : EV} (hE : E0 E) (d : Nat) (hd : 4 ≤ d) (a1 : Int32) (a2 : Int32) (P : PM) {Q : QT} (h : St E (rI P) (f_St_firstBack a1 a2 P) Q) : Con G y_St_firstBack cw_St_firstBack d nOb nOb [.ref (ad E 69), .int a1, .int a2] P E Q :=
  Con.of hG (by decide +kernel) rfl (fun h => by cases h) hE.2 (Nat.le_of_ble_eq_true rfl) (t_f_St_firstBack hG hE d hd a1 a2 h)
abbrev c_St_stationBack : ByteArray := prog_10_method_6_code
abbrev y_St_stationBack : MethodName := ⟨"YawnRoute$Steps", "stationBack", "(II)I"⟩
abbrev cw_St_stationBack : Cond := .code y_St_stationBack c_St_stationBack 6 (some .int)
theorem w_St_stationBack : VW 8 y_St_stationBack c_St_stationBack 6 (some .int) 2 := ⟨by decide, lk1174, lk1175, lk13, lk1176, ⟨by decide, by decide, by decide +kernel⟩, by decide⟩
noncomputable def l_St_stationBack_28 : Nat → Int32 → Int32 → Int32 → Int32 → Int32 → PM → Option Int32
  | 0, _, _, _, _, _, _ => none
  | n + 1, x1, x2, x3, x4, x5, P => if x2 ≤ x5 then (some x4) else (if (10 : Int32) ≤ x5 then (some x4) else (if x4 = (-1 : Int32) then (some x4) else ((f_Pa_next x3 x4 (P.1 21 3) P).bind (fun v4 => (f_St_firstBack ((x1 - x5) - (1 : Int32)) v4 P).bind (fun v5 => l_St_stationBack_28 n x1 x2 v4 v5 (x5 + (1 : Int32)) P)))))
noncomputable def j_St_stationBack_23 (x1 : Int32) (x2 : Int32) (x3 : Int32) (s0 : Int32) (P : PM) : Option Int32 := l_St_stationBack_28 FU x1 x2 x3 s0 (0 : Int32) P
noncomputable def f_St_stationBack (a1 : Int32) (a2 : Int32) (P : PM) : Option Int32 := lb (f_Sa_place 21 P) (fun y1 => if a1 ≤ a2 then (j_St_stationBack_23 a1 a2 y1 (-1 : Int32) P) else ((f_St_firstBack a1 y1 P).bind (fun v3 => j_St_stationBack_23 a1 a2 y1 v3 P)))
theorem t_l_St_stationBack_28 {G : GX} (hG : GOK G) {E : EV} (hE : E0 E) (d : Nat) (hd : 5 ≤ d) {P : PM} {Q : QT} : ∀ (n : Nat) (x1 : Int32) (x2 : Int32) (x3 : Int32) (x4 : Int32) (x5 : Int32), St E (rI P) (l_St_stationBack_28 n x1 x2 x3 x4 x5 P) Q → Go G c_St_stationBack "YawnRoute$Steps" 6 (some .int) false d nOb nOb Q 28 [(0, .ref (ad E 69)), (1, .int x1), (2, .int x2), (3, .int x3), (4, .int x4), (5, .int x5)] [] P E := by
  intro n
  induction n with
  | zero =>
    intro x1 x2 x3 x4 x5 h
    rw [l_St_stationBack_28] at h
    exact St.none_ h
  | succ n ih =>
    intro x1 x2 x3 x4 x5 h
    rw [l_St_stationBack_28] at h
    refine Go.iload (i := 5) 5 (by decide +kernel) rfl ?_
    refine Go.iload_n (k := 2) (i := 2) 2 (by decide +kernel) rfl rfl ?_
    refine Go.icmp_ge (off := 53) 84 (by decide +kernel) (by decide) (fun c1 => ?_) (fun c1 => ?_)
    · rw [if_pos c1] at h
      refine Go.iload (i := 4) 4 (by decide +kernel) rfl ?_
      exact Go.iret rfl rfl hE.2 (by decide +kernel) (St.fI h)
    · rw [if_neg c1] at h
      refine Go.iload (i := 5) 5 (by decide +kernel) rfl ?_
      refine Go.bipush (n := 10) (10 : Int32) (by decide +kernel) (by decide) ?_
      refine Go.icmp_ge (off := 46) 84 (by decide +kernel) (by decide) (fun c2 => ?_) (fun c2 => ?_)
      · rw [if_pos c2] at h
        refine Go.iload (i := 4) 4 (by decide +kernel) rfl ?_
        exact Go.iret rfl rfl hE.2 (by decide +kernel) (St.fI h)
      · rw [if_neg c2] at h
        refine Go.iload (i := 4) 4 (by decide +kernel) rfl ?_
        refine Go.iconst (n := -1) (-1 : Int32) (by decide +kernel) rfl ?_
        refine Go.icmp_eq (off := 40) 84 (by decide +kernel) (by decide) (fun c3 => ?_) (fun c3 => ?_)
        · rw [if_pos c3] at h
          refine Go.iload (i := 4) 4 (by decide +kernel) rfl ?_
          exact Go.iret rfl rfl hE.2 (by decide +kernel) (St.fI h)
        · rw [if_neg c3] at h
          refine Go.aload_n (k := 0) (i := 0) 0 (by decide +kernel) rfl rfl ?_
          refine Go.get 69 2 (.ref (ad E 58)) (by decide) (by decide) sh69 (ltO hE sh69) (vlR hE rfl rfl) lk372 (by decide +kernel) ?_
          refine Go.iload_n (k := 3) (i := 3) 3 (by decide +kernel) rfl rfl ?_
          refine Go.iload (i := 4) 4 (by decide +kernel) rfl ?_
          refine Go.aload_n (k := 0) (i := 0) 0 (by decide +kernel) rfl rfl ?_
          refine Go.get 69 1 (.ref (ad E 21)) (by decide) (by decide) sh69 (ltO hE sh69) (vlR hE rfl rfl) lk371 (by decide +kernel) ?_
          refine Go.get 21 3 (.int (P.1 21 3)) (by decide) (by decide) sh21 (ltO hE sh21) rfl lk164 (by decide +kernel) ?_
          obtain ⟨v4, hv4, h⟩ := St.bind h
          refine Go.cV_i (P1 := P) (v := v4) (d - 1) 58 [.int x3, .int x4, .int (P.1 21 3)] sh58 hE w_Pa_next (e_Pa_next hG hE (d - 1) (by omega) x3 x4 (P.1 21 3) P ⟨_, hv4, rfl, rfl, rfl⟩) lk1164 rfl (by omega) (Nat.le_of_ble_eq_true rfl) (by decide +kernel) _ rfl ?_
          refine Go.istore_n (k := 3) (i := 3) [(3, .int v4), (0, .ref (ad E 69)), (1, .int x1), (2, .int x2), (4, .int x4), (5, .int x5)] (by decide +kernel) rfl (by decide) rfl ?_
          refine Go.aload_n (k := 0) (i := 0) 1 (by decide +kernel) rfl rfl ?_
          refine Go.iload_n (k := 1) (i := 1) 2 (by decide +kernel) rfl rfl ?_
          refine Go.iload (i := 5) 5 (by decide +kernel) rfl ?_
          refine Go.isub (by decide +kernel) ?_
          refine Go.iconst (n := 1) (1 : Int32) (by decide +kernel) rfl ?_
          refine Go.isub (by decide +kernel) ?_
          refine Go.iload_n (k := 3) (i := 3) 0 (by decide +kernel) rfl rfl ?_
          obtain ⟨v5, hv5, h⟩ := St.bind h
          refine Go.cV_i (P1 := P) (v := v5) (d - 1) 69 [.int ((x1 - x5) - (1 : Int32)), .int v4] sh69 hE w_St_firstBack (e_St_firstBack hG hE (d - 1) (by omega) ((x1 - x5) - (1 : Int32)) v4 P ⟨_, hv5, rfl, rfl, rfl⟩) lk1177 rfl (by omega) (Nat.le_of_ble_eq_true rfl) (by decide +kernel) _ rfl ?_
          refine Go.istore (i := 4) [(4, .int v5), (3, .int v4), (0, .ref (ad E 69)), (1, .int x1), (2, .int x2), (5, .int x5)] (by decide +kernel) (by decide) rfl ?_
          refine Go.iinc (i := 5) (n := 1) 5 (x5 + (1 : Int32)) [(5, .int (x5 + (1 : Int32))), (4, .int v5), (3, .int v4), (0, .ref (ad E 69)), (1, .int x1), (2, .int x2)] (by decide +kernel) rfl rfl (by decide) rfl ?_
          refine Go.goto (off := -53) 28 (by decide +kernel) (by decide) ?_
          refine Go.sub [3, 4, 5, 2, 1, 0] [(0, .ref (ad E 69)), (1, .int x1), (2, .int x2), (3, .int v4), (4, .int v5), (5, .int (x5 + (1 : Int32)))] rfl ?_
          exact ih x1 x2 v4 v5 (x5 + (1 : Int32)) h
theorem t_j_St_stationBack_23 {G : GX} (hG : GOK G) {E : EV} (hE : E0 E) (d : Nat) (hd : 5 ≤ d) {P : PM} {Q : QT} (x1 : Int32) (x2 : Int32) (x3 : Int32) (s0 : Int32) (h : St E (rI P) (j_St_stationBack_23 x1 x2 x3 s0 P) Q) : Go G c_St_stationBack "YawnRoute$Steps" 6 (some .int) false d nOb nOb Q 23 [(0, .ref (ad E 69)), (1, .int x1), (2, .int x2), (3, .int x3)] [.int s0] P E := by
  rw [j_St_stationBack_23] at h
  refine Go.istore (i := 4) [(4, .int s0), (0, .ref (ad E 69)), (1, .int x1), (2, .int x2), (3, .int x3)] (by decide +kernel) (by decide) rfl ?_
  refine Go.iconst (n := 0) (0 : Int32) (by decide +kernel) rfl ?_
  refine Go.istore (i := 5) [(5, .int (0 : Int32)), (4, .int s0), (0, .ref (ad E 69)), (1, .int x1), (2, .int x2), (3, .int x3)] (by decide +kernel) (by decide) rfl ?_
  refine Go.sub [2, 3, 4, 5, 1, 0] [(0, .ref (ad E 69)), (1, .int x1), (2, .int x2), (3, .int x3), (4, .int s0), (5, .int (0 : Int32))] rfl ?_
  exact t_l_St_stationBack_28 hG hE d hd FU x1 x2 x3 s0 (0 : Int32) h
theorem t_f_St_stationBack {G : GX} (hG : GOK G) {E : EV} (hE : E0 E) (d : Nat) (hd : 5 ≤ d) {P : PM} {Q : QT} (a1 : Int32) (a2 : Int32) (h : St E (rI P) (f_St_stationBack a1 a2 P) Q) : Go G c_St_stationBack "YawnRoute$Steps" 6 (some .int) false d nOb nOb Q 0 [(0, .ref (ad E 69)), (1, .int a1), (2, .int a2)] [] P E := by
  rw [f_St_stationBack] at h
  refine Go.aload_n (k := 0) (i := 0) 0 (by decide +kernel) rfl rfl ?_
  refine Go.get 69 1 (.ref (ad E 21)) (by decide) (by decide) sh69 (ltO hE sh69) (vlR hE rfl rfl) lk371 (by decide +kernel) ?_
  refine Go.cV_i (P1 := P) (v := (f_Sa_place 21 P)) (d - 1) 21 [] sh21 hE w_Sa_place (e_Sa_place hG hE (d - 1) (by omega) 21 sh21 P ⟨rfl, rfl, rfl⟩) lk1156 rfl (by omega) (Nat.le_of_ble_eq_true rfl) (by decide +kernel) _ rfl ?_
  obtain ⟨y1, hy1, h⟩ := St.lb h
  refine Go.eqi y1 hy1 ?_
  refine Go.istore_n (k := 3) (i := 3) [(3, .int y1), (0, .ref (ad E 69)), (1, .int a1), (2, .int a2)] (by decide +kernel) rfl (by decide) rfl ?_
  refine Go.iload_n (k := 2) (i := 2) 3 (by decide +kernel) rfl rfl ?_
  refine Go.iload_n (k := 1) (i := 1) 2 (by decide +kernel) rfl rfl ?_
  refine Go.icmp_ge (off := 12) 22 (by decide +kernel) (by decide) (fun c2 => ?_) (fun c2 => ?_)
  · rw [if_pos c2] at h
    refine Go.iconst (n := -1) (-1 : Int32) (by decide +kernel) rfl ?_
    refine Go.sub [1, 2, 3, 0] [(0, .ref (ad E 69)), (1, .int a1), (2, .int a2), (3, .int y1)] rfl ?_
    exact t_j_St_stationBack_23 hG hE d hd a1 a2 y1 (-1 : Int32) h
  · rw [if_neg c2] at h
    refine Go.aload_n (k := 0) (i := 0) 1 (by decide +kernel) rfl rfl ?_
    refine Go.iload_n (k := 1) (i := 1) 2 (by decide +kernel) rfl rfl ?_
    refine Go.iload_n (k := 3) (i := 3) 0 (by decide +kernel) rfl rfl ?_
    obtain ⟨v3, hv3, h⟩ := St.bind h
    refine Go.cV_i (P1 := P) (v := v3) (d - 1) 69 [.int a1, .int y1] sh69 hE w_St_firstBack (e_St_firstBack hG hE (d - 1) (by omega) a1 y1 P ⟨_, hv3, rfl, rfl, rfl⟩) lk1177 rfl (by omega) (Nat.le_of_ble_eq_true rfl) (by decide +kernel) _ rfl ?_
    refine Go.goto (off := 4) 23 (by decide +kernel) (by decide) ?_
    refine Go.sub [1, 2, 3, 0] [(0, .ref (ad E 69)), (1, .int a1), (2, .int a2), (3, .int y1)] rfl ?_
    exact t_j_St_stationBack_23 hG hE d hd a1 a2 y1 v3 h
theorem e_St_stationBack {G : GX} (hG : GOK G) {E : EV} (hE : E0 E) (d : Nat) (hd : 5 ≤ d) (a1 : Int32) (a2 : Int32) (P : PM) {Q : QT} (h : St E (rI P) (f_St_stationBack a1 a2 P) Q) : Con G y_St_stationBack cw_St_stationBack d nOb nOb [.ref (ad E 69), .int a1, .int a2] P E Q :=
  Con.of hG (by decide +kernel) rfl (fun h => by cases h) hE.2 (Nat.le_of_ble_eq_true rfl) (t_f_St_stationBack hG hE d hd a1 a2 h)
abbrev c_Yr_backBy : ByteArray := prog_1_method_30_code
abbrev y_Yr_backBy : MethodName := ⟨"YawnRoute", "backBy", "(IIII)I"⟩
abbrev cw_Yr_backBy : Cond := .code y_Yr_backBy c_Yr_backBy 6 (some .int)
theorem w_Yr_backBy : VW 11 y_Yr_backBy c_Yr_backBy 6 (some .int) 4 := ⟨by decide, lk1170, lk1171, lk1, lk1172, ⟨by decide, by decide, by decide +kernel⟩, by decide⟩
noncomputable def f_Yr_backBy (a1 : Int32) (a2 : Int32) (a3 : Int32) (a4 : Int32) (P : PM) : Option (Int32 × PM) := lb (f_Yr_refusal (f_Ne_isStation 14 a2 P) (f_Yr_isBack a1 a3 P) P) (fun y1 => if y1 = (0 : Int32) then (if (0 : Int32) ≤ a4 then (bd2 (f_St_countBack a1 (f_Yr_placeOf a2 a3 P) P) (fun v4 P5 => if v4 ≤ (0 : Int32) then (some ((-1 : Int32), P5)) else ((f_St_stationBack a1 a4 P5).bind (fun v7 => some (v7, P5))))) else (some ((-3 : Int32), P))) else (some (y1, P)))
theorem t_f_Yr_backBy {G : GX} (hG : GOK G) {E : EV} (hE : E0 E) (d : Nat) (hd : 7 ≤ d) {Q : QT} (a1 : Int32) (a2 : Int32) (a3 : Int32) (a4 : Int32) (P : PM) (h : St E rIP (f_Yr_backBy a1 a2 a3 a4 P) Q) : Go G c_Yr_backBy "YawnRoute" 6 (some .int) false d nOb nOb Q 0 [(0, .ref (ad E 0)), (1, .int a1), (2, .int a2), (3, .int a3), (4, .int a4)] [] P E := by
  rw [f_Yr_backBy] at h
  refine Go.aload_n (k := 0) (i := 0) 0 (by decide +kernel) rfl rfl ?_
  refine Go.aload_n (k := 0) (i := 0) 0 (by decide +kernel) rfl rfl ?_
  refine Go.get 0 2 (.ref (ad E 14)) (by decide) (by decide) sh0 (ltO hE sh0) (vlR hE rfl rfl) lk392 (by decide +kernel) ?_
  refine Go.iload_n (k := 2) (i := 2) 2 (by decide +kernel) rfl rfl ?_
  refine Go.cV_i (P1 := P) (v := (f_Ne_isStation 14 a2 P)) (d - 1) 14 [.int a2] sh14 hE w_Ne_isStation (e_Ne_isStation hG hE (d - 1) (by omega) 14 sh14 a2 P ⟨rfl, rfl, rfl⟩) lk726 rfl (by omega) (Nat.le_of_ble_eq_true rfl) (by decide +kernel) _ rfl ?_
  refine Go.iload_n (k := 1) (i := 1) 1 (by decide +kernel) rfl rfl ?_
  refine Go.iload_n (k := 3) (i := 3) 3 (by decide +kernel) rfl rfl ?_
  refine Go.cS_i (P1 := P) (v := (f_Yr_isBack a1 a3 P)) (d - 1) [.int a1, .int a3] hE w_Yr_isBack (e_Yr_isBack hG hE (d - 1) (by omega) a1 a3 P ⟨rfl, rfl, rfl⟩) lk1148 rfl (by omega) (Nat.le_of_ble_eq_true rfl) (by decide +kernel) _ rfl ?_
  refine Go.cV_i (P1 := P) (v := (f_Yr_refusal (f_Ne_isStation 14 a2 P) (f_Yr_isBack a1 a3 P) P)) (d - 1) 0 [.int (f_Ne_isStation 14 a2 P), .int (f_Yr_isBack a1 a3 P)] sh0 hE w_Yr_refusal (e_Yr_refusal hG hE (d - 1) (by omega) (f_Ne_isStation 14 a2 P) (f_Yr_isBack a1 a3 P) P ⟨rfl, rfl, rfl⟩) lk912 rfl (by omega) (Nat.le_of_ble_eq_true rfl) (by decide +kernel) _ rfl ?_
  obtain ⟨y1, hy1, h⟩ := St.lb h
  refine Go.eqi y1 hy1 ?_
  refine Go.istore (i := 5) [(5, .int y1), (0, .ref (ad E 0)), (1, .int a1), (2, .int a2), (3, .int a3), (4, .int a4)] (by decide +kernel) (by decide) rfl ?_
  refine Go.iload (i := 5) 0 (by decide +kernel) rfl ?_
  refine Go.if_eq (off := 6) 27 (by decide +kernel) (by decide) (fun c2 => ?_) (fun c2 => ?_)
  · rw [if_pos c2] at h
    refine Go.iload (i := 4) 5 (by decide +kernel) rfl ?_
    refine Go.if_ge (off := 6) 35 (by decide +kernel) (by decide) (fun c3 => ?_) (fun c3 => ?_)
    · rw [if_pos c3] at h
      refine Go.aload_n (k := 0) (i := 0) 1 (by decide +kernel) rfl rfl ?_
      refine Go.get 0 9 (.ref (ad E 69)) (by decide) (by decide) sh0 (ltO hE sh0) (vlR hE rfl rfl) lk399 (by decide +kernel) ?_
      refine Go.iload_n (k := 1) (i := 1) 2 (by decide +kernel) rfl rfl ?_
      refine Go.iload_n (k := 2) (i := 2) 3 (by decide +kernel) rfl rfl ?_
      refine Go.iload_n (k := 3) (i := 3) 4 (by decide +kernel) rfl rfl ?_
      refine Go.cS_i (P1 := P) (v := (f_Yr_placeOf a2 a3 P)) (d - 1) [.int a2, .int a3] hE w_Yr_placeOf (e_Yr_placeOf hG hE (d - 1) (by omega) a2 a3 P ⟨rfl, rfl, rfl⟩) lk1151 rfl (by omega) (Nat.le_of_ble_eq_true rfl) (by decide +kernel) _ rfl ?_
      obtain ⟨v4, P5, hv4, h⟩ := St.bd2 h
      refine Go.cV_i (P1 := P5) (v := v4) (d - 1) 69 [.int a1, .int (f_Yr_placeOf a2 a3 P)] sh69 hE w_St_countBack (e_St_countBack hG hE (d - 1) (by omega) a1 (f_Yr_placeOf a2 a3 P) P ⟨_, hv4, rfl, rfl, rfl⟩) lk1152 rfl (by omega) (Nat.le_of_ble_eq_true rfl) (by decide +kernel) _ rfl ?_
      refine Go.if_le (off := 16) 64 (by decide +kernel) (by decide) (fun c6 => ?_) (fun c6 => ?_)
      · rw [if_pos c6] at h
        refine Go.iconst (n := -1) (-1 : Int32) (by decide +kernel) rfl ?_
        exact Go.iret rfl rfl hE.2 (by decide +kernel) (St.fIP h)
      · rw [if_neg c6] at h
        refine Go.aload_n (k := 0) (i := 0) 1 (by decide +kernel) rfl rfl ?_
        refine Go.get 0 9 (.ref (ad E 69)) (by decide) (by decide) sh0 (ltO hE sh0) (vlR hE rfl rfl) lk399 (by decide +kernel) ?_
        refine Go.iload_n (k := 1) (i := 1) 2 (by decide +kernel) rfl rfl ?_
        refine Go.iload (i := 4) 5 (by decide +kernel) rfl ?_
        obtain ⟨v7, hv7, h⟩ := St.bind h
        refine Go.cV_i (P1 := P5) (v := v7) (d - 1) 69 [.int a1, .int a4] sh69 hE w_St_stationBack (e_St_stationBack hG hE (d - 1) (by omega) a1 a4 P5 ⟨_, hv7, rfl, rfl, rfl⟩) lk1173 rfl (by omega) (Nat.le_of_ble_eq_true rfl) (by decide +kernel) _ rfl ?_
        refine Go.goto (off := 4) 65 (by decide +kernel) (by decide) ?_
        exact Go.iret rfl rfl hE.2 (by decide +kernel) (St.fIP h)
    · rw [if_neg c3] at h
      refine Go.bipush (n := -3) (-3 : Int32) (by decide +kernel) (by decide) ?_
      exact Go.iret rfl rfl hE.2 (by decide +kernel) (St.fIP h)
  · rw [if_neg c2] at h
    refine Go.iload (i := 5) 0 (by decide +kernel) rfl ?_
    exact Go.iret rfl rfl hE.2 (by decide +kernel) (St.fIP h)
theorem e_Yr_backBy {G : GX} (hG : GOK G) {E : EV} (hE : E0 E) (d : Nat) (hd : 7 ≤ d) (a1 : Int32) (a2 : Int32) (a3 : Int32) (a4 : Int32) (P : PM) {Q : QT} (h : St E rIP (f_Yr_backBy a1 a2 a3 a4 P) Q) : Con G y_Yr_backBy cw_Yr_backBy d nOb nOb [.ref (ad E 0), .int a1, .int a2, .int a3, .int a4] P E Q :=
  Con.of hG (by decide +kernel) rfl (fun h => by cases h) hE.2 (Nat.le_of_ble_eq_true rfl) (t_f_Yr_backBy hG hE d hd a1 a2 a3 a4 P h)
abbrev c_St_sureBack : ByteArray := prog_10_method_5_code
abbrev y_St_sureBack : MethodName := ⟨"YawnRoute$Steps", "sureBack", "(I)I"⟩
abbrev cw_St_sureBack : Cond := .code y_St_sureBack c_St_sureBack 3 (some .int)
theorem w_St_sureBack : VW 8 y_St_sureBack c_St_sureBack 3 (some .int) 1 := ⟨by decide, lk1186, lk1187, lk13, lk1188, ⟨by decide, by decide, by decide +kernel⟩, by decide⟩
noncomputable def f_St_sureBack (a1 : Int32) (P : PM) : Option Int32 := lb (f_Sa_place 21 P) (fun y1 => if (f_Yr_isPlace y1 P) = (0 : Int32) then (some (0 : Int32)) else (ck (inb (a1 &&& (1 : Int32)) 2) (ck (inb y1 280) (some (P.1 (83 + (a1 &&& (1 : Int32)).toNatClampNeg) y1.toNatClampNeg)))))
theorem t_f_St_sureBack {G : GX} (hG : GOK G) {E : EV} (hE : E0 E) (d : Nat) (hd : 3 ≤ d) {P : PM} {Q : QT} (a1 : Int32) (h : St E (rI P) (f_St_sureBack a1 P) Q) : Go G c_St_sureBack "YawnRoute$Steps" 3 (some .int) false d nOb nOb Q 0 [(0, .ref (ad E 69)), (1, .int a1)] [] P E := by
  rw [f_St_sureBack] at h
  refine Go.aload_n (k := 0) (i := 0) 0 (by decide +kernel) rfl rfl ?_
  refine Go.get 69 1 (.ref (ad E 21)) (by decide) (by decide) sh69 (ltO hE sh69) (vlR hE rfl rfl) lk371 (by decide +kernel) ?_
  refine Go.cV_i (P1 := P) (v := (f_Sa_place 21 P)) (d - 1) 21 [] sh21 hE w_Sa_place (e_Sa_place hG hE (d - 1) (by omega) 21 sh21 P ⟨rfl, rfl, rfl⟩) lk1156 rfl (by omega) (Nat.le_of_ble_eq_true rfl) (by decide +kernel) _ rfl ?_
  obtain ⟨y1, hy1, h⟩ := St.lb h
  refine Go.eqi y1 hy1 ?_
  refine Go.istore_n (k := 2) (i := 2) [(2, .int y1), (0, .ref (ad E 69)), (1, .int a1)] (by decide +kernel) rfl (by decide) rfl ?_
  refine Go.iload_n (k := 2) (i := 2) 0 (by decide +kernel) rfl rfl ?_
  refine Go.cSN_i (P1 := P) (v := (f_Yr_isPlace y1 P)) (d - 1) [.int y1] hE w_Yr_isPlace (e_Yr_isPlace hG hE (d - 1) (by omega) y1 P ⟨rfl, rfl, rfl⟩) nw22 rfl (by omega) (Nat.le_of_ble_eq_true rfl) (by decide +kernel) _ rfl ?_
  refine Go.if_eq (off := 16) 28 (by decide +kernel) (by decide) (fun c2 => ?_) (fun c2 => ?_)
  · rw [if_pos c2] at h
    refine Go.iconst (n := 0) (0 : Int32) (by decide +kernel) rfl ?_
    exact Go.iret rfl rfl hE.2 (by decide +kernel) (St.fI h)
  · rw [if_neg c2] at h
    refine Go.aload_n (k := 0) (i := 0) 1 (by decide +kernel) rfl rfl ?_
    refine Go.get 69 4 (.ref (ad E 82)) (by decide) (by decide) sh69 (ltO hE sh69) (vlR hE rfl rfl) lk374 (by decide +kernel) ?_
    refine Go.iload_n (k := 1) (i := 1) 2 (by decide +kernel) rfl rfl ?_
    refine Go.iconst (n := 1) (1 : Int32) (by decide +kernel) rfl ?_
    refine Go.iand (by decide +kernel) ?_
    obtain ⟨b3, h⟩ := St.ck h
    refine Go.aaload 82 6 2 (83 + (a1 &&& (1 : Int32)).toNatClampNeg) sh82 (by decide) (ltA hE sh82 (by decide)) (inb_in b3) (by rw [hE.1]; exact raR82 b3) (by decide +kernel) ?_
    refine Go.iload_n (k := 2) (i := 2) 0 (by decide +kernel) rfl rfl ?_
    obtain ⟨b4, h⟩ := St.ck h
    refine Go.iaload (83 + (a1 &&& (1 : Int32)).toNatClampNeg) 280 (raS82 b3) (ltA hE (raS82 b3) (by decide)) (inb_in b4) (by decide +kernel) ?_
    refine Go.goto (off := 4) 29 (by decide +kernel) (by decide) ?_
    exact Go.iret rfl rfl hE.2 (by decide +kernel) (St.fI h)
theorem e_St_sureBack {G : GX} (hG : GOK G) {E : EV} (hE : E0 E) (d : Nat) (hd : 3 ≤ d) (a1 : Int32) (P : PM) {Q : QT} (h : St E (rI P) (f_St_sureBack a1 P) Q) : Con G y_St_sureBack cw_St_sureBack d nOb nOb [.ref (ad E 69), .int a1] P E Q :=
  Con.of hG (by decide +kernel) rfl (fun h => by cases h) hE.2 (Nat.le_of_ble_eq_true rfl) (t_f_St_sureBack hG hE d hd a1 h)
abbrev c_Yr_surely : ByteArray := prog_1_method_31_code
abbrev y_Yr_surely : MethodName := ⟨"YawnRoute", "surely", "(III)I"⟩
abbrev cw_Yr_surely : Cond := .code y_Yr_surely c_Yr_surely 5 (some .int)
theorem w_Yr_surely : VW 11 y_Yr_surely c_Yr_surely 5 (some .int) 3 := ⟨by decide, lk1182, lk1183, lk1, lk1184, ⟨by decide, by decide, by decide +kernel⟩, by decide⟩
noncomputable def f_Yr_surely (a1 : Int32) (a2 : Int32) (a3 : Int32) (P : PM) : Option (Int32 × PM) := lb (f_Yr_refusal (f_Ne_isStation 14 a2 P) (f_Yr_isBack a1 a3 P) P) (fun y1 => if y1 = (0 : Int32) then (bd2 (f_St_countBack a1 (f_Yr_placeOf a2 a3 P) P) (fun v3 P4 => if v3 ≤ (0 : Int32) then (some ((0 : Int32), P4)) else ((f_St_sureBack a1 P4).bind (fun v6 => some (v6, P4))))) else (some (y1, P)))
theorem t_f_Yr_surely {G : GX} (hG : GOK G) {E : EV} (hE : E0 E) (d : Nat) (hd : 7 ≤ d) {Q : QT} (a1 : Int32) (a2 : Int32) (a3 : Int32) (P : PM) (h : St E rIP (f_Yr_surely a1 a2 a3 P) Q) : Go G c_Yr_surely "YawnRoute" 5 (some .int) false d nOb nOb Q 0 [(0, .ref (ad E 0)), (1, .int a1), (2, .int a2), (3, .int a3)] [] P E := by
  rw [f_Yr_surely] at h
  refine Go.aload_n (k := 0) (i := 0) 0 (by decide +kernel) rfl rfl ?_
  refine Go.aload_n (k := 0) (i := 0) 0 (by decide +kernel) rfl rfl ?_
  refine Go.get 0 2 (.ref (ad E 14)) (by decide) (by decide) sh0 (ltO hE sh0) (vlR hE rfl rfl) lk392 (by decide +kernel) ?_
  refine Go.iload_n (k := 2) (i := 2) 2 (by decide +kernel) rfl rfl ?_
  refine Go.cV_i (P1 := P) (v := (f_Ne_isStation 14 a2 P)) (d - 1) 14 [.int a2] sh14 hE w_Ne_isStation (e_Ne_isStation hG hE (d - 1) (by omega) 14 sh14 a2 P ⟨rfl, rfl, rfl⟩) lk726 rfl (by omega) (Nat.le_of_ble_eq_true rfl) (by decide +kernel) _ rfl ?_
  refine Go.iload_n (k := 1) (i := 1) 1 (by decide +kernel) rfl rfl ?_
  refine Go.iload_n (k := 3) (i := 3) 3 (by decide +kernel) rfl rfl ?_
  refine Go.cS_i (P1 := P) (v := (f_Yr_isBack a1 a3 P)) (d - 1) [.int a1, .int a3] hE w_Yr_isBack (e_Yr_isBack hG hE (d - 1) (by omega) a1 a3 P ⟨rfl, rfl, rfl⟩) lk1148 rfl (by omega) (Nat.le_of_ble_eq_true rfl) (by decide +kernel) _ rfl ?_
  refine Go.cV_i (P1 := P) (v := (f_Yr_refusal (f_Ne_isStation 14 a2 P) (f_Yr_isBack a1 a3 P) P)) (d - 1) 0 [.int (f_Ne_isStation 14 a2 P), .int (f_Yr_isBack a1 a3 P)] sh0 hE w_Yr_refusal (e_Yr_refusal hG hE (d - 1) (by omega) (f_Ne_isStation 14 a2 P) (f_Yr_isBack a1 a3 P) P ⟨rfl, rfl, rfl⟩) lk912 rfl (by omega) (Nat.le_of_ble_eq_true rfl) (by decide +kernel) _ rfl ?_
  obtain ⟨y1, hy1, h⟩ := St.lb h
  refine Go.eqi y1 hy1 ?_
  refine Go.istore (i := 4) [(4, .int y1), (0, .ref (ad E 0)), (1, .int a1), (2, .int a2), (3, .int a3)] (by decide +kernel) (by decide) rfl ?_
  refine Go.iload (i := 4) 0 (by decide +kernel) rfl ?_
  refine Go.if_eq (off := 6) 27 (by decide +kernel) (by decide) (fun c2 => ?_) (fun c2 => ?_)
  · rw [if_pos c2] at h
    refine Go.aload_n (k := 0) (i := 0) 1 (by decide +kernel) rfl rfl ?_
    refine Go.get 0 9 (.ref (ad E 69)) (by decide) (by decide) sh0 (ltO hE sh0) (vlR hE rfl rfl) lk399 (by decide +kernel) ?_
    refine Go.iload_n (k := 1) (i := 1) 2 (by decide +kernel) rfl rfl ?_
    refine Go.iload_n (k := 2) (i := 2) 3 (by decide +kernel) rfl rfl ?_
    refine Go.iload_n (k := 3) (i := 3) 4 (by decide +kernel) rfl rfl ?_
    refine Go.cS_i (P1 := P) (v := (f_Yr_placeOf a2 a3 P)) (d - 1) [.int a2, .int a3] hE w_Yr_placeOf (e_Yr_placeOf hG hE (d - 1) (by omega) a2 a3 P ⟨rfl, rfl, rfl⟩) lk1151 rfl (by omega) (Nat.le_of_ble_eq_true rfl) (by decide +kernel) _ rfl ?_
    obtain ⟨v3, P4, hv3, h⟩ := St.bd2 h
    refine Go.cV_i (P1 := P4) (v := v3) (d - 1) 69 [.int a1, .int (f_Yr_placeOf a2 a3 P)] sh69 hE w_St_countBack (e_St_countBack hG hE (d - 1) (by omega) a1 (f_Yr_placeOf a2 a3 P) P ⟨_, hv3, rfl, rfl, rfl⟩) lk1152 rfl (by omega) (Nat.le_of_ble_eq_true rfl) (by decide +kernel) _ rfl ?_
    refine Go.if_le (off := 14) 54 (by decide +kernel) (by decide) (fun c5 => ?_) (fun c5 => ?_)
    · rw [if_pos c5] at h
      refine Go.iconst (n := 0) (0 : Int32) (by decide +kernel) rfl ?_
      exact Go.iret rfl rfl hE.2 (by decide +kernel) (St.fIP h)
    · rw [if_neg c5] at h
      refine Go.aload_n (k := 0) (i := 0) 1 (by decide +kernel) rfl rfl ?_
      refine Go.get 0 9 (.ref (ad E 69)) (by decide) (by decide) sh0 (ltO hE sh0) (vlR hE rfl rfl) lk399 (by decide +kernel) ?_
      refine Go.iload_n (k := 1) (i := 1) 2 (by decide +kernel) rfl rfl ?_
      obtain ⟨v6, hv6, h⟩ := St.bind h
      refine Go.cV_i (P1 := P4) (v := v6) (d - 1) 69 [.int a1] sh69 hE w_St_sureBack (e_St_sureBack hG hE (d - 1) (by omega) a1 P4 ⟨_, hv6, rfl, rfl, rfl⟩) lk1185 rfl (by omega) (Nat.le_of_ble_eq_true rfl) (by decide +kernel) _ rfl ?_
      refine Go.goto (off := 4) 55 (by decide +kernel) (by decide) ?_
      exact Go.iret rfl rfl hE.2 (by decide +kernel) (St.fIP h)
  · rw [if_neg c2] at h
    refine Go.iload (i := 4) 0 (by decide +kernel) rfl ?_
    exact Go.iret rfl rfl hE.2 (by decide +kernel) (St.fIP h)
theorem e_Yr_surely {G : GX} (hG : GOK G) {E : EV} (hE : E0 E) (d : Nat) (hd : 7 ≤ d) (a1 : Int32) (a2 : Int32) (a3 : Int32) (P : PM) {Q : QT} (h : St E rIP (f_Yr_surely a1 a2 a3 P) Q) : Con G y_Yr_surely cw_Yr_surely d nOb nOb [.ref (ad E 0), .int a1, .int a2, .int a3] P E Q :=
  Con.of hG (by decide +kernel) rfl (fun h => by cases h) hE.2 (Nat.le_of_ble_eq_true rfl) (t_f_Yr_surely hG hE d hd a1 a2 a3 P h)
abbrev c_De_sizeTold : ByteArray := prog_2_method_19_code
abbrev y_De_sizeTold : MethodName := ⟨"YawnRoute$Deeds", "sizeTold", "(III)I"⟩
abbrev cw_De_sizeTold : Cond := .code y_De_sizeTold c_De_sizeTold 9 (some .int)
theorem w_De_sizeTold : VW 0 y_De_sizeTold c_De_sizeTold 9 (some .int) 3 := ⟨by decide, lk1207, lp43_, lk8, lk1208, ⟨by decide, by decide, by decide +kernel⟩, by decide⟩
noncomputable def j_De_sizeTold_104 (k21 : Int32 → Int32 → Int32 → Int32 → Int32 → Int32 → PM → Option (Int32 × PM)) (x1 : Int32) (x2 : Int32) (x3 : Int32) (x6 : Int32) (x7 : Int32) (s0 : Int32) (P : PM) : Option (Int32 × PM) := k21 x1 x2 x3 x7 s0 (x6 + (1 : Int32)) P
noncomputable def j_De_sizeTold_71 (k21 : Int32 → Int32 → Int32 → Int32 → Int32 → Int32 → PM → Option (Int32 × PM)) (x1 : Int32) (x2 : Int32) (x3 : Int32) (x4 : Int32) (x5 : Int32) (x6 : Int32) (x7 : Int32) (s0 : Int32) (P : PM) : Option (Int32 × PM) := if (f_Sa_isAsleep 21 x7 P) = (0 : Int32) then (bd2 (f_Ne_carried 14 x4 x5 x7 s0 P) (fun v2 P3 => j_De_sizeTold_104 k21 x1 x2 x3 x6 x7 v2 P3)) else (j_De_sizeTold_104 k21 x1 x2 x3 x6 x7 (-1 : Int32) P)
noncomputable def l_De_sizeTold_21 : Nat → Int32 → Int32 → Int32 → Int32 → Int32 → Int32 → PM → Option (Int32 × PM)
  | 0, _, _, _, _, _, _, _ => none
  | n + 1, x1, x2, x3, x4, x5, x6, P => (f_Tr_lengthOf x1 P).bind (fun v1 => if v1 ≤ x6 then (some (x5, P)) else (if x5 ≤ (0 : Int32) then (some (x5, P)) else ((f_Tr_numberAt x1 x6 P).bind (fun v4 => lb (v4.toInt32) (fun y5 => if y5 = x2 then (j_De_sizeTold_71 (fun z0 z1 z2 z3 z4 z5 Pz => l_De_sizeTold_21 n z0 z1 z2 z3 z4 z5 Pz) x1 x2 x3 x4 x5 x6 y5 x3 P) else ((f_Sa_dullOf 21 y5 P).bind (fun v7 => j_De_sizeTold_71 (fun z0 z1 z2 z3 z4 z5 Pz => l_De_sizeTold_21 n z0 z1 z2 z3 z4 z5 Pz) x1 x2 x3 x4 x5 x6 y5 v7 P)))))))
noncomputable def f_De_sizeTold (a1 : Int32) (a2 : Int32) (a3 : Int32) (P : PM) : Option (Int32 × PM) := lb (P.1 21 0) (fun y1 => lb (P.1 21 1) (fun y2 => l_De_sizeTold_21 FU a1 a2 a3 y1 y2 (0 : Int32) P))
theorem t_j_De_sizeTold_104 {G : GX} (hG : GOK G) {E : EV} (hE : E0 E) (d : Nat) (hd : 4 ≤ d) {Q : QT} (k21 : Int32 → Int32 → Int32 → Int32 → Int32 → Int32 → PM → Option (Int32 × PM)) (hk21 : ∀ (x1 : Int32) (x2 : Int32) (x3 : Int32) (x4 : Int32) (x5 : Int32) (x6 : Int32) (P : PM), St E rIP (k21 x1 x2 x3 x4 x5 x6 P) Q → Go G c_De_sizeTold "YawnRoute$Deeds" 9 (some .int) false d nOb nOb Q 21 [(0, .ref (ad E 31)), (1, .int x1), (2, .int x2), (3, .int x3), (4, .int x4), (5, .int x5), (6, .int x6)] [] P E) (x1 : Int32) (x2 : Int32) (x3 : Int32) (x6 : Int32) (x7 : Int32) (s0 : Int32) (P : PM) (h : St E rIP (j_De_sizeTold_104 k21 x1 x2 x3 x6 x7 s0 P) Q) : Go G c_De_sizeTold "YawnRoute$Deeds" 9 (some .int) false d nOb nOb Q 104 [(0, .ref (ad E 31)), (1, .int x1), (2, .int x2), (3, .int x3), (6, .int x6), (7, .int x7)] [.int s0] P E := by
  rw [j_De_sizeTold_104] at h
  refine Go.istore (i := 5) [(5, .int s0), (0, .ref (ad E 31)), (1, .int x1), (2, .int x2), (3, .int x3), (6, .int x6), (7, .int x7)] (by decide +kernel) (by decide) rfl ?_
  refine Go.iload (i := 7) 6 (by decide +kernel) rfl ?_
  refine Go.istore (i := 4) [(4, .int x7), (5, .int s0), (0, .ref (ad E 31)), (1, .int x1), (2, .int x2), (3, .int x3), (6, .int x6), (7, .int x7)] (by decide +kernel) (by decide) rfl ?_
  refine Go.iinc (i := 6) (n := 1) 6 (x6 + (1 : Int32)) [(6, .int (x6 + (1 : Int32))), (4, .int x7), (5, .int s0), (0, .ref (ad E 31)), (1, .int x1), (2, .int x2), (3, .int x3), (7, .int x7)] (by decide +kernel) rfl rfl (by decide) rfl ?_
  refine Go.goto (off := -92) 21 (by decide +kernel) (by decide) ?_
  refine Go.sub [3, 4, 5, 6, 1, 2, 0] [(0, .ref (ad E 31)), (1, .int x1), (2, .int x2), (3, .int x3), (4, .int x7), (5, .int s0), (6, .int (x6 + (1 : Int32)))] rfl ?_
  exact hk21 x1 x2 x3 x7 s0 (x6 + (1 : Int32)) P h
theorem t_j_De_sizeTold_71 {G : GX} (hG : GOK G) {E : EV} (hE : E0 E) (d : Nat) (hd : 4 ≤ d) {Q : QT} (k21 : Int32 → Int32 → Int32 → Int32 → Int32 → Int32 → PM → Option (Int32 × PM)) (hk21 : ∀ (x1 : Int32) (x2 : Int32) (x3 : Int32) (x4 : Int32) (x5 : Int32) (x6 : Int32) (P : PM), St E rIP (k21 x1 x2 x3 x4 x5 x6 P) Q → Go G c_De_sizeTold "YawnRoute$Deeds" 9 (some .int) false d nOb nOb Q 21 [(0, .ref (ad E 31)), (1, .int x1), (2, .int x2), (3, .int x3), (4, .int x4), (5, .int x5), (6, .int x6)] [] P E) (x1 : Int32) (x2 : Int32) (x3 : Int32) (x4 : Int32) (x5 : Int32) (x6 : Int32) (x7 : Int32) (s0 : Int32) (P : PM) (h : St E rIP (j_De_sizeTold_71 k21 x1 x2 x3 x4 x5 x6 x7 s0 P) Q) : Go G c_De_sizeTold "YawnRoute$Deeds" 9 (some .int) false d nOb nOb Q 71 [(0, .ref (ad E 31)), (1, .int x1), (2, .int x2), (3, .int x3), (4, .int x4), (5, .int x5), (6, .int x6), (7, .int x7)] [.int s0] P E := by
  rw [j_De_sizeTold_71] at h
  refine Go.istore (i := 8) [(8, .int s0), (0, .ref (ad E 31)), (1, .int x1), (2, .int x2), (3, .int x3), (4, .int x4), (5, .int x5), (6, .int x6), (7, .int x7)] (by decide +kernel) (by decide) rfl ?_
  refine Go.aload_n (k := 0) (i := 0) 1 (by decide +kernel) rfl rfl ?_
  refine Go.get 31 1 (.ref (ad E 21)) (by decide) (by decide) sh31 (ltO hE sh31) (vlR hE rfl rfl) lk243 (by decide +kernel) ?_
  refine Go.iload (i := 7) 8 (by decide +kernel) rfl ?_
  refine Go.cV_i (P1 := P) (v := (f_Sa_isAsleep 21 x7 P)) (d - 1) 21 [.int x7] sh21 hE w_Sa_isAsleep (e_Sa_isAsleep hG hE (d - 1) (by omega) 21 sh21 x7 P ⟨rfl, rfl, rfl⟩) lk763 rfl (by omega) (Nat.le_of_ble_eq_true rfl) (by decide +kernel) _ rfl ?_
  refine Go.if_eq (off := 7) 89 (by decide +kernel) (by decide) (fun c1 => ?_) (fun c1 => ?_)
  · rw [if_pos c1] at h
    refine Go.aload_n (k := 0) (i := 0) 1 (by decide +kernel) rfl rfl ?_
    refine Go.get 31 0 (.ref (ad E 14)) (by decide) (by decide) sh31 (ltO hE sh31) (vlR hE rfl rfl) lk242 (by decide +kernel) ?_
    refine Go.iload (i := 4) 5 (by decide +kernel) rfl ?_
    refine Go.iload (i := 5) 6 (by decide +kernel) rfl ?_
    refine Go.iload (i := 7) 8 (by decide +kernel) rfl ?_
    refine Go.iload (i := 8) 0 (by decide +kernel) rfl ?_
    obtain ⟨v2, P3, hv2, h⟩ := St.bd2 h
    refine Go.cV_i (P1 := P3) (v := v2) (d - 1) 14 [.int x4, .int x5, .int x7, .int s0] sh14 hE w_Ne_carried (e_Ne_carried hG hE (d - 1) (by omega) 14 sh14 x4 x5 x7 s0 P ⟨_, hv2, rfl, rfl, rfl⟩) lk765 rfl (by omega) (Nat.le_of_ble_eq_true rfl) (by decide +kernel) _ rfl ?_
    refine Go.sub [1, 2, 3, 4, 7, 8] [(0, .ref (ad E 31)), (1, .int x1), (2, .int x2), (3, .int x3), (6, .int x6), (7, .int x7)] rfl ?_
    exact t_j_De_sizeTold_104 hG hE d hd k21 hk21 x1 x2 x3 x6 x7 v2 P3 h
  · rw [if_neg c1] at h
    refine Go.iconst (n := -1) (-1 : Int32) (by decide +kernel) rfl ?_
    refine Go.goto (off := 18) 104 (by decide +kernel) (by decide) ?_
    refine Go.sub [1, 2, 3, 4, 7, 8] [(0, .ref (ad E 31)), (1, .int x1), (2, .int x2), (3, .int x3), (6, .int x6), (7, .int x7)] rfl ?_
    exact t_j_De_sizeTold_104 hG hE d hd k21 hk21 x1 x2 x3 x6 x7 (-1 : Int32) P h
theorem t_l_De_sizeTold_21 {G : GX} (hG : GOK G) {E : EV} (hE : E0 E) (d : Nat) (hd : 4 ≤ d) {Q : QT} : ∀ (n : Nat) (x1 : Int32) (x2 : Int32) (x3 : Int32) (x4 : Int32) (x5 : Int32) (x6 : Int32) (P : PM), St E rIP (l_De_sizeTold_21 n x1 x2 x3 x4 x5 x6 P) Q → Go G c_De_sizeTold "YawnRoute$Deeds" 9 (some .int) false d nOb nOb Q 21 [(0, .ref (ad E 31)), (1, .int x1), (2, .int x2), (3, .int x3), (4, .int x4), (5, .int x5), (6, .int x6)] [] P E := by
  intro n
  induction n with
  | zero =>
    intro x1 x2 x3 x4 x5 x6 P h
    rw [l_De_sizeTold_21] at h
    exact St.none_ h
  | succ n ih =>
    intro x1 x2 x3 x4 x5 x6 P h
    rw [l_De_sizeTold_21] at h
    refine Go.iload (i := 6) 6 (by decide +kernel) rfl ?_
    refine Go.aload_n (k := 0) (i := 0) 0 (by decide +kernel) rfl rfl ?_
    refine Go.get 31 2 (.ref (ad E 23)) (by decide) (by decide) sh31 (ltO hE sh31) (vlR hE rfl rfl) lk244 (by decide +kernel) ?_
    refine Go.iload_n (k := 1) (i := 1) 1 (by decide +kernel) rfl rfl ?_
    obtain ⟨v1, hv1, h⟩ := St.bind h
    refine Go.cV_i (P1 := P) (v := v1) (d - 1) 23 [.int x1] sh23 hE w_Tr_lengthOf (e_Tr_lengthOf hG hE (d - 1) (by omega) x1 P ⟨_, hv1, rfl, rfl, rfl⟩) lk867 rfl (by omega) (Nat.le_of_ble_eq_true rfl) (by decide +kernel) _ rfl ?_
    refine Go.icmp_ge (off := 85) 116 (by decide +kernel) (by decide) (fun c2 => ?_) (fun c2 => ?_)
    · rw [if_pos c2] at h
      refine Go.iload (i := 5) 5 (by decide +kernel) rfl ?_
      exact Go.iret rfl rfl hE.2 (by decide +kernel) (St.fIP h)
    · rw [if_neg c2] at h
      refine Go.iload (i := 5) 5 (by decide +kernel) rfl ?_
      refine Go.if_le (off := 80) 116 (by decide +kernel) (by decide) (fun c3 => ?_) (fun c3 => ?_)
      · rw [if_pos c3] at h
        refine Go.iload (i := 5) 5 (by decide +kernel) rfl ?_
        exact Go.iret rfl rfl hE.2 (by decide +kernel) (St.fIP h)
      · rw [if_neg c3] at h
        refine Go.aload_n (k := 0) (i := 0) 0 (by decide +kernel) rfl rfl ?_
        refine Go.get 31 2 (.ref (ad E 23)) (by decide) (by decide) sh31 (ltO hE sh31) (vlR hE rfl rfl) lk244 (by decide +kernel) ?_
        refine Go.iload_n (k := 1) (i := 1) 1 (by decide +kernel) rfl rfl ?_
        refine Go.iload (i := 6) 6 (by decide +kernel) rfl ?_
        obtain ⟨v4, hv4, h⟩ := St.bind h
        refine Go.cV_l (P1 := P) (v := v4) (d - 1) 23 [.int x1, .int x6] sh23 hE w_Tr_numberAt (e_Tr_numberAt hG hE (d - 1) (by omega) x1 x6 P ⟨_, hv4, rfl, rfl, rfl⟩) lk871 rfl (by omega) (Nat.le_of_ble_eq_true rfl) (by decide +kernel) _ rfl ?_
        refine Go.l2i (by decide +kernel) ?_
        obtain ⟨y5, hy5, h⟩ := St.lb h
        refine Go.eqi y5 hy5 ?_
        refine Go.istore (i := 7) [(7, .int y5), (0, .ref (ad E 31)), (1, .int x1), (2, .int x2), (3, .int x3), (4, .int x4), (5, .int x5), (6, .int x6)] (by decide +kernel) (by decide) rfl ?_
        refine Go.iload (i := 7) 0 (by decide +kernel) rfl ?_
        refine Go.iload_n (k := 2) (i := 2) 3 (by decide +kernel) rfl rfl ?_
        refine Go.icmp_ne (off := 7) 62 (by decide +kernel) (by decide) (fun c6 => ?_) (fun c6 => ?_)
        · rw [if_neg c6] at h
          refine Go.aload_n (k := 0) (i := 0) 1 (by decide +kernel) rfl rfl ?_
          refine Go.get 31 1 (.ref (ad E 21)) (by decide) (by decide) sh31 (ltO hE sh31) (vlR hE rfl rfl) lk243 (by decide +kernel) ?_
          refine Go.iload (i := 7) 0 (by decide +kernel) rfl ?_
          obtain ⟨v7, hv7, h⟩ := St.bind h
          refine Go.cV_i (P1 := P) (v := v7) (d - 1) 21 [.int y5] sh21 hE w_Sa_dullOf (e_Sa_dullOf hG hE (d - 1) (by omega) 21 sh21 y5 P ⟨_, hv7, rfl, rfl, rfl⟩) lk764 rfl (by omega) (Nat.le_of_ble_eq_true rfl) (by decide +kernel) _ rfl ?_
          refine Go.sub [1, 2, 3, 4, 5, 6, 7, 0] [(0, .ref (ad E 31)), (1, .int x1), (2, .int x2), (3, .int x3), (4, .int x4), (5, .int x5), (6, .int x6), (7, .int y5)] rfl ?_
          exact t_j_De_sizeTold_71 hG hE d hd (fun z0 z1 z2 z3 z4 z5 Pz => l_De_sizeTold_21 n z0 z1 z2 z3 z4 z5 Pz) (fun z0 z1 z2 z3 z4 z5 Pz q => ih z0 z1 z2 z3 z4 z5 Pz q) x1 x2 x3 x4 x5 x6 y5 v7 P h
        · rw [if_pos c6] at h
          refine Go.iload_n (k := 3) (i := 3) 4 (by decide +kernel) rfl rfl ?_
          refine Go.goto (off := 12) 71 (by decide +kernel) (by decide) ?_
          refine Go.sub [1, 2, 3, 4, 5, 6, 7, 0] [(0, .ref (ad E 31)), (1, .int x1), (2, .int x2), (3, .int x3), (4, .int x4), (5, .int x5), (6, .int x6), (7, .int y5)] rfl ?_
          exact t_j_De_sizeTold_71 hG hE d hd (fun z0 z1 z2 z3 z4 z5 Pz => l_De_sizeTold_21 n z0 z1 z2 z3 z4 z5 Pz) (fun z0 z1 z2 z3 z4 z5 Pz q => ih z0 z1 z2 z3 z4 z5 Pz q) x1 x2 x3 x4 x5 x6 y5 x3 P h
theorem t_f_De_sizeTold {G : GX} (hG : GOK G) {E : EV} (hE : E0 E) (d : Nat) (hd : 4 ≤ d) {Q : QT} (a1 : Int32) (a2 : Int32) (a3 : Int32) (P : PM) (h : St E rIP (f_De_sizeTold a1 a2 a3 P) Q) : Go G c_De_sizeTold "YawnRoute$Deeds" 9 (some .int) false d nOb nOb Q 0 [(0, .ref (ad E 31)), (1, .int a1), (2, .int a2), (3, .int a3)] [] P E := by
  rw [f_De_sizeTold] at h
  refine Go.aload_n (k := 0) (i := 0) 0 (by decide +kernel) rfl rfl ?_
  refine Go.get 31 1 (.ref (ad E 21)) (by decide) (by decide) sh31 (ltO hE sh31) (vlR hE rfl rfl) lk243 (by decide +kernel) ?_
  refine Go.get 21 0 (.int (P.1 21 0)) (by decide) (by decide) sh21 (ltO hE sh21) rfl lk152 (by decide +kernel) ?_
  obtain ⟨y1, hy1, h⟩ := St.lb h
  refine Go.eqi y1 hy1 ?_
  refine Go.istore (i := 4) [(4, .int y1), (0, .ref (ad E 31)), (1, .int a1), (2, .int a2), (3, .int a3)] (by decide +kernel) (by decide) rfl ?_
  refine Go.aload_n (k := 0) (i := 0) 1 (by decide +kernel) rfl rfl ?_
  refine Go.get 31 1 (.ref (ad E 21)) (by decide) (by decide) sh31 (ltO hE sh31) (vlR hE rfl rfl) lk243 (by decide +kernel) ?_
  refine Go.get 21 1 (.int (P.1 21 1)) (by decide) (by decide) sh21 (ltO hE sh21) rfl lk157 (by decide +kernel) ?_
  obtain ⟨y2, hy2, h⟩ := St.lb h
  refine Go.eqi y2 hy2 ?_
  refine Go.istore (i := 5) [(5, .int y2), (4, .int y1), (0, .ref (ad E 31)), (1, .int a1), (2, .int a2), (3, .int a3)] (by decide +kernel) (by decide) rfl ?_
  refine Go.iconst (n := 0) (0 : Int32) (by decide +kernel) rfl ?_
  refine Go.istore (i := 6) [(6, .int (0 : Int32)), (5, .int y2), (4, .int y1), (0, .ref (ad E 31)), (1, .int a1), (2, .int a2), (3, .int a3)] (by decide +kernel) (by decide) rfl ?_
  refine Go.sub [3, 4, 5, 6, 2, 1, 0] [(0, .ref (ad E 31)), (1, .int a1), (2, .int a2), (3, .int a3), (4, .int y1), (5, .int y2), (6, .int (0 : Int32))] rfl ?_
  exact t_l_De_sizeTold_21 hG hE d hd FU a1 a2 a3 y1 y2 (0 : Int32) P h
theorem e_De_sizeTold {G : GX} (hG : GOK G) {E : EV} (hE : E0 E) (d : Nat) (hd : 4 ≤ d) (a1 : Int32) (a2 : Int32) (a3 : Int32) (P : PM) {Q : QT} (h : St E rIP (f_De_sizeTold a1 a2 a3 P) Q) : Con G y_De_sizeTold cw_De_sizeTold d nOb nOb [.ref (ad E 31), .int a1, .int a2, .int a3] P E Q :=
  Con.of hG (by decide +kernel) rfl (fun h => by cases h) hE.2 (Nat.le_of_ble_eq_true rfl) (t_f_De_sizeTold hG hE d hd a1 a2 a3 P h)
abbrev c_De_dullsTold : ByteArray := prog_2_method_18_code
abbrev y_De_dullsTold : MethodName := ⟨"YawnRoute$Deeds", "dullsTold", "(III)I"⟩
abbrev cw_De_dullsTold : Cond := .code y_De_dullsTold c_De_dullsTold 6 (some .int)
theorem w_De_dullsTold : VW 0 y_De_dullsTold c_De_dullsTold 6 (some .int) 3 := ⟨by decide, lk1202, lk1203, lk8, lk1204, ⟨by decide, by decide, by decide +kernel⟩, by decide⟩
noncomputable def j_De_dullsTold_35 (k6 : Int32 → Int32 → Int32 → Int32 → Int32 → PM → Option (Int32 × PM)) (x1 : Int32) (x2 : Int32) (x3 : Int32) (x5 : Int32) (s0 : Int32) (s1 : Int32) (P : PM) : Option (Int32 × PM) := lb (s0 ||| s1) (fun y1 => k6 x1 x2 x3 y1 (x5 + (1 : Int32)) P)
noncomputable def l_De_dullsTold_6 : Nat → Int32 → Int32 → Int32 → Int32 → Int32 → PM → Option (Int32 × PM)
  | 0, _, _, _, _, _, _ => none
  | n + 1, x1, x2, x3, x4, x5, P => if (10 : Int32) ≤ x5 then (some (x4, P)) else (bd2 (f_De_sizeTold x1 x2 x5 P) (fun v2 P3 => if v2 = x3 then (j_De_dullsTold_35 (fun z0 z1 z2 z3 z4 Pz => l_De_dullsTold_6 n z0 z1 z2 z3 z4 Pz) x1 x2 x3 x5 x4 ((1 : Int32) <<< (x5 &&& 31)) P3) else (j_De_dullsTold_35 (fun z0 z1 z2 z3 z4 Pz => l_De_dullsTold_6 n z0 z1 z2 z3 z4 Pz) x1 x2 x3 x5 x4 (0 : Int32) P3)))
noncomputable def f_De_dullsTold (a1 : Int32) (a2 : Int32) (a3 : Int32) (P : PM) : Option (Int32 × PM) := l_De_dullsTold_6 FU a1 a2 a3 (0 : Int32) (0 : Int32) P
theorem t_j_De_dullsTold_35 {G : GX} (hG : GOK G) {E : EV} (hE : E0 E) (d : Nat) (hd : 5 ≤ d) {Q : QT} (k6 : Int32 → Int32 → Int32 → Int32 → Int32 → PM → Option (Int32 × PM)) (hk6 : ∀ (x1 : Int32) (x2 : Int32) (x3 : Int32) (x4 : Int32) (x5 : Int32) (P : PM), St E rIP (k6 x1 x2 x3 x4 x5 P) Q → Go G c_De_dullsTold "YawnRoute$Deeds" 6 (some .int) false d nOb nOb Q 6 [(0, .ref (ad E 31)), (1, .int x1), (2, .int x2), (3, .int x3), (4, .int x4), (5, .int x5)] [] P E) (x1 : Int32) (x2 : Int32) (x3 : Int32) (x5 : Int32) (s0 : Int32) (s1 : Int32) (P : PM) (h : St E rIP (j_De_dullsTold_35 k6 x1 x2 x3 x5 s0 s1 P) Q) : Go G c_De_dullsTold "YawnRoute$Deeds" 6 (some .int) false d nOb nOb Q 35 [(0, .ref (ad E 31)), (1, .int x1), (2, .int x2), (3, .int x3), (5, .int x5)] [.int s1, .int s0] P E := by
  rw [j_De_dullsTold_35] at h
  refine Go.ior (by decide +kernel) ?_
  obtain ⟨y1, hy1, h⟩ := St.lb h
  refine Go.eqi y1 hy1 ?_
  refine Go.istore (i := 4) [(4, .int y1), (0, .ref (ad E 31)), (1, .int x1), (2, .int x2), (3, .int x3), (5, .int x5)] (by decide +kernel) (by decide) rfl ?_
  refine Go.iinc (i := 5) (n := 1) 5 (x5 + (1 : Int32)) [(5, .int (x5 + (1 : Int32))), (4, .int y1), (0, .ref (ad E 31)), (1, .int x1), (2, .int x2), (3, .int x3)] (by decide +kernel) rfl rfl (by decide) rfl ?_
  refine Go.goto (off := -35) 6 (by decide +kernel) (by decide) ?_
  refine Go.sub [2, 3, 4, 5, 1, 0] [(0, .ref (ad E 31)), (1, .int x1), (2, .int x2), (3, .int x3), (4, .int y1), (5, .int (x5 + (1 : Int32)))] rfl ?_
  exact hk6 x1 x2 x3 y1 (x5 + (1 : Int32)) P h
theorem t_l_De_dullsTold_6 {G : GX} (hG : GOK G) {E : EV} (hE : E0 E) (d : Nat) (hd : 5 ≤ d) {Q : QT} : ∀ (n : Nat) (x1 : Int32) (x2 : Int32) (x3 : Int32) (x4 : Int32) (x5 : Int32) (P : PM), St E rIP (l_De_dullsTold_6 n x1 x2 x3 x4 x5 P) Q → Go G c_De_dullsTold "YawnRoute$Deeds" 6 (some .int) false d nOb nOb Q 6 [(0, .ref (ad E 31)), (1, .int x1), (2, .int x2), (3, .int x3), (4, .int x4), (5, .int x5)] [] P E := by
  intro n
  induction n with
  | zero =>
    intro x1 x2 x3 x4 x5 P h
    rw [l_De_dullsTold_6] at h
    exact St.none_ h
  | succ n ih =>
    intro x1 x2 x3 x4 x5 P h
    rw [l_De_dullsTold_6] at h
    refine Go.iload (i := 5) 5 (by decide +kernel) rfl ?_
    refine Go.bipush (n := 10) (10 : Int32) (by decide +kernel) (by decide) ?_
    refine Go.icmp_ge (off := 34) 44 (by decide +kernel) (by decide) (fun c1 => ?_) (fun c1 => ?_)
    · rw [if_pos c1] at h
      refine Go.iload (i := 4) 4 (by decide +kernel) rfl ?_
      exact Go.iret rfl rfl hE.2 (by decide +kernel) (St.fIP h)
    · rw [if_neg c1] at h
      refine Go.iload (i := 4) 4 (by decide +kernel) rfl ?_
      refine Go.aload_n (k := 0) (i := 0) 0 (by decide +kernel) rfl rfl ?_
      refine Go.iload_n (k := 1) (i := 1) 1 (by decide +kernel) rfl rfl ?_
      refine Go.iload_n (k := 2) (i := 2) 2 (by decide +kernel) rfl rfl ?_
      refine Go.iload (i := 5) 5 (by decide +kernel) rfl ?_
      obtain ⟨v2, P3, hv2, h⟩ := St.bd2 h
      refine Go.cV_i (P1 := P3) (v := v2) (d - 1) 31 [.int x1, .int x2, .int x5] sh31 hE w_De_sizeTold (e_De_sizeTold hG hE (d - 1) (by omega) x1 x2 x5 P ⟨_, hv2, rfl, rfl, rfl⟩) lk1205 rfl (by omega) (Nat.le_of_ble_eq_true rfl) (by decide +kernel) _ rfl ?_
      refine Go.iload_n (k := 3) (i := 3) 3 (by decide +kernel) rfl rfl ?_
      refine Go.icmp_ne (off := 10) 34 (by decide +kernel) (by decide) (fun c4 => ?_) (fun c4 => ?_)
      · rw [if_neg c4] at h
        refine Go.iconst (n := 0) (0 : Int32) (by decide +kernel) rfl ?_
        refine Go.sub [0, 1, 2, 3, 5] [(0, .ref (ad E 31)), (1, .int x1), (2, .int x2), (3, .int x3), (5, .int x5)] rfl ?_
        exact t_j_De_dullsTold_35 hG hE d hd (fun z0 z1 z2 z3 z4 Pz => l_De_dullsTold_6 n z0 z1 z2 z3 z4 Pz) (fun z0 z1 z2 z3 z4 Pz q => ih z0 z1 z2 z3 z4 Pz q) x1 x2 x3 x5 x4 (0 : Int32) P3 h
      · rw [if_pos c4] at h
        refine Go.iconst (n := 1) (1 : Int32) (by decide +kernel) rfl ?_
        refine Go.iload (i := 5) 5 (by decide +kernel) rfl ?_
        refine Go.ishl (by decide +kernel) ?_
        refine Go.goto (off := 4) 35 (by decide +kernel) (by decide) ?_
        refine Go.sub [0, 1, 2, 3, 5] [(0, .ref (ad E 31)), (1, .int x1), (2, .int x2), (3, .int x3), (5, .int x5)] rfl ?_
        exact t_j_De_dullsTold_35 hG hE d hd (fun z0 z1 z2 z3 z4 Pz => l_De_dullsTold_6 n z0 z1 z2 z3 z4 Pz) (fun z0 z1 z2 z3 z4 Pz q => ih z0 z1 z2 z3 z4 Pz q) x1 x2 x3 x5 x4 ((1 : Int32) <<< (x5 &&& 31)) P3 h
theorem t_f_De_dullsTold {G : GX} (hG : GOK G) {E : EV} (hE : E0 E) (d : Nat) (hd : 5 ≤ d) {Q : QT} (a1 : Int32) (a2 : Int32) (a3 : Int32) (P : PM) (h : St E rIP (f_De_dullsTold a1 a2 a3 P) Q) : Go G c_De_dullsTold "YawnRoute$Deeds" 6 (some .int) false d nOb nOb Q 0 [(0, .ref (ad E 31)), (1, .int a1), (2, .int a2), (3, .int a3)] [] P E := by
  rw [f_De_dullsTold] at h
  refine Go.iconst (n := 0) (0 : Int32) (by decide +kernel) rfl ?_
  refine Go.istore (i := 4) [(4, .int (0 : Int32)), (0, .ref (ad E 31)), (1, .int a1), (2, .int a2), (3, .int a3)] (by decide +kernel) (by decide) rfl ?_
  refine Go.iconst (n := 0) (0 : Int32) (by decide +kernel) rfl ?_
  refine Go.istore (i := 5) [(5, .int (0 : Int32)), (4, .int (0 : Int32)), (0, .ref (ad E 31)), (1, .int a1), (2, .int a2), (3, .int a3)] (by decide +kernel) (by decide) rfl ?_
  refine Go.sub [2, 3, 4, 5, 1, 0] [(0, .ref (ad E 31)), (1, .int a1), (2, .int a2), (3, .int a3), (4, .int (0 : Int32)), (5, .int (0 : Int32))] rfl ?_
  exact t_l_De_dullsTold_6 hG hE d hd FU a1 a2 a3 (0 : Int32) (0 : Int32) P h
theorem e_De_dullsTold {G : GX} (hG : GOK G) {E : EV} (hE : E0 E) (d : Nat) (hd : 5 ≤ d) (a1 : Int32) (a2 : Int32) (a3 : Int32) (P : PM) {Q : QT} (h : St E rIP (f_De_dullsTold a1 a2 a3 P) Q) : Con G y_De_dullsTold cw_De_dullsTold d nOb nOb [.ref (ad E 31), .int a1, .int a2, .int a3] P E Q :=
  Con.of hG (by decide +kernel) rfl (fun h => by cases h) hE.2 (Nat.le_of_ble_eq_true rfl) (t_f_De_dullsTold hG hE d hd a1 a2 a3 P h)
abbrev c_De_tellsStations : ByteArray := prog_2_method_17_code
abbrev y_De_tellsStations : MethodName := ⟨"YawnRoute$Deeds", "tellsStations", "(I)Z"⟩
abbrev cw_De_tellsStations : Cond := .code y_De_tellsStations c_De_tellsStations 5 (some .boolean)
theorem w_De_tellsStations : VW 0 y_De_tellsStations c_De_tellsStations 5 (some .boolean) 1 := ⟨by decide, lk1198, lk1199, lk8, lk1200, ⟨by decide, by decide, by decide +kernel⟩, by decide⟩
noncomputable def l_De_tellsStations_2 : Nat → Int32 → Int32 → PM → Option Int32
  | 0, _, _, _ => none
  | n + 1, x1, x2, P => (f_Tr_lengthOf x1 P).bind (fun v1 => if v1 ≤ x2 then (some (1 : Int32)) else ((f_Tr_numberAt x1 x2 P).bind (fun v3 => if (lg_cmp v3 (0 : Int64)) < (0 : Int32) then (some (0 : Int32)) else (if (lg_cmp v3 ((P.1 14 0).toInt64)) < (0 : Int32) then (l_De_tellsStations_2 n x1 (x2 + (1 : Int32)) P) else (some (0 : Int32))))))
noncomputable def f_De_tellsStations (a1 : Int32) (P : PM) : Option Int32 := l_De_tellsStations_2 FU a1 (0 : Int32) P
theorem t_l_De_tellsStations_2 {G : GX} (hG : GOK G) {E : EV} (hE : E0 E) (d : Nat) (hd : 3 ≤ d) {P : PM} {Q : QT} : ∀ (n : Nat) (x1 : Int32) (x2 : Int32), St E (rI P) (l_De_tellsStations_2 n x1 x2 P) Q → Go G c_De_tellsStations "YawnRoute$Deeds" 5 (some .boolean) false d nOb nOb Q 2 [(0, .ref (ad E 31)), (1, .int x1), (2, .int x2)] [] P E := by
  intro n
  induction n with
  | zero =>
    intro x1 x2 h
    rw [l_De_tellsStations_2] at h
    exact St.none_ h
  | succ n ih =>
    intro x1 x2 h
    rw [l_De_tellsStations_2] at h
    refine Go.iload_n (k := 2) (i := 2) 2 (by decide +kernel) rfl rfl ?_
    refine Go.aload_n (k := 0) (i := 0) 0 (by decide +kernel) rfl rfl ?_
    refine Go.get 31 2 (.ref (ad E 23)) (by decide) (by decide) sh31 (ltO hE sh31) (vlR hE rfl rfl) lk244 (by decide +kernel) ?_
    refine Go.iload_n (k := 1) (i := 1) 1 (by decide +kernel) rfl rfl ?_
    obtain ⟨v1, hv1, h⟩ := St.bind h
    refine Go.cV_i (P1 := P) (v := v1) (d - 1) 23 [.int x1] sh23 hE w_Tr_lengthOf (e_Tr_lengthOf hG hE (d - 1) (by omega) x1 P ⟨_, hv1, rfl, rfl, rfl⟩) lk867 rfl (by omega) (Nat.le_of_ble_eq_true rfl) (by decide +kernel) _ rfl ?_
    refine Go.icmp_ge (off := 40) 51 (by decide +kernel) (by decide) (fun c2 => ?_) (fun c2 => ?_)
    · rw [if_pos c2] at h
      refine Go.iconst (n := 1) (1 : Int32) (by decide +kernel) rfl ?_
      exact Go.iret rfl rfl hE.2 (by decide +kernel) (St.fI h)
    · rw [if_neg c2] at h
      refine Go.aload_n (k := 0) (i := 0) 0 (by decide +kernel) rfl rfl ?_
      refine Go.get 31 2 (.ref (ad E 23)) (by decide) (by decide) sh31 (ltO hE sh31) (vlR hE rfl rfl) lk244 (by decide +kernel) ?_
      refine Go.iload_n (k := 1) (i := 1) 1 (by decide +kernel) rfl rfl ?_
      refine Go.iload_n (k := 2) (i := 2) 2 (by decide +kernel) rfl rfl ?_
      obtain ⟨v3, hv3, h⟩ := St.bind h
      refine Go.cV_l (P1 := P) (v := v3) (d - 1) 23 [.int x1, .int x2] sh23 hE w_Tr_numberAt (e_Tr_numberAt hG hE (d - 1) (by omega) x1 x2 P ⟨_, hv3, rfl, rfl, rfl⟩) lk871 rfl (by omega) (Nat.le_of_ble_eq_true rfl) (by decide +kernel) _ rfl ?_
      refine Go.lstore_n (k := 3) (i := 3) [(3, .long v3), (0, .ref (ad E 31)), (1, .int x1), (2, .int x2)] (by decide +kernel) rfl (by decide) rfl ?_
      refine Go.lload_n (k := 3) (i := 3) 0 (by decide +kernel) rfl rfl ?_
      refine Go.lconst (n := 0) (0 : Int64) (by decide +kernel) rfl ?_
      refine Go.lcmp (by decide +kernel) ?_
      refine Go.if_lt (off := 16) 43 (by decide +kernel) (by decide) (fun c4 => ?_) (fun c4 => ?_)
      · rw [if_pos c4] at h
        refine Go.iconst (n := 0) (0 : Int32) (by decide +kernel) rfl ?_
        exact Go.iret rfl rfl hE.2 (by decide +kernel) (St.fI h)
      · rw [if_neg c4] at h
        refine Go.lload_n (k := 3) (i := 3) 0 (by decide +kernel) rfl rfl ?_
        refine Go.aload_n (k := 0) (i := 0) 1 (by decide +kernel) rfl rfl ?_
        refine Go.get 31 0 (.ref (ad E 14)) (by decide) (by decide) sh31 (ltO hE sh31) (vlR hE rfl rfl) lk242 (by decide +kernel) ?_
        refine Go.get 14 0 (.int (P.1 14 0)) (by decide) (by decide) sh14 (ltO hE sh14) rfl lk92 (by decide +kernel) ?_
        refine Go.i2l (by decide +kernel) ?_
        refine Go.lcmp (by decide +kernel) ?_
        refine Go.if_lt (off := 5) 45 (by decide +kernel) (by decide) (fun c5 => ?_) (fun c5 => ?_)
        · rw [if_pos c5] at h
          refine Go.iinc (i := 2) (n := 1) 3 (x2 + (1 : Int32)) [(2, .int (x2 + (1 : Int32))), (3, .long v3), (0, .ref (ad E 31)), (1, .int x1)] (by decide +kernel) rfl rfl (by decide) rfl ?_
          refine Go.goto (off := -46) 2 (by decide +kernel) (by decide) ?_
          refine Go.sub [2, 3, 0] [(0, .ref (ad E 31)), (1, .int x1), (2, .int (x2 + (1 : Int32)))] rfl ?_
          exact ih x1 (x2 + (1 : Int32)) h
        · rw [if_neg c5] at h
          refine Go.iconst (n := 0) (0 : Int32) (by decide +kernel) rfl ?_
          exact Go.iret rfl rfl hE.2 (by decide +kernel) (St.fI h)
theorem t_f_De_tellsStations {G : GX} (hG : GOK G) {E : EV} (hE : E0 E) (d : Nat) (hd : 3 ≤ d) {P : PM} {Q : QT} (a1 : Int32) (h : St E (rI P) (f_De_tellsStations a1 P) Q) : Go G c_De_tellsStations "YawnRoute$Deeds" 5 (some .boolean) false d nOb nOb Q 0 [(0, .ref (ad E 31)), (1, .int a1)] [] P E := by
  rw [f_De_tellsStations] at h
  refine Go.iconst (n := 0) (0 : Int32) (by decide +kernel) rfl ?_
  refine Go.istore_n (k := 2) (i := 2) [(2, .int (0 : Int32)), (0, .ref (ad E 31)), (1, .int a1)] (by decide +kernel) rfl (by decide) rfl ?_
  refine Go.sub [1, 2, 0] [(0, .ref (ad E 31)), (1, .int a1), (2, .int (0 : Int32))] rfl ?_
  exact t_l_De_tellsStations_2 hG hE d hd FU a1 (0 : Int32) h
theorem e_De_tellsStations {G : GX} (hG : GOK G) {E : EV} (hE : E0 E) (d : Nat) (hd : 3 ≤ d) (a1 : Int32) (P : PM) {Q : QT} (h : St E (rI P) (f_De_tellsStations a1 P) Q) : Con G y_De_tellsStations cw_De_tellsStations d nOb nOb [.ref (ad E 31), .int a1] P E Q :=
  Con.of hG (by decide +kernel) rfl (fun h => by cases h) hE.2 (Nat.le_of_ble_eq_true rfl) (t_f_De_tellsStations hG hE d hd a1 h)
