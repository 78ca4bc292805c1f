/-! methods as functions, by program: Yr_refusalTold Yr_dulls De_mostAlike De_bestToTry Yr_attempt Yr_forces Yr_best -/
abbrev c_Yr_refusalTold : ByteArray := prog_1_method_47_code
abbrev y_Yr_refusalTold : MethodName := ⟨"YawnRoute", "refusalTold", "(III)I"⟩
abbrev cw_Yr_refusalTold : Cond := .code y_Yr_refusalTold c_Yr_refusalTold 4 (some .int)
theorem w_Yr_refusalTold : VW 11 y_Yr_refusalTold c_Yr_refusalTold 4 (some .int) 3 := ⟨by decide, lk1195, lp42_, lk1, lk1196, ⟨by decide, by decide, by decide +kernel⟩, by decide⟩
noncomputable def j_Yr_refusalTold_91 (s1 : Int32) (P : PM) : Option Int32 := some (f_Yr_refusal s1 (0 : Int32) P)
noncomputable def f_Yr_refusalTold (a1 : Int32) (a2 : Int32) (a3 : Int32) (P : PM) : Option Int32 := if (f_Tr_isTray a1 P) = (0 : Int32) then (some (-2 : Int32)) else (if (f_Ne_isStation 14 a2 P) = (0 : Int32) then (some (-2 : Int32)) else ((f_Tr_isMissing a1 P).bind (fun v3 => if v3 = (0 : Int32) then ((f_Tr_lengthOf a1 P).bind (fun v5 => if v5 < (1 : Int32) then (some (-4 : Int32)) else ((f_Tr_lengthOf a1 P).bind (fun v7 => if v7 ≤ (10 : Int32) then (if (f_Yr_isSize a3 P) = (0 : Int32) then (j_Yr_refusalTold_91 (1 : Int32) P) else ((f_De_tellsStations a1 P).bind (fun v10 => if v10 = (0 : Int32) then (j_Yr_refusalTold_91 (1 : Int32) P) else (some (f_Yr_refusal (1 : Int32) (1 : Int32) P))))) else (some (-4 : Int32)))))) else (some (-6 : Int32)))))
theorem t_j_Yr_refusalTold_91 {G : GX} (hG : GOK G) {E : EV} (hE : E0 E) (d : Nat) (hd : 4 ≤ d) {P : PM} {Q : QT} (s1 : Int32) (h : St E (rI P) (j_Yr_refusalTold_91 s1 P) Q) : Go G c_Yr_refusalTold "YawnRoute" 4 (some .int) false d nOb nOb Q 91 [] [.int s1, .ref (ad E 0)] P E := by
  rw [j_Yr_refusalTold_91] at h
  refine Go.iconst (n := 0) (0 : Int32) (by decide +kernel) rfl ?_
  refine Go.cV_i (P1 := P) (v := (f_Yr_refusal s1 (0 : Int32) P)) (d - 1) 0 [.int s1, .int (0 : Int32)] sh0 hE w_Yr_refusal (e_Yr_refusal hG hE (d - 1) (by omega) s1 (0 : Int32) P ⟨rfl, rfl, rfl⟩) lk912 rfl (by omega) (Nat.le_of_ble_eq_true rfl) (by decide +kernel) _ rfl ?_
  exact Go.iret rfl rfl hE.2 (by decide +kernel) (St.fI h)
theorem t_f_Yr_refusalTold {G : GX} (hG : GOK G) {E : EV} (hE : E0 E) (d : Nat) (hd : 4 ≤ d) {P : PM} {Q : QT} (a1 : Int32) (a2 : Int32) (a3 : Int32) (h : St E (rI P) (f_Yr_refusalTold a1 a2 a3 P) Q) : Go G c_Yr_refusalTold "YawnRoute" 4 (some .int) false d nOb nOb Q 0 [(0, .ref (ad E 0)), (1, .int a1), (2, .int a2), (3, .int a3)] [] P E := by
  rw [f_Yr_refusalTold] at h
  refine Go.aload_n (k := 0) (i := 0) 0 (by decide +kernel) rfl rfl ?_
  refine Go.get 0 4 (.ref (ad E 23)) (by decide) (by decide) sh0 (ltO hE sh0) (vlR hE rfl rfl) lk394 (by decide +kernel) ?_
  refine Go.iload_n (k := 1) (i := 1) 1 (by decide +kernel) rfl rfl ?_
  refine Go.cV_i (P1 := P) (v := (f_Tr_isTray a1 P)) (d - 1) 23 [.int a1] sh23 hE w_Tr_isTray (e_Tr_isTray hG hE (d - 1) (by omega) a1 P ⟨rfl, rfl, rfl⟩) lk850 rfl (by omega) (Nat.le_of_ble_eq_true rfl) (by decide +kernel) _ rfl ?_
  refine Go.if_eq (off := 14) 22 (by decide +kernel) (by decide) (fun c1 => ?_) (fun c1 => ?_)
  · rw [if_pos c1] at h
    refine Go.bipush (n := -2) (-2 : Int32) (by decide +kernel) (by decide) ?_
    exact Go.iret rfl rfl hE.2 (by decide +kernel) (St.fI h)
  · rw [if_neg c1] at h
    refine Go.aload_n (k := 0) (i := 0) 0 (by decide +kernel) rfl rfl ?_
    refine Go.get 0 2 (.ref (ad E 14)) (by decide) (by decide) sh0 (ltO hE sh0) (vlR hE rfl rfl) lk392 (by decide +kernel) ?_
    refine Go.iload_n (k := 2) (i := 2) 2 (by decide +kernel) rfl rfl ?_
    refine Go.cV_i (P1 := P) (v := (f_Ne_isStation 14 a2 P)) (d - 1) 14 [.int a2] sh14 hE w_Ne_isStation (e_Ne_isStation hG hE (d - 1) (by omega) 14 sh14 a2 P ⟨rfl, rfl, rfl⟩) lk726 rfl (by omega) (Nat.le_of_ble_eq_true rfl) (by decide +kernel) _ rfl ?_
    refine Go.if_ne (off := 6) 25 (by decide +kernel) (by decide) (fun c2 => ?_) (fun c2 => ?_)
    · rw [if_neg c2] at h
      refine Go.aload_n (k := 0) (i := 0) 0 (by decide +kernel) rfl rfl ?_
      refine Go.get 0 4 (.ref (ad E 23)) (by decide) (by decide) sh0 (ltO hE sh0) (vlR hE rfl rfl) lk394 (by decide +kernel) ?_
      refine Go.iload_n (k := 1) (i := 1) 1 (by decide +kernel) rfl rfl ?_
      obtain ⟨v3, hv3, h⟩ := St.bind h
      refine Go.cV_i (P1 := P) (v := v3) (d - 1) 23 [.int a1] sh23 hE w_Tr_isMissing (e_Tr_isMissing hG hE (d - 1) (by omega) a1 P ⟨_, hv3, rfl, rfl, rfl⟩) lk854 rfl (by omega) (Nat.le_of_ble_eq_true rfl) (by decide +kernel) _ rfl ?_
      refine Go.if_eq (off := 6) 39 (by decide +kernel) (by decide) (fun c4 => ?_) (fun c4 => ?_)
      · rw [if_pos c4] at h
        refine Go.aload_n (k := 0) (i := 0) 0 (by decide +kernel) rfl rfl ?_
        refine Go.get 0 4 (.ref (ad E 23)) (by decide) (by decide) sh0 (ltO hE sh0) (vlR hE rfl rfl) lk394 (by decide +kernel) ?_
        refine Go.iload_n (k := 1) (i := 1) 1 (by decide +kernel) rfl rfl ?_
        obtain ⟨v5, hv5, h⟩ := St.bind h
        refine Go.cV_i (P1 := P) (v := v5) (d - 1) 23 [.int a1] sh23 hE w_Tr_lengthOf (e_Tr_lengthOf hG hE (d - 1) (by omega) a1 P ⟨_, hv5, rfl, rfl, rfl⟩) lk884 rfl (by omega) (Nat.le_of_ble_eq_true rfl) (by decide +kernel) _ rfl ?_
        refine Go.iconst (n := 1) (1 : Int32) (by decide +kernel) rfl ?_
        refine Go.icmp_lt (off := 16) 64 (by decide +kernel) (by decide) (fun c6 => ?_) (fun c6 => ?_)
        · rw [if_pos c6] at h
          refine Go.bipush (n := -4) (-4 : Int32) (by decide +kernel) (by decide) ?_
          exact Go.iret rfl rfl hE.2 (by decide +kernel) (St.fI h)
        · rw [if_neg c6] at h
          refine Go.aload_n (k := 0) (i := 0) 0 (by decide +kernel) rfl rfl ?_
          refine Go.get 0 4 (.ref (ad E 23)) (by decide) (by decide) sh0 (ltO hE sh0) (vlR hE rfl rfl) lk394 (by decide +kernel) ?_
          refine Go.iload_n (k := 1) (i := 1) 1 (by decide +kernel) rfl rfl ?_
          obtain ⟨v7, hv7, h⟩ := St.bind h
          refine Go.cV_i (P1 := P) (v := v7) (d - 1) 23 [.int a1] sh23 hE w_Tr_lengthOf (e_Tr_lengthOf hG hE (d - 1) (by omega) a1 P ⟨_, hv7, rfl, rfl, rfl⟩) lk884 rfl (by omega) (Nat.le_of_ble_eq_true rfl) (by decide +kernel) _ rfl ?_
          refine Go.bipush (n := 10) (10 : Int32) (by decide +kernel) (by decide) ?_
          refine Go.icmp_le (off := 6) 67 (by decide +kernel) (by decide) (fun c8 => ?_) (fun c8 => ?_)
          · rw [if_pos c8] at h
            refine Go.aload_n (k := 0) (i := 0) 0 (by decide +kernel) rfl rfl ?_
            refine Go.iconst (n := 1) (1 : Int32) (by decide +kernel) rfl ?_
            refine Go.iload_n (k := 3) (i := 3) 3 (by decide +kernel) rfl rfl ?_
            refine Go.cS_i (P1 := P) (v := (f_Yr_isSize a3 P)) (d - 1) [.int a3] hE w_Yr_isSize (e_Yr_isSize hG hE (d - 1) (by omega) a3 P ⟨rfl, rfl, rfl⟩) lk911 rfl (by omega) (Nat.le_of_ble_eq_true rfl) (by decide +kernel) _ rfl ?_
            refine Go.if_eq (off := 18) 91 (by decide +kernel) (by decide) (fun c9 => ?_) (fun c9 => ?_)
            · rw [if_pos c9] at h
              refine Go.sub [] [] rfl ?_
              exact t_j_Yr_refusalTold_91 hG hE d hd (1 : Int32) h
            · rw [if_neg c9] at h
              refine Go.aload_n (k := 0) (i := 0) 0 (by decide +kernel) rfl rfl ?_
              refine Go.get 0 5 (.ref (ad E 31)) (by decide) (by decide) sh0 (ltO hE sh0) (vlR hE rfl rfl) lk395 (by decide +kernel) ?_
              refine Go.iload_n (k := 1) (i := 1) 1 (by decide +kernel) rfl rfl ?_
              obtain ⟨v10, hv10, h⟩ := St.bind h
              refine Go.cV_i (P1 := P) (v := v10) (d - 1) 31 [.int a1] sh31 hE w_De_tellsStations (e_De_tellsStations hG hE (d - 1) (by omega) a1 P ⟨_, hv10, rfl, rfl, rfl⟩) lk1197 rfl (by omega) (Nat.le_of_ble_eq_true rfl) (by decide +kernel) _ rfl ?_
              refine Go.if_eq (off := 7) 91 (by decide +kernel) (by decide) (fun c11 => ?_) (fun c11 => ?_)
              · rw [if_pos c11] at h
                refine Go.sub [] [] rfl ?_
                exact t_j_Yr_refusalTold_91 hG hE d hd (1 : Int32) h
              · rw [if_neg c11] at h
                refine Go.iconst (n := 1) (1 : Int32) (by decide +kernel) rfl ?_
                refine Go.goto (off := 4) 92 (by decide +kernel) (by decide) ?_
                refine Go.cV_i (P1 := P) (v := (f_Yr_refusal (1 : Int32) (1 : Int32) P)) (d - 1) 0 [.int (1 : Int32), .int (1 : Int32)] sh0 hE w_Yr_refusal (e_Yr_refusal hG hE (d - 1) (by omega) (1 : Int32) (1 : Int32) P ⟨rfl, rfl, rfl⟩) lk912 rfl (by omega) (Nat.le_of_ble_eq_true rfl) (by decide +kernel) _ rfl ?_
                exact Go.iret rfl rfl hE.2 (by decide +kernel) (St.fI h)
          · rw [if_neg c8] at h
            refine Go.bipush (n := -4) (-4 : Int32) (by decide +kernel) (by decide) ?_
            exact Go.iret rfl rfl hE.2 (by decide +kernel) (St.fI h)
      · rw [if_neg c4] at h
        refine Go.bipush (n := -6) (-6 : Int32) (by decide +kernel) (by decide) ?_
        exact Go.iret rfl rfl hE.2 (by decide +kernel) (St.fI h)
    · rw [if_pos c2] at h
      refine Go.bipush (n := -2) (-2 : Int32) (by decide +kernel) (by decide) ?_
      exact Go.iret rfl rfl hE.2 (by decide +kernel) (St.fI h)
theorem e_Yr_refusalTold {G : GX} (hG : GOK G) {E : EV} (hE : E0 E) (d : Nat) (hd : 4 ≤ d) (a1 : Int32) (a2 : Int32) (a3 : Int32) (P : PM) {Q : QT} (h : St E (rI P) (f_Yr_refusalTold a1 a2 a3 P) Q) : Con G y_Yr_refusalTold cw_Yr_refusalTold d nOb nOb [.ref (ad E 0), .int a1, .int a2, .int a3] P E Q :=
  Con.of hG (by decide +kernel) rfl (fun h => by cases h) hE.2 (Nat.le_of_ble_eq_true rfl) (t_f_Yr_refusalTold hG hE d hd a1 a2 a3 h)
abbrev c_Yr_dulls : ByteArray := prog_1_method_32_code
abbrev y_Yr_dulls : MethodName := ⟨"YawnRoute", "dulls", "(III)I"⟩
abbrev cw_Yr_dulls : Cond := .code y_Yr_dulls c_Yr_dulls 5 (some .int)
theorem w_Yr_dulls : VW 11 y_Yr_dulls c_Yr_dulls 5 (some .int) 3 := ⟨by decide, lk1190, lk1191, lk1, lk1192, ⟨by decide, by decide, by decide +kernel⟩, by decide⟩
noncomputable def f_Yr_dulls (a1 : Int32) (a2 : Int32) (a3 : Int32) (P : PM) : Option (Int32 × PM) := (f_Yr_refusalTold a1 a2 a3 P).bind (fun v1 => if v1 = (0 : Int32) then (bd2 (f_De_dullsTold a1 a2 a3 P) (fun v3 P4 => some (v3, P4))) else (some (v1, P)))
theorem t_f_Yr_dulls {G : GX} (hG : GOK G) {E : EV} (hE : E0 E) (d : Nat) (hd : 6 ≤ d) {Q : QT} (a1 : Int32) (a2 : Int32) (a3 : Int32) (P : PM) (h : St E rIP (f_Yr_dulls a1 a2 a3 P) Q) : Go G c_Yr_dulls "YawnRoute" 5 (some .int) false d nOb nOb Q 0 [(0, .ref (ad E 0)), (1, .int a1), (2, .int a2), (3, .int a3)] [] P E := by
  rw [f_Yr_dulls] at h
  refine Go.aload_n (k := 0) (i := 0) 0 (by decide +kernel) rfl rfl ?_
  refine Go.iload_n (k := 1) (i := 1) 1 (by decide +kernel) rfl rfl ?_
  refine Go.iload_n (k := 2) (i := 2) 2 (by decide +kernel) rfl rfl ?_
  refine Go.iload_n (k := 3) (i := 3) 3 (by decide +kernel) rfl rfl ?_
  obtain ⟨v1, hv1, h⟩ := St.bind h
  refine Go.cV_i (P1 := P) (v := v1) (d - 1) 0 [.int a1, .int a2, .int a3] sh0 hE w_Yr_refusalTold (e_Yr_refusalTold hG hE (d - 1) (by omega) a1 a2 a3 P ⟨_, hv1, rfl, rfl, rfl⟩) lk1193 rfl (by omega) (Nat.le_of_ble_eq_true rfl) (by decide +kernel) _ rfl ?_
  refine Go.istore (i := 4) [(4, .int v1), (0, .ref (ad E 0)), (1, .int a1), (2, .int a2), (3, .int a3)] (by decide +kernel) (by decide) rfl ?_
  refine Go.iload (i := 4) 0 (by decide +kernel) rfl ?_
  refine Go.if_eq (off := 8) 19 (by decide +kernel) (by decide) (fun c2 => ?_) (fun c2 => ?_)
  · rw [if_pos c2] at h
    refine Go.aload_n (k := 0) (i := 0) 1 (by decide +kernel) rfl rfl ?_
    refine Go.get 0 5 (.ref (ad E 31)) (by decide) (by decide) sh0 (ltO hE sh0) (vlR hE rfl rfl) lk395 (by decide +kernel) ?_
    refine Go.iload_n (k := 1) (i := 1) 2 (by decide +kernel) rfl rfl ?_
    refine Go.iload_n (k := 2) (i := 2) 3 (by decide +kernel) rfl rfl ?_
    refine Go.iload_n (k := 3) (i := 3) 4 (by decide +kernel) rfl rfl ?_
    obtain ⟨v3, P4, hv3, h⟩ := St.bd2 h
    refine Go.cV_i (P1 := P4) (v := v3) (d - 1) 31 [.int a1, .int a2, .int a3] sh31 hE w_De_dullsTold (e_De_dullsTold hG hE (d - 1) (by omega) a1 a2 a3 P ⟨_, hv3, rfl, rfl, rfl⟩) lk1201 rfl (by omega) (Nat.le_of_ble_eq_true rfl) (by decide +kernel) _ rfl ?_
    exact Go.iret rfl rfl hE.2 (by decide +kernel) (St.fIP h)
  · rw [if_neg c2] at h
    refine Go.iload (i := 4) 0 (by decide +kernel) rfl ?_
    refine Go.goto (off := 13) 29 (by decide +kernel) (by decide) ?_
    exact Go.iret rfl rfl hE.2 (by decide +kernel) (St.fIP h)
theorem e_Yr_dulls {G : GX} (hG : GOK G) {E : EV} (hE : E0 E) (d : Nat) (hd : 6 ≤ d) (a1 : Int32) (a2 : Int32) (a3 : Int32) (P : PM) {Q : QT} (h : St E rIP (f_Yr_dulls a1 a2 a3 P) Q) : Con G y_Yr_dulls cw_Yr_dulls d nOb nOb [.ref (ad E 0), .int a1, .int a2, .int a3] P E Q :=
  Con.of hG (by decide +kernel) rfl (fun h => by cases h) hE.2 (Nat.le_of_ble_eq_true rfl) (t_f_Yr_dulls hG hE d hd a1 a2 a3 P h)
abbrev c_De_mostAlike : ByteArray := prog_2_method_21_code
abbrev y_De_mostAlike : MethodName := ⟨"YawnRoute$Deeds", "mostAlike", "(IIII)I"⟩
abbrev cw_De_mostAlike : Cond := .code y_De_mostAlike c_De_mostAlike 9 (some .int)
theorem w_De_mostAlike : VW 0 y_De_mostAlike c_De_mostAlike 9 (some .int) 4 := ⟨by decide, lk1219, lp44_, lk8, lk1220, ⟨by decide, by decide, by decide +kernel⟩, by decide⟩
noncomputable def j_De_mostAlike_98 (k14 : Int32 → Int32 → Int32 → Int32 → Int32 → Int32 → PM → Option (Int32 × PM)) (x1 : Int32) (x2 : Int32) (x3 : Int32) (x4 : Int32) (x5 : Int32) (x6 : Int32) (P : PM) : Option (Int32 × PM) := k14 x1 x2 x3 x4 x5 (x6 + (1 : Int32)) P
noncomputable def j_De_mostAlike_58 (k14 : Int32 → Int32 → Int32 → Int32 → Int32 → Int32 → PM → Option (Int32 × PM)) (x1 : Int32) (x2 : Int32) (x3 : Int32) (x4 : Int32) (x5 : Int32) (x6 : Int32) (s0 : Int32) (P : PM) : Option (Int32 × PM) := lb (mx (0 : Int32) (mn (40 : Int32) s0)) (fun y1 => ck (inb y1 41) (ck (inb y1 41) (ck (inb y1 41) (lb (mx x5 ((u1 P 35 y1.toNatClampNeg ((P.1 35 y1.toNatClampNeg) + (1 : Int32))).1 35 y1.toNatClampNeg)) (fun y5 => j_De_mostAlike_98 k14 x1 x2 x3 x4 y5 x6 (u1 P 35 y1.toNatClampNeg ((P.1 35 y1.toNatClampNeg) + (1 : Int32))))))))
noncomputable def l_De_mostAlike_14 : Nat → Int32 → Int32 → Int32 → Int32 → Int32 → Int32 → PM → Option (Int32 × PM)
  | 0, _, _, _, _, _, _, _ => none
  | n + 1, x1, x2, x3, x4, x5, x6, P => if (10 : Int32) ≤ x6 then (some (x5, P)) else (if (f_Yr_has x4 x6 P) = (0 : Int32) then (j_De_mostAlike_98 (fun z0 z1 z2 z3 z4 z5 Pz => l_De_mostAlike_14 n z0 z1 z2 z3 z4 z5 Pz) x1 x2 x3 x4 x5 x6 P) else (if (f_Sa_isAsleep 21 x2 P) = (0 : Int32) then (bd2 (f_Ne_carried 14 x1 x3 x2 x6 P) (fun v4 P5 => j_De_mostAlike_58 (fun z0 z1 z2 z3 z4 z5 Pz => l_De_mostAlike_14 n z0 z1 z2 z3 z4 z5 Pz) x1 x2 x3 x4 x5 x6 v4 P5)) else (j_De_mostAlike_58 (fun z0 z1 z2 z3 z4 z5 Pz => l_De_mostAlike_14 n z0 z1 z2 z3 z4 z5 Pz) x1 x2 x3 x4 x5 x6 (0 : Int32) P)))
noncomputable def f_De_mostAlike (a1 : Int32) (a2 : Int32) (a3 : Int32) (a4 : Int32) (P : PM) : Option (Int32 × PM) := (f_Ja_fill_AII 35 41 (0 : Int32) P).bind (fun P1 => l_De_mostAlike_14 FU a1 a2 a3 a4 (0 : Int32) (0 : Int32) P1)
theorem t_j_De_mostAlike_98 {G : GX} (hG : GOK G) {E : EV} (hE : E0 E) (d : Nat) (hd : 4 ≤ d) {Q : QT} (k14 : Int32 → Int32 → Int32 → Int32 → Int32 → Int32 → PM → Option (Int32 × PM)) (hk14 : ∀ (x1 : Int32) (x2 : Int32) (x3 : Int32) (x4 : Int32) (x5 : Int32) (x6 : Int32) (P : PM), St E rIP (k14 x1 x2 x3 x4 x5 x6 P) Q → Go G c_De_mostAlike "YawnRoute$Deeds" 9 (some .int) false d nOb nOb Q 14 [(0, .ref (ad E 31)), (1, .int x1), (2, .int x2), (3, .int x3), (4, .int x4), (5, .int x5), (6, .int x6)] [] P E) (x1 : Int32) (x2 : Int32) (x3 : Int32) (x4 : Int32) (x5 : Int32) (x6 : Int32) (P : PM) (h : St E rIP (j_De_mostAlike_98 k14 x1 x2 x3 x4 x5 x6 P) Q) : Go G c_De_mostAlike "YawnRoute$Deeds" 9 (some .int) false d nOb nOb Q 98 [(0, .ref (ad E 31)), (1, .int x1), (2, .int x2), (3, .int x3), (4, .int x4), (5, .int x5), (6, .int x6)] [] P E := by
  rw [j_De_mostAlike_98] at h
  refine Go.iinc (i := 6) (n := 1) 6 (x6 + (1 : Int32)) [(6, .int (x6 + (1 : Int32))), (0, .ref (ad E 31)), (1, .int x1), (2, .int x2), (3, .int x3), (4, .int x4), (5, .int x5)] (by decide +kernel) rfl rfl (by decide) rfl ?_
  refine Go.goto (off := -87) 14 (by decide +kernel) (by decide) ?_
  refine Go.sub [1, 2, 3, 4, 5, 6, 0] [(0, .ref (ad E 31)), (1, .int x1), (2, .int x2), (3, .int x3), (4, .int x4), (5, .int x5), (6, .int (x6 + (1 : Int32)))] rfl ?_
  exact hk14 x1 x2 x3 x4 x5 (x6 + (1 : Int32)) P h
theorem t_j_De_mostAlike_58 {G : GX} (hG : GOK G) {E : EV} (hE : E0 E) (d : Nat) (hd : 4 ≤ d) {Q : QT} (k14 : Int32 → Int32 → Int32 → Int32 → Int32 → Int32 → PM → Option (Int32 × PM)) (hk14 : ∀ (x1 : Int32) (x2 : Int32) (x3 : Int32) (x4 : Int32) (x5 : Int32) (x6 : Int32) (P : PM), St E rIP (k14 x1 x2 x3 x4 x5 x6 P) Q → Go G c_De_mostAlike "YawnRoute$Deeds" 9 (some .int) false d nOb nOb Q 14 [(0, .ref (ad E 31)), (1, .int x1), (2, .int x2), (3, .int x3), (4, .int x4), (5, .int x5), (6, .int x6)] [] P E) (x1 : Int32) (x2 : Int32) (x3 : Int32) (x4 : Int32) (x5 : Int32) (x6 : Int32) (s0 : Int32) (P : PM) (h : St E rIP (j_De_mostAlike_58 k14 x1 x2 x3 x4 x5 x6 s0 P) Q) : Go G c_De_mostAlike "YawnRoute$Deeds" 9 (some .int) false d nOb nOb Q 58 [(0, .ref (ad E 31)), (1, .int x1), (2, .int x2), (3, .int x3), (4, .int x4), (5, .int x5), (6, .int x6)] [.int s0] P E := by
  rw [j_De_mostAlike_58] at h
  refine Go.istore (i := 7) [(7, .int s0), (0, .ref (ad E 31)), (1, .int x1), (2, .int x2), (3, .int x3), (4, .int x4), (5, .int x5), (6, .int x6)] (by decide +kernel) (by decide) rfl ?_
  refine Go.iconst (n := 0) (0 : Int32) (by decide +kernel) rfl ?_
  refine Go.bipush (n := 40) (40 : Int32) (by decide +kernel) (by decide) ?_
  refine Go.iload (i := 7) 0 (by decide +kernel) rfl ?_
  refine Go.mmin lk806 (Nat.le_of_eq hE.2) (by omega) (Nat.le_of_ble_eq_true rfl) (by decide +kernel) ?_
  refine Go.mmax lk1223 (Nat.le_of_eq hE.2) (by omega) (Nat.le_of_ble_eq_true rfl) (by decide +kernel) ?_
  obtain ⟨y1, hy1, h⟩ := St.lb h
  refine Go.eqi y1 hy1 ?_
  refine Go.istore (i := 8) [(8, .int y1), (7, .int s0), (0, .ref (ad E 31)), (1, .int x1), (2, .int x2), (3, .int x3), (4, .int x4), (5, .int x5), (6, .int x6)] (by decide +kernel) (by decide) rfl ?_
  refine Go.aload_n (k := 0) (i := 0) 2 (by decide +kernel) rfl rfl ?_
  refine Go.get 31 9 (.ref (ad E 35)) (by decide) (by decide) sh31 (ltO hE sh31) (vlR hE rfl rfl) lk254 (by decide +kernel) ?_
  refine Go.iload (i := 8) 0 (by decide +kernel) rfl ?_
  refine Go.dup2 (by decide +kernel) rfl rfl ?_
  obtain ⟨b2, h⟩ := St.ck h
  refine Go.iaload 35 41 sh35 (ltA hE sh35 (by decide)) (inb_in b2) (by decide +kernel) ?_
  refine Go.iconst (n := 1) (1 : Int32) (by decide +kernel) rfl ?_
  refine Go.iadd (by decide +kernel) ?_
  obtain ⟨b3, h⟩ := St.ck h
  refine Go.iastore 35 41 sh35 (ltA hE sh35 (by decide)) (inb_in b3) (by decide +kernel) ?_
  refine Go.iload (i := 5) 7 (by decide +kernel) rfl ?_
  refine Go.aload_n (k := 0) (i := 0) 2 (by decide +kernel) rfl rfl ?_
  refine Go.get 31 9 (.ref (ad E 35)) (by decide) (by decide) sh31 (ltO hE sh31) (vlR hE rfl rfl) lk254 (by decide +kernel) ?_
  refine Go.iload (i := 8) 0 (by decide +kernel) rfl ?_
  obtain ⟨b4, h⟩ := St.ck h
  refine Go.iaload 35 41 sh35 (ltA hE sh35 (by decide)) (inb_in b4) (by decide +kernel) ?_
  refine Go.mmax lk1223 (Nat.le_of_eq hE.2) (by omega) (Nat.le_of_ble_eq_true rfl) (by decide +kernel) ?_
  obtain ⟨y5, hy5, h⟩ := St.lb h
  refine Go.eqi y5 hy5 ?_
  refine Go.istore (i := 5) [(5, .int y5), (8, .int y1), (7, .int s0), (0, .ref (ad E 31)), (1, .int x1), (2, .int x2), (3, .int x3), (4, .int x4), (6, .int x6)] (by decide +kernel) (by decide) rfl ?_
  refine Go.sub [3, 4, 5, 6, 7, 0, 8] [(0, .ref (ad E 31)), (1, .int x1), (2, .int x2), (3, .int x3), (4, .int x4), (5, .int y5), (6, .int x6)] rfl ?_
  exact t_j_De_mostAlike_98 hG hE d hd k14 hk14 x1 x2 x3 x4 y5 x6 (u1 P 35 y1.toNatClampNeg ((P.1 35 y1.toNatClampNeg) + (1 : Int32))) h
theorem t_l_De_mostAlike_14 {G : GX} (hG : GOK G) {E : EV} (hE : E0 E) (d : Nat) (hd : 4 ≤ d) {Q : QT} : ∀ (n : Nat) (x1 : Int32) (x2 : Int32) (x3 : Int32) (x4 : Int32) (x5 : Int32) (x6 : Int32) (P : PM), St E rIP (l_De_mostAlike_14 n x1 x2 x3 x4 x5 x6 P) Q → Go G c_De_mostAlike "YawnRoute$Deeds" 9 (some .int) false d nOb nOb Q 14 [(0, .ref (ad E 31)), (1, .int x1), (2, .int x2), (3, .int x3), (4, .int x4), (5, .int x5), (6, .int x6)] [] P E := by
  intro n
  induction n with
  | zero =>
    intro x1 x2 x3 x4 x5 x6 P h
    rw [l_De_mostAlike_14] at h
    exact St.none_ h
  | succ n ih =>
    intro x1 x2 x3 x4 x5 x6 P h
    rw [l_De_mostAlike_14] at h
    refine Go.iload (i := 6) 6 (by decide +kernel) rfl ?_
    refine Go.bipush (n := 10) (10 : Int32) (by decide +kernel) (by decide) ?_
    refine Go.icmp_ge (off := 86) 104 (by decide +kernel) (by decide) (fun c1 => ?_) (fun c1 => ?_)
    · rw [if_pos c1] at h
      refine Go.iload (i := 5) 5 (by decide +kernel) rfl ?_
      exact Go.iret rfl rfl hE.2 (by decide +kernel) (St.fIP h)
    · rw [if_neg c1] at h
      refine Go.iload (i := 4) 4 (by decide +kernel) rfl ?_
      refine Go.iload (i := 6) 6 (by decide +kernel) rfl ?_
      refine Go.cSN_i (P1 := P) (v := (f_Yr_has x4 x6 P)) (d - 1) [.int x4, .int x6] hE w_Yr_has (e_Yr_has hG hE (d - 1) (by omega) x4 x6 P ⟨rfl, rfl, rfl⟩) nw23 rfl (by omega) (Nat.le_of_ble_eq_true rfl) (by decide +kernel) _ rfl ?_
      refine Go.if_eq (off := 70) 98 (by decide +kernel) (by decide) (fun c2 => ?_) (fun c2 => ?_)
      · rw [if_pos c2] at h
        exact t_j_De_mostAlike_98 hG hE d hd (fun z0 z1 z2 z3 z4 z5 Pz => l_De_mostAlike_14 n z0 z1 z2 z3 z4 z5 Pz) (fun z0 z1 z2 z3 z4 z5 Pz q => ih z0 z1 z2 z3 z4 z5 Pz q) x1 x2 x3 x4 x5 x6 P h
      · rw [if_neg c2] at h
        refine Go.aload_n (k := 0) (i := 0) 0 (by decide +kernel) rfl rfl ?_
        refine Go.get 31 1 (.ref (ad E 21)) (by decide) (by decide) sh31 (ltO hE sh31) (vlR hE rfl rfl) lk243 (by decide +kernel) ?_
        refine Go.iload_n (k := 2) (i := 2) 2 (by decide +kernel) rfl rfl ?_
        refine Go.cV_i (P1 := P) (v := (f_Sa_isAsleep 21 x2 P)) (d - 1) 21 [.int x2] sh21 hE w_Sa_isAsleep (e_Sa_isAsleep hG hE (d - 1) (by omega) 21 sh21 x2 P ⟨rfl, rfl, rfl⟩) lk763 rfl (by omega) (Nat.le_of_ble_eq_true rfl) (by decide +kernel) _ rfl ?_
        refine Go.if_eq (off := 7) 46 (by decide +kernel) (by decide) (fun c3 => ?_) (fun c3 => ?_)
        · rw [if_pos c3] at h
          refine Go.aload_n (k := 0) (i := 0) 0 (by decide +kernel) rfl rfl ?_
          refine Go.get 31 0 (.ref (ad E 14)) (by decide) (by decide) sh31 (ltO hE sh31) (vlR hE rfl rfl) lk242 (by decide +kernel) ?_
          refine Go.iload_n (k := 1) (i := 1) 1 (by decide +kernel) rfl rfl ?_
          refine Go.iload_n (k := 3) (i := 3) 3 (by decide +kernel) rfl rfl ?_
          refine Go.iload_n (k := 2) (i := 2) 2 (by decide +kernel) rfl rfl ?_
          refine Go.iload (i := 6) 6 (by decide +kernel) rfl ?_
          obtain ⟨v4, P5, hv4, h⟩ := St.bd2 h
          refine Go.cV_i (P1 := P5) (v := v4) (d - 1) 14 [.int x1, .int x3, .int x2, .int x6] sh14 hE w_Ne_carried (e_Ne_carried hG hE (d - 1) (by omega) 14 sh14 x1 x3 x2 x6 P ⟨_, hv4, rfl, rfl, rfl⟩) lk765 rfl (by omega) (Nat.le_of_ble_eq_true rfl) (by decide +kernel) _ rfl ?_
          exact t_j_De_mostAlike_58 hG hE d hd (fun z0 z1 z2 z3 z4 z5 Pz => l_De_mostAlike_14 n z0 z1 z2 z3 z4 z5 Pz) (fun z0 z1 z2 z3 z4 z5 Pz q => ih z0 z1 z2 z3 z4 z5 Pz q) x1 x2 x3 x4 x5 x6 v4 P5 h
        · rw [if_neg c3] at h
          refine Go.iconst (n := 0) (0 : Int32) (by decide +kernel) rfl ?_
          refine Go.goto (off := 15) 58 (by decide +kernel) (by decide) ?_
          exact t_j_De_mostAlike_58 hG hE d hd (fun z0 z1 z2 z3 z4 z5 Pz => l_De_mostAlike_14 n z0 z1 z2 z3 z4 z5 Pz) (fun z0 z1 z2 z3 z4 z5 Pz q => ih z0 z1 z2 z3 z4 z5 Pz q) x1 x2 x3 x4 x5 x6 (0 : Int32) P h
theorem t_f_De_mostAlike {G : GX} (hG : GOK G) {E : EV} (hE : E0 E) (d : Nat) (hd : 4 ≤ d) {Q : QT} (a1 : Int32) (a2 : Int32) (a3 : Int32) (a4 : Int32) (P : PM) (h : St E rIP (f_De_mostAlike a1 a2 a3 a4 P) Q) : Go G c_De_mostAlike "YawnRoute$Deeds" 9 (some .int) false d nOb nOb Q 0 [(0, .ref (ad E 31)), (1, .int a1), (2, .int a2), (3, .int a3), (4, .int a4)] [] P E := by
  rw [f_De_mostAlike] at h
  refine Go.iconst (n := 0) (0 : Int32) (by decide +kernel) rfl ?_
  refine Go.istore (i := 5) [(5, .int (0 : Int32)), (0, .ref (ad E 31)), (1, .int a1), (2, .int a2), (3, .int a3), (4, .int a4)] (by decide +kernel) (by decide) rfl ?_
  refine Go.aload_n (k := 0) (i := 0) 1 (by decide +kernel) rfl rfl ?_
  refine Go.get 31 9 (.ref (ad E 35)) (by decide) (by decide) sh31 (ltO hE sh31) (vlR hE rfl rfl) lk254 (by decide +kernel) ?_
  refine Go.iconst (n := 0) (0 : Int32) (by decide +kernel) rfl ?_
  obtain ⟨P1, hP1, h⟩ := St.bind h
  refine Go.cS_v (P1 := P1) (d - 1) [.ref (ad E 35), .int (0 : Int32)] hE w_Ja_fill_AII (e_Ja_fill_AII hG hE (d - 1) (by omega) 35 41 sh35 (0 : Int32) P ⟨_, hP1, rfl, rfl, rfl⟩) lk1221 rfl (by omega) (Nat.le_of_ble_eq_true rfl) (by decide +kernel) _ rfl ?_
  refine Go.iconst (n := 0) (0 : Int32) (by decide +kernel) rfl ?_
  refine Go.istore (i := 6) [(6, .int (0 : Int32)), (5, .int (0 : Int32)), (0, .ref (ad E 31)), (1, .int a1), (2, .int a2), (3, .int a3), (4, .int a4)] (by decide +kernel) (by decide) rfl ?_
  refine Go.sub [2, 3, 4, 5, 6, 1, 0] [(0, .ref (ad E 31)), (1, .int a1), (2, .int a2), (3, .int a3), (4, .int a4), (5, .int (0 : Int32)), (6, .int (0 : Int32))] rfl ?_
  exact t_l_De_mostAlike_14 hG hE d hd FU a1 a2 a3 a4 (0 : Int32) (0 : Int32) P1 h
theorem e_De_mostAlike {G : GX} (hG : GOK G) {E : EV} (hE : E0 E) (d : Nat) (hd : 4 ≤ d) (a1 : Int32) (a2 : Int32) (a3 : Int32) (a4 : Int32) (P : PM) {Q : QT} (h : St E rIP (f_De_mostAlike a1 a2 a3 a4 P) Q) : Con G y_De_mostAlike cw_De_mostAlike d nOb nOb [.ref (ad E 31), .int a1, .int a2, .int a3, .int a4] P E Q :=
  Con.of hG (by decide +kernel) rfl (fun h => by cases h) hE.2 (Nat.le_of_ble_eq_true rfl) (t_f_De_mostAlike hG hE d hd a1 a2 a3 a4 P h)
abbrev c_De_bestToTry : ByteArray := prog_2_method_20_code
abbrev y_De_bestToTry : MethodName := ⟨"YawnRoute$Deeds", "bestToTry", "(III)I"⟩
abbrev cw_De_bestToTry : Cond := .code y_De_bestToTry c_De_bestToTry 8 (some .int)
theorem w_De_bestToTry : VW 0 y_De_bestToTry c_De_bestToTry 8 (some .int) 3 := ⟨by decide, lk1214, lk1215, lk8, lk1216, ⟨by decide, by decide, by decide +kernel⟩, by decide⟩
noncomputable def j_De_bestToTry_66 (k10 : Int32 → Int32 → Int32 → Int32 → Int32 → Int32 → PM → Option (Int32 × PM)) (x1 : Int32) (x2 : Int32) (x3 : Int32) (x4 : Int32) (x5 : Int32) (x6 : Int32) (P : PM) : Option (Int32 × PM) := k10 x1 x2 x3 x4 x5 (x6 + (1 : Int32)) P
noncomputable def j_De_bestToTry_49 (k10 : Int32 → Int32 → Int32 → Int32 → Int32 → Int32 → PM → Option (Int32 × PM)) (x1 : Int32) (x2 : Int32) (x3 : Int32) (x4 : Int32) (x5 : Int32) (x6 : Int32) (s0 : Int32) (P : PM) : Option (Int32 × PM) := if x5 ≤ s0 then (j_De_bestToTry_66 k10 x1 x2 x3 x4 x5 x6 P) else (j_De_bestToTry_66 k10 x1 x2 x3 x6 s0 x6 P)
noncomputable def l_De_bestToTry_10 : Nat → Int32 → Int32 → Int32 → Int32 → Int32 → Int32 → PM → Option (Int32 × PM)
  | 0, _, _, _, _, _, _, _ => none
  | n + 1, x1, x2, x3, x4, x5, x6, P => if (P.1 14 0) ≤ x6 then (some (x4, P)) else ((f_Ne_hoursOf 14 x6 x1 P).bind (fun v2 => if v2 ≤ (0 : Int32) then (j_De_bestToTry_49 (fun z0 z1 z2 z3 z4 z5 Pz => l_De_bestToTry_10 n z0 z1 z2 z3 z4 z5 Pz) x1 x2 x3 x4 x5 x6 x5 P) else (bd2 (f_De_mostAlike x6 x1 x2 x3 P) (fun v4 P5 => j_De_bestToTry_49 (fun z0 z1 z2 z3 z4 z5 Pz => l_De_bestToTry_10 n z0 z1 z2 z3 z4 z5 Pz) x1 x2 x3 x4 x5 x6 v4 P5))))
noncomputable def f_De_bestToTry (a1 : Int32) (a2 : Int32) (a3 : Int32) (P : PM) : Option (Int32 × PM) := l_De_bestToTry_10 FU a1 a2 a3 (-1 : Int32) (11 : Int32) (0 : Int32) P
theorem t_j_De_bestToTry_66 {G : GX} (hG : GOK G) {E : EV} (hE : E0 E) (d : Nat) (hd : 5 ≤ d) {Q : QT} (k10 : Int32 → Int32 → Int32 → Int32 → Int32 → Int32 → PM → Option (Int32 × PM)) (hk10 : ∀ (x1 : Int32) (x2 : Int32) (x3 : Int32) (x4 : Int32) (x5 : Int32) (x6 : Int32) (P : PM), St E rIP (k10 x1 x2 x3 x4 x5 x6 P) Q → Go G c_De_bestToTry "YawnRoute$Deeds" 8 (some .int) false d nOb nOb Q 10 [(0, .ref (ad E 31)), (1, .int x1), (2, .int x2), (3, .int x3), (4, .int x4), (5, .int x5), (6, .int x6)] [] P E) (x1 : Int32) (x2 : Int32) (x3 : Int32) (x4 : Int32) (x5 : Int32) (x6 : Int32) (P : PM) (h : St E rIP (j_De_bestToTry_66 k10 x1 x2 x3 x4 x5 x6 P) Q) : Go G c_De_bestToTry "YawnRoute$Deeds" 8 (some .int) false d nOb nOb Q 66 [(0, .ref (ad E 31)), (1, .int x1), (2, .int x2), (3, .int x3), (4, .int x4), (5, .int x5), (6, .int x6)] [] P E := by
  rw [j_De_bestToTry_66] at h
  refine Go.iinc (i := 6) (n := 1) 6 (x6 + (1 : Int32)) [(6, .int (x6 + (1 : Int32))), (0, .ref (ad E 31)), (1, .int x1), (2, .int x2), (3, .int x3), (4, .int x4), (5, .int x5)] (by decide +kernel) rfl rfl (by decide) rfl ?_
  refine Go.goto (off := -59) 10 (by decide +kernel) (by decide) ?_
  refine Go.sub [1, 2, 3, 4, 5, 6, 0] [(0, .ref (ad E 31)), (1, .int x1), (2, .int x2), (3, .int x3), (4, .int x4), (5, .int x5), (6, .int (x6 + (1 : Int32)))] rfl ?_
  exact hk10 x1 x2 x3 x4 x5 (x6 + (1 : Int32)) P h
theorem t_j_De_bestToTry_49 {G : GX} (hG : GOK G) {E : EV} (hE : E0 E) (d : Nat) (hd : 5 ≤ d) {Q : QT} (k10 : Int32 → Int32 → Int32 → Int32 → Int32 → Int32 → PM → Option (Int32 × PM)) (hk10 : ∀ (x1 : Int32) (x2 : Int32) (x3 : Int32) (x4 : Int32) (x5 : Int32) (x6 : Int32) (P : PM), St E rIP (k10 x1 x2 x3 x4 x5 x6 P) Q → Go G c_De_bestToTry "YawnRoute$Deeds" 8 (some .int) false d nOb nOb Q 10 [(0, .ref (ad E 31)), (1, .int x1), (2, .int x2), (3, .int x3), (4, .int x4), (5, .int x5), (6, .int x6)] [] P E) (x1 : Int32) (x2 : Int32) (x3 : Int32) (x4 : Int32) (x5 : Int32) (x6 : Int32) (s0 : Int32) (P : PM) (h : St E rIP (j_De_bestToTry_49 k10 x1 x2 x3 x4 x5 x6 s0 P) Q) : Go G c_De_bestToTry "YawnRoute$Deeds" 8 (some .int) false d nOb nOb Q 49 [(0, .ref (ad E 31)), (1, .int x1), (2, .int x2), (3, .int x3), (4, .int x4), (5, .int x5), (6, .int x6)] [.int s0] P E := by
  rw [j_De_bestToTry_49] at h
  refine Go.istore (i := 7) [(7, .int s0), (0, .ref (ad E 31)), (1, .int x1), (2, .int x2), (3, .int x3), (4, .int x4), (5, .int x5), (6, .int x6)] (by decide +kernel) (by decide) rfl ?_
  refine Go.iload (i := 7) 0 (by decide +kernel) rfl ?_
  refine Go.iload (i := 5) 6 (by decide +kernel) rfl ?_
  refine Go.icmp_ge (off := 11) 66 (by decide +kernel) (by decide) (fun c1 => ?_) (fun c1 => ?_)
  · rw [if_pos c1] at h
    refine Go.sub [1, 2, 3, 4, 5, 6, 7] [(0, .ref (ad E 31)), (1, .int x1), (2, .int x2), (3, .int x3), (4, .int x4), (5, .int x5), (6, .int x6)] rfl ?_
    exact t_j_De_bestToTry_66 hG hE d hd k10 hk10 x1 x2 x3 x4 x5 x6 P h
  · rw [if_neg c1] at h
    refine Go.iload (i := 7) 0 (by decide +kernel) rfl ?_
    refine Go.istore (i := 5) [(5, .int s0), (7, .int s0), (0, .ref (ad E 31)), (1, .int x1), (2, .int x2), (3, .int x3), (4, .int x4), (6, .int x6)] (by decide +kernel) (by decide) rfl ?_
    refine Go.iload (i := 6) 7 (by decide +kernel) rfl ?_
    refine Go.istore (i := 4) [(4, .int x6), (5, .int s0), (7, .int s0), (0, .ref (ad E 31)), (1, .int x1), (2, .int x2), (3, .int x3), (6, .int x6)] (by decide +kernel) (by decide) rfl ?_
    refine Go.sub [3, 4, 5, 6, 0, 1, 7] [(0, .ref (ad E 31)), (1, .int x1), (2, .int x2), (3, .int x3), (4, .int x6), (5, .int s0), (6, .int x6)] rfl ?_
    exact t_j_De_bestToTry_66 hG hE d hd k10 hk10 x1 x2 x3 x6 s0 x6 P h
theorem t_l_De_bestToTry_10 {G : GX} (hG : GOK G) {E : EV} (hE : E0 E) (d : Nat) (hd : 5 ≤ d) {Q : QT} : ∀ (n : Nat) (x1 : Int32) (x2 : Int32) (x3 : Int32) (x4 : Int32) (x5 : Int32) (x6 : Int32) (P : PM), St E rIP (l_De_bestToTry_10 n x1 x2 x3 x4 x5 x6 P) Q → Go G c_De_bestToTry "YawnRoute$Deeds" 8 (some .int) false d nOb nOb Q 10 [(0, .ref (ad E 31)), (1, .int x1), (2, .int x2), (3, .int x3), (4, .int x4), (5, .int x5), (6, .int x6)] [] P E := by
  intro n
  induction n with
  | zero =>
    intro x1 x2 x3 x4 x5 x6 P h
    rw [l_De_bestToTry_10] at h
    exact St.none_ h
  | succ n ih =>
    intro x1 x2 x3 x4 x5 x6 P h
    rw [l_De_bestToTry_10] at h
    refine Go.iload (i := 6) 6 (by decide +kernel) rfl ?_
    refine Go.aload_n (k := 0) (i := 0) 0 (by decide +kernel) rfl rfl ?_
    refine Go.get 31 0 (.ref (ad E 14)) (by decide) (by decide) sh31 (ltO hE sh31) (vlR hE rfl rfl) lk242 (by decide +kernel) ?_
    refine Go.get 14 0 (.int (P.1 14 0)) (by decide) (by decide) sh14 (ltO hE sh14) rfl lk92 (by decide +kernel) ?_
    refine Go.icmp_ge (off := 53) 72 (by decide +kernel) (by decide) (fun c1 => ?_) (fun c1 => ?_)
    · rw [if_pos c1] at h
      refine Go.iload (i := 4) 4 (by decide +kernel) rfl ?_
      exact Go.iret rfl rfl hE.2 (by decide +kernel) (St.fIP h)
    · rw [if_neg c1] at h
      refine Go.aload_n (k := 0) (i := 0) 0 (by decide +kernel) rfl rfl ?_
      refine Go.get 31 0 (.ref (ad E 14)) (by decide) (by decide) sh31 (ltO hE sh31) (vlR hE rfl rfl) lk242 (by decide +kernel) ?_
      refine Go.iload (i := 6) 6 (by decide +kernel) rfl ?_
      refine Go.iload_n (k := 1) (i := 1) 1 (by decide +kernel) rfl rfl ?_
      obtain ⟨v2, hv2, h⟩ := St.bind h
      refine Go.cV_i (P1 := P) (v := v2) (d - 1) 14 [.int x6, .int x1] sh14 hE w_Ne_hoursOf (e_Ne_hoursOf hG hE (d - 1) (by omega) 14 sh14 x6 x1 P ⟨_, hv2, rfl, rfl, rfl⟩) lk797 rfl (by omega) (Nat.le_of_ble_eq_true rfl) (by decide +kernel) _ rfl ?_
      refine Go.if_le (off := 15) 47 (by decide +kernel) (by decide) (fun c3 => ?_) (fun c3 => ?_)
      · rw [if_pos c3] at h
        refine Go.iload (i := 5) 5 (by decide +kernel) rfl ?_
        exact t_j_De_bestToTry_49 hG hE d hd (fun z0 z1 z2 z3 z4 z5 Pz => l_De_bestToTry_10 n z0 z1 z2 z3 z4 z5 Pz) (fun z0 z1 z2 z3 z4 z5 Pz q => ih z0 z1 z2 z3 z4 z5 Pz q) x1 x2 x3 x4 x5 x6 x5 P h
      · rw [if_neg c3] at h
        refine Go.aload_n (k := 0) (i := 0) 0 (by decide +kernel) rfl rfl ?_
        refine Go.iload (i := 6) 6 (by decide +kernel) rfl ?_
        refine Go.iload_n (k := 1) (i := 1) 1 (by decide +kernel) rfl rfl ?_
        refine Go.iload_n (k := 2) (i := 2) 2 (by decide +kernel) rfl rfl ?_
        refine Go.iload_n (k := 3) (i := 3) 3 (by decide +kernel) rfl rfl ?_
        obtain ⟨v4, P5, hv4, h⟩ := St.bd2 h
        refine Go.cV_i (P1 := P5) (v := v4) (d - 1) 31 [.int x6, .int x1, .int x2, .int x3] sh31 hE w_De_mostAlike (e_De_mostAlike hG hE (d - 1) (by omega) x6 x1 x2 x3 P ⟨_, hv4, rfl, rfl, rfl⟩) lk1217 rfl (by omega) (Nat.le_of_ble_eq_true rfl) (by decide +kernel) _ rfl ?_
        refine Go.goto (off := 5) 49 (by decide +kernel) (by decide) ?_
        exact t_j_De_bestToTry_49 hG hE d hd (fun z0 z1 z2 z3 z4 z5 Pz => l_De_bestToTry_10 n z0 z1 z2 z3 z4 z5 Pz) (fun z0 z1 z2 z3 z4 z5 Pz q => ih z0 z1 z2 z3 z4 z5 Pz q) x1 x2 x3 x4 x5 x6 v4 P5 h
theorem t_f_De_bestToTry {G : GX} (hG : GOK G) {E : EV} (hE : E0 E) (d : Nat) (hd : 5 ≤ d) {Q : QT} (a1 : Int32) (a2 : Int32) (a3 : Int32) (P : PM) (h : St E rIP (f_De_bestToTry a1 a2 a3 P) Q) : Go G c_De_bestToTry "YawnRoute$Deeds" 8 (some .int) false d nOb nOb Q 0 [(0, .ref (ad E 31)), (1, .int a1), (2, .int a2), (3, .int a3)] [] P E := by
  rw [f_De_bestToTry] at h
  refine Go.iconst (n := -1) (-1 : Int32) (by decide +kernel) rfl ?_
  refine Go.istore (i := 4) [(4, .int (-1 : Int32)), (0, .ref (ad E 31)), (1, .int a1), (2, .int a2), (3, .int a3)] (by decide +kernel) (by decide) rfl ?_
  refine Go.bipush (n := 11) (11 : Int32) (by decide +kernel) (by decide) ?_
  refine Go.istore (i := 5) [(5, .int (11 : Int32)), (4, .int (-1 : Int32)), (0, .ref (ad E 31)), (1, .int a1), (2, .int a2), (3, .int a3)] (by decide +kernel) (by decide) rfl ?_
  refine Go.iconst (n := 0) (0 : Int32) (by decide +kernel) rfl ?_
  refine Go.istore (i := 6) [(6, .int (0 : Int32)), (5, .int (11 : Int32)), (4, .int (-1 : Int32)), (0, .ref (ad E 31)), (1, .int a1), (2, .int a2), (3, .int a3)] (by decide +kernel) (by decide) rfl ?_
  refine Go.sub [3, 4, 5, 6, 2, 1, 0] [(0, .ref (ad E 31)), (1, .int a1), (2, .int a2), (3, .int a3), (4, .int (-1 : Int32)), (5, .int (11 : Int32)), (6, .int (0 : Int32))] rfl ?_
  exact t_l_De_bestToTry_10 hG hE d hd FU a1 a2 a3 (-1 : Int32) (11 : Int32) (0 : Int32) P h
theorem e_De_bestToTry {G : GX} (hG : GOK G) {E : EV} (hE : E0 E) (d : Nat) (hd : 5 ≤ d) (a1 : Int32) (a2 : Int32) (a3 : Int32) (P : PM) {Q : QT} (h : St E rIP (f_De_bestToTry a1 a2 a3 P) Q) : Con G y_De_bestToTry cw_De_bestToTry d nOb nOb [.ref (ad E 31), .int a1, .int a2, .int a3] P E Q :=
  Con.of hG (by decide +kernel) rfl (fun h => by cases h) hE.2 (Nat.le_of_ble_eq_true rfl) (t_f_De_bestToTry hG hE d hd a1 a2 a3 P h)
abbrev c_Yr_attempt : ByteArray := prog_1_method_33_code
abbrev y_Yr_attempt : MethodName := ⟨"YawnRoute", "attempt", "(III)I"⟩
abbrev cw_Yr_attempt : Cond := .code y_Yr_attempt c_Yr_attempt 6 (some .int)
theorem w_Yr_attempt : VW 11 y_Yr_attempt c_Yr_attempt 6 (some .int) 3 := ⟨by decide, lk1210, lk1211, lk1, lk1212, ⟨by decide, by decide, by decide +kernel⟩, by decide⟩
noncomputable def f_Yr_attempt (a1 : Int32) (a2 : Int32) (a3 : Int32) (P : PM) : Option (Int32 × PM) := (f_Yr_refusalTold a1 a2 a3 P).bind (fun v1 => if v1 = (0 : Int32) then (bd2 (f_De_dullsTold a1 a2 a3 P) (fun v3 P4 => if v3 = (0 : Int32) then (some ((-1 : Int32), P4)) else (bd2 (f_De_bestToTry a2 a3 v3 P4) (fun v6 P7 => some (v6, P7))))) else (some (v1, P)))
theorem t_f_Yr_attempt {G : GX} (hG : GOK G) {E : EV} (hE : E0 E) (d : Nat) (hd : 6 ≤ d) {Q : QT} (a1 : Int32) (a2 : Int32) (a3 : Int32) (P : PM) (h : St E rIP (f_Yr_attempt a1 a2 a3 P) Q) : Go G c_Yr_attempt "YawnRoute" 6 (some .int) false d nOb nOb Q 0 [(0, .ref (ad E 0)), (1, .int a1), (2, .int a2), (3, .int a3)] [] P E := by
  rw [f_Yr_attempt] at h
  refine Go.aload_n (k := 0) (i := 0) 0 (by decide +kernel) rfl rfl ?_
  refine Go.iload_n (k := 1) (i := 1) 1 (by decide +kernel) rfl rfl ?_
  refine Go.iload_n (k := 2) (i := 2) 2 (by decide +kernel) rfl rfl ?_
  refine Go.iload_n (k := 3) (i := 3) 3 (by decide +kernel) rfl rfl ?_
  obtain ⟨v1, hv1, h⟩ := St.bind h
  refine Go.cV_i (P1 := P) (v := v1) (d - 1) 0 [.int a1, .int a2, .int a3] sh0 hE w_Yr_refusalTold (e_Yr_refusalTold hG hE (d - 1) (by omega) a1 a2 a3 P ⟨_, hv1, rfl, rfl, rfl⟩) lk1193 rfl (by omega) (Nat.le_of_ble_eq_true rfl) (by decide +kernel) _ rfl ?_
  refine Go.istore (i := 4) [(4, .int v1), (0, .ref (ad E 0)), (1, .int a1), (2, .int a2), (3, .int a3)] (by decide +kernel) (by decide) rfl ?_
  refine Go.iload (i := 4) 0 (by decide +kernel) rfl ?_
  refine Go.if_eq (off := 6) 17 (by decide +kernel) (by decide) (fun c2 => ?_) (fun c2 => ?_)
  · rw [if_pos c2] at h
    refine Go.aload_n (k := 0) (i := 0) 1 (by decide +kernel) rfl rfl ?_
    refine Go.get 0 5 (.ref (ad E 31)) (by decide) (by decide) sh0 (ltO hE sh0) (vlR hE rfl rfl) lk395 (by decide +kernel) ?_
    refine Go.iload_n (k := 1) (i := 1) 2 (by decide +kernel) rfl rfl ?_
    refine Go.iload_n (k := 2) (i := 2) 3 (by decide +kernel) rfl rfl ?_
    refine Go.iload_n (k := 3) (i := 3) 4 (by decide +kernel) rfl rfl ?_
    obtain ⟨v3, P4, hv3, h⟩ := St.bd2 h
    refine Go.cV_i (P1 := P4) (v := v3) (d - 1) 31 [.int a1, .int a2, .int a3] sh31 hE w_De_dullsTold (e_De_dullsTold hG hE (d - 1) (by omega) a1 a2 a3 P ⟨_, hv3, rfl, rfl, rfl⟩) lk1201 rfl (by omega) (Nat.le_of_ble_eq_true rfl) (by decide +kernel) _ rfl ?_
    refine Go.istore (i := 5) [(5, .int v3), (4, .int v1), (0, .ref (ad E 0)), (1, .int a1), (2, .int a2), (3, .int a3)] (by decide +kernel) (by decide) rfl ?_
    refine Go.iload (i := 5) 0 (by decide +kernel) rfl ?_
    refine Go.if_ne (off := 7) 38 (by decide +kernel) (by decide) (fun c5 => ?_) (fun c5 => ?_)
    · rw [if_neg c5] at h
      refine Go.aload_n (k := 0) (i := 0) 2 (by decide +kernel) rfl rfl ?_
      refine Go.get 0 5 (.ref (ad E 31)) (by decide) (by decide) sh0 (ltO hE sh0) (vlR hE rfl rfl) lk395 (by decide +kernel) ?_
      refine Go.iload_n (k := 2) (i := 2) 4 (by decide +kernel) rfl rfl ?_
      refine Go.iload_n (k := 3) (i := 3) 5 (by decide +kernel) rfl rfl ?_
      refine Go.iload (i := 5) 0 (by decide +kernel) rfl ?_
      obtain ⟨v6, P7, hv6, h⟩ := St.bd2 h
      refine Go.cV_i (P1 := P7) (v := v6) (d - 1) 31 [.int a2, .int a3, .int v3] sh31 hE w_De_bestToTry (e_De_bestToTry hG hE (d - 1) (by omega) a2 a3 v3 P4 ⟨_, hv6, rfl, rfl, rfl⟩) lk1213 rfl (by omega) (Nat.le_of_ble_eq_true rfl) (by decide +kernel) _ rfl ?_
      exact Go.iret rfl rfl hE.2 (by decide +kernel) (St.fIP h)
    · rw [if_pos c5] at h
      refine Go.iconst (n := -1) (-1 : Int32) (by decide +kernel) rfl ?_
      refine Go.goto (off := 14) 49 (by decide +kernel) (by decide) ?_
      exact Go.iret rfl rfl hE.2 (by decide +kernel) (St.fIP h)
  · rw [if_neg c2] at h
    refine Go.iload (i := 4) 0 (by decide +kernel) rfl ?_
    exact Go.iret rfl rfl hE.2 (by decide +kernel) (St.fIP h)
theorem e_Yr_attempt {G : GX} (hG : GOK G) {E : EV} (hE : E0 E) (d : Nat) (hd : 6 ≤ d) (a1 : Int32) (a2 : Int32) (a3 : Int32) (P : PM) {Q : QT} (h : St E rIP (f_Yr_attempt a1 a2 a3 P) Q) : Con G y_Yr_attempt cw_Yr_attempt d nOb nOb [.ref (ad E 0), .int a1, .int a2, .int a3] P E Q :=
  Con.of hG (by decide +kernel) rfl (fun h => by cases h) hE.2 (Nat.le_of_ble_eq_true rfl) (t_f_Yr_attempt hG hE d hd a1 a2 a3 P h)
abbrev c_Yr_forces : ByteArray := prog_1_method_34_code
abbrev y_Yr_forces : MethodName := ⟨"YawnRoute", "forces", "(I)I"⟩
abbrev cw_Yr_forces : Cond := .code y_Yr_forces c_Yr_forces 3 (some .int)
theorem w_Yr_forces : VW 11 y_Yr_forces c_Yr_forces 3 (some .int) 1 := ⟨by decide, lk1225, lk1226, lk1, lk1227, ⟨by decide, by decide, by decide +kernel⟩, by decide⟩
noncomputable def f_Yr_forces (a1 : Int32) (P : PM) : Option (Int32 × PM) := lb (f_Yr_refusal (f_Ne_isStation 14 a1 P) (1 : Int32) P) (fun y1 => if y1 = (0 : Int32) then (if (P.1 21 0) = a1 then (some ((0 : Int32), P)) else (bd2 (f_De_sizeAt a1 P) (fun v4 P5 => if v4 ≤ (0 : Int32) then (some ((-1 : Int32), P5)) else (some ((1 : Int32), P5))))) else (some (y1, P)))
theorem t_f_Yr_forces {G : GX} (hG : GOK G) {E : EV} (hE : E0 E) (d : Nat) (hd : 5 ≤ d) {Q : QT} (a1 : Int32) (P : PM) (h : St E rIP (f_Yr_forces a1 P) Q) : Go G c_Yr_forces "YawnRoute" 3 (some .int) false d nOb nOb Q 0 [(0, .ref (ad E 0)), (1, .int a1)] [] P E := by
  rw [f_Yr_forces] at h
  refine Go.aload_n (k := 0) (i := 0) 0 (by decide +kernel) rfl rfl ?_
  refine Go.aload_n (k := 0) (i := 0) 0 (by decide +kernel) rfl rfl ?_
  refine Go.get 0 2 (.ref (ad E 14)) (by decide) (by decide) sh0 (ltO hE sh0) (vlR hE rfl rfl) lk392 (by decide +kernel) ?_
  refine Go.iload_n (k := 1) (i := 1) 1 (by decide +kernel) rfl rfl ?_
  refine Go.cV_i (P1 := P) (v := (f_Ne_isStation 14 a1 P)) (d - 1) 14 [.int a1] sh14 hE w_Ne_isStation (e_Ne_isStation hG hE (d - 1) (by omega) 14 sh14 a1 P ⟨rfl, rfl, rfl⟩) lk726 rfl (by omega) (Nat.le_of_ble_eq_true rfl) (by decide +kernel) _ rfl ?_
  refine Go.iconst (n := 1) (1 : Int32) (by decide +kernel) rfl ?_
  refine Go.cV_i (P1 := P) (v := (f_Yr_refusal (f_Ne_isStation 14 a1 P) (1 : Int32) P)) (d - 1) 0 [.int (f_Ne_isStation 14 a1 P), .int (1 : Int32)] sh0 hE w_Yr_refusal (e_Yr_refusal hG hE (d - 1) (by omega) (f_Ne_isStation 14 a1 P) (1 : Int32) P ⟨rfl, rfl, rfl⟩) lk912 rfl (by omega) (Nat.le_of_ble_eq_true rfl) (by decide +kernel) _ rfl ?_
  obtain ⟨y1, hy1, h⟩ := St.lb h
  refine Go.eqi y1 hy1 ?_
  refine Go.istore_n (k := 2) (i := 2) [(2, .int y1), (0, .ref (ad E 0)), (1, .int a1)] (by decide +kernel) rfl (by decide) rfl ?_
  refine Go.iload_n (k := 2) (i := 2) 0 (by decide +kernel) rfl rfl ?_
  refine Go.if_eq (off := 5) 20 (by decide +kernel) (by decide) (fun c2 => ?_) (fun c2 => ?_)
  · rw [if_pos c2] at h
    refine Go.aload_n (k := 0) (i := 0) 1 (by decide +kernel) rfl rfl ?_
    refine Go.get 0 3 (.ref (ad E 21)) (by decide) (by decide) sh0 (ltO hE sh0) (vlR hE rfl rfl) lk393 (by decide +kernel) ?_
    refine Go.get 21 0 (.int (P.1 21 0)) (by decide) (by decide) sh21 (ltO hE sh21) rfl lk151 (by decide +kernel) ?_
    refine Go.iload_n (k := 1) (i := 1) 2 (by decide +kernel) rfl rfl ?_
    refine Go.icmp_ne (off := 5) 33 (by decide +kernel) (by decide) (fun c3 => ?_) (fun c3 => ?_)
    · rw [if_neg c3] at h
      refine Go.aload_n (k := 0) (i := 0) 1 (by decide +kernel) rfl rfl ?_
      refine Go.get 0 5 (.ref (ad E 31)) (by decide) (by decide) sh0 (ltO hE sh0) (vlR hE rfl rfl) lk395 (by decide +kernel) ?_
      refine Go.iload_n (k := 1) (i := 1) 2 (by decide +kernel) rfl rfl ?_
      obtain ⟨v4, P5, hv4, h⟩ := St.bd2 h
      refine Go.cV_i (P1 := P5) (v := v4) (d - 1) 31 [.int a1] sh31 hE w_De_sizeAt (e_De_sizeAt hG hE (d - 1) (by omega) a1 P ⟨_, hv4, rfl, rfl, rfl⟩) lk759 rfl (by omega) (Nat.le_of_ble_eq_true rfl) (by decide +kernel) _ rfl ?_
      refine Go.if_le (off := 7) 48 (by decide +kernel) (by decide) (fun c6 => ?_) (fun c6 => ?_)
      · rw [if_pos c6] at h
        refine Go.iconst (n := -1) (-1 : Int32) (by decide +kernel) rfl ?_
        exact Go.iret rfl rfl hE.2 (by decide +kernel) (St.fIP h)
      · rw [if_neg c6] at h
        refine Go.iconst (n := 1) (1 : Int32) (by decide +kernel) rfl ?_
        refine Go.goto (off := 4) 49 (by decide +kernel) (by decide) ?_
        exact Go.iret rfl rfl hE.2 (by decide +kernel) (St.fIP h)
    · rw [if_pos c3] at h
      refine Go.iconst (n := 0) (0 : Int32) (by decide +kernel) rfl ?_
      exact Go.iret rfl rfl hE.2 (by decide +kernel) (St.fIP h)
  · rw [if_neg c2] at h
    refine Go.iload_n (k := 2) (i := 2) 0 (by decide +kernel) rfl rfl ?_
    exact Go.iret rfl rfl hE.2 (by decide +kernel) (St.fIP h)
theorem e_Yr_forces {G : GX} (hG : GOK G) {E : EV} (hE : E0 E) (d : Nat) (hd : 5 ≤ d) (a1 : Int32) (P : PM) {Q : QT} (h : St E rIP (f_Yr_forces a1 P) Q) : Con G y_Yr_forces cw_Yr_forces d nOb nOb [.ref (ad E 0), .int a1] P E Q :=
  Con.of hG (by decide +kernel) rfl (fun h => by cases h) hE.2 (Nat.le_of_ble_eq_true rfl) (t_f_Yr_forces hG hE d hd a1 P h)
abbrev c_Yr_best : ByteArray := prog_1_method_35_code
abbrev y_Yr_best : MethodName := ⟨"YawnRoute", "best", "(I)I"⟩
abbrev cw_Yr_best : Cond := .code y_Yr_best c_Yr_best 3 (some .int)
theorem w_Yr_best : VW 11 y_Yr_best c_Yr_best 3 (some .int) 1 := ⟨by decide, lk1229, lk1230, lk1, lk1231, ⟨by decide, by decide, by decide +kernel⟩, by decide⟩
noncomputable def f_Yr_best (a1 : Int32) (P : PM) : Option (Int32 × PM) := bd2 (f_Yr_forces a1 P) (fun v1 P2 => if (-1 : Int32) ≤ v1 then (if v1 = (1 : Int32) then (some (a1, P2)) else (some ((-1 : Int32), P2))) else (some (v1, P2)))
theorem t_f_Yr_best {G : GX} (hG : GOK G) {E : EV} (hE : E0 E) (d : Nat) (hd : 6 ≤ d) {Q : QT} (a1 : Int32) (P : PM) (h : St E rIP (f_Yr_best a1 P) Q) : Go G c_Yr_best "YawnRoute" 3 (some .int) false d nOb nOb Q 0 [(0, .ref (ad E 0)), (1, .int a1)] [] P E := by
  rw [f_Yr_best] at h
  refine Go.aload_n (k := 0) (i := 0) 0 (by decide +kernel) rfl rfl ?_
  refine Go.iload_n (k := 1) (i := 1) 1 (by decide +kernel) rfl rfl ?_
  obtain ⟨v1, P2, hv1, h⟩ := St.bd2 h
  refine Go.cV_i (P1 := P2) (v := v1) (d - 1) 0 [.int a1] sh0 hE w_Yr_forces (e_Yr_forces hG hE (d - 1) (by omega) a1 P ⟨_, hv1, rfl, rfl, rfl⟩) lk1232 rfl (by omega) (Nat.le_of_ble_eq_true rfl) (by decide +kernel) _ rfl ?_
  refine Go.istore_n (k := 2) (i := 2) [(2, .int v1), (0, .ref (ad E 0)), (1, .int a1)] (by decide +kernel) rfl (by decide) rfl ?_
  refine Go.iload_n (k := 2) (i := 2) 0 (by decide +kernel) rfl rfl ?_
  refine Go.iconst (n := -1) (-1 : Int32) (by decide +kernel) rfl ?_
  refine Go.icmp_ge (off := 5) 13 (by decide +kernel) (by decide) (fun c3 => ?_) (fun c3 => ?_)
  · rw [if_pos c3] at h
    refine Go.iload_n (k := 2) (i := 2) 0 (by decide +kernel) rfl rfl ?_
    refine Go.iconst (n := 1) (1 : Int32) (by decide +kernel) rfl ?_
    refine Go.icmp_ne (off := 7) 22 (by decide +kernel) (by decide) (fun c4 => ?_) (fun c4 => ?_)
    · rw [if_neg c4] at h
      refine Go.iconst (n := -1) (-1 : Int32) (by decide +kernel) rfl ?_
      exact Go.iret rfl rfl hE.2 (by decide +kernel) (St.fIP h)
    · rw [if_pos c4] at h
      refine Go.iload_n (k := 1) (i := 1) 2 (by decide +kernel) rfl rfl ?_
      refine Go.goto (off := 4) 23 (by decide +kernel) (by decide) ?_
      exact Go.iret rfl rfl hE.2 (by decide +kernel) (St.fIP h)
  · rw [if_neg c3] at h
    refine Go.iload_n (k := 2) (i := 2) 0 (by decide +kernel) rfl rfl ?_
    exact Go.iret rfl rfl hE.2 (by decide +kernel) (St.fIP h)
theorem e_Yr_best {G : GX} (hG : GOK G) {E : EV} (hE : E0 E) (d : Nat) (hd : 6 ≤ d) (a1 : Int32) (P : PM) {Q : QT} (h : St E rIP (f_Yr_best a1 P) Q) : Con G y_Yr_best cw_Yr_best d nOb nOb [.ref (ad E 0), .int a1] P E Q :=
  Con.of hG (by decide +kernel) rfl (fun h => by cases h) hE.2 (Nat.le_of_ble_eq_true rfl) (t_f_Yr_best hG hE d hd a1 P h)
