/-! methods as functions, by program: St_countFrom St_countBack Yr_isBack Yr_back St_firstBack St_stationBack Yr_backBy -/
abbrev c_St_countFrom : ByteArray := prog_10_method_3_code
abbrev y_St_countFrom : MethodName := ⟨"YawnRoute$Steps", "countFrom", "(II)V"⟩
abbrev cw_St_countFrom : Cond := .code y_St_countFrom c_St_countFrom 8 none
theorem w_St_countFrom : VW 8 y_St_countFrom c_St_countFrom 8 none 2 := ⟨by decide, lk1162, lp39_, lk13, lk1163, ⟨by decide, by decide, by decide +kernel⟩, by decide⟩
def j_St_countFrom_84 (k9 : Int32 → Int32 → Int32 → Int32 → Int32 → PM → Option PM) (x1 : Int32) (x2 : Int32) (x3 : Int32) (x4 : Int32) (x5 : Int32) (P : PM) : Option PM := k9 x1 x2 x3 x4 (x5 + (1 : Int32)) P
def l_St_countFrom_9 : Nat → Int32 → Int32 → Int32 → Int32 → Int32 → PM → Option PM
  | 0, _, _, _, _, _, _ => none
  | n + 1, x1, x2, x3, x4, x5, P => if (P.1 14 0) ≤ x5 then (ck (inb x1 11) (ck (inb x2 280) (ck (inb (x1 &&& (1 : Int32)) 2) (ck (inb x2 280) (some (u1 (u1 P (71 + x1.toNatClampNeg) x2.toNatClampNeg x3) (83 + (x1 &&& (1 : Int32)).toNatClampNeg) x2.toNatClampNeg x4)))))) else ((f_Pa_next x2 x5 (P.1 21 3) P).bind (fun v6 => (f_St_routesFrom (x1 - (1 : Int32)) v6 P).bind (fun v7 => if v7 ≤ (0 : Int32) then (j_St_countFrom_84 (fun z0 z1 z2 z3 z4 Pz => l_St_countFrom_9 n z0 z1 z2 z3 z4 Pz) x1 x2 x3 x4 x5 P) else (lb (x3 + v7) (fun y9 => ck (inb ((x1 - (1 : Int32)) &&& (1 : Int32)) 2) (ck (inb v6 280) (lb (x4 &&& ((P.1 (83 + ((x1 - (1 : Int32)) &&& (1 : Int32)).toNatClampNeg) v6.toNatClampNeg) ||| ((1 : Int32) <<< (x5 &&& 31)))) (fun y12 => j_St_countFrom_84 (fun z0 z1 z2 z3 z4 Pz => l_St_countFrom_9 n z0 z1 z2 z3 z4 Pz) x1 x2 y9 y12 x5 P))))))))
def f_St_countFrom (a1 : Int32) (a2 : Int32) (P : PM) : Option PM := l_St_countFrom_9 FU a1 a2 (0 : Int32) (127 : Int32) (0 : Int32) P
theorem t_j_St_countFrom_84 {G : GX} (hG : GOK G) {E : EV} (hE : E0 E) (d : Nat) (hd : 4 ≤ d) {Q : QT} (k9 : Int32 → Int32 → Int32 → Int32 → Int32 → PM → Option PM) (hk9 : ∀ (x1 : Int32) (x2 : Int32) (x3 : Int32) (x4 : Int32) (x5 : Int32) (P : PM), St E rP (k9 x1 x2 x3 x4 x5 P) Q → Go G c_St_countFrom "YawnRoute$Steps" 8 none false d nOb nOb Q 9 [(0, .ref (ad E 69)), (1, .int x1), (2, .int x2), (3, .int x3), (4, .int x4), (5, .int x5)] [] P E) (x1 : Int32) (x2 : Int32) (x3 : Int32) (x4 : Int32) (x5 : Int32) (P : PM) (h : St E rP (j_St_countFrom_84 k9 x1 x2 x3 x4 x5 P) Q) : Go G c_St_countFrom "YawnRoute$Steps" 8 none false d nOb nOb Q 84 [(0, .ref (ad E 69)), (1, .int x1), (2, .int x2), (3, .int x3), (4, .int x4), (5, .int x5)] [] P E := by
  rw [j_St_countFrom_84] at h
  refine Go.iinc (i := 5) (n := 1) 5 (x5 + (1 : Int32)) [(5, .int (x5 + (1 : Int32))), (0, .ref (ad E 69)), (1, .int x1), (2, .int x2), (3, .int x3), (4, .int x4)] (by decide +kernel) rfl rfl (by decide) rfl ?_
  refine Go.goto (off := -78) 9 (by decide +kernel) (by decide) ?_
  refine Go.sub [1, 2, 3, 4, 5, 0] [(0, .ref (ad E 69)), (1, .int x1), (2, .int x2), (3, .int x3), (4, .int x4), (5, .int (x5 + (1 : Int32)))] rfl ?_
  exact hk9 x1 x2 x3 x4 (x5 + (1 : Int32)) P h
theorem t_l_St_countFrom_9 {G : GX} (hG : GOK G) {E : EV} (hE : E0 E) (d : Nat) (hd : 4 ≤ d) {Q : QT} : ∀ (n : Nat) (x1 : Int32) (x2 : Int32) (x3 : Int32) (x4 : Int32) (x5 : Int32) (P : PM), St E rP (l_St_countFrom_9 n x1 x2 x3 x4 x5 P) Q → Go G c_St_countFrom "YawnRoute$Steps" 8 none false d nOb nOb Q 9 [(0, .ref (ad E 69)), (1, .int x1), (2, .int x2), (3, .int x3), (4, .int x4), (5, .int x5)] [] P E := by
  intro n
  induction n with
  | zero =>
    intro x1 x2 x3 x4 x5 P h
    rw [l_St_countFrom_9] at h
    exact St.none_ h
  | succ n ih =>
    intro x1 x2 x3 x4 x5 P h
    rw [l_St_countFrom_9] at h
    refine Go.iload (i := 5) 5 (by decide +kernel) rfl ?_
    refine Go.aload_n (k := 0) (i := 0) 0 (by decide +kernel) rfl rfl ?_
    refine Go.get 69 0 (.ref (ad E 14)) (by decide) (by decide) sh69 (ltO hE sh69) (vlR hE rfl rfl) lk370 (by decide +kernel) ?_
    refine Go.get 14 0 (.int (P.1 14 0)) (by decide) (by decide) sh14 (ltO hE sh14) rfl lk88 (by decide +kernel) ?_
    refine Go.icmp_ge (off := 72) 90 (by decide +kernel) (by decide) (fun c1 => ?_) (fun c1 => ?_)
    · rw [if_pos c1] at h
      refine Go.aload_n (k := 0) (i := 0) 0 (by decide +kernel) rfl rfl ?_
      refine Go.get 69 3 (.ref (ad E 70)) (by decide) (by decide) sh69 (ltO hE sh69) (vlR hE rfl rfl) lk373 (by decide +kernel) ?_
      refine Go.iload_n (k := 1) (i := 1) 1 (by decide +kernel) rfl rfl ?_
      obtain ⟨b2, h⟩ := St.ck h
      refine Go.aaload 70 6 11 (71 + x1.toNatClampNeg) sh70 (by decide) (ltA hE sh70 (by decide)) (inb_in b2) (by rw [hE.1]; exact raR70 b2) (by decide +kernel) ?_
      refine Go.iload_n (k := 2) (i := 2) 2 (by decide +kernel) rfl rfl ?_
      refine Go.iload_n (k := 3) (i := 3) 3 (by decide +kernel) rfl rfl ?_
      obtain ⟨b3, h⟩ := St.ck h
      refine Go.iastore (71 + x1.toNatClampNeg) 280 (raS70 b2) (ltA hE (raS70 b2) (by decide)) (inb_in b3) (by decide +kernel) ?_
      refine Go.aload_n (k := 0) (i := 0) 0 (by decide +kernel) rfl rfl ?_
      refine Go.get 69 4 (.ref (ad E 82)) (by decide) (by decide) sh69 (ltO hE sh69) (vlR hE rfl rfl) lk374 (by decide +kernel) ?_
      refine Go.iload_n (k := 1) (i := 1) 1 (by decide +kernel) rfl rfl ?_
      refine Go.iconst (n := 1) (1 : Int32) (by decide +kernel) rfl ?_
      refine Go.iand (by decide +kernel) ?_
      obtain ⟨b4, h⟩ := St.ck h
      refine Go.aaload 82 6 2 (83 + (x1 &&& (1 : Int32)).toNatClampNeg) sh82 (by decide) (ltA hE sh82 (by decide)) (inb_in b4) (by rw [hE.1]; exact raR82 b4) (by decide +kernel) ?_
      refine Go.iload_n (k := 2) (i := 2) 2 (by decide +kernel) rfl rfl ?_
      refine Go.iload (i := 4) 4 (by decide +kernel) rfl ?_
      obtain ⟨b5, h⟩ := St.ck h
      refine Go.iastore (83 + (x1 &&& (1 : Int32)).toNatClampNeg) 280 (raS82 b4) (ltA hE (raS82 b4) (by decide)) (inb_in b5) (by decide +kernel) ?_
      exact Go.vret rfl hE.2 (by decide +kernel) h
    · rw [if_neg c1] at h
      refine Go.aload_n (k := 0) (i := 0) 0 (by decide +kernel) rfl rfl ?_
      refine Go.get 69 2 (.ref (ad E 58)) (by decide) (by decide) sh69 (ltO hE sh69) (vlR hE rfl rfl) lk372 (by decide +kernel) ?_
      refine Go.iload_n (k := 2) (i := 2) 2 (by decide +kernel) rfl rfl ?_
      refine Go.iload (i := 5) 5 (by decide +kernel) rfl ?_
      refine Go.aload_n (k := 0) (i := 0) 0 (by decide +kernel) rfl rfl ?_
      refine Go.get 69 1 (.ref (ad E 21)) (by decide) (by decide) sh69 (ltO hE sh69) (vlR hE rfl rfl) lk371 (by decide +kernel) ?_
      refine Go.get 21 3 (.int (P.1 21 3)) (by decide) (by decide) sh21 (ltO hE sh21) rfl lk164 (by decide +kernel) ?_
      obtain ⟨v6, hv6, h⟩ := St.bind h
      refine Go.cV_i (d - 1) 58 [.int x2, .int x5, .int (P.1 21 3)] sh58 hE w_Pa_next (e_Pa_next hG hE (d - 1) (by omega) x2 x5 (P.1 21 3) P (by rw [hv6]; exact ⟨rfl, rfl, rfl⟩)) lk1164 rfl (by omega) (Nat.le_of_ble_eq_true rfl) (by decide +kernel) _ rfl ?_
      refine Go.istore (i := 6) [(6, .int v6), (0, .ref (ad E 69)), (1, .int x1), (2, .int x2), (3, .int x3), (4, .int x4), (5, .int x5)] (by decide +kernel) (by decide) rfl ?_
      refine Go.aload_n (k := 0) (i := 0) 1 (by decide +kernel) rfl rfl ?_
      refine Go.iload_n (k := 1) (i := 1) 2 (by decide +kernel) rfl rfl ?_
      refine Go.iconst (n := 1) (1 : Int32) (by decide +kernel) rfl ?_
      refine Go.isub (by decide +kernel) ?_
      refine Go.iload (i := 6) 0 (by decide +kernel) rfl ?_
      obtain ⟨v7, hv7, h⟩ := St.bind h
      refine Go.cV_i (d - 1) 69 [.int (x1 - (1 : Int32)), .int v6] sh69 hE w_St_routesFrom (e_St_routesFrom hG hE (d - 1) (by omega) (x1 - (1 : Int32)) v6 P (by rw [hv7]; exact ⟨rfl, rfl, rfl⟩)) lk1165 rfl (by omega) (Nat.le_of_ble_eq_true rfl) (by decide +kernel) _ rfl ?_
      refine Go.istore (i := 7) [(7, .int v7), (6, .int v6), (0, .ref (ad E 69)), (1, .int x1), (2, .int x2), (3, .int x3), (4, .int x4), (5, .int x5)] (by decide +kernel) (by decide) rfl ?_
      refine Go.iload (i := 7) 0 (by decide +kernel) rfl ?_
      refine Go.if_le (off := 31) 84 (by decide +kernel) (by decide) (fun c8 => ?_) (fun c8 => ?_)
      · rw [if_pos c8] at h
        refine Go.sub [2, 3, 4, 5, 6, 7] [(0, .ref (ad E 69)), (1, .int x1), (2, .int x2), (3, .int x3), (4, .int x4), (5, .int x5)] rfl ?_
        exact t_j_St_countFrom_84 hG hE d hd (fun z0 z1 z2 z3 z4 Pz => l_St_countFrom_9 n z0 z1 z2 z3 z4 Pz) (fun z0 z1 z2 z3 z4 Pz q => ih z0 z1 z2 z3 z4 Pz q) x1 x2 x3 x4 x5 P h
      · rw [if_neg c8] at h
        refine Go.iload_n (k := 3) (i := 3) 5 (by decide +kernel) rfl rfl ?_
        refine Go.iload (i := 7) 0 (by decide +kernel) rfl ?_
        refine Go.iadd (by decide +kernel) ?_
        obtain ⟨y9, hy9, h⟩ := St.lb h
        refine Go.eqi y9 hy9 ?_
        refine Go.istore_n (k := 3) (i := 3) [(3, .int y9), (7, .int v7), (6, .int v6), (0, .ref (ad E 69)), (1, .int x1), (2, .int x2), (4, .int x4), (5, .int x5)] (by decide +kernel) rfl (by decide) rfl ?_
        refine Go.iload (i := 4) 6 (by decide +kernel) rfl ?_
        refine Go.aload_n (k := 0) (i := 0) 3 (by decide +kernel) rfl rfl ?_
        refine Go.get 69 4 (.ref (ad E 82)) (by decide) (by decide) sh69 (ltO hE sh69) (vlR hE rfl rfl) lk374 (by decide +kernel) ?_
        refine Go.iload_n (k := 1) (i := 1) 4 (by decide +kernel) rfl rfl ?_
        refine Go.iconst (n := 1) (1 : Int32) (by decide +kernel) rfl ?_
        refine Go.isub (by decide +kernel) ?_
        refine Go.iconst (n := 1) (1 : Int32) (by decide +kernel) rfl ?_
        refine Go.iand (by decide +kernel) ?_
        obtain ⟨b10, h⟩ := St.ck h
        refine Go.aaload 82 6 2 (83 + ((x1 - (1 : Int32)) &&& (1 : Int32)).toNatClampNeg) sh82 (by decide) (ltA hE sh82 (by decide)) (inb_in b10) (by rw [hE.1]; exact raR82 b10) (by decide +kernel) ?_
        refine Go.iload (i := 6) 2 (by decide +kernel) rfl ?_
        obtain ⟨b11, h⟩ := St.ck h
        refine Go.iaload (83 + ((x1 - (1 : Int32)) &&& (1 : Int32)).toNatClampNeg) 280 (raS82 b10) (ltA hE (raS82 b10) (by decide)) (inb_in b11) (by decide +kernel) ?_
        refine Go.iconst (n := 1) (1 : Int32) (by decide +kernel) rfl ?_
        refine Go.iload (i := 5) 7 (by decide +kernel) rfl ?_
        refine Go.ishl (by decide +kernel) ?_
        refine Go.ior (by decide +kernel) ?_
        refine Go.iand (by decide +kernel) ?_
        obtain ⟨y12, hy12, h⟩ := St.lb h
        refine Go.eqi y12 hy12 ?_
        refine Go.istore (i := 4) [(4, .int y12), (3, .int y9), (7, .int v7), (6, .int v6), (0, .ref (ad E 69)), (1, .int x1), (2, .int x2), (5, .int x5)] (by decide +kernel) (by decide) rfl ?_
        refine Go.sub [4, 5, 6, 1, 0, 7] [(0, .ref (ad E 69)), (1, .int x1), (2, .int x2), (3, .int y9), (4, .int y12), (5, .int x5)] rfl ?_
        exact t_j_St_countFrom_84 hG hE d hd (fun z0 z1 z2 z3 z4 Pz => l_St_countFrom_9 n z0 z1 z2 z3 z4 Pz) (fun z0 z1 z2 z3 z4 Pz q => ih z0 z1 z2 z3 z4 Pz q) x1 x2 y9 y12 x5 P h
theorem t_f_St_countFrom {G : GX} (hG : GOK G) {E : EV} (hE : E0 E) (d : Nat) (hd : 4 ≤ d) {Q : QT} (a1 : Int32) (a2 : Int32) (P : PM) (h : St E rP (f_St_countFrom a1 a2 P) Q) : Go G c_St_countFrom "YawnRoute$Steps" 8 none false d nOb nOb Q 0 [(0, .ref (ad E 69)), (1, .int a1), (2, .int a2)] [] P E := by
  rw [f_St_countFrom] at h
  refine Go.iconst (n := 0) (0 : Int32) (by decide +kernel) rfl ?_
  refine Go.istore_n (k := 3) (i := 3) [(3, .int (0 : Int32)), (0, .ref (ad E 69)), (1, .int a1), (2, .int a2)] (by decide +kernel) rfl (by decide) rfl ?_
  refine Go.bipush (n := 127) (127 : Int32) (by decide +kernel) (by decide) ?_
  refine Go.istore (i := 4) [(4, .int (127 : Int32)), (3, .int (0 : Int32)), (0, .ref (ad E 69)), (1, .int a1), (2, .int a2)] (by decide +kernel) (by decide) rfl ?_
  refine Go.iconst (n := 0) (0 : Int32) (by decide +kernel) rfl ?_
  refine Go.istore (i := 5) [(5, .int (0 : Int32)), (4, .int (127 : Int32)), (3, .int (0 : Int32)), (0, .ref (ad E 69)), (1, .int a1), (2, .int a2)] (by decide +kernel) (by decide) rfl ?_
  refine Go.sub [3, 4, 5, 2, 1, 0] [(0, .ref (ad E 69)), (1, .int a1), (2, .int a2), (3, .int (0 : Int32)), (4, .int (127 : Int32)), (5, .int (0 : Int32))] rfl ?_
  exact t_l_St_countFrom_9 hG hE d hd FU a1 a2 (0 : Int32) (127 : Int32) (0 : Int32) P h
theorem e_St_countFrom {G : GX} (hG : GOK G) {E : EV} (hE : E0 E) (d : Nat) (hd : 4 ≤ d) (a1 : Int32) (a2 : Int32) (P : PM) {Q : QT} (h : St E rP (f_St_countFrom a1 a2 P) Q) : Con G y_St_countFrom cw_St_countFrom d nOb nOb [.ref (ad E 69), .int a1, .int a2] P E Q :=
  Con.of hG (by decide) rfl (fun h => by cases h) hE.2 (Nat.le_of_ble_eq_true rfl) (t_f_St_countFrom hG hE d hd a1 a2 P h)
abbrev c_St_countBack : ByteArray := prog_10_method_2_code
abbrev y_St_countBack : MethodName := ⟨"YawnRoute$Steps", "countBack", "(II)I"⟩
abbrev cw_St_countBack : Cond := .code y_St_countBack c_St_countBack 5 (some .int)
theorem w_St_countBack : VW 8 y_St_countBack c_St_countBack 5 (some .int) 2 := ⟨by decide, lk1153, lk1154, lk13, lk1155, ⟨by decide, by decide, by decide +kernel⟩, by decide⟩
def j_St_countBack_113 (k58 : Int32 → Int32 → PM → Option (Int32 × PM)) (x1 : Int32) (x3 : Int32) (P : PM) : Option (Int32 × PM) := k58 x1 (x3 + (1 : Int32)) P
def l_St_countBack_72 (k58 : Int32 → Int32 → PM → Option (Int32 × PM)) : Nat → Int32 → Int32 → Int32 → PM → Option (Int32 × PM)
  | 0, _, _, _, _ => none
  | n + 1, x1, x3, x4, P => if (P.1 58 6) ≤ x4 then (j_St_countBack_113 k58 x1 x3 P) else (if (280 : Int32) ≤ x4 then (j_St_countBack_113 k58 x1 x3 P) else (ck (inb x4 280) ((f_St_countFrom x3 (P.1 62 x4.toNatClampNeg) P).bind (fun P4 => l_St_countBack_72 k58 n x1 x3 (x4 + (1 : Int32)) P4))))
def j_St_countBack_119 (x1 : Int32) (P : PM) : Option (Int32 × PM) := (f_St_routesFrom x1 (f_Sa_place 21 P) P).bind (fun v1 => some (v1, P))
def l_St_countBack_58 : Nat → Int32 → Int32 → PM → Option (Int32 × PM)
  | 0, _, _, _ => none
  | n + 1, x1, x3, P => if x1 < x3 then (j_St_countBack_119 x1 P) else (if (10 : Int32) < x3 then (j_St_countBack_119 x1 P) else (l_St_countBack_72 (fun z0 z1 Pz => l_St_countBack_58 n z0 z1 Pz) FU x1 x3 (0 : Int32) P))
def j_St_countBack_56 (x1 : Int32) (P : PM) : Option (Int32 × PM) := l_St_countBack_58 FU x1 (1 : Int32) P
def f_St_countBack (a1 : Int32) (a2 : Int32) (P : PM) : Option (Int32 × PM) := (f_Pa_explore (f_Sa_place 21 P) (P.1 21 3) P).bind (fun P1 => (f_Ja_fill_AII 71 280 (0 : Int32) P1).bind (fun P2 => if (f_Yr_isPlace a2 P2) = (0 : Int32) then (j_St_countBack_56 a1 P2) else (ck (inb a2 280) (ck (inb a2 280) (j_St_countBack_56 a1 (u1 (u1 P2 71 a2.toNatClampNeg (1 : Int32)) 83 a2.toNatClampNeg (0 : Int32)))))))
theorem t_j_St_countBack_113 {G : GX} (hG : GOK G) {E : EV} (hE : E0 E) (d : Nat) (hd : 6 ≤ d) {Q : QT} (k58 : Int32 → Int32 → PM → Option (Int32 × PM)) (hk58 : ∀ (x1 : Int32) (x3 : Int32) (P : PM), St E rIP (k58 x1 x3 P) Q → Go G c_St_countBack "YawnRoute$Steps" 5 (some .int) false d nOb nOb Q 58 [(0, .ref (ad E 69)), (1, .int x1), (3, .int x3)] [] P E) (x1 : Int32) (x3 : Int32) (P : PM) (h : St E rIP (j_St_countBack_113 k58 x1 x3 P) Q) : Go G c_St_countBack "YawnRoute$Steps" 5 (some .int) false d nOb nOb Q 113 [(0, .ref (ad E 69)), (1, .int x1), (3, .int x3)] [] P E := by
  rw [j_St_countBack_113] at h
  refine Go.iinc (i := 3) (n := 1) 2 (x3 + (1 : Int32)) [(3, .int (x3 + (1 : Int32))), (0, .ref (ad E 69)), (1, .int x1)] (by decide +kernel) rfl rfl (by decide) rfl ?_
  refine Go.goto (off := -58) 58 (by decide +kernel) (by decide) ?_
  refine Go.sub [1, 2, 0] [(0, .ref (ad E 69)), (1, .int x1), (3, .int (x3 + (1 : Int32)))] rfl ?_
  exact hk58 x1 (x3 + (1 : Int32)) P h
theorem t_l_St_countBack_72 {G : GX} (hG : GOK G) {E : EV} (hE : E0 E) (d : Nat) (hd : 6 ≤ d) {Q : QT} (k58 : Int32 → Int32 → PM → Option (Int32 × PM)) (hk58 : ∀ (x1 : Int32) (x3 : Int32) (P : PM), St E rIP (k58 x1 x3 P) Q → Go G c_St_countBack "YawnRoute$Steps" 5 (some .int) false d nOb nOb Q 58 [(0, .ref (ad E 69)), (1, .int x1), (3, .int x3)] [] P E) : ∀ (n : Nat) (x1 : Int32) (x3 : Int32) (x4 : Int32) (P : PM), St E rIP (l_St_countBack_72 k58 n x1 x3 x4 P) Q → Go G c_St_countBack "YawnRoute$Steps" 5 (some .int) false d nOb nOb Q 72 [(0, .ref (ad E 69)), (1, .int x1), (3, .int x3), (4, .int x4)] [] P E := by
  intro n
  induction n with
  | zero =>
    intro x1 x3 x4 P h
    rw [l_St_countBack_72] at h
    exact St.none_ h
  | succ n ih =>
    intro x1 x3 x4 P h
    rw [l_St_countBack_72] at h
    refine Go.iload (i := 4) 3 (by decide +kernel) rfl ?_
    refine Go.aload_n (k := 0) (i := 0) 0 (by decide +kernel) rfl rfl ?_
    refine Go.get 69 2 (.ref (ad E 58)) (by decide) (by decide) sh69 (ltO hE sh69) (vlR hE rfl rfl) lk372 (by decide +kernel) ?_
    refine Go.get 58 6 (.int (P.1 58 6)) (by decide) (by decide) sh58 (ltO hE sh58) rfl lk297 (by decide +kernel) ?_
    refine Go.icmp_ge (off := 32) 113 (by decide +kernel) (by decide) (fun c1 => ?_) (fun c1 => ?_)
    · rw [if_pos c1] at h
      refine Go.sub [0, 1, 2] [(0, .ref (ad E 69)), (1, .int x1), (3, .int x3)] rfl ?_
      exact t_j_St_countBack_113 hG hE d hd k58 hk58 x1 x3 P h
    · rw [if_neg c1] at h
      refine Go.iload (i := 4) 3 (by decide +kernel) rfl ?_
      refine Go.sipush (n := 280) (280 : Int32) (by decide +kernel) (by decide) ?_
      refine Go.icmp_ge (off := 24) 113 (by decide +kernel) (by decide) (fun c2 => ?_) (fun c2 => ?_)
      · rw [if_pos c2] at h
        refine Go.sub [0, 1, 2] [(0, .ref (ad E 69)), (1, .int x1), (3, .int x3)] rfl ?_
        exact t_j_St_countBack_113 hG hE d hd k58 hk58 x1 x3 P h
      · rw [if_neg c2] at h
        refine Go.aload_n (k := 0) (i := 0) 0 (by decide +kernel) rfl rfl ?_
        refine Go.iload_n (k := 3) (i := 3) 2 (by decide +kernel) rfl rfl ?_
        refine Go.aload_n (k := 0) (i := 0) 0 (by decide +kernel) rfl rfl ?_
        refine Go.get 69 2 (.ref (ad E 58)) (by decide) (by decide) sh69 (ltO hE sh69) (vlR hE rfl rfl) lk372 (by decide +kernel) ?_
        refine Go.get 58 5 (.ref (ad E 62)) (by decide) (by decide) sh58 (ltO hE sh58) (vlR hE rfl rfl) lk295 (by decide +kernel) ?_
        refine Go.iload (i := 4) 3 (by decide +kernel) rfl ?_
        obtain ⟨b3, h⟩ := St.ck h
        refine Go.iaload 62 280 sh62 (ltA hE sh62 (by decide)) (inb_in b3) (by decide +kernel) ?_
        obtain ⟨P4, hP4, h⟩ := St.bind h
        refine Go.cV_v (d - 1) 69 [.int x3, .int (P.1 62 x4.toNatClampNeg)] sh69 hE w_St_countFrom (e_St_countFrom hG hE (d - 1) (by omega) x3 (P.1 62 x4.toNatClampNeg) P (by rw [hP4]; exact ⟨rfl, rfl, rfl⟩)) lk1160 rfl (by omega) (Nat.le_of_ble_eq_true rfl) (by decide +kernel) _ rfl ?_
        refine Go.iinc (i := 4) (n := 1) 3 (x4 + (1 : Int32)) [(4, .int (x4 + (1 : Int32))), (0, .ref (ad E 69)), (1, .int x1), (3, .int x3)] (by decide +kernel) rfl rfl (by decide) rfl ?_
        refine Go.goto (off := -38) 72 (by decide +kernel) (by decide) ?_
        refine Go.sub [1, 2, 3, 0] [(0, .ref (ad E 69)), (1, .int x1), (3, .int x3), (4, .int (x4 + (1 : Int32)))] rfl ?_
        exact ih x1 x3 (x4 + (1 : Int32)) P4 h
theorem t_j_St_countBack_119 {G : GX} (hG : GOK G) {E : EV} (hE : E0 E) (d : Nat) (hd : 6 ≤ d) {Q : QT} (x1 : Int32) (P : PM) (h : St E rIP (j_St_countBack_119 x1 P) Q) : Go G c_St_countBack "YawnRoute$Steps" 5 (some .int) false d nOb nOb Q 119 [(0, .ref (ad E 69)), (1, .int x1)] [] P E := by
  rw [j_St_countBack_119] at h
  refine Go.aload_n (k := 0) (i := 0) 0 (by decide +kernel) rfl rfl ?_
  refine Go.iload_n (k := 1) (i := 1) 1 (by decide +kernel) rfl rfl ?_
  refine Go.aload_n (k := 0) (i := 0) 0 (by decide +kernel) rfl rfl ?_
  refine Go.get 69 1 (.ref (ad E 21)) (by decide) (by decide) sh69 (ltO hE sh69) (vlR hE rfl rfl) lk371 (by decide +kernel) ?_
  refine Go.cV_i (d - 1) 21 [] sh21 hE w_Sa_place (e_Sa_place hG hE (d - 1) (by omega) 21 sh21 P ⟨rfl, rfl, rfl⟩) lk1156 rfl (by omega) (Nat.le_of_ble_eq_true rfl) (by decide +kernel) _ rfl ?_
  obtain ⟨v1, hv1, h⟩ := St.bind h
  refine Go.cV_i (d - 1) 69 [.int x1, .int (f_Sa_place 21 P)] sh69 hE w_St_routesFrom (e_St_routesFrom hG hE (d - 1) (by omega) x1 (f_Sa_place 21 P) P (by rw [hv1]; exact ⟨rfl, rfl, rfl⟩)) lk1165 rfl (by omega) (Nat.le_of_ble_eq_true rfl) (by decide +kernel) _ rfl ?_
  exact Go.iret rfl rfl hE.2 (by decide +kernel) h
theorem t_l_St_countBack_58 {G : GX} (hG : GOK G) {E : EV} (hE : E0 E) (d : Nat) (hd : 6 ≤ d) {Q : QT} : ∀ (n : Nat) (x1 : Int32) (x3 : Int32) (P : PM), St E rIP (l_St_countBack_58 n x1 x3 P) Q → Go G c_St_countBack "YawnRoute$Steps" 5 (some .int) false d nOb nOb Q 58 [(0, .ref (ad E 69)), (1, .int x1), (3, .int x3)] [] P E := by
  intro n
  induction n with
  | zero =>
    intro x1 x3 P h
    rw [l_St_countBack_58] at h
    exact St.none_ h
  | succ n ih =>
    intro x1 x3 P h
    rw [l_St_countBack_58] at h
    refine Go.iload_n (k := 3) (i := 3) 2 (by decide +kernel) rfl rfl ?_
    refine Go.iload_n (k := 1) (i := 1) 1 (by decide +kernel) rfl rfl ?_
    refine Go.icmp_gt (off := 59) 119 (by decide +kernel) (by decide) (fun c1 => ?_) (fun c1 => ?_)
    · rw [if_pos c1] at h
      refine Go.sub [0, 1] [(0, .ref (ad E 69)), (1, .int x1)] rfl ?_
      exact t_j_St_countBack_119 hG hE d hd x1 P h
    · rw [if_neg c1] at h
      refine Go.iload_n (k := 3) (i := 3) 2 (by decide +kernel) rfl rfl ?_
      refine Go.bipush (n := 10) (10 : Int32) (by decide +kernel) (by decide) ?_
      refine Go.icmp_gt (off := 53) 119 (by decide +kernel) (by decide) (fun c2 => ?_) (fun c2 => ?_)
      · rw [if_pos c2] at h
        refine Go.sub [0, 1] [(0, .ref (ad E 69)), (1, .int x1)] rfl ?_
        exact t_j_St_countBack_119 hG hE d hd x1 P h
      · rw [if_neg c2] at h
        refine Go.iconst (n := 0) (0 : Int32) (by decide +kernel) rfl ?_
        refine Go.istore (i := 4) [(4, .int (0 : Int32)), (0, .ref (ad E 69)), (1, .int x1), (3, .int x3)] (by decide +kernel) (by decide) rfl ?_
        refine Go.sub [1, 2, 3, 0] [(0, .ref (ad E 69)), (1, .int x1), (3, .int x3), (4, .int (0 : Int32))] rfl ?_
        exact t_l_St_countBack_72 hG hE d hd (fun z0 z1 Pz => l_St_countBack_58 n z0 z1 Pz) (fun z0 z1 Pz q => ih z0 z1 Pz q) FU x1 x3 (0 : Int32) P h
theorem t_j_St_countBack_56 {G : GX} (hG : GOK G) {E : EV} (hE : E0 E) (d : Nat) (hd : 6 ≤ d) {Q : QT} (x1 : Int32) (P : PM) (h : St E rIP (j_St_countBack_56 x1 P) Q) : Go G c_St_countBack "YawnRoute$Steps" 5 (some .int) false d nOb nOb Q 56 [(0, .ref (ad E 69)), (1, .int x1)] [] P E := by
  rw [j_St_countBack_56] at h
  refine Go.iconst (n := 1) (1 : Int32) (by decide +kernel) rfl ?_
  refine Go.istore_n (k := 3) (i := 3) [(3, .int (1 : Int32)), (0, .ref (ad E 69)), (1, .int x1)] (by decide +kernel) rfl (by decide) rfl ?_
  refine Go.sub [1, 2, 0] [(0, .ref (ad E 69)), (1, .int x1), (3, .int (1 : Int32))] rfl ?_
  exact t_l_St_countBack_58 hG hE d hd FU x1 (1 : Int32) P h
theorem t_f_St_countBack {G : GX} (hG : GOK G) {E : EV} (hE : E0 E) (d : Nat) (hd : 6 ≤ d) {Q : QT} (a1 : Int32) (a2 : Int32) (P : PM) (h : St E rIP (f_St_countBack a1 a2 P) Q) : Go G c_St_countBack "YawnRoute$Steps" 5 (some .int) false d nOb nOb Q 0 [(0, .ref (ad E 69)), (1, .int a1), (2, .int a2)] [] P E := by
  rw [f_St_countBack] at h
  refine Go.aload_n (k := 0) (i := 0) 0 (by decide +kernel) rfl rfl ?_
  refine Go.get 69 2 (.ref (ad E 58)) (by decide) (by decide) sh69 (ltO hE sh69) (vlR hE rfl rfl) lk372 (by decide +kernel) ?_
  refine Go.aload_n (k := 0) (i := 0) 0 (by decide +kernel) rfl rfl ?_
  refine Go.get 69 1 (.ref (ad E 21)) (by decide) (by decide) sh69 (ltO hE sh69) (vlR hE rfl rfl) lk371 (by decide +kernel) ?_
  refine Go.cV_i (d - 1) 21 [] sh21 hE w_Sa_place (e_Sa_place hG hE (d - 1) (by omega) 21 sh21 P ⟨rfl, rfl, rfl⟩) lk1156 rfl (by omega) (Nat.le_of_ble_eq_true rfl) (by decide +kernel) _ rfl ?_
  refine Go.aload_n (k := 0) (i := 0) 0 (by decide +kernel) rfl rfl ?_
  refine Go.get 69 1 (.ref (ad E 21)) (by decide) (by decide) sh69 (ltO hE sh69) (vlR hE rfl rfl) lk371 (by decide +kernel) ?_
  refine Go.get 21 3 (.int (P.1 21 3)) (by decide) (by decide) sh21 (ltO hE sh21) rfl lk164 (by decide +kernel) ?_
  obtain ⟨P1, hP1, h⟩ := St.bind h
  refine Go.cV_v (d - 1) 58 [.int (f_Sa_place 21 P), .int (P.1 21 3)] sh58 hE w_Pa_explore (e_Pa_explore hG hE (d - 1) (by omega) (f_Sa_place 21 P) (P.1 21 3) P (by rw [hP1]; exact ⟨rfl, rfl, rfl⟩)) lk1157 rfl (by omega) (Nat.le_of_ble_eq_true rfl) (by decide +kernel) _ rfl ?_
  refine Go.aload_n (k := 0) (i := 0) 0 (by decide +kernel) rfl rfl ?_
  refine Go.get 69 3 (.ref (ad E 70)) (by decide) (by decide) sh69 (ltO hE sh69) (vlR hE rfl rfl) lk373 (by decide +kernel) ?_
  refine Go.iconst (n := 0) (0 : Int32) (by decide +kernel) rfl ?_
  refine Go.aaload 70 6 11 71 sh70 (by decide) (ltA hE sh70 (by decide)) (vp_in_iff.mpr (by decide)) (by rw [hE.1]; decide) (by decide +kernel) ?_
  refine Go.iconst (n := 0) (0 : Int32) (by decide +kernel) rfl ?_
  obtain ⟨P2, hP2, h⟩ := St.bind h
  refine Go.cS_v (d - 1) [.ref (ad E 71), .int (0 : Int32)] hE w_Ja_fill_AII (e_Ja_fill_AII hG hE (d - 1) (by omega) 71 280 sh71 (0 : Int32) P1 (by rw [hP2]; exact ⟨rfl, rfl, rfl⟩)) lk1158 rfl (by omega) (Nat.le_of_ble_eq_true rfl) (by decide +kernel) _ rfl ?_
  refine Go.iload_n (k := 2) (i := 2) 2 (by decide +kernel) rfl rfl ?_
  refine Go.cSN_i (d - 1) [.int a2] hE w_Yr_isPlace (e_Yr_isPlace hG hE (d - 1) (by omega) a2 P2 ⟨rfl, rfl, rfl⟩) nw22 rfl (by omega) (Nat.le_of_ble_eq_true rfl) (by decide +kernel) _ rfl ?_
  refine Go.if_eq (off := 21) 56 (by decide +kernel) (by decide) (fun c3 => ?_) (fun c3 => ?_)
  · rw [if_pos c3] at h
    refine Go.sub [0, 1] [(0, .ref (ad E 69)), (1, .int a1)] rfl ?_
    exact t_j_St_countBack_56 hG hE d hd a1 P2 h
  · rw [if_neg c3] at h
    refine Go.aload_n (k := 0) (i := 0) 0 (by decide +kernel) rfl rfl ?_
    refine Go.get 69 3 (.ref (ad E 70)) (by decide) (by decide) sh69 (ltO hE sh69) (vlR hE rfl rfl) lk373 (by decide +kernel) ?_
    refine Go.iconst (n := 0) (0 : Int32) (by decide +kernel) rfl ?_
    refine Go.aaload 70 6 11 71 sh70 (by decide) (ltA hE sh70 (by decide)) (vp_in_iff.mpr (by decide)) (by rw [hE.1]; decide) (by decide +kernel) ?_
    refine Go.iload_n (k := 2) (i := 2) 2 (by decide +kernel) rfl rfl ?_
    refine Go.iconst (n := 1) (1 : Int32) (by decide +kernel) rfl ?_
    obtain ⟨b4, h⟩ := St.ck h
    refine Go.iastore 71 280 sh71 (ltA hE sh71 (by decide)) (inb_in b4) (by decide +kernel) ?_
    refine Go.aload_n (k := 0) (i := 0) 0 (by decide +kernel) rfl rfl ?_
    refine Go.get 69 4 (.ref (ad E 82)) (by decide) (by decide) sh69 (ltO hE sh69) (vlR hE rfl rfl) lk374 (by decide +kernel) ?_
    refine Go.iconst (n := 0) (0 : Int32) (by decide +kernel) rfl ?_
    refine Go.aaload 82 6 2 83 sh82 (by decide) (ltA hE sh82 (by decide)) (vp_in_iff.mpr (by decide)) (by rw [hE.1]; decide) (by decide +kernel) ?_
    refine Go.iload_n (k := 2) (i := 2) 2 (by decide +kernel) rfl rfl ?_
    refine Go.iconst (n := 0) (0 : Int32) (by decide +kernel) rfl ?_
    obtain ⟨b5, h⟩ := St.ck h
    refine Go.iastore 83 280 sh83 (ltA hE sh83 (by decide)) (inb_in b5) (by decide +kernel) ?_
    refine Go.sub [0, 1] [(0, .ref (ad E 69)), (1, .int a1)] rfl ?_
    exact t_j_St_countBack_56 hG hE d hd a1 (u1 (u1 P2 71 a2.toNatClampNeg (1 : Int32)) 83 a2.toNatClampNeg (0 : Int32)) h
theorem e_St_countBack {G : GX} (hG : GOK G) {E : EV} (hE : E0 E) (d : Nat) (hd : 6 ≤ d) (a1 : Int32) (a2 : Int32) (P : PM) {Q : QT} (h : St E rIP (f_St_countBack a1 a2 P) Q) : Con G y_St_countBack cw_St_countBack d nOb nOb [.ref (ad E 69), .int a1, .int a2] P E Q :=
  Con.of hG (by decide) rfl (fun h => by cases h) hE.2 (Nat.le_of_ble_eq_true rfl) (t_f_St_countBack hG hE d hd a1 a2 P h)
abbrev c_Yr_isBack : ByteArray := prog_1_method_50_code
abbrev y_Yr_isBack : MethodName := ⟨"YawnRoute", "isBack", "(II)Z"⟩
abbrev cw_Yr_isBack : Cond := .code y_Yr_isBack c_Yr_isBack 2 (some .boolean)
theorem w_Yr_isBack : SW y_Yr_isBack c_Yr_isBack 2 (some .boolean) 2 := ⟨lk1149, lk1, lk1150, ⟨by decide, by decide, by decide +kernel⟩, by decide⟩
def j_Yr_isBack_22 (P : PM) : Int32 := (0 : Int32)
def f_Yr_isBack (a0 : Int32) (a1 : Int32) (P : PM) : Int32 := if a0 < (1 : Int32) then (j_Yr_isBack_22 P) else (if (10 : Int32) < a0 then (j_Yr_isBack_22 P) else (if (f_Yr_isSize a1 P) = (0 : Int32) then (j_Yr_isBack_22 P) else ((1 : Int32))))
theorem t_j_Yr_isBack_22 {G : GX} (hG : GOK G) {E : EV} (hE : E0 E) (d : Nat) (hd : 2 ≤ d) {P : PM} {Q : QT} (h : Q (some (.int (j_Yr_isBack_22 P))) P E) : Go G c_Yr_isBack "YawnRoute" 2 (some .boolean) false d nOb nOb Q 22 [] [] P E := by
  rw [j_Yr_isBack_22] at h
  refine Go.iconst (n := 0) (0 : Int32) (by decide +kernel) rfl ?_
  exact Go.iret rfl rfl hE.2 (by decide +kernel) h
theorem t_f_Yr_isBack {G : GX} (hG : GOK G) {E : EV} (hE : E0 E) (d : Nat) (hd : 2 ≤ d) {P : PM} {Q : QT} (a0 : Int32) (a1 : Int32) (h : Q (some (.int (f_Yr_isBack a0 a1 P))) P E) : Go G c_Yr_isBack "YawnRoute" 2 (some .boolean) false d nOb nOb Q 0 [(0, .int a0), (1, .int a1)] [] P E := by
  rw [f_Yr_isBack] at h
  refine Go.iload_n (k := 0) (i := 0) 0 (by decide +kernel) rfl rfl ?_
  refine Go.iconst (n := 1) (1 : Int32) (by decide +kernel) rfl ?_
  refine Go.icmp_lt (off := 20) 22 (by decide +kernel) (by decide) (fun c1 => ?_) (fun c1 => ?_)
  · rw [if_pos c1] at h
    refine Go.sub [] [] rfl ?_
    exact t_j_Yr_isBack_22 hG hE d hd h
  · rw [if_neg c1] at h
    refine Go.iload_n (k := 0) (i := 0) 0 (by decide +kernel) rfl rfl ?_
    refine Go.bipush (n := 10) (10 : Int32) (by decide +kernel) (by decide) ?_
    refine Go.icmp_gt (off := 14) 22 (by decide +kernel) (by decide) (fun c2 => ?_) (fun c2 => ?_)
    · rw [if_pos c2] at h
      refine Go.sub [] [] rfl ?_
      exact t_j_Yr_isBack_22 hG hE d hd h
    · rw [if_neg c2] at h
      refine Go.iload_n (k := 1) (i := 1) 1 (by decide +kernel) rfl rfl ?_
      refine Go.cS_i (d - 1) [.int a1] hE w_Yr_isSize (e_Yr_isSize hG hE (d - 1) (by omega) a1 P ⟨rfl, rfl, rfl⟩) lk911 rfl (by omega) (Nat.le_of_ble_eq_true rfl) (by decide +kernel) _ rfl ?_
      refine Go.if_eq (off := 7) 22 (by decide +kernel) (by decide) (fun c3 => ?_) (fun c3 => ?_)
      · rw [if_pos c3] at h
        refine Go.sub [] [] rfl ?_
        exact t_j_Yr_isBack_22 hG hE d hd h
      · rw [if_neg c3] at h
        refine Go.iconst (n := 1) (1 : Int32) (by decide +kernel) rfl ?_
        refine Go.goto (off := 4) 23 (by decide +kernel) (by decide) ?_
        exact Go.iret rfl rfl hE.2 (by decide +kernel) h
theorem e_Yr_isBack {G : GX} (hG : GOK G) {E : EV} (hE : E0 E) (d : Nat) (hd : 2 ≤ d) (a0 : Int32) (a1 : Int32) (P : PM) {Q : QT} (h : Q (some (.int (f_Yr_isBack a0 a1 P))) P E) : Con G y_Yr_isBack cw_Yr_isBack d nOb nOb [.int a0, .int a1] P E Q :=
  Con.of hG (by decide) rfl (fun h => by cases h) hE.2 (Nat.le_of_ble_eq_true rfl) (t_f_Yr_isBack hG hE d hd a0 a1 h)
abbrev c_Yr_back : ByteArray := prog_1_method_29_code
abbrev y_Yr_back : MethodName := ⟨"YawnRoute", "back", "(III)J"⟩
abbrev cw_Yr_back : Cond := .code y_Yr_back c_Yr_back 5 (some .long)
theorem w_Yr_back : VW 11 y_Yr_back c_Yr_back 5 (some .long) 3 := ⟨by decide, lk1145, lk1146, lk1, lk1147, ⟨by decide, by decide, by decide +kernel⟩, by decide⟩
def f_Yr_back (a1 : Int32) (a2 : Int32) (a3 : Int32) (P : PM) : Option (Int64 × PM) := lb (f_Yr_refusal (f_Ne_isStation 14 a2 P) (f_Yr_isBack a1 a3 P) P) (fun y1 => if y1 = (0 : Int32) then (bd2 (f_St_countBack a1 (f_Yr_placeOf a2 a3 P) P) (fun v3 P4 => some ((v3.toInt64), P4))) else (some ((y1.toInt64), P)))
theorem t_f_Yr_back {G : GX} (hG : GOK G) {E : EV} (hE : E0 E) (d : Nat) (hd : 7 ≤ d) {Q : QT} (a1 : Int32) (a2 : Int32) (a3 : Int32) (P : PM) (h : St E rLP (f_Yr_back a1 a2 a3 P) Q) : Go G c_Yr_back "YawnRoute" 5 (some .long) false d nOb nOb Q 0 [(0, .ref (ad E 0)), (1, .int a1), (2, .int a2), (3, .int a3)] [] P E := by
  rw [f_Yr_back] at h
  refine Go.aload_n (k := 0) (i := 0) 0 (by decide +kernel) rfl rfl ?_
  refine Go.aload_n (k := 0) (i := 0) 0 (by decide +kernel) rfl rfl ?_
  refine Go.get 0 2 (.ref (ad E 14)) (by decide) (by decide) sh0 (ltO hE sh0) (vlR hE rfl rfl) lk392 (by decide +kernel) ?_
  refine Go.iload_n (k := 2) (i := 2) 2 (by decide +kernel) rfl rfl ?_
  refine Go.cV_i (d - 1) 14 [.int a2] sh14 hE w_Ne_isStation (e_Ne_isStation hG hE (d - 1) (by omega) 14 sh14 a2 P ⟨rfl, rfl, rfl⟩) lk726 rfl (by omega) (Nat.le_of_ble_eq_true rfl) (by decide +kernel) _ rfl ?_
  refine Go.iload_n (k := 1) (i := 1) 1 (by decide +kernel) rfl rfl ?_
  refine Go.iload_n (k := 3) (i := 3) 3 (by decide +kernel) rfl rfl ?_
  refine Go.cS_i (d - 1) [.int a1, .int a3] hE w_Yr_isBack (e_Yr_isBack hG hE (d - 1) (by omega) a1 a3 P ⟨rfl, rfl, rfl⟩) lk1148 rfl (by omega) (Nat.le_of_ble_eq_true rfl) (by decide +kernel) _ rfl ?_
  refine Go.cV_i (d - 1) 0 [.int (f_Ne_isStation 14 a2 P), .int (f_Yr_isBack a1 a3 P)] sh0 hE w_Yr_refusal (e_Yr_refusal hG hE (d - 1) (by omega) (f_Ne_isStation 14 a2 P) (f_Yr_isBack a1 a3 P) P ⟨rfl, rfl, rfl⟩) lk912 rfl (by omega) (Nat.le_of_ble_eq_true rfl) (by decide +kernel) _ rfl ?_
  obtain ⟨y1, hy1, h⟩ := St.lb h
  refine Go.eqi y1 hy1 ?_
  refine Go.istore (i := 4) [(4, .int y1), (0, .ref (ad E 0)), (1, .int a1), (2, .int a2), (3, .int a3)] (by decide +kernel) (by decide) rfl ?_
  refine Go.iload (i := 4) 0 (by decide +kernel) rfl ?_
  refine Go.if_eq (off := 9) 30 (by decide +kernel) (by decide) (fun c2 => ?_) (fun c2 => ?_)
  · rw [if_pos c2] at h
    refine Go.aload_n (k := 0) (i := 0) 1 (by decide +kernel) rfl rfl ?_
    refine Go.get 0 9 (.ref (ad E 69)) (by decide) (by decide) sh0 (ltO hE sh0) (vlR hE rfl rfl) lk399 (by decide +kernel) ?_
    refine Go.iload_n (k := 1) (i := 1) 2 (by decide +kernel) rfl rfl ?_
    refine Go.iload_n (k := 2) (i := 2) 3 (by decide +kernel) rfl rfl ?_
    refine Go.iload_n (k := 3) (i := 3) 4 (by decide +kernel) rfl rfl ?_
    refine Go.cS_i (d - 1) [.int a2, .int a3] hE w_Yr_placeOf (e_Yr_placeOf hG hE (d - 1) (by omega) a2 a3 P ⟨rfl, rfl, rfl⟩) lk1151 rfl (by omega) (Nat.le_of_ble_eq_true rfl) (by decide +kernel) _ rfl ?_
    obtain ⟨v3, P4, hv3, h⟩ := St.bd2 h
    refine Go.cV_i (d - 1) 69 [.int a1, .int (f_Yr_placeOf a2 a3 P)] sh69 hE w_St_countBack (e_St_countBack hG hE (d - 1) (by omega) a1 (f_Yr_placeOf a2 a3 P) P (by rw [hv3]; exact ⟨rfl, rfl, rfl⟩)) lk1152 rfl (by omega) (Nat.le_of_ble_eq_true rfl) (by decide +kernel) _ rfl ?_
    refine Go.i2l (by decide +kernel) ?_
    exact Go.lret rfl hE.2 (by decide +kernel) h
  · rw [if_neg c2] at h
    refine Go.iload (i := 4) 0 (by decide +kernel) rfl ?_
    refine Go.i2l (by decide +kernel) ?_
    refine Go.goto (off := 17) 44 (by decide +kernel) (by decide) ?_
    exact Go.lret rfl hE.2 (by decide +kernel) h
theorem e_Yr_back {G : GX} (hG : GOK G) {E : EV} (hE : E0 E) (d : Nat) (hd : 7 ≤ d) (a1 : Int32) (a2 : Int32) (a3 : Int32) (P : PM) {Q : QT} (h : St E rLP (f_Yr_back a1 a2 a3 P) Q) : Con G y_Yr_back cw_Yr_back d nOb nOb [.ref (ad E 0), .int a1, .int a2, .int a3] P E Q :=
  Con.of hG (by decide) rfl (fun h => by cases h) hE.2 (Nat.le_of_ble_eq_true rfl) (t_f_Yr_back hG hE d hd a1 a2 a3 P h)
abbrev c_St_firstBack : ByteArray := prog_10_method_7_code
abbrev y_St_firstBack : MethodName := ⟨"YawnRoute$Steps", "firstBack", "(II)I"⟩
abbrev cw_St_firstBack : Cond := .code y_St_firstBack c_St_firstBack 4 (some .int)
theorem w_St_firstBack : VW 8 y_St_firstBack c_St_firstBack 4 (some .int) 2 := ⟨by decide, lk1179, lp41_, lk13, lk1180, ⟨by decide, by decide, by decide +kernel⟩, by decide⟩
def l_St_firstBack_2 : Nat → Int32 → Int32 → Int32 → PM → Option Int32
  | 0, _, _, _, _ => none
  | n + 1, x1, x2, x3, P => if (P.1 14 0) ≤ x3 then (some (-1 : Int32)) else ((f_Pa_next x2 x3 (P.1 21 3) P).bind (fun v2 => (f_St_routesFrom (x1 - (1 : Int32)) v2 P).bind (fun v3 => if v3 ≤ (0 : Int32) then (l_St_firstBack_2 n x1 x2 (x3 + (1 : Int32)) P) else (some x3))))
def f_St_firstBack (a1 : Int32) (a2 : Int32) (P : PM) : Option Int32 := l_St_firstBack_2 FU a1 a2 (0 : Int32) P
theorem t_l_St_firstBack_2 {G : GX} (hG : GOK G) {E : EV} (hE : E0 E) (d : Nat) (hd : 4 ≤ d) {P : PM} {Q : QT} : ∀ (n : Nat) (x1 : Int32) (x2 : Int32) (x3 : Int32), St E (rI P) (l_St_firstBack_2 n x1 x2 x3 P) Q → Go G c_St_firstBack "YawnRoute$Steps" 4 (some .int) false d nOb nOb Q 2 [(0, .ref (ad E 69)), (1, .int x1), (2, .int x2), (3, .int x3)] [] P E := by
  intro n
  induction n with
  | zero =>
    intro x1 x2 x3 h
    rw [l_St_firstBack_2] at h
    exact St.none_ h
  | succ n ih =>
    intro x1 x2 x3 h
    rw [l_St_firstBack_2] at h
    refine Go.iload_n (k := 3) (i := 3) 3 (by decide +kernel) rfl rfl ?_
    refine Go.aload_n (k := 0) (i := 0) 0 (by decide +kernel) rfl rfl ?_
    refine Go.get 69 0 (.ref (ad E 14)) (by decide) (by decide) sh69 (ltO hE sh69) (vlR hE rfl rfl) lk370 (by decide +kernel) ?_
    refine Go.get 14 0 (.int (P.1 14 0)) (by decide) (by decide) sh14 (ltO hE sh14) rfl lk88 (by decide +kernel) ?_
    refine Go.icmp_ge (off := 37) 47 (by decide +kernel) (by decide) (fun c1 => ?_) (fun c1 => ?_)
    · rw [if_pos c1] at h
      refine Go.iconst (n := -1) (-1 : Int32) (by decide +kernel) rfl ?_
      exact Go.iret rfl rfl hE.2 (by decide +kernel) h
    · rw [if_neg c1] at h
      refine Go.aload_n (k := 0) (i := 0) 0 (by decide +kernel) rfl rfl ?_
      refine Go.iload_n (k := 1) (i := 1) 1 (by decide +kernel) rfl rfl ?_
      refine Go.iconst (n := 1) (1 : Int32) (by decide +kernel) rfl ?_
      refine Go.isub (by decide +kernel) ?_
      refine Go.aload_n (k := 0) (i := 0) 0 (by decide +kernel) rfl rfl ?_
      refine Go.get 69 2 (.ref (ad E 58)) (by decide) (by decide) sh69 (ltO hE sh69) (vlR hE rfl rfl) lk372 (by decide +kernel) ?_
      refine Go.iload_n (k := 2) (i := 2) 2 (by decide +kernel) rfl rfl ?_
      refine Go.iload_n (k := 3) (i := 3) 3 (by decide +kernel) rfl rfl ?_
      refine Go.aload_n (k := 0) (i := 0) 0 (by decide +kernel) rfl rfl ?_
      refine Go.get 69 1 (.ref (ad E 21)) (by decide) (by decide) sh69 (ltO hE sh69) (vlR hE rfl rfl) lk371 (by decide +kernel) ?_
      refine Go.get 21 3 (.int (P.1 21 3)) (by decide) (by decide) sh21 (ltO hE sh21) rfl lk164 (by decide +kernel) ?_
      obtain ⟨v2, hv2, h⟩ := St.bind h
      refine Go.cV_i (d - 1) 58 [.int x2, .int x3, .int (P.1 21 3)] sh58 hE w_Pa_next (e_Pa_next hG hE (d - 1) (by omega) x2 x3 (P.1 21 3) P (by rw [hv2]; exact ⟨rfl, rfl, rfl⟩)) lk1164 rfl (by omega) (Nat.le_of_ble_eq_true rfl) (by decide +kernel) _ rfl ?_
      obtain ⟨v3, hv3, h⟩ := St.bind h
      refine Go.cV_i (d - 1) 69 [.int (x1 - (1 : Int32)), .int v2] sh69 hE w_St_routesFrom (e_St_routesFrom hG hE (d - 1) (by omega) (x1 - (1 : Int32)) v2 P (by rw [hv3]; exact ⟨rfl, rfl, rfl⟩)) lk1165 rfl (by omega) (Nat.le_of_ble_eq_true rfl) (by decide +kernel) _ rfl ?_
      refine Go.if_le (off := 5) 41 (by decide +kernel) (by decide) (fun c4 => ?_) (fun c4 => ?_)
      · rw [if_pos c4] at h
        refine Go.iinc (i := 3) (n := 1) 3 (x3 + (1 : Int32)) [(3, .int (x3 + (1 : Int32))), (0, .ref (ad E 69)), (1, .int x1), (2, .int x2)] (by decide +kernel) rfl rfl (by decide) rfl ?_
        refine Go.goto (off := -42) 2 (by decide +kernel) (by decide) ?_
        refine Go.sub [1, 2, 3, 0] [(0, .ref (ad E 69)), (1, .int x1), (2, .int x2), (3, .int (x3 + (1 : Int32)))] rfl ?_
        exact ih x1 x2 (x3 + (1 : Int32)) h
      · rw [if_neg c4] at h
        refine Go.iload_n (k := 3) (i := 3) 3 (by decide +kernel) rfl rfl ?_
        exact Go.iret rfl rfl hE.2 (by decide +kernel) h
theorem t_f_St_firstBack {G : GX} (hG : GOK G) {E : EV} (hE : E0 E) (d : Nat) (hd : 4 ≤ d) {P : PM} {Q : QT} (a1 : Int32) (a2 : Int32) (h : St E (rI P) (f_St_firstBack a1 a2 P) Q) : Go G c_St_firstBack "YawnRoute$Steps" 4 (some .int) false d nOb nOb Q 0 [(0, .ref (ad E 69)), (1, .int a1), (2, .int a2)] [] P E := by
  rw [f_St_firstBack] at h
  refine Go.iconst (n := 0) (0 : Int32) (by decide +kernel) rfl ?_
  refine Go.istore_n (k := 3) (i := 3) [(3, .int (0 : Int32)), (0, .ref (ad E 69)), (1, .int a1), (2, .int a2)] (by decide +kernel) rfl (by decide) rfl ?_
  refine Go.sub [1, 2, 3, 0] [(0, .ref (ad E 69)), (1, .int a1), (2, .int a2), (3, .int (0 : Int32))] rfl ?_
  exact t_l_St_firstBack_2 hG hE d hd FU a1 a2 (0 : Int32) h
theorem e_St_firstBack {G : GX} (hG : GOK G) {E : EV} (hE : E0 E) (d : Nat) (hd : 4 ≤ d) (a1 : Int32) (a2 : Int32) (P : PM) {Q : QT} (h : St E (rI P) (f_St_firstBack a1 a2 P) Q) : Con G y_St_firstBack cw_St_firstBack d nOb nOb [.ref (ad E 69), .int a1, .int a2] P E Q :=
  Con.of hG (by decide) rfl (fun h => by cases h) hE.2 (Nat.le_of_ble_eq_true rfl) (t_f_St_firstBack hG hE d hd a1 a2 h)
abbrev c_St_stationBack : ByteArray := prog_10_method_6_code
abbrev y_St_stationBack : MethodName := ⟨"YawnRoute$Steps", "stationBack", "(II)I"⟩
abbrev cw_St_stationBack : Cond := .code y_St_stationBack c_St_stationBack 6 (some .int)
theorem w_St_stationBack : VW 8 y_St_stationBack c_St_stationBack 6 (some .int) 2 := ⟨by decide, lk1174, lk1175, lk13, lk1176, ⟨by decide, by decide, by decide +kernel⟩, by decide⟩
def l_St_stationBack_28 : Nat → Int32 → Int32 → Int32 → Int32 → Int32 → PM → Option Int32
  | 0, _, _, _, _, _, _ => none
  | n + 1, x1, x2, x3, x4, x5, P => if x2 ≤ x5 then (some x4) else (if (10 : Int32) ≤ x5 then (some x4) else (if x4 = (-1 : Int32) then (some x4) else ((f_Pa_next x3 x4 (P.1 21 3) P).bind (fun v4 => (f_St_firstBack ((x1 - x5) - (1 : Int32)) v4 P).bind (fun v5 => l_St_stationBack_28 n x1 x2 v4 v5 (x5 + (1 : Int32)) P)))))
def j_St_stationBack_23 (x1 : Int32) (x2 : Int32) (x3 : Int32) (s0 : Int32) (P : PM) : Option Int32 := l_St_stationBack_28 FU x1 x2 x3 s0 (0 : Int32) P
def f_St_stationBack (a1 : Int32) (a2 : Int32) (P : PM) : Option Int32 := lb (f_Sa_place 21 P) (fun y1 => if a1 ≤ a2 then (j_St_stationBack_23 a1 a2 y1 (-1 : Int32) P) else ((f_St_firstBack a1 y1 P).bind (fun v3 => j_St_stationBack_23 a1 a2 y1 v3 P)))
theorem t_l_St_stationBack_28 {G : GX} (hG : GOK G) {E : EV} (hE : E0 E) (d : Nat) (hd : 5 ≤ d) {P : PM} {Q : QT} : ∀ (n : Nat) (x1 : Int32) (x2 : Int32) (x3 : Int32) (x4 : Int32) (x5 : Int32), St E (rI P) (l_St_stationBack_28 n x1 x2 x3 x4 x5 P) Q → Go G c_St_stationBack "YawnRoute$Steps" 6 (some .int) false d nOb nOb Q 28 [(0, .ref (ad E 69)), (1, .int x1), (2, .int x2), (3, .int x3), (4, .int x4), (5, .int x5)] [] P E := by
  intro n
  induction n with
  | zero =>
    intro x1 x2 x3 x4 x5 h
    rw [l_St_stationBack_28] at h
    exact St.none_ h
  | succ n ih =>
    intro x1 x2 x3 x4 x5 h
    rw [l_St_stationBack_28] at h
    refine Go.iload (i := 5) 5 (by decide +kernel) rfl ?_
    refine Go.iload_n (k := 2) (i := 2) 2 (by decide +kernel) rfl rfl ?_
    refine Go.icmp_ge (off := 53) 84 (by decide +kernel) (by decide) (fun c1 => ?_) (fun c1 => ?_)
    · rw [if_pos c1] at h
      refine Go.iload (i := 4) 4 (by decide +kernel) rfl ?_
      exact Go.iret rfl rfl hE.2 (by decide +kernel) h
    · rw [if_neg c1] at h
      refine Go.iload (i := 5) 5 (by decide +kernel) rfl ?_
      refine Go.bipush (n := 10) (10 : Int32) (by decide +kernel) (by decide) ?_
      refine Go.icmp_ge (off := 46) 84 (by decide +kernel) (by decide) (fun c2 => ?_) (fun c2 => ?_)
      · rw [if_pos c2] at h
        refine Go.iload (i := 4) 4 (by decide +kernel) rfl ?_
        exact Go.iret rfl rfl hE.2 (by decide +kernel) h
      · rw [if_neg c2] at h
        refine Go.iload (i := 4) 4 (by decide +kernel) rfl ?_
        refine Go.iconst (n := -1) (-1 : Int32) (by decide +kernel) rfl ?_
        refine Go.icmp_eq (off := 40) 84 (by decide +kernel) (by decide) (fun c3 => ?_) (fun c3 => ?_)
        · rw [if_pos c3] at h
          refine Go.iload (i := 4) 4 (by decide +kernel) rfl ?_
          exact Go.iret rfl rfl hE.2 (by decide +kernel) h
        · rw [if_neg c3] at h
          refine Go.aload_n (k := 0) (i := 0) 0 (by decide +kernel) rfl rfl ?_
          refine Go.get 69 2 (.ref (ad E 58)) (by decide) (by decide) sh69 (ltO hE sh69) (vlR hE rfl rfl) lk372 (by decide +kernel) ?_
          refine Go.iload_n (k := 3) (i := 3) 3 (by decide +kernel) rfl rfl ?_
          refine Go.iload (i := 4) 4 (by decide +kernel) rfl ?_
          refine Go.aload_n (k := 0) (i := 0) 0 (by decide +kernel) rfl rfl ?_
          refine Go.get 69 1 (.ref (ad E 21)) (by decide) (by decide) sh69 (ltO hE sh69) (vlR hE rfl rfl) lk371 (by decide +kernel) ?_
          refine Go.get 21 3 (.int (P.1 21 3)) (by decide) (by decide) sh21 (ltO hE sh21) rfl lk164 (by decide +kernel) ?_
          obtain ⟨v4, hv4, h⟩ := St.bind h
          refine Go.cV_i (d - 1) 58 [.int x3, .int x4, .int (P.1 21 3)] sh58 hE w_Pa_next (e_Pa_next hG hE (d - 1) (by omega) x3 x4 (P.1 21 3) P (by rw [hv4]; exact ⟨rfl, rfl, rfl⟩)) lk1164 rfl (by omega) (Nat.le_of_ble_eq_true rfl) (by decide +kernel) _ rfl ?_
          refine Go.istore_n (k := 3) (i := 3) [(3, .int v4), (0, .ref (ad E 69)), (1, .int x1), (2, .int x2), (4, .int x4), (5, .int x5)] (by decide +kernel) rfl (by decide) rfl ?_
          refine Go.aload_n (k := 0) (i := 0) 1 (by decide +kernel) rfl rfl ?_
          refine Go.iload_n (k := 1) (i := 1) 2 (by decide +kernel) rfl rfl ?_
          refine Go.iload (i := 5) 5 (by decide +kernel) rfl ?_
          refine Go.isub (by decide +kernel) ?_
          refine Go.iconst (n := 1) (1 : Int32) (by decide +kernel) rfl ?_
          refine Go.isub (by decide +kernel) ?_
          refine Go.iload_n (k := 3) (i := 3) 0 (by decide +kernel) rfl rfl ?_
          obtain ⟨v5, hv5, h⟩ := St.bind h
          refine Go.cV_i (d - 1) 69 [.int ((x1 - x5) - (1 : Int32)), .int v4] sh69 hE w_St_firstBack (e_St_firstBack hG hE (d - 1) (by omega) ((x1 - x5) - (1 : Int32)) v4 P (by rw [hv5]; exact ⟨rfl, rfl, rfl⟩)) lk1177 rfl (by omega) (Nat.le_of_ble_eq_true rfl) (by decide +kernel) _ rfl ?_
          refine Go.istore (i := 4) [(4, .int v5), (3, .int v4), (0, .ref (ad E 69)), (1, .int x1), (2, .int x2), (5, .int x5)] (by decide +kernel) (by decide) rfl ?_
          refine Go.iinc (i := 5) (n := 1) 5 (x5 + (1 : Int32)) [(5, .int (x5 + (1 : Int32))), (4, .int v5), (3, .int v4), (0, .ref (ad E 69)), (1, .int x1), (2, .int x2)] (by decide +kernel) rfl rfl (by decide) rfl ?_
          refine Go.goto (off := -53) 28 (by decide +kernel) (by decide) ?_
          refine Go.sub [3, 4, 5, 2, 1, 0] [(0, .ref (ad E 69)), (1, .int x1), (2, .int x2), (3, .int v4), (4, .int v5), (5, .int (x5 + (1 : Int32)))] rfl ?_
          exact ih x1 x2 v4 v5 (x5 + (1 : Int32)) h
theorem t_j_St_stationBack_23 {G : GX} (hG : GOK G) {E : EV} (hE : E0 E) (d : Nat) (hd : 5 ≤ d) {P : PM} {Q : QT} (x1 : Int32) (x2 : Int32) (x3 : Int32) (s0 : Int32) (h : St E (rI P) (j_St_stationBack_23 x1 x2 x3 s0 P) Q) : Go G c_St_stationBack "YawnRoute$Steps" 6 (some .int) false d nOb nOb Q 23 [(0, .ref (ad E 69)), (1, .int x1), (2, .int x2), (3, .int x3)] [.int s0] P E := by
  rw [j_St_stationBack_23] at h
  refine Go.istore (i := 4) [(4, .int s0), (0, .ref (ad E 69)), (1, .int x1), (2, .int x2), (3, .int x3)] (by decide +kernel) (by decide) rfl ?_
  refine Go.iconst (n := 0) (0 : Int32) (by decide +kernel) rfl ?_
  refine Go.istore (i := 5) [(5, .int (0 : Int32)), (4, .int s0), (0, .ref (ad E 69)), (1, .int x1), (2, .int x2), (3, .int x3)] (by decide +kernel) (by decide) rfl ?_
  refine Go.sub [2, 3, 4, 5, 1, 0] [(0, .ref (ad E 69)), (1, .int x1), (2, .int x2), (3, .int x3), (4, .int s0), (5, .int (0 : Int32))] rfl ?_
  exact t_l_St_stationBack_28 hG hE d hd FU x1 x2 x3 s0 (0 : Int32) h
theorem t_f_St_stationBack {G : GX} (hG : GOK G) {E : EV} (hE : E0 E) (d : Nat) (hd : 5 ≤ d) {P : PM} {Q : QT} (a1 : Int32) (a2 : Int32) (h : St E (rI P) (f_St_stationBack a1 a2 P) Q) : Go G c_St_stationBack "YawnRoute$Steps" 6 (some .int) false d nOb nOb Q 0 [(0, .ref (ad E 69)), (1, .int a1), (2, .int a2)] [] P E := by
  rw [f_St_stationBack] at h
  refine Go.aload_n (k := 0) (i := 0) 0 (by decide +kernel) rfl rfl ?_
  refine Go.get 69 1 (.ref (ad E 21)) (by decide) (by decide) sh69 (ltO hE sh69) (vlR hE rfl rfl) lk371 (by decide +kernel) ?_
  refine Go.cV_i (d - 1) 21 [] sh21 hE w_Sa_place (e_Sa_place hG hE (d - 1) (by omega) 21 sh21 P ⟨rfl, rfl, rfl⟩) lk1156 rfl (by omega) (Nat.le_of_ble_eq_true rfl) (by decide +kernel) _ rfl ?_
  obtain ⟨y1, hy1, h⟩ := St.lb h
  refine Go.eqi y1 hy1 ?_
  refine Go.istore_n (k := 3) (i := 3) [(3, .int y1), (0, .ref (ad E 69)), (1, .int a1), (2, .int a2)] (by decide +kernel) rfl (by decide) rfl ?_
  refine Go.iload_n (k := 2) (i := 2) 3 (by decide +kernel) rfl rfl ?_
  refine Go.iload_n (k := 1) (i := 1) 2 (by decide +kernel) rfl rfl ?_
  refine Go.icmp_ge (off := 12) 22 (by decide +kernel) (by decide) (fun c2 => ?_) (fun c2 => ?_)
  · rw [if_pos c2] at h
    refine Go.iconst (n := -1) (-1 : Int32) (by decide +kernel) rfl ?_
    refine Go.sub [1, 2, 3, 0] [(0, .ref (ad E 69)), (1, .int a1), (2, .int a2), (3, .int y1)] rfl ?_
    exact t_j_St_stationBack_23 hG hE d hd a1 a2 y1 (-1 : Int32) h
  · rw [if_neg c2] at h
    refine Go.aload_n (k := 0) (i := 0) 1 (by decide +kernel) rfl rfl ?_
    refine Go.iload_n (k := 1) (i := 1) 2 (by decide +kernel) rfl rfl ?_
    refine Go.iload_n (k := 3) (i := 3) 0 (by decide +kernel) rfl rfl ?_
    obtain ⟨v3, hv3, h⟩ := St.bind h
    refine Go.cV_i (d - 1) 69 [.int a1, .int y1] sh69 hE w_St_firstBack (e_St_firstBack hG hE (d - 1) (by omega) a1 y1 P (by rw [hv3]; exact ⟨rfl, rfl, rfl⟩)) lk1177 rfl (by omega) (Nat.le_of_ble_eq_true rfl) (by decide +kernel) _ rfl ?_
    refine Go.goto (off := 4) 23 (by decide +kernel) (by decide) ?_
    refine Go.sub [1, 2, 3, 0] [(0, .ref (ad E 69)), (1, .int a1), (2, .int a2), (3, .int y1)] rfl ?_
    exact t_j_St_stationBack_23 hG hE d hd a1 a2 y1 v3 h
theorem e_St_stationBack {G : GX} (hG : GOK G) {E : EV} (hE : E0 E) (d : Nat) (hd : 5 ≤ d) (a1 : Int32) (a2 : Int32) (P : PM) {Q : QT} (h : St E (rI P) (f_St_stationBack a1 a2 P) Q) : Con G y_St_stationBack cw_St_stationBack d nOb nOb [.ref (ad E 69), .int a1, .int a2] P E Q :=
  Con.of hG (by decide) rfl (fun h => by cases h) hE.2 (Nat.le_of_ble_eq_true rfl) (t_f_St_stationBack hG hE d hd a1 a2 h)
abbrev c_Yr_backBy : ByteArray := prog_1_method_30_code
abbrev y_Yr_backBy : MethodName := ⟨"YawnRoute", "backBy", "(IIII)I"⟩
abbrev cw_Yr_backBy : Cond := .code y_Yr_backBy c_Yr_backBy 6 (some .int)
theorem w_Yr_backBy : VW 11 y_Yr_backBy c_Yr_backBy 6 (some .int) 4 := ⟨by decide, lk1170, lk1171, lk1, lk1172, ⟨by decide, by decide, by decide +kernel⟩, by decide⟩
def j_Yr_backBy_27 (x1 : Int32) (x2 : Int32) (x3 : Int32) (x4 : Int32) (s1 : Int32) (s2 : Int32) (P : PM) : Option (Int32 × PM) := lb (f_Yr_refusal s1 s2 P) (fun y1 => if y1 = (0 : Int32) then (bd2 (f_St_countBack x1 (f_Yr_placeOf x2 x3 P) P) (fun v3 P4 => if v3 ≤ (0 : Int32) then (some ((-1 : Int32), P4)) else ((f_St_stationBack x1 x4 P4).bind (fun v6 => some (v6, P4))))) else (some (y1, P)))
def j_Yr_backBy_26 (x1 : Int32) (x2 : Int32) (x3 : Int32) (x4 : Int32) (s1 : Int32) (P : PM) : Option (Int32 × PM) := j_Yr_backBy_27 x1 x2 x3 x4 s1 (0 : Int32) P
def f_Yr_backBy (a1 : Int32) (a2 : Int32) (a3 : Int32) (a4 : Int32) (P : PM) : Option (Int32 × PM) := if (f_Yr_isBack a1 a3 P) = (0 : Int32) then (j_Yr_backBy_26 a1 a2 a3 a4 (f_Ne_isStation 14 a2 P) P) else (if a4 < (0 : Int32) then (j_Yr_backBy_26 a1 a2 a3 a4 (f_Ne_isStation 14 a2 P) P) else (j_Yr_backBy_27 a1 a2 a3 a4 (f_Ne_isStation 14 a2 P) (1 : Int32) P))
theorem t_j_Yr_backBy_27 {G : GX} (hG : GOK G) {E : EV} (hE : E0 E) (d : Nat) (hd : 7 ≤ d) {Q : QT} (x1 : Int32) (x2 : Int32) (x3 : Int32) (x4 : Int32) (s1 : Int32) (s2 : Int32) (P : PM) (h : St E rIP (j_Yr_backBy_27 x1 x2 x3 x4 s1 s2 P) Q) : Go G c_Yr_backBy "YawnRoute" 6 (some .int) false d nOb nOb Q 27 [(0, .ref (ad E 0)), (1, .int x1), (2, .int x2), (3, .int x3), (4, .int x4)] [.int s2, .int s1, .ref (ad E 0)] P E := by
  rw [j_Yr_backBy_27] at h
  refine Go.cV_i (d - 1) 0 [.int s1, .int s2] sh0 hE w_Yr_refusal (e_Yr_refusal hG hE (d - 1) (by omega) s1 s2 P ⟨rfl, rfl, rfl⟩) lk912 rfl (by omega) (Nat.le_of_ble_eq_true rfl) (by decide +kernel) _ rfl ?_
  obtain ⟨y1, hy1, h⟩ := St.lb h
  refine Go.eqi y1 hy1 ?_
  refine Go.istore (i := 5) [(5, .int y1), (0, .ref (ad E 0)), (1, .int x1), (2, .int x2), (3, .int x3), (4, .int x4)] (by decide +kernel) (by decide) rfl ?_
  refine Go.iload (i := 5) 0 (by decide +kernel) rfl ?_
  refine Go.if_eq (off := 6) 40 (by decide +kernel) (by decide) (fun c2 => ?_) (fun c2 => ?_)
  · rw [if_pos c2] at h
    refine Go.aload_n (k := 0) (i := 0) 1 (by decide +kernel) rfl rfl ?_
    refine Go.get 0 9 (.ref (ad E 69)) (by decide) (by decide) sh0 (ltO hE sh0) (vlR hE rfl rfl) lk399 (by decide +kernel) ?_
    refine Go.iload_n (k := 1) (i := 1) 2 (by decide +kernel) rfl rfl ?_
    refine Go.iload_n (k := 2) (i := 2) 3 (by decide +kernel) rfl rfl ?_
    refine Go.iload_n (k := 3) (i := 3) 4 (by decide +kernel) rfl rfl ?_
    refine Go.cS_i (d - 1) [.int x2, .int x3] hE w_Yr_placeOf (e_Yr_placeOf hG hE (d - 1) (by omega) x2 x3 P ⟨rfl, rfl, rfl⟩) lk1151 rfl (by omega) (Nat.le_of_ble_eq_true rfl) (by decide +kernel) _ rfl ?_
    obtain ⟨v3, P4, hv3, h⟩ := St.bd2 h
    refine Go.cV_i (d - 1) 69 [.int x1, .int (f_Yr_placeOf x2 x3 P)] sh69 hE w_St_countBack (e_St_countBack hG hE (d - 1) (by omega) x1 (f_Yr_placeOf x2 x3 P) P (by rw [hv3]; exact ⟨rfl, rfl, rfl⟩)) lk1152 rfl (by omega) (Nat.le_of_ble_eq_true rfl) (by decide +kernel) _ rfl ?_
    refine Go.if_le (off := 16) 69 (by decide +kernel) (by decide) (fun c5 => ?_) (fun c5 => ?_)
    · rw [if_pos c5] at h
      refine Go.iconst (n := -1) (-1 : Int32) (by decide +kernel) rfl ?_
      exact Go.iret rfl rfl hE.2 (by decide +kernel) h
    · rw [if_neg c5] at h
      refine Go.aload_n (k := 0) (i := 0) 1 (by decide +kernel) rfl rfl ?_
      refine Go.get 0 9 (.ref (ad E 69)) (by decide) (by decide) sh0 (ltO hE sh0) (vlR hE rfl rfl) lk399 (by decide +kernel) ?_
      refine Go.iload_n (k := 1) (i := 1) 2 (by decide +kernel) rfl rfl ?_
      refine Go.iload (i := 4) 5 (by decide +kernel) rfl ?_
      obtain ⟨v6, hv6, h⟩ := St.bind h
      refine Go.cV_i (d - 1) 69 [.int x1, .int x4] sh69 hE w_St_stationBack (e_St_stationBack hG hE (d - 1) (by omega) x1 x4 P4 (by rw [hv6]; exact ⟨rfl, rfl, rfl⟩)) lk1173 rfl (by omega) (Nat.le_of_ble_eq_true rfl) (by decide +kernel) _ rfl ?_
      refine Go.goto (off := 4) 70 (by decide +kernel) (by decide) ?_
      exact Go.iret rfl rfl hE.2 (by decide +kernel) h
  · rw [if_neg c2] at h
    refine Go.iload (i := 5) 0 (by decide +kernel) rfl ?_
    exact Go.iret rfl rfl hE.2 (by decide +kernel) h
theorem t_j_Yr_backBy_26 {G : GX} (hG : GOK G) {E : EV} (hE : E0 E) (d : Nat) (hd : 7 ≤ d) {Q : QT} (x1 : Int32) (x2 : Int32) (x3 : Int32) (x4 : Int32) (s1 : Int32) (P : PM) (h : St E rIP (j_Yr_backBy_26 x1 x2 x3 x4 s1 P) Q) : Go G c_Yr_backBy "YawnRoute" 6 (some .int) false d nOb nOb Q 26 [(0, .ref (ad E 0)), (1, .int x1), (2, .int x2), (3, .int x3), (4, .int x4)] [.int s1, .ref (ad E 0)] P E := by
  rw [j_Yr_backBy_26] at h
  refine Go.iconst (n := 0) (0 : Int32) (by decide +kernel) rfl ?_
  exact t_j_Yr_backBy_27 hG hE d hd x1 x2 x3 x4 s1 (0 : Int32) P h
theorem t_f_Yr_backBy {G : GX} (hG : GOK G) {E : EV} (hE : E0 E) (d : Nat) (hd : 7 ≤ d) {Q : QT} (a1 : Int32) (a2 : Int32) (a3 : Int32) (a4 : Int32) (P : PM) (h : St E rIP (f_Yr_backBy a1 a2 a3 a4 P) Q) : Go G c_Yr_backBy "YawnRoute" 6 (some .int) false d nOb nOb Q 0 [(0, .ref (ad E 0)), (1, .int a1), (2, .int a2), (3, .int a3), (4, .int a4)] [] P E := by
  rw [f_Yr_backBy] at h
  refine Go.aload_n (k := 0) (i := 0) 0 (by decide +kernel) rfl rfl ?_
  refine Go.aload_n (k := 0) (i := 0) 0 (by decide +kernel) rfl rfl ?_
  refine Go.get 0 2 (.ref (ad E 14)) (by decide) (by decide) sh0 (ltO hE sh0) (vlR hE rfl rfl) lk392 (by decide +kernel) ?_
  refine Go.iload_n (k := 2) (i := 2) 2 (by decide +kernel) rfl rfl ?_
  refine Go.cV_i (d - 1) 14 [.int a2] sh14 hE w_Ne_isStation (e_Ne_isStation hG hE (d - 1) (by omega) 14 sh14 a2 P ⟨rfl, rfl, rfl⟩) lk726 rfl (by omega) (Nat.le_of_ble_eq_true rfl) (by decide +kernel) _ rfl ?_
  refine Go.iload_n (k := 1) (i := 1) 1 (by decide +kernel) rfl rfl ?_
  refine Go.iload_n (k := 3) (i := 3) 3 (by decide +kernel) rfl rfl ?_
  refine Go.cS_i (d - 1) [.int a1, .int a3] hE w_Yr_isBack (e_Yr_isBack hG hE (d - 1) (by omega) a1 a3 P ⟨rfl, rfl, rfl⟩) lk1148 rfl (by omega) (Nat.le_of_ble_eq_true rfl) (by decide +kernel) _ rfl ?_
  refine Go.if_eq (off := 12) 26 (by decide +kernel) (by decide) (fun c1 => ?_) (fun c1 => ?_)
  · rw [if_pos c1] at h
    exact t_j_Yr_backBy_26 hG hE d hd a1 a2 a3 a4 (f_Ne_isStation 14 a2 P) P h
  · rw [if_neg c1] at h
    refine Go.iload (i := 4) 4 (by decide +kernel) rfl ?_
    refine Go.if_lt (off := 7) 26 (by decide +kernel) (by decide) (fun c2 => ?_) (fun c2 => ?_)
    · rw [if_pos c2] at h
      exact t_j_Yr_backBy_26 hG hE d hd a1 a2 a3 a4 (f_Ne_isStation 14 a2 P) P h
    · rw [if_neg c2] at h
      refine Go.iconst (n := 1) (1 : Int32) (by decide +kernel) rfl ?_
      refine Go.goto (off := 4) 27 (by decide +kernel) (by decide) ?_
      exact t_j_Yr_backBy_27 hG hE d hd a1 a2 a3 a4 (f_Ne_isStation 14 a2 P) (1 : Int32) P h
theorem e_Yr_backBy {G : GX} (hG : GOK G) {E : EV} (hE : E0 E) (d : Nat) (hd : 7 ≤ d) (a1 : Int32) (a2 : Int32) (a3 : Int32) (a4 : Int32) (P : PM) {Q : QT} (h : St E rIP (f_Yr_backBy a1 a2 a3 a4 P) Q) : Con G y_Yr_backBy cw_Yr_backBy d nOb nOb [.ref (ad E 0), .int a1, .int a2, .int a3, .int a4] P E Q :=
  Con.of hG (by decide) rfl (fun h => by cases h) hE.2 (Nat.le_of_ble_eq_true rfl) (t_f_Yr_backBy hG hE d hd a1 a2 a3 a4 P h)
