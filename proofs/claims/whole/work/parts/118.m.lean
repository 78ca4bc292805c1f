/-! methods as functions, by program: St_drawFrom St_drawLots St_shareOf St_sharesIn Yr_commonDivisor Yr_isDraws -/
abbrev c_St_drawFrom : ByteArray := prog_10_method_9_code
abbrev y_St_drawFrom : MethodName := ⟨"YawnRoute$Steps", "drawFrom", "(I[I[I)V"⟩
abbrev cw_St_drawFrom : Cond := .code y_St_drawFrom c_St_drawFrom 8 none
theorem w_St_drawFrom : VW 8 y_St_drawFrom c_St_drawFrom 8 none 3 := ⟨by decide, lk1246, lp45_, lk13, lk1247, ⟨by decide, by decide, by decide +kernel⟩, by decide⟩
noncomputable def j_St_drawFrom_132 (a2 : Nat) (n2 : Nat) (a3 : Nat) (n3 : Nat) (k21 : Int32 → Int32 → Int32 → PM → Option PM) (x1 : Int32) (x4 : Int32) (x5 : Int32) (P : PM) : Option PM := k21 x1 x4 (x5 + (1 : Int32)) P
noncomputable def j_St_drawFrom_79 (a2 : Nat) (n2 : Nat) (a3 : Nat) (n3 : Nat) (k21 : Int32 → Int32 → Int32 → PM → Option PM) (x1 : Int32) (x4 : Int32) (x5 : Int32) (x6 : Int32) (s0 : Int32) (P : PM) : Option PM := lb (x4 - x6) (fun y1 => if s0 = (-1 : Int32) then (ck (inb x1 n3) (ck (inb x1 n2) (ck (inb x1 n3) (j_St_drawFrom_132 a2 n2 a3 n3 k21 x1 y1 x5 (u1 P a3 x1.toNatClampNeg ((P.1 a3 x1.toNatClampNeg) + ((P.1 a2 x1.toNatClampNeg) * x6))))))) else (if s0 ≤ (0 : Int32) then (j_St_drawFrom_132 a2 n2 a3 n3 k21 x1 y1 x5 P) else (ck (inb (f_Yr_placeOf x5 s0 P) n3) (ck (inb x1 n2) (ck (inb (f_Yr_placeOf x5 s0 P) n3) (j_St_drawFrom_132 a2 n2 a3 n3 k21 x1 y1 x5 (u1 P a3 (f_Yr_placeOf x5 s0 P).toNatClampNeg ((P.1 a3 (f_Yr_placeOf x5 s0 P).toNatClampNeg) + ((P.1 a2 x1.toNatClampNeg) * x6)))))))))
noncomputable def l_St_drawFrom_21 (a2 : Nat) (n2 : Nat) (a3 : Nat) (n3 : Nat) : Nat → Int32 → Int32 → Int32 → PM → Option PM
  | 0, _, _, _, _ => none
  | n + 1, x1, x4, x5, P => if (P.1 14 0) ≤ x5 then (ck (inb x1 n3) (ck (inb x1 n2) (ck (inb x1 n3) (some (u1 P a3 x1.toNatClampNeg ((P.1 a3 x1.toNatClampNeg) + ((P.1 a2 x1.toNatClampNeg) * x4))))))) else ((f_Ne_oddsOf 14 (f_Yr_stationIn x1 P) x5 P).bind (fun v5 => lb (mn x4 v5) (fun y6 => if y6 ≤ (0 : Int32) then (j_St_drawFrom_79 a2 n2 a3 n3 (fun z0 z1 z2 Pz => l_St_drawFrom_21 a2 n2 a3 n3 n z0 z1 z2 Pz) x1 x4 x5 y6 (0 : Int32) P) else ((f_Pa_after x1 x5 (P.1 21 3) P).bind (fun v8 => j_St_drawFrom_79 a2 n2 a3 n3 (fun z0 z1 z2 Pz => l_St_drawFrom_21 a2 n2 a3 n3 n z0 z1 z2 Pz) x1 x4 x5 y6 v8 P)))))
noncomputable def f_St_drawFrom (a2 : Nat) (n2 : Nat) (a3 : Nat) (n3 : Nat) (a1 : Int32) (P : PM) : Option PM := if (f_Yr_isPlace a1 P) = (0 : Int32) then (some P) else (ck (inb a1 n2) (if (P.1 a2 a1.toNatClampNeg) = (0 : Int32) then (some P) else (l_St_drawFrom_21 a2 n2 a3 n3 FU a1 (10 : Int32) (0 : Int32) P)))
theorem t_j_St_drawFrom_132 {G : GX} (hG : GOK G) {E : EV} (hE : E0 E) (d : Nat) (hd : 3 ≤ d) {Q : QT} (a2 : Nat) (n2 : Nat) (ha2 : sh a2 = .inr (0, n2)) (a3 : Nat) (n3 : Nat) (ha3 : sh a3 = .inr (0, n3)) (k21 : Int32 → Int32 → Int32 → PM → Option PM) (hk21 : ∀ (x1 : Int32) (x4 : Int32) (x5 : Int32) (P : PM), St E rP (k21 x1 x4 x5 P) Q → Go G c_St_drawFrom "YawnRoute$Steps" 8 none false d nOb nOb Q 21 [(0, .ref (ad E 69)), (1, .int x1), (2, .ref (ad E a2)), (3, .ref (ad E a3)), (4, .int x4), (5, .int x5)] [] P E) (x1 : Int32) (x4 : Int32) (x5 : Int32) (P : PM) (h : St E rP (j_St_drawFrom_132 a2 n2 a3 n3 k21 x1 x4 x5 P) Q) : Go G c_St_drawFrom "YawnRoute$Steps" 8 none false d nOb nOb Q 132 [(0, .ref (ad E 69)), (1, .int x1), (2, .ref (ad E a2)), (3, .ref (ad E a3)), (4, .int x4), (5, .int x5)] [] P E := by
  rw [j_St_drawFrom_132] at h
  refine Go.iinc (i := 5) (n := 1) 5 (x5 + (1 : Int32)) [(5, .int (x5 + (1 : Int32))), (0, .ref (ad E 69)), (1, .int x1), (2, .ref (ad E a2)), (3, .ref (ad E a3)), (4, .int x4)] (by decide +kernel) rfl rfl (by decide) rfl ?_
  refine Go.goto (off := -114) 21 (by decide +kernel) (by decide) ?_
  refine Go.sub [1, 2, 3, 4, 5, 0] [(0, .ref (ad E 69)), (1, .int x1), (2, .ref (ad E a2)), (3, .ref (ad E a3)), (4, .int x4), (5, .int (x5 + (1 : Int32)))] rfl ?_
  exact hk21 x1 x4 (x5 + (1 : Int32)) P h
theorem t_j_St_drawFrom_79 {G : GX} (hG : GOK G) {E : EV} (hE : E0 E) (d : Nat) (hd : 3 ≤ d) {Q : QT} (a2 : Nat) (n2 : Nat) (ha2 : sh a2 = .inr (0, n2)) (a3 : Nat) (n3 : Nat) (ha3 : sh a3 = .inr (0, n3)) (k21 : Int32 → Int32 → Int32 → PM → Option PM) (hk21 : ∀ (x1 : Int32) (x4 : Int32) (x5 : Int32) (P : PM), St E rP (k21 x1 x4 x5 P) Q → Go G c_St_drawFrom "YawnRoute$Steps" 8 none false d nOb nOb Q 21 [(0, .ref (ad E 69)), (1, .int x1), (2, .ref (ad E a2)), (3, .ref (ad E a3)), (4, .int x4), (5, .int x5)] [] P E) (x1 : Int32) (x4 : Int32) (x5 : Int32) (x6 : Int32) (s0 : Int32) (P : PM) (h : St E rP (j_St_drawFrom_79 a2 n2 a3 n3 k21 x1 x4 x5 x6 s0 P) Q) : Go G c_St_drawFrom "YawnRoute$Steps" 8 none false d nOb nOb Q 79 [(0, .ref (ad E 69)), (1, .int x1), (2, .ref (ad E a2)), (3, .ref (ad E a3)), (4, .int x4), (5, .int x5), (6, .int x6)] [.int s0] P E := by
  rw [j_St_drawFrom_79] at h
  refine Go.istore (i := 7) [(7, .int s0), (0, .ref (ad E 69)), (1, .int x1), (2, .ref (ad E a2)), (3, .ref (ad E a3)), (4, .int x4), (5, .int x5), (6, .int x6)] (by decide +kernel) (by decide) rfl ?_
  refine Go.iload (i := 4) 5 (by decide +kernel) rfl ?_
  refine Go.iload (i := 6) 7 (by decide +kernel) rfl ?_
  refine Go.isub (by decide +kernel) ?_
  obtain ⟨y1, hy1, h⟩ := St.lb h
  refine Go.eqi y1 hy1 ?_
  refine Go.istore (i := 4) [(4, .int y1), (7, .int s0), (0, .ref (ad E 69)), (1, .int x1), (2, .ref (ad E a2)), (3, .ref (ad E a3)), (5, .int x5), (6, .int x6)] (by decide +kernel) (by decide) rfl ?_
  refine Go.iload (i := 7) 1 (by decide +kernel) rfl ?_
  refine Go.iconst (n := -1) (-1 : Int32) (by decide +kernel) rfl ?_
  refine Go.icmp_ne (off := 18) 109 (by decide +kernel) (by decide) (fun c2 => ?_) (fun c2 => ?_)
  · rw [if_neg c2] at h
    refine Go.iload (i := 7) 1 (by decide +kernel) rfl ?_
    refine Go.if_le (off := 21) 132 (by decide +kernel) (by decide) (fun c3 => ?_) (fun c3 => ?_)
    · rw [if_pos c3] at h
      refine Go.sub [2, 3, 4, 5, 0, 6] [(0, .ref (ad E 69)), (1, .int x1), (2, .ref (ad E a2)), (3, .ref (ad E a3)), (4, .int y1), (5, .int x5)] rfl ?_
      exact t_j_St_drawFrom_132 hG hE d hd a2 n2 ha2 a3 n3 ha3 k21 hk21 x1 y1 x5 P h
    · rw [if_neg c3] at h
      refine Go.aload_n (k := 3) (i := 3) 5 (by decide +kernel) rfl rfl ?_
      refine Go.iload (i := 5) 6 (by decide +kernel) rfl ?_
      refine Go.iload (i := 7) 1 (by decide +kernel) rfl ?_
      refine Go.cSN_i (P1 := P) (v := (f_Yr_placeOf x5 s0 P)) (d - 1) [.int x5, .int s0] hE w_Yr_placeOf (e_Yr_placeOf hG hE (d - 1) (by omega) x5 s0 P ⟨rfl, rfl, rfl⟩) nw25 rfl (by omega) (Nat.le_of_ble_eq_true rfl) (by decide +kernel) _ rfl ?_
      refine Go.dup2 (by decide +kernel) rfl rfl ?_
      obtain ⟨b4, h⟩ := St.ck h
      refine Go.iaload a3 n3 ha3 (ltA hE ha3 (by decide)) (inb_in b4) (by decide +kernel) ?_
      refine Go.aload_n (k := 2) (i := 2) 4 (by decide +kernel) rfl rfl ?_
      refine Go.iload_n (k := 1) (i := 1) 3 (by decide +kernel) rfl rfl ?_
      obtain ⟨b5, h⟩ := St.ck h
      refine Go.iaload a2 n2 ha2 (ltA hE ha2 (by decide)) (inb_in b5) (by decide +kernel) ?_
      refine Go.iload (i := 6) 7 (by decide +kernel) rfl ?_
      refine Go.imul (by decide +kernel) ?_
      refine Go.iadd (by decide +kernel) ?_
      obtain ⟨b6, h⟩ := St.ck h
      refine Go.iastore a3 n3 ha3 (ltA hE ha3 (by decide)) (inb_in b6) (by decide +kernel) ?_
      refine Go.sub [2, 3, 4, 5, 0, 6] [(0, .ref (ad E 69)), (1, .int x1), (2, .ref (ad E a2)), (3, .ref (ad E a3)), (4, .int y1), (5, .int x5)] rfl ?_
      exact t_j_St_drawFrom_132 hG hE d hd a2 n2 ha2 a3 n3 ha3 k21 hk21 x1 y1 x5 (u1 P a3 (f_Yr_placeOf x5 s0 P).toNatClampNeg ((P.1 a3 (f_Yr_placeOf x5 s0 P).toNatClampNeg) + ((P.1 a2 x1.toNatClampNeg) * x6))) h
  · rw [if_pos c2] at h
    refine Go.aload_n (k := 3) (i := 3) 5 (by decide +kernel) rfl rfl ?_
    refine Go.iload_n (k := 1) (i := 1) 3 (by decide +kernel) rfl rfl ?_
    refine Go.dup2 (by decide +kernel) rfl rfl ?_
    obtain ⟨b7, h⟩ := St.ck h
    refine Go.iaload a3 n3 ha3 (ltA hE ha3 (by decide)) (inb_in b7) (by decide +kernel) ?_
    refine Go.aload_n (k := 2) (i := 2) 4 (by decide +kernel) rfl rfl ?_
    refine Go.iload_n (k := 1) (i := 1) 3 (by decide +kernel) rfl rfl ?_
    obtain ⟨b8, h⟩ := St.ck h
    refine Go.iaload a2 n2 ha2 (ltA hE ha2 (by decide)) (inb_in b8) (by decide +kernel) ?_
    refine Go.iload (i := 6) 7 (by decide +kernel) rfl ?_
    refine Go.imul (by decide +kernel) ?_
    refine Go.iadd (by decide +kernel) ?_
    obtain ⟨b9, h⟩ := St.ck h
    refine Go.iastore a3 n3 ha3 (ltA hE ha3 (by decide)) (inb_in b9) (by decide +kernel) ?_
    refine Go.goto (off := 26) 132 (by decide +kernel) (by decide) ?_
    refine Go.sub [2, 3, 4, 5, 0, 6] [(0, .ref (ad E 69)), (1, .int x1), (2, .ref (ad E a2)), (3, .ref (ad E a3)), (4, .int y1), (5, .int x5)] rfl ?_
    exact t_j_St_drawFrom_132 hG hE d hd a2 n2 ha2 a3 n3 ha3 k21 hk21 x1 y1 x5 (u1 P a3 x1.toNatClampNeg ((P.1 a3 x1.toNatClampNeg) + ((P.1 a2 x1.toNatClampNeg) * x6))) h
theorem t_l_St_drawFrom_21 {G : GX} (hG : GOK G) {E : EV} (hE : E0 E) (d : Nat) (hd : 3 ≤ d) {Q : QT} (a2 : Nat) (n2 : Nat) (ha2 : sh a2 = .inr (0, n2)) (a3 : Nat) (n3 : Nat) (ha3 : sh a3 = .inr (0, n3)) : ∀ (n : Nat) (x1 : Int32) (x4 : Int32) (x5 : Int32) (P : PM), St E rP (l_St_drawFrom_21 a2 n2 a3 n3 n x1 x4 x5 P) Q → Go G c_St_drawFrom "YawnRoute$Steps" 8 none false d nOb nOb Q 21 [(0, .ref (ad E 69)), (1, .int x1), (2, .ref (ad E a2)), (3, .ref (ad E a3)), (4, .int x4), (5, .int x5)] [] P E := by
  intro n
  induction n with
  | zero =>
    intro x1 x4 x5 P h
    rw [l_St_drawFrom_21] at h
    exact St.none_ h
  | succ n ih =>
    intro x1 x4 x5 P h
    rw [l_St_drawFrom_21] at h
    refine Go.iload (i := 5) 5 (by decide +kernel) rfl ?_
    refine Go.aload_n (k := 0) (i := 0) 0 (by decide +kernel) rfl rfl ?_
    refine Go.get 69 0 (.ref (ad E 14)) (by decide) (by decide) sh69 (ltO hE sh69) (vlR hE rfl rfl) lk370 (by decide +kernel) ?_
    refine Go.get 14 0 (.int (P.1 14 0)) (by decide) (by decide) sh14 (ltO hE sh14) rfl lk88 (by decide +kernel) ?_
    refine Go.icmp_ge (off := 108) 138 (by decide +kernel) (by decide) (fun c1 => ?_) (fun c1 => ?_)
    · rw [if_pos c1] at h
      refine Go.aload_n (k := 3) (i := 3) 3 (by decide +kernel) rfl rfl ?_
      refine Go.iload_n (k := 1) (i := 1) 1 (by decide +kernel) rfl rfl ?_
      refine Go.dup2 (by decide +kernel) rfl rfl ?_
      obtain ⟨b2, h⟩ := St.ck h
      refine Go.iaload a3 n3 ha3 (ltA hE ha3 (by decide)) (inb_in b2) (by decide +kernel) ?_
      refine Go.aload_n (k := 2) (i := 2) 2 (by decide +kernel) rfl rfl ?_
      refine Go.iload_n (k := 1) (i := 1) 1 (by decide +kernel) rfl rfl ?_
      obtain ⟨b3, h⟩ := St.ck h
      refine Go.iaload a2 n2 ha2 (ltA hE ha2 (by decide)) (inb_in b3) (by decide +kernel) ?_
      refine Go.iload (i := 4) 4 (by decide +kernel) rfl ?_
      refine Go.imul (by decide +kernel) ?_
      refine Go.iadd (by decide +kernel) ?_
      obtain ⟨b4, h⟩ := St.ck h
      refine Go.iastore a3 n3 ha3 (ltA hE ha3 (by decide)) (inb_in b4) (by decide +kernel) ?_
      exact Go.vret rfl hE.2 (by decide +kernel) (St.fP h)
    · rw [if_neg c1] at h
      refine Go.iload (i := 4) 4 (by decide +kernel) rfl ?_
      refine Go.aload_n (k := 0) (i := 0) 0 (by decide +kernel) rfl rfl ?_
      refine Go.get 69 0 (.ref (ad E 14)) (by decide) (by decide) sh69 (ltO hE sh69) (vlR hE rfl rfl) lk370 (by decide +kernel) ?_
      refine Go.iload_n (k := 1) (i := 1) 1 (by decide +kernel) rfl rfl ?_
      refine Go.cSN_i (P1 := P) (v := (f_Yr_stationIn x1 P)) (d - 1) [.int x1] hE w_Yr_stationIn (e_Yr_stationIn hG hE (d - 1) (by omega) x1 P ⟨rfl, rfl, rfl⟩) nw24 rfl (by omega) (Nat.le_of_ble_eq_true rfl) (by decide +kernel) _ rfl ?_
      refine Go.iload (i := 5) 5 (by decide +kernel) rfl ?_
      obtain ⟨v5, hv5, h⟩ := St.bind h
      refine Go.cV_i (P1 := P) (v := v5) (d - 1) 14 [.int (f_Yr_stationIn x1 P), .int x5] sh14 hE w_Ne_oddsOf (e_Ne_oddsOf hG hE (d - 1) (by omega) 14 sh14 (f_Yr_stationIn x1 P) x5 P ⟨_, hv5, rfl, rfl, rfl⟩) lk1249 rfl (by omega) (Nat.le_of_ble_eq_true rfl) (by decide +kernel) _ rfl ?_
      refine Go.mmin lk1250 (Nat.le_of_eq hE.2) (by omega) (Nat.le_of_ble_eq_true rfl) (by decide +kernel) ?_
      obtain ⟨y6, hy6, h⟩ := St.lb h
      refine Go.eqi y6 hy6 ?_
      refine Go.istore (i := 6) [(6, .int y6), (0, .ref (ad E 69)), (1, .int x1), (2, .ref (ad E a2)), (3, .ref (ad E a3)), (4, .int x4), (5, .int x5)] (by decide +kernel) (by decide) rfl ?_
      refine Go.iload (i := 6) 0 (by decide +kernel) rfl ?_
      refine Go.if_le (off := 23) 78 (by decide +kernel) (by decide) (fun c7 => ?_) (fun c7 => ?_)
      · rw [if_pos c7] at h
        refine Go.iconst (n := 0) (0 : Int32) (by decide +kernel) rfl ?_
        refine Go.sub [1, 2, 3, 4, 5, 6, 0] [(0, .ref (ad E 69)), (1, .int x1), (2, .ref (ad E a2)), (3, .ref (ad E a3)), (4, .int x4), (5, .int x5), (6, .int y6)] rfl ?_
        exact t_j_St_drawFrom_79 hG hE d hd a2 n2 ha2 a3 n3 ha3 (fun z0 z1 z2 Pz => l_St_drawFrom_21 a2 n2 a3 n3 n z0 z1 z2 Pz) (fun z0 z1 z2 Pz q => ih z0 z1 z2 Pz q) x1 x4 x5 y6 (0 : Int32) P h
      · rw [if_neg c7] at h
        refine Go.aload_n (k := 0) (i := 0) 1 (by decide +kernel) rfl rfl ?_
        refine Go.get 69 2 (.ref (ad E 58)) (by decide) (by decide) sh69 (ltO hE sh69) (vlR hE rfl rfl) lk372 (by decide +kernel) ?_
        refine Go.iload_n (k := 1) (i := 1) 2 (by decide +kernel) rfl rfl ?_
        refine Go.iload (i := 5) 6 (by decide +kernel) rfl ?_
        refine Go.aload_n (k := 0) (i := 0) 1 (by decide +kernel) rfl rfl ?_
        refine Go.get 69 1 (.ref (ad E 21)) (by decide) (by decide) sh69 (ltO hE sh69) (vlR hE rfl rfl) lk371 (by decide +kernel) ?_
        refine Go.get 21 3 (.int (P.1 21 3)) (by decide) (by decide) sh21 (ltO hE sh21) rfl lk164 (by decide +kernel) ?_
        obtain ⟨v8, hv8, h⟩ := St.bind h
        refine Go.cV_i (P1 := P) (v := v8) (d - 1) 58 [.int x1, .int x5, .int (P.1 21 3)] sh58 hE w_Pa_after (e_Pa_after hG hE (d - 1) (by omega) x1 x5 (P.1 21 3) P ⟨_, hv8, rfl, rfl, rfl⟩) lk1251 rfl (by omega) (Nat.le_of_ble_eq_true rfl) (by decide +kernel) _ rfl ?_
        refine Go.goto (off := 4) 79 (by decide +kernel) (by decide) ?_
        refine Go.sub [1, 2, 3, 4, 5, 6, 0] [(0, .ref (ad E 69)), (1, .int x1), (2, .ref (ad E a2)), (3, .ref (ad E a3)), (4, .int x4), (5, .int x5), (6, .int y6)] rfl ?_
        exact t_j_St_drawFrom_79 hG hE d hd a2 n2 ha2 a3 n3 ha3 (fun z0 z1 z2 Pz => l_St_drawFrom_21 a2 n2 a3 n3 n z0 z1 z2 Pz) (fun z0 z1 z2 Pz q => ih z0 z1 z2 Pz q) x1 x4 x5 y6 v8 P h
theorem t_f_St_drawFrom {G : GX} (hG : GOK G) {E : EV} (hE : E0 E) (d : Nat) (hd : 3 ≤ d) {Q : QT} (a2 : Nat) (n2 : Nat) (ha2 : sh a2 = .inr (0, n2)) (a3 : Nat) (n3 : Nat) (ha3 : sh a3 = .inr (0, n3)) (a1 : Int32) (P : PM) (h : St E rP (f_St_drawFrom a2 n2 a3 n3 a1 P) Q) : Go G c_St_drawFrom "YawnRoute$Steps" 8 none false d nOb nOb Q 0 [(0, .ref (ad E 69)), (1, .int a1), (2, .ref (ad E a2)), (3, .ref (ad E a3))] [] P E := by
  rw [f_St_drawFrom] at h
  refine Go.iload_n (k := 1) (i := 1) 1 (by decide +kernel) rfl rfl ?_
  refine Go.cSN_i (P1 := P) (v := (f_Yr_isPlace a1 P)) (d - 1) [.int a1] hE w_Yr_isPlace (e_Yr_isPlace hG hE (d - 1) (by omega) a1 P ⟨rfl, rfl, rfl⟩) nw22 rfl (by omega) (Nat.le_of_ble_eq_true rfl) (by decide +kernel) _ rfl ?_
  refine Go.if_eq (off := 9) 13 (by decide +kernel) (by decide) (fun c1 => ?_) (fun c1 => ?_)
  · rw [if_pos c1] at h
    exact Go.vret rfl hE.2 (by decide +kernel) (St.fP h)
  · rw [if_neg c1] at h
    refine Go.aload_n (k := 2) (i := 2) 2 (by decide +kernel) rfl rfl ?_
    refine Go.iload_n (k := 1) (i := 1) 1 (by decide +kernel) rfl rfl ?_
    obtain ⟨b2, h⟩ := St.ck h
    refine Go.iaload a2 n2 ha2 (ltA hE ha2 (by decide)) (inb_in b2) (by decide +kernel) ?_
    refine Go.if_ne (off := 4) 14 (by decide +kernel) (by decide) (fun c3 => ?_) (fun c3 => ?_)
    · rw [if_neg c3] at h
      refine Go.bipush (n := 10) (10 : Int32) (by decide +kernel) (by decide) ?_
      refine Go.istore (i := 4) [(4, .int (10 : Int32)), (0, .ref (ad E 69)), (1, .int a1), (2, .ref (ad E a2)), (3, .ref (ad E a3))] (by decide +kernel) (by decide) rfl ?_
      refine Go.iconst (n := 0) (0 : Int32) (by decide +kernel) rfl ?_
      refine Go.istore (i := 5) [(5, .int (0 : Int32)), (4, .int (10 : Int32)), (0, .ref (ad E 69)), (1, .int a1), (2, .ref (ad E a2)), (3, .ref (ad E a3))] (by decide +kernel) (by decide) rfl ?_
      refine Go.sub [2, 3, 4, 5, 1, 0] [(0, .ref (ad E 69)), (1, .int a1), (2, .ref (ad E a2)), (3, .ref (ad E a3)), (4, .int (10 : Int32)), (5, .int (0 : Int32))] rfl ?_
      exact t_l_St_drawFrom_21 hG hE d hd a2 n2 ha2 a3 n3 ha3 FU a1 (10 : Int32) (0 : Int32) P h
    · rw [if_pos c3] at h
      exact Go.vret rfl hE.2 (by decide +kernel) (St.fP h)
theorem e_St_drawFrom {G : GX} (hG : GOK G) {E : EV} (hE : E0 E) (d : Nat) (hd : 3 ≤ d) (a2 : Nat) (n2 : Nat) (ha2 : sh a2 = .inr (0, n2)) (a3 : Nat) (n3 : Nat) (ha3 : sh a3 = .inr (0, n3)) (a1 : Int32) (P : PM) {Q : QT} (h : St E rP (f_St_drawFrom a2 n2 a3 n3 a1 P) Q) : Con G y_St_drawFrom cw_St_drawFrom d nOb nOb [.ref (ad E 69), .int a1, .ref (ad E a2), .ref (ad E a3)] P E Q :=
  Con.of hG (by decide +kernel) rfl (fun h => by cases h) hE.2 (Nat.le_of_ble_eq_true rfl) (t_f_St_drawFrom hG hE d hd a2 n2 ha2 a3 n3 ha3 a1 P h)
abbrev c_St_drawLots : ByteArray := prog_10_method_8_code
abbrev y_St_drawLots : MethodName := ⟨"YawnRoute$Steps", "drawLots", "(I)V"⟩
abbrev cw_St_drawLots : Cond := .code y_St_drawLots c_St_drawLots 5 none
theorem w_St_drawLots : VW 8 y_St_drawLots c_St_drawLots 5 none 1 := ⟨by decide, lk1241, lk1242, lk13, lk1243, ⟨by decide, by decide, by decide +kernel⟩, by decide⟩
noncomputable def j_St_drawLots_143 (k57 : Int32 → Int32 → PM → Option PM) (x1 : Int32) (x3 : Int32) (P : PM) : Option PM := k57 x1 (x3 + (1 : Int32)) P
noncomputable def l_St_drawLots_85 (k57 : Int32 → Int32 → PM → Option PM) : Nat → Int32 → Int32 → Int32 → PM → Option PM
  | 0, _, _, _, _ => none
  | n + 1, x1, x3, x4, P => if (P.1 58 6) ≤ x4 then (j_St_drawLots_143 k57 x1 x3 P) else (if (280 : Int32) ≤ x4 then (j_St_drawLots_143 k57 x1 x3 P) else (ck (inb x4 280) (ck (inb (x3 &&& (1 : Int32)) 2) (ck (inb ((x3 + (1 : Int32)) &&& (1 : Int32)) 2) ((f_St_drawFrom (86 + (x3 &&& (1 : Int32)).toNatClampNeg) 280 (86 + ((x3 + (1 : Int32)) &&& (1 : Int32)).toNatClampNeg) 280 (P.1 62 x4.toNatClampNeg) P).bind (fun P6 => l_St_drawLots_85 k57 n x1 x3 (x4 + (1 : Int32)) P6))))))
noncomputable def l_St_drawLots_57 : Nat → Int32 → Int32 → PM → Option PM
  | 0, _, _, _ => none
  | n + 1, x1, x3, P => if x1 ≤ x3 then (some P) else (if (6 : Int32) ≤ x3 then (some P) else (ck (inb ((x3 + (1 : Int32)) &&& (1 : Int32)) 2) ((f_Ja_fill_AII (86 + ((x3 + (1 : Int32)) &&& (1 : Int32)).toNatClampNeg) 280 (0 : Int32) P).bind (fun P4 => l_St_drawLots_85 (fun z0 z1 Pz => l_St_drawLots_57 n z0 z1 Pz) FU x1 x3 (0 : Int32) P4))))
noncomputable def j_St_drawLots_55 (x1 : Int32) (P : PM) : Option PM := l_St_drawLots_57 FU x1 (0 : Int32) P
noncomputable def f_St_drawLots (a1 : Int32) (P : PM) : Option PM := (f_Pa_explore (f_Sa_place 21 P) (P.1 21 3) P).bind (fun P1 => (f_Ja_fill_AII 86 280 (0 : Int32) P1).bind (fun P2 => lb (f_Sa_place 21 P2) (fun y3 => if (f_Yr_isPlace y3 P2) = (0 : Int32) then (j_St_drawLots_55 a1 P2) else (ck (inb y3 280) (j_St_drawLots_55 a1 (u1 P2 86 y3.toNatClampNeg (1 : Int32)))))))
theorem t_j_St_drawLots_143 {G : GX} (hG : GOK G) {E : EV} (hE : E0 E) (d : Nat) (hd : 6 ≤ d) {Q : QT} (k57 : Int32 → Int32 → PM → Option PM) (hk57 : ∀ (x1 : Int32) (x3 : Int32) (P : PM), St E rP (k57 x1 x3 P) Q → Go G c_St_drawLots "YawnRoute$Steps" 5 none false d nOb nOb Q 57 [(0, .ref (ad E 69)), (1, .int x1), (3, .int x3)] [] P E) (x1 : Int32) (x3 : Int32) (P : PM) (h : St E rP (j_St_drawLots_143 k57 x1 x3 P) Q) : Go G c_St_drawLots "YawnRoute$Steps" 5 none false d nOb nOb Q 143 [(0, .ref (ad E 69)), (1, .int x1), (3, .int x3)] [] P E := by
  rw [j_St_drawLots_143] at h
  refine Go.iinc (i := 3) (n := 1) 2 (x3 + (1 : Int32)) [(3, .int (x3 + (1 : Int32))), (0, .ref (ad E 69)), (1, .int x1)] (by decide +kernel) rfl rfl (by decide) rfl ?_
  refine Go.goto (off := -89) 57 (by decide +kernel) (by decide) ?_
  refine Go.sub [1, 2, 0] [(0, .ref (ad E 69)), (1, .int x1), (3, .int (x3 + (1 : Int32)))] rfl ?_
  exact hk57 x1 (x3 + (1 : Int32)) P h
theorem t_l_St_drawLots_85 {G : GX} (hG : GOK G) {E : EV} (hE : E0 E) (d : Nat) (hd : 6 ≤ d) {Q : QT} (k57 : Int32 → Int32 → PM → Option PM) (hk57 : ∀ (x1 : Int32) (x3 : Int32) (P : PM), St E rP (k57 x1 x3 P) Q → Go G c_St_drawLots "YawnRoute$Steps" 5 none false d nOb nOb Q 57 [(0, .ref (ad E 69)), (1, .int x1), (3, .int x3)] [] P E) : ∀ (n : Nat) (x1 : Int32) (x3 : Int32) (x4 : Int32) (P : PM), St E rP (l_St_drawLots_85 k57 n x1 x3 x4 P) Q → Go G c_St_drawLots "YawnRoute$Steps" 5 none false d nOb nOb Q 85 [(0, .ref (ad E 69)), (1, .int x1), (3, .int x3), (4, .int x4)] [] P E := by
  intro n
  induction n with
  | zero =>
    intro x1 x3 x4 P h
    rw [l_St_drawLots_85] at h
    exact St.none_ h
  | succ n ih =>
    intro x1 x3 x4 P h
    rw [l_St_drawLots_85] at h
    refine Go.iload (i := 4) 3 (by decide +kernel) rfl ?_
    refine Go.aload_n (k := 0) (i := 0) 0 (by decide +kernel) rfl rfl ?_
    refine Go.get 69 2 (.ref (ad E 58)) (by decide) (by decide) sh69 (ltO hE sh69) (vlR hE rfl rfl) lk372 (by decide +kernel) ?_
    refine Go.get 58 6 (.int (P.1 58 6)) (by decide) (by decide) sh58 (ltO hE sh58) rfl lk297 (by decide +kernel) ?_
    refine Go.icmp_ge (off := 49) 143 (by decide +kernel) (by decide) (fun c1 => ?_) (fun c1 => ?_)
    · rw [if_pos c1] at h
      refine Go.sub [0, 1, 2] [(0, .ref (ad E 69)), (1, .int x1), (3, .int x3)] rfl ?_
      exact t_j_St_drawLots_143 hG hE d hd k57 hk57 x1 x3 P h
    · rw [if_neg c1] at h
      refine Go.iload (i := 4) 3 (by decide +kernel) rfl ?_
      refine Go.sipush (n := 280) (280 : Int32) (by decide +kernel) (by decide) ?_
      refine Go.icmp_ge (off := 41) 143 (by decide +kernel) (by decide) (fun c2 => ?_) (fun c2 => ?_)
      · rw [if_pos c2] at h
        refine Go.sub [0, 1, 2] [(0, .ref (ad E 69)), (1, .int x1), (3, .int x3)] rfl ?_
        exact t_j_St_drawLots_143 hG hE d hd k57 hk57 x1 x3 P h
      · rw [if_neg c2] at h
        refine Go.aload_n (k := 0) (i := 0) 0 (by decide +kernel) rfl rfl ?_
        refine Go.aload_n (k := 0) (i := 0) 0 (by decide +kernel) rfl rfl ?_
        refine Go.get 69 2 (.ref (ad E 58)) (by decide) (by decide) sh69 (ltO hE sh69) (vlR hE rfl rfl) lk372 (by decide +kernel) ?_
        refine Go.get 58 5 (.ref (ad E 62)) (by decide) (by decide) sh58 (ltO hE sh58) (vlR hE rfl rfl) lk295 (by decide +kernel) ?_
        refine Go.iload (i := 4) 3 (by decide +kernel) rfl ?_
        obtain ⟨b3, h⟩ := St.ck h
        refine Go.iaload 62 280 sh62 (ltA hE sh62 (by decide)) (inb_in b3) (by decide +kernel) ?_
        refine Go.aload_n (k := 0) (i := 0) 0 (by decide +kernel) rfl rfl ?_
        refine Go.get 69 5 (.ref (ad E 85)) (by decide) (by decide) sh69 (ltO hE sh69) (vlR hE rfl rfl) lk375 (by decide +kernel) ?_
        refine Go.iload_n (k := 3) (i := 3) 2 (by decide +kernel) rfl rfl ?_
        refine Go.iconst (n := 1) (1 : Int32) (by decide +kernel) rfl ?_
        refine Go.iand (by decide +kernel) ?_
        obtain ⟨b4, h⟩ := St.ck h
        refine Go.aaload 85 6 2 (86 + (x3 &&& (1 : Int32)).toNatClampNeg) sh85 (by decide) (ltA hE sh85 (by decide)) (inb_in b4) (by rw [hE.1]; exact raR85 b4) (by decide +kernel) ?_
        refine Go.aload_n (k := 0) (i := 0) 0 (by decide +kernel) rfl rfl ?_
        refine Go.get 69 5 (.ref (ad E 85)) (by decide) (by decide) sh69 (ltO hE sh69) (vlR hE rfl rfl) lk375 (by decide +kernel) ?_
        refine Go.iload_n (k := 3) (i := 3) 2 (by decide +kernel) rfl rfl ?_
        refine Go.iconst (n := 1) (1 : Int32) (by decide +kernel) rfl ?_
        refine Go.iadd (by decide +kernel) ?_
        refine Go.iconst (n := 1) (1 : Int32) (by decide +kernel) rfl ?_
        refine Go.iand (by decide +kernel) ?_
        obtain ⟨b5, h⟩ := St.ck h
        refine Go.aaload 85 6 2 (86 + ((x3 + (1 : Int32)) &&& (1 : Int32)).toNatClampNeg) sh85 (by decide) (ltA hE sh85 (by decide)) (inb_in b5) (by rw [hE.1]; exact raR85 b5) (by decide +kernel) ?_
        obtain ⟨P6, hP6, h⟩ := St.bind h
        refine Go.cV_v (P1 := P6) (d - 1) 69 [.int (P.1 62 x4.toNatClampNeg), .ref (ad E (86 + (x3 &&& (1 : Int32)).toNatClampNeg)), .ref (ad E (86 + ((x3 + (1 : Int32)) &&& (1 : Int32)).toNatClampNeg))] sh69 hE w_St_drawFrom (e_St_drawFrom hG hE (d - 1) (by omega) (86 + (x3 &&& (1 : Int32)).toNatClampNeg) 280 (raS85 b4) (86 + ((x3 + (1 : Int32)) &&& (1 : Int32)).toNatClampNeg) 280 (raS85 b5) (P.1 62 x4.toNatClampNeg) P ⟨_, hP6, rfl, rfl, rfl⟩) lk1244 rfl (by omega) (Nat.le_of_ble_eq_true rfl) (by decide +kernel) _ rfl ?_
        refine Go.iinc (i := 4) (n := 1) 3 (x4 + (1 : Int32)) [(4, .int (x4 + (1 : Int32))), (0, .ref (ad E 69)), (1, .int x1), (3, .int x3)] (by decide +kernel) rfl rfl (by decide) rfl ?_
        refine Go.goto (off := -55) 85 (by decide +kernel) (by decide) ?_
        refine Go.sub [1, 2, 3, 0] [(0, .ref (ad E 69)), (1, .int x1), (3, .int x3), (4, .int (x4 + (1 : Int32)))] rfl ?_
        exact ih x1 x3 (x4 + (1 : Int32)) P6 h
theorem t_l_St_drawLots_57 {G : GX} (hG : GOK G) {E : EV} (hE : E0 E) (d : Nat) (hd : 6 ≤ d) {Q : QT} : ∀ (n : Nat) (x1 : Int32) (x3 : Int32) (P : PM), St E rP (l_St_drawLots_57 n x1 x3 P) Q → Go G c_St_drawLots "YawnRoute$Steps" 5 none false d nOb nOb Q 57 [(0, .ref (ad E 69)), (1, .int x1), (3, .int x3)] [] P E := by
  intro n
  induction n with
  | zero =>
    intro x1 x3 P h
    rw [l_St_drawLots_57] at h
    exact St.none_ h
  | succ n ih =>
    intro x1 x3 P h
    rw [l_St_drawLots_57] at h
    refine Go.iload_n (k := 3) (i := 3) 2 (by decide +kernel) rfl rfl ?_
    refine Go.iload_n (k := 1) (i := 1) 1 (by decide +kernel) rfl rfl ?_
    refine Go.icmp_ge (off := 90) 149 (by decide +kernel) (by decide) (fun c1 => ?_) (fun c1 => ?_)
    · rw [if_pos c1] at h
      exact Go.vret rfl hE.2 (by decide +kernel) (St.fP h)
    · rw [if_neg c1] at h
      refine Go.iload_n (k := 3) (i := 3) 2 (by decide +kernel) rfl rfl ?_
      refine Go.bipush (n := 6) (6 : Int32) (by decide +kernel) (by decide) ?_
      refine Go.icmp_ge (off := 84) 149 (by decide +kernel) (by decide) (fun c2 => ?_) (fun c2 => ?_)
      · rw [if_pos c2] at h
        exact Go.vret rfl hE.2 (by decide +kernel) (St.fP h)
      · rw [if_neg c2] at h
        refine Go.aload_n (k := 0) (i := 0) 0 (by decide +kernel) rfl rfl ?_
        refine Go.get 69 5 (.ref (ad E 85)) (by decide) (by decide) sh69 (ltO hE sh69) (vlR hE rfl rfl) lk375 (by decide +kernel) ?_
        refine Go.iload_n (k := 3) (i := 3) 2 (by decide +kernel) rfl rfl ?_
        refine Go.iconst (n := 1) (1 : Int32) (by decide +kernel) rfl ?_
        refine Go.iadd (by decide +kernel) ?_
        refine Go.iconst (n := 1) (1 : Int32) (by decide +kernel) rfl ?_
        refine Go.iand (by decide +kernel) ?_
        obtain ⟨b3, h⟩ := St.ck h
        refine Go.aaload 85 6 2 (86 + ((x3 + (1 : Int32)) &&& (1 : Int32)).toNatClampNeg) sh85 (by decide) (ltA hE sh85 (by decide)) (inb_in b3) (by rw [hE.1]; exact raR85 b3) (by decide +kernel) ?_
        refine Go.iconst (n := 0) (0 : Int32) (by decide +kernel) rfl ?_
        obtain ⟨P4, hP4, h⟩ := St.bind h
        refine Go.cS_v (P1 := P4) (d - 1) [.ref (ad E (86 + ((x3 + (1 : Int32)) &&& (1 : Int32)).toNatClampNeg)), .int (0 : Int32)] hE w_Ja_fill_AII (e_Ja_fill_AII hG hE (d - 1) (by omega) (86 + ((x3 + (1 : Int32)) &&& (1 : Int32)).toNatClampNeg) 280 (raS85 b3) (0 : Int32) P ⟨_, hP4, rfl, rfl, rfl⟩) lk1158 rfl (by omega) (Nat.le_of_ble_eq_true rfl) (by decide +kernel) _ rfl ?_
        refine Go.iconst (n := 0) (0 : Int32) (by decide +kernel) rfl ?_
        refine Go.istore (i := 4) [(4, .int (0 : Int32)), (0, .ref (ad E 69)), (1, .int x1), (3, .int x3)] (by decide +kernel) (by decide) rfl ?_
        refine Go.sub [1, 2, 3, 0] [(0, .ref (ad E 69)), (1, .int x1), (3, .int x3), (4, .int (0 : Int32))] rfl ?_
        exact t_l_St_drawLots_85 hG hE d hd (fun z0 z1 Pz => l_St_drawLots_57 n z0 z1 Pz) (fun z0 z1 Pz q => ih z0 z1 Pz q) FU x1 x3 (0 : Int32) P4 h
theorem t_j_St_drawLots_55 {G : GX} (hG : GOK G) {E : EV} (hE : E0 E) (d : Nat) (hd : 6 ≤ d) {Q : QT} (x1 : Int32) (P : PM) (h : St E rP (j_St_drawLots_55 x1 P) Q) : Go G c_St_drawLots "YawnRoute$Steps" 5 none false d nOb nOb Q 55 [(0, .ref (ad E 69)), (1, .int x1)] [] P E := by
  rw [j_St_drawLots_55] at h
  refine Go.iconst (n := 0) (0 : Int32) (by decide +kernel) rfl ?_
  refine Go.istore_n (k := 3) (i := 3) [(3, .int (0 : Int32)), (0, .ref (ad E 69)), (1, .int x1)] (by decide +kernel) rfl (by decide) rfl ?_
  refine Go.sub [1, 2, 0] [(0, .ref (ad E 69)), (1, .int x1), (3, .int (0 : Int32))] rfl ?_
  exact t_l_St_drawLots_57 hG hE d hd FU x1 (0 : Int32) P h
theorem t_f_St_drawLots {G : GX} (hG : GOK G) {E : EV} (hE : E0 E) (d : Nat) (hd : 6 ≤ d) {Q : QT} (a1 : Int32) (P : PM) (h : St E rP (f_St_drawLots a1 P) Q) : Go G c_St_drawLots "YawnRoute$Steps" 5 none false d nOb nOb Q 0 [(0, .ref (ad E 69)), (1, .int a1)] [] P E := by
  rw [f_St_drawLots] at h
  refine Go.aload_n (k := 0) (i := 0) 0 (by decide +kernel) rfl rfl ?_
  refine Go.get 69 2 (.ref (ad E 58)) (by decide) (by decide) sh69 (ltO hE sh69) (vlR hE rfl rfl) lk372 (by decide +kernel) ?_
  refine Go.aload_n (k := 0) (i := 0) 0 (by decide +kernel) rfl rfl ?_
  refine Go.get 69 1 (.ref (ad E 21)) (by decide) (by decide) sh69 (ltO hE sh69) (vlR hE rfl rfl) lk371 (by decide +kernel) ?_
  refine Go.cV_i (P1 := P) (v := (f_Sa_place 21 P)) (d - 1) 21 [] sh21 hE w_Sa_place (e_Sa_place hG hE (d - 1) (by omega) 21 sh21 P ⟨rfl, rfl, rfl⟩) lk1156 rfl (by omega) (Nat.le_of_ble_eq_true rfl) (by decide +kernel) _ rfl ?_
  refine Go.aload_n (k := 0) (i := 0) 0 (by decide +kernel) rfl rfl ?_
  refine Go.get 69 1 (.ref (ad E 21)) (by decide) (by decide) sh69 (ltO hE sh69) (vlR hE rfl rfl) lk371 (by decide +kernel) ?_
  refine Go.get 21 3 (.int (P.1 21 3)) (by decide) (by decide) sh21 (ltO hE sh21) rfl lk164 (by decide +kernel) ?_
  obtain ⟨P1, hP1, h⟩ := St.bind h
  refine Go.cV_v (P1 := P1) (d - 1) 58 [.int (f_Sa_place 21 P), .int (P.1 21 3)] sh58 hE w_Pa_explore (e_Pa_explore hG hE (d - 1) (by omega) (f_Sa_place 21 P) (P.1 21 3) P ⟨_, hP1, rfl, rfl, rfl⟩) lk1157 rfl (by omega) (Nat.le_of_ble_eq_true rfl) (by decide +kernel) _ rfl ?_
  refine Go.aload_n (k := 0) (i := 0) 0 (by decide +kernel) rfl rfl ?_
  refine Go.get 69 5 (.ref (ad E 85)) (by decide) (by decide) sh69 (ltO hE sh69) (vlR hE rfl rfl) lk375 (by decide +kernel) ?_
  refine Go.iconst (n := 0) (0 : Int32) (by decide +kernel) rfl ?_
  refine Go.aaload 85 6 2 86 sh85 (by decide) (ltA hE sh85 (by decide)) (vp_in_iff.mpr (by decide)) (by rw [hE.1]; decide) (by decide +kernel) ?_
  refine Go.iconst (n := 0) (0 : Int32) (by decide +kernel) rfl ?_
  obtain ⟨P2, hP2, h⟩ := St.bind h
  refine Go.cS_v (P1 := P2) (d - 1) [.ref (ad E 86), .int (0 : Int32)] hE w_Ja_fill_AII (e_Ja_fill_AII hG hE (d - 1) (by omega) 86 280 sh86 (0 : Int32) P1 ⟨_, hP2, rfl, rfl, rfl⟩) lk1158 rfl (by omega) (Nat.le_of_ble_eq_true rfl) (by decide +kernel) _ rfl ?_
  refine Go.aload_n (k := 0) (i := 0) 0 (by decide +kernel) rfl rfl ?_
  refine Go.get 69 1 (.ref (ad E 21)) (by decide) (by decide) sh69 (ltO hE sh69) (vlR hE rfl rfl) lk371 (by decide +kernel) ?_
  refine Go.cV_i (P1 := P2) (v := (f_Sa_place 21 P2)) (d - 1) 21 [] sh21 hE w_Sa_place (e_Sa_place hG hE (d - 1) (by omega) 21 sh21 P2 ⟨rfl, rfl, rfl⟩) lk1156 rfl (by omega) (Nat.le_of_ble_eq_true rfl) (by decide +kernel) _ rfl ?_
  obtain ⟨y3, hy3, h⟩ := St.lb h
  refine Go.eqi y3 hy3 ?_
  refine Go.istore_n (k := 2) (i := 2) [(2, .int y3), (0, .ref (ad E 69)), (1, .int a1)] (by decide +kernel) rfl (by decide) rfl ?_
  refine Go.iload_n (k := 2) (i := 2) 0 (by decide +kernel) rfl rfl ?_
  refine Go.cSN_i (P1 := P2) (v := (f_Yr_isPlace y3 P2)) (d - 1) [.int y3] hE w_Yr_isPlace (e_Yr_isPlace hG hE (d - 1) (by omega) y3 P2 ⟨rfl, rfl, rfl⟩) nw22 rfl (by omega) (Nat.le_of_ble_eq_true rfl) (by decide +kernel) _ rfl ?_
  refine Go.if_eq (off := 12) 55 (by decide +kernel) (by decide) (fun c4 => ?_) (fun c4 => ?_)
  · rw [if_pos c4] at h
    refine Go.sub [1, 2] [(0, .ref (ad E 69)), (1, .int a1)] rfl ?_
    exact t_j_St_drawLots_55 hG hE d hd a1 P2 h
  · rw [if_neg c4] at h
    refine Go.aload_n (k := 0) (i := 0) 1 (by decide +kernel) rfl rfl ?_
    refine Go.get 69 5 (.ref (ad E 85)) (by decide) (by decide) sh69 (ltO hE sh69) (vlR hE rfl rfl) lk375 (by decide +kernel) ?_
    refine Go.iconst (n := 0) (0 : Int32) (by decide +kernel) rfl ?_
    refine Go.aaload 85 6 2 86 sh85 (by decide) (ltA hE sh85 (by decide)) (vp_in_iff.mpr (by decide)) (by rw [hE.1]; decide) (by decide +kernel) ?_
    refine Go.iload_n (k := 2) (i := 2) 0 (by decide +kernel) rfl rfl ?_
    refine Go.iconst (n := 1) (1 : Int32) (by decide +kernel) rfl ?_
    obtain ⟨b5, h⟩ := St.ck h
    refine Go.iastore 86 280 sh86 (ltA hE sh86 (by decide)) (inb_in b5) (by decide +kernel) ?_
    refine Go.sub [1, 2] [(0, .ref (ad E 69)), (1, .int a1)] rfl ?_
    exact t_j_St_drawLots_55 hG hE d hd a1 (u1 P2 86 y3.toNatClampNeg (1 : Int32)) h
theorem e_St_drawLots {G : GX} (hG : GOK G) {E : EV} (hE : E0 E) (d : Nat) (hd : 6 ≤ d) (a1 : Int32) (P : PM) {Q : QT} (h : St E rP (f_St_drawLots a1 P) Q) : Con G y_St_drawLots cw_St_drawLots d nOb nOb [.ref (ad E 69), .int a1] P E Q :=
  Con.of hG (by decide +kernel) rfl (fun h => by cases h) hE.2 (Nat.le_of_ble_eq_true rfl) (t_f_St_drawLots hG hE d hd a1 P h)
abbrev c_St_shareOf : ByteArray := prog_10_method_10_code
abbrev y_St_shareOf : MethodName := ⟨"YawnRoute$Steps", "shareOf", "(II)I"⟩
abbrev cw_St_shareOf : Cond := .code y_St_shareOf c_St_shareOf 6 (some .int)
theorem w_St_shareOf : VW 8 y_St_shareOf c_St_shareOf 6 (some .int) 2 := ⟨by decide, lk1254, lk1255, lk13, lk1256, ⟨by decide, by decide, by decide +kernel⟩, by decide⟩
noncomputable def j_St_shareOf_44 (k5 : Int32 → Int32 → Int32 → Int32 → Option Int32) (x1 : Int32) (x2 : Int32) (x4 : Int32) (s0 : Int32) (s1 : Int32) (P : PM) : Option Int32 := lb (s0 + s1) (fun y1 => k5 x1 x2 y1 (x4 + (1 : Int32)))
noncomputable def l_St_shareOf_5 : Nat → Int32 → Int32 → Int32 → Int32 → PM → Option Int32
  | 0, _, _, _, _, _ => none
  | n + 1, x1, x2, x3, x4, P => if (40 : Int32) < x4 then (some x3) else (lb (f_Yr_placeOf x1 x4 P) (fun y2 => if (f_Yr_isPlace y2 P) = (0 : Int32) then (j_St_shareOf_44 (fun z0 z1 z2 z3 => l_St_shareOf_5 n z0 z1 z2 z3 P) x1 x2 x4 x3 (0 : Int32) P) else (ck (inb (x2 &&& (1 : Int32)) 2) (ck (inb y2 280) (j_St_shareOf_44 (fun z0 z1 z2 z3 => l_St_shareOf_5 n z0 z1 z2 z3 P) x1 x2 x4 x3 (P.1 (86 + (x2 &&& (1 : Int32)).toNatClampNeg) y2.toNatClampNeg) P)))))
noncomputable def f_St_shareOf (a1 : Int32) (a2 : Int32) (P : PM) : Option Int32 := l_St_shareOf_5 FU a1 a2 (0 : Int32) (1 : Int32) P
theorem t_j_St_shareOf_44 {G : GX} (hG : GOK G) {E : EV} (hE : E0 E) (d : Nat) (hd : 2 ≤ d) {P : PM} {Q : QT} (k5 : Int32 → Int32 → Int32 → Int32 → Option Int32) (hk5 : ∀ (x1 : Int32) (x2 : Int32) (x3 : Int32) (x4 : Int32), St E (rI P) (k5 x1 x2 x3 x4) Q → Go G c_St_shareOf "YawnRoute$Steps" 6 (some .int) false d nOb nOb Q 5 [(0, .ref (ad E 69)), (1, .int x1), (2, .int x2), (3, .int x3), (4, .int x4)] [] P E) (x1 : Int32) (x2 : Int32) (x4 : Int32) (s0 : Int32) (s1 : Int32) (h : St E (rI P) (j_St_shareOf_44 k5 x1 x2 x4 s0 s1 P) Q) : Go G c_St_shareOf "YawnRoute$Steps" 6 (some .int) false d nOb nOb Q 44 [(0, .ref (ad E 69)), (1, .int x1), (2, .int x2), (4, .int x4)] [.int s1, .int s0] P E := by
  rw [j_St_shareOf_44] at h
  refine Go.iadd (by decide +kernel) ?_
  obtain ⟨y1, hy1, h⟩ := St.lb h
  refine Go.eqi y1 hy1 ?_
  refine Go.istore_n (k := 3) (i := 3) [(3, .int y1), (0, .ref (ad E 69)), (1, .int x1), (2, .int x2), (4, .int x4)] (by decide +kernel) rfl (by decide) rfl ?_
  refine Go.iinc (i := 4) (n := 1) 4 (x4 + (1 : Int32)) [(4, .int (x4 + (1 : Int32))), (3, .int y1), (0, .ref (ad E 69)), (1, .int x1), (2, .int x2)] (by decide +kernel) rfl rfl (by decide) rfl ?_
  refine Go.goto (off := -44) 5 (by decide +kernel) (by decide) ?_
  refine Go.sub [2, 3, 4, 1, 0] [(0, .ref (ad E 69)), (1, .int x1), (2, .int x2), (3, .int y1), (4, .int (x4 + (1 : Int32)))] rfl ?_
  exact hk5 x1 x2 y1 (x4 + (1 : Int32)) h
theorem t_l_St_shareOf_5 {G : GX} (hG : GOK G) {E : EV} (hE : E0 E) (d : Nat) (hd : 2 ≤ d) {P : PM} {Q : QT} : ∀ (n : Nat) (x1 : Int32) (x2 : Int32) (x3 : Int32) (x4 : Int32), St E (rI P) (l_St_shareOf_5 n x1 x2 x3 x4 P) Q → Go G c_St_shareOf "YawnRoute$Steps" 6 (some .int) false d nOb nOb Q 5 [(0, .ref (ad E 69)), (1, .int x1), (2, .int x2), (3, .int x3), (4, .int x4)] [] P E := by
  intro n
  induction n with
  | zero =>
    intro x1 x2 x3 x4 h
    rw [l_St_shareOf_5] at h
    exact St.none_ h
  | succ n ih =>
    intro x1 x2 x3 x4 h
    rw [l_St_shareOf_5] at h
    refine Go.iload (i := 4) 4 (by decide +kernel) rfl ?_
    refine Go.bipush (n := 40) (40 : Int32) (by decide +kernel) (by decide) ?_
    refine Go.icmp_gt (off := 43) 52 (by decide +kernel) (by decide) (fun c1 => ?_) (fun c1 => ?_)
    · rw [if_pos c1] at h
      refine Go.iload_n (k := 3) (i := 3) 3 (by decide +kernel) rfl rfl ?_
      exact Go.iret rfl rfl hE.2 (by decide +kernel) (St.fI h)
    · rw [if_neg c1] at h
      refine Go.iload_n (k := 1) (i := 1) 1 (by decide +kernel) rfl rfl ?_
      refine Go.iload (i := 4) 4 (by decide +kernel) rfl ?_
      refine Go.cSN_i (P1 := P) (v := (f_Yr_placeOf x1 x4 P)) (d - 1) [.int x1, .int x4] hE w_Yr_placeOf (e_Yr_placeOf hG hE (d - 1) (by omega) x1 x4 P ⟨rfl, rfl, rfl⟩) nw25 rfl (by omega) (Nat.le_of_ble_eq_true rfl) (by decide +kernel) _ rfl ?_
      obtain ⟨y2, hy2, h⟩ := St.lb h
      refine Go.eqi y2 hy2 ?_
      refine Go.istore (i := 5) [(5, .int y2), (0, .ref (ad E 69)), (1, .int x1), (2, .int x2), (3, .int x3), (4, .int x4)] (by decide +kernel) (by decide) rfl ?_
      refine Go.iload_n (k := 3) (i := 3) 4 (by decide +kernel) rfl rfl ?_
      refine Go.iload (i := 5) 0 (by decide +kernel) rfl ?_
      refine Go.cSN_i (P1 := P) (v := (f_Yr_isPlace y2 P)) (d - 1) [.int y2] hE w_Yr_isPlace (e_Yr_isPlace hG hE (d - 1) (by omega) y2 P ⟨rfl, rfl, rfl⟩) nw22 rfl (by omega) (Nat.le_of_ble_eq_true rfl) (by decide +kernel) _ rfl ?_
      refine Go.if_eq (off := 17) 43 (by decide +kernel) (by decide) (fun c3 => ?_) (fun c3 => ?_)
      · rw [if_pos c3] at h
        refine Go.iconst (n := 0) (0 : Int32) (by decide +kernel) rfl ?_
        refine Go.sub [1, 2, 3, 5] [(0, .ref (ad E 69)), (1, .int x1), (2, .int x2), (4, .int x4)] rfl ?_
        exact t_j_St_shareOf_44 hG hE d hd (fun z0 z1 z2 z3 => l_St_shareOf_5 n z0 z1 z2 z3 P) (fun z0 z1 z2 z3 q => ih z0 z1 z2 z3 q) x1 x2 x4 x3 (0 : Int32) h
      · rw [if_neg c3] at h
        refine Go.aload_n (k := 0) (i := 0) 1 (by decide +kernel) rfl rfl ?_
        refine Go.get 69 5 (.ref (ad E 85)) (by decide) (by decide) sh69 (ltO hE sh69) (vlR hE rfl rfl) lk375 (by decide +kernel) ?_
        refine Go.iload_n (k := 2) (i := 2) 3 (by decide +kernel) rfl rfl ?_
        refine Go.iconst (n := 1) (1 : Int32) (by decide +kernel) rfl ?_
        refine Go.iand (by decide +kernel) ?_
        obtain ⟨b4, h⟩ := St.ck h
        refine Go.aaload 85 6 2 (86 + (x2 &&& (1 : Int32)).toNatClampNeg) sh85 (by decide) (ltA hE sh85 (by decide)) (inb_in b4) (by rw [hE.1]; exact raR85 b4) (by decide +kernel) ?_
        refine Go.iload (i := 5) 0 (by decide +kernel) rfl ?_
        obtain ⟨b5, h⟩ := St.ck h
        refine Go.iaload (86 + (x2 &&& (1 : Int32)).toNatClampNeg) 280 (raS85 b4) (ltA hE (raS85 b4) (by decide)) (inb_in b5) (by decide +kernel) ?_
        refine Go.goto (off := 4) 44 (by decide +kernel) (by decide) ?_
        refine Go.sub [1, 2, 3, 5] [(0, .ref (ad E 69)), (1, .int x1), (2, .int x2), (4, .int x4)] rfl ?_
        exact t_j_St_shareOf_44 hG hE d hd (fun z0 z1 z2 z3 => l_St_shareOf_5 n z0 z1 z2 z3 P) (fun z0 z1 z2 z3 q => ih z0 z1 z2 z3 q) x1 x2 x4 x3 (P.1 (86 + (x2 &&& (1 : Int32)).toNatClampNeg) y2.toNatClampNeg) h
theorem t_f_St_shareOf {G : GX} (hG : GOK G) {E : EV} (hE : E0 E) (d : Nat) (hd : 2 ≤ d) {P : PM} {Q : QT} (a1 : Int32) (a2 : Int32) (h : St E (rI P) (f_St_shareOf a1 a2 P) Q) : Go G c_St_shareOf "YawnRoute$Steps" 6 (some .int) false d nOb nOb Q 0 [(0, .ref (ad E 69)), (1, .int a1), (2, .int a2)] [] P E := by
  rw [f_St_shareOf] at h
  refine Go.iconst (n := 0) (0 : Int32) (by decide +kernel) rfl ?_
  refine Go.istore_n (k := 3) (i := 3) [(3, .int (0 : Int32)), (0, .ref (ad E 69)), (1, .int a1), (2, .int a2)] (by decide +kernel) rfl (by decide) rfl ?_
  refine Go.iconst (n := 1) (1 : Int32) (by decide +kernel) rfl ?_
  refine Go.istore (i := 4) [(4, .int (1 : Int32)), (3, .int (0 : Int32)), (0, .ref (ad E 69)), (1, .int a1), (2, .int a2)] (by decide +kernel) (by decide) rfl ?_
  refine Go.sub [2, 3, 4, 1, 0] [(0, .ref (ad E 69)), (1, .int a1), (2, .int a2), (3, .int (0 : Int32)), (4, .int (1 : Int32))] rfl ?_
  exact t_l_St_shareOf_5 hG hE d hd FU a1 a2 (0 : Int32) (1 : Int32) h
theorem e_St_shareOf {G : GX} (hG : GOK G) {E : EV} (hE : E0 E) (d : Nat) (hd : 2 ≤ d) (a1 : Int32) (a2 : Int32) (P : PM) {Q : QT} (h : St E (rI P) (f_St_shareOf a1 a2 P) Q) : Con G y_St_shareOf cw_St_shareOf d nOb nOb [.ref (ad E 69), .int a1, .int a2] P E Q :=
  Con.of hG (by decide +kernel) rfl (fun h => by cases h) hE.2 (Nat.le_of_ble_eq_true rfl) (t_f_St_shareOf hG hE d hd a1 a2 h)
abbrev c_St_sharesIn : ByteArray := prog_10_method_11_code
abbrev y_St_sharesIn : MethodName := ⟨"YawnRoute$Steps", "sharesIn", "(I)I"⟩
abbrev cw_St_sharesIn : Cond := .code y_St_sharesIn c_St_sharesIn 4 (some .int)
theorem w_St_sharesIn : VW 8 y_St_sharesIn c_St_sharesIn 4 (some .int) 1 := ⟨by decide, lk1258, lk1259, lk13, lk1260, ⟨by decide, by decide, by decide +kernel⟩, by decide⟩
noncomputable def l_St_sharesIn_4 : Nat → Int32 → Int32 → Int32 → PM → Option Int32
  | 0, _, _, _, _ => none
  | n + 1, x1, x2, x3, P => if x1 ≤ x3 then (some x2) else (if (6 : Int32) ≤ x3 then (some x2) else (lb (x2 * (10 : Int32)) (fun y3 => l_St_sharesIn_4 n x1 y3 (x3 + (1 : Int32)) P)))
noncomputable def f_St_sharesIn (a1 : Int32) (P : PM) : Option Int32 := l_St_sharesIn_4 FU a1 (1 : Int32) (0 : Int32) P
theorem t_l_St_sharesIn_4 {G : GX} (hG : GOK G) {E : EV} (hE : E0 E) (d : Nat) (hd : 1 ≤ d) {P : PM} {Q : QT} : ∀ (n : Nat) (x1 : Int32) (x2 : Int32) (x3 : Int32), St E (rI P) (l_St_sharesIn_4 n x1 x2 x3 P) Q → Go G c_St_sharesIn "YawnRoute$Steps" 4 (some .int) false d nOb nOb Q 4 [(1, .int x1), (2, .int x2), (3, .int x3)] [] P E := by
  intro n
  induction n with
  | zero =>
    intro x1 x2 x3 h
    rw [l_St_sharesIn_4] at h
    exact St.none_ h
  | succ n ih =>
    intro x1 x2 x3 h
    rw [l_St_sharesIn_4] at h
    refine Go.iload_n (k := 3) (i := 3) 2 (by decide +kernel) rfl rfl ?_
    refine Go.iload_n (k := 1) (i := 1) 0 (by decide +kernel) rfl rfl ?_
    refine Go.icmp_ge (off := 20) 26 (by decide +kernel) (by decide) (fun c1 => ?_) (fun c1 => ?_)
    · rw [if_pos c1] at h
      refine Go.iload_n (k := 2) (i := 2) 1 (by decide +kernel) rfl rfl ?_
      exact Go.iret rfl rfl hE.2 (by decide +kernel) (St.fI h)
    · rw [if_neg c1] at h
      refine Go.iload_n (k := 3) (i := 3) 2 (by decide +kernel) rfl rfl ?_
      refine Go.bipush (n := 6) (6 : Int32) (by decide +kernel) (by decide) ?_
      refine Go.icmp_ge (off := 14) 26 (by decide +kernel) (by decide) (fun c2 => ?_) (fun c2 => ?_)
      · rw [if_pos c2] at h
        refine Go.iload_n (k := 2) (i := 2) 1 (by decide +kernel) rfl rfl ?_
        exact Go.iret rfl rfl hE.2 (by decide +kernel) (St.fI h)
      · rw [if_neg c2] at h
        refine Go.iload_n (k := 2) (i := 2) 1 (by decide +kernel) rfl rfl ?_
        refine Go.bipush (n := 10) (10 : Int32) (by decide +kernel) (by decide) ?_
        refine Go.imul (by decide +kernel) ?_
        obtain ⟨y3, hy3, h⟩ := St.lb h
        refine Go.eqi y3 hy3 ?_
        refine Go.istore_n (k := 2) (i := 2) [(2, .int y3), (1, .int x1), (3, .int x3)] (by decide +kernel) rfl (by decide) rfl ?_
        refine Go.iinc (i := 3) (n := 1) 2 (x3 + (1 : Int32)) [(3, .int (x3 + (1 : Int32))), (2, .int y3), (1, .int x1)] (by decide +kernel) rfl rfl (by decide) rfl ?_
        refine Go.goto (off := -19) 4 (by decide +kernel) (by decide) ?_
        refine Go.sub [2, 1, 0] [(1, .int x1), (2, .int y3), (3, .int (x3 + (1 : Int32)))] rfl ?_
        exact ih x1 y3 (x3 + (1 : Int32)) h
theorem t_f_St_sharesIn {G : GX} (hG : GOK G) {E : EV} (hE : E0 E) (d : Nat) (hd : 1 ≤ d) {P : PM} {Q : QT} (a1 : Int32) (h : St E (rI P) (f_St_sharesIn a1 P) Q) : Go G c_St_sharesIn "YawnRoute$Steps" 4 (some .int) false d nOb nOb Q 0 [(0, .ref (ad E 69)), (1, .int a1)] [] P E := by
  rw [f_St_sharesIn] at h
  refine Go.iconst (n := 1) (1 : Int32) (by decide +kernel) rfl ?_
  refine Go.istore_n (k := 2) (i := 2) [(2, .int (1 : Int32)), (0, .ref (ad E 69)), (1, .int a1)] (by decide +kernel) rfl (by decide) rfl ?_
  refine Go.iconst (n := 0) (0 : Int32) (by decide +kernel) rfl ?_
  refine Go.istore_n (k := 3) (i := 3) [(3, .int (0 : Int32)), (2, .int (1 : Int32)), (0, .ref (ad E 69)), (1, .int a1)] (by decide +kernel) rfl (by decide) rfl ?_
  refine Go.sub [3, 1, 0] [(1, .int a1), (2, .int (1 : Int32)), (3, .int (0 : Int32))] rfl ?_
  exact t_l_St_sharesIn_4 hG hE d hd FU a1 (1 : Int32) (0 : Int32) h
theorem e_St_sharesIn {G : GX} (hG : GOK G) {E : EV} (hE : E0 E) (d : Nat) (hd : 1 ≤ d) (a1 : Int32) (P : PM) {Q : QT} (h : St E (rI P) (f_St_sharesIn a1 P) Q) : Con G y_St_sharesIn cw_St_sharesIn d nOb nOb [.ref (ad E 69), .int a1] P E Q :=
  Con.of hG (by decide +kernel) rfl (fun h => by cases h) hE.2 (Nat.le_of_ble_eq_true rfl) (t_f_St_sharesIn hG hE d hd a1 h)
abbrev c_Yr_commonDivisor : ByteArray := prog_1_method_57_code
abbrev y_Yr_commonDivisor : MethodName := ⟨"YawnRoute", "commonDivisor", "(II)I"⟩
abbrev cw_Yr_commonDivisor : Cond := .code y_Yr_commonDivisor c_Yr_commonDivisor 6 (some .int)
theorem w_Yr_commonDivisor : SW y_Yr_commonDivisor c_Yr_commonDivisor 6 (some .int) 2 := ⟨lk1262, lk1, lk1263, ⟨by decide, by decide, by decide +kernel⟩, by decide⟩
noncomputable def j_Yr_commonDivisor_34 (x2 : Int32) (P : PM) : Option Int32 := some (mx (1 : Int32) x2)
noncomputable def l_Yr_commonDivisor_7 : Nat → Int32 → Int32 → Int32 → PM → Option Int32
  | 0, _, _, _, _ => none
  | n + 1, x2, x3, x4, P => if (64 : Int32) ≤ x4 then (j_Yr_commonDivisor_34 x2 P) else (if x3 = (0 : Int32) then (j_Yr_commonDivisor_34 x2 P) else (ck (decide (¬ x3 = 0)) (lb (x2 - x2 / x3 * x3) (fun y4 => l_Yr_commonDivisor_7 n x3 y4 (x4 + (1 : Int32)) P))))
noncomputable def f_Yr_commonDivisor (a0 : Int32) (a1 : Int32) (P : PM) : Option Int32 := l_Yr_commonDivisor_7 FU a0 a1 (0 : Int32) P
theorem t_j_Yr_commonDivisor_34 {G : GX} (hG : GOK G) {E : EV} (hE : E0 E) (d : Nat) (hd : 1 ≤ d) {P : PM} {Q : QT} (x2 : Int32) (h : St E (rI P) (j_Yr_commonDivisor_34 x2 P) Q) : Go G c_Yr_commonDivisor "YawnRoute" 6 (some .int) false d nOb nOb Q 34 [(2, .int x2)] [] P E := by
  rw [j_Yr_commonDivisor_34] at h
  refine Go.iconst (n := 1) (1 : Int32) (by decide +kernel) rfl ?_
  refine Go.iload_n (k := 2) (i := 2) 0 (by decide +kernel) rfl rfl ?_
  refine Go.mmax lk1264 (Nat.le_of_eq hE.2) (by omega) (Nat.le_of_ble_eq_true rfl) (by decide +kernel) ?_
  exact Go.iret rfl rfl hE.2 (by decide +kernel) (St.fI h)
theorem t_l_Yr_commonDivisor_7 {G : GX} (hG : GOK G) {E : EV} (hE : E0 E) (d : Nat) (hd : 1 ≤ d) {P : PM} {Q : QT} : ∀ (n : Nat) (x2 : Int32) (x3 : Int32) (x4 : Int32), St E (rI P) (l_Yr_commonDivisor_7 n x2 x3 x4 P) Q → Go G c_Yr_commonDivisor "YawnRoute" 6 (some .int) false d nOb nOb Q 7 [(2, .int x2), (3, .int x3), (4, .int x4)] [] P E := by
  intro n
  induction n with
  | zero =>
    intro x2 x3 x4 h
    rw [l_Yr_commonDivisor_7] at h
    exact St.none_ h
  | succ n ih =>
    intro x2 x3 x4 h
    rw [l_Yr_commonDivisor_7] at h
    refine Go.iload (i := 4) 2 (by decide +kernel) rfl ?_
    refine Go.bipush (n := 64) (64 : Int32) (by decide +kernel) (by decide) ?_
    refine Go.icmp_ge (off := 23) 34 (by decide +kernel) (by decide) (fun c1 => ?_) (fun c1 => ?_)
    · rw [if_pos c1] at h
      refine Go.sub [0] [(2, .int x2)] rfl ?_
      exact t_j_Yr_commonDivisor_34 hG hE d hd x2 h
    · rw [if_neg c1] at h
      refine Go.iload_n (k := 3) (i := 3) 1 (by decide +kernel) rfl rfl ?_
      refine Go.if_eq (off := 19) 34 (by decide +kernel) (by decide) (fun c2 => ?_) (fun c2 => ?_)
      · rw [if_pos c2] at h
        refine Go.sub [0] [(2, .int x2)] rfl ?_
        exact t_j_Yr_commonDivisor_34 hG hE d hd x2 h
      · rw [if_neg c2] at h
        refine Go.iload_n (k := 2) (i := 2) 0 (by decide +kernel) rfl rfl ?_
        refine Go.iload_n (k := 3) (i := 3) 1 (by decide +kernel) rfl rfl ?_
        obtain ⟨b3, h⟩ := St.ck h
        refine Go.irem (by decide +kernel) (of_decide_eq_true b3) ?_
        obtain ⟨y4, hy4, h⟩ := St.lb h
        refine Go.eqi y4 hy4 ?_
        refine Go.istore (i := 5) [(5, .int y4), (2, .int x2), (3, .int x3), (4, .int x4)] (by decide +kernel) (by decide) rfl ?_
        refine Go.iload_n (k := 3) (i := 3) 2 (by decide +kernel) rfl rfl ?_
        refine Go.istore_n (k := 2) (i := 2) [(2, .int x3), (5, .int y4), (3, .int x3), (4, .int x4)] (by decide +kernel) rfl (by decide) rfl ?_
        refine Go.iload (i := 5) 1 (by decide +kernel) rfl ?_
        refine Go.istore_n (k := 3) (i := 3) [(3, .int y4), (2, .int x3), (5, .int y4), (4, .int x4)] (by decide +kernel) rfl (by decide) rfl ?_
        refine Go.iinc (i := 4) (n := 1) 3 (x4 + (1 : Int32)) [(4, .int (x4 + (1 : Int32))), (3, .int y4), (2, .int x3), (5, .int y4)] (by decide +kernel) rfl rfl (by decide) rfl ?_
        refine Go.goto (off := -24) 7 (by decide +kernel) (by decide) ?_
        refine Go.sub [2, 1, 0] [(2, .int x3), (3, .int y4), (4, .int (x4 + (1 : Int32)))] rfl ?_
        exact ih x3 y4 (x4 + (1 : Int32)) h
theorem t_f_Yr_commonDivisor {G : GX} (hG : GOK G) {E : EV} (hE : E0 E) (d : Nat) (hd : 1 ≤ d) {P : PM} {Q : QT} (a0 : Int32) (a1 : Int32) (h : St E (rI P) (f_Yr_commonDivisor a0 a1 P) Q) : Go G c_Yr_commonDivisor "YawnRoute" 6 (some .int) false d nOb nOb Q 0 [(0, .int a0), (1, .int a1)] [] P E := by
  rw [f_Yr_commonDivisor] at h
  refine Go.iload_n (k := 0) (i := 0) 0 (by decide +kernel) rfl rfl ?_
  refine Go.istore_n (k := 2) (i := 2) [(2, .int a0), (0, .int a0), (1, .int a1)] (by decide +kernel) rfl (by decide) rfl ?_
  refine Go.iload_n (k := 1) (i := 1) 2 (by decide +kernel) rfl rfl ?_
  refine Go.istore_n (k := 3) (i := 3) [(3, .int a1), (2, .int a0), (0, .int a0), (1, .int a1)] (by decide +kernel) rfl (by decide) rfl ?_
  refine Go.iconst (n := 0) (0 : Int32) (by decide +kernel) rfl ?_
  refine Go.istore (i := 4) [(4, .int (0 : Int32)), (3, .int a1), (2, .int a0), (0, .int a0), (1, .int a1)] (by decide +kernel) (by decide) rfl ?_
  refine Go.sub [2, 1, 0] [(2, .int a0), (3, .int a1), (4, .int (0 : Int32))] rfl ?_
  exact t_l_Yr_commonDivisor_7 hG hE d hd FU a0 a1 (0 : Int32) h
theorem e_Yr_commonDivisor {G : GX} (hG : GOK G) {E : EV} (hE : E0 E) (d : Nat) (hd : 1 ≤ d) (a0 : Int32) (a1 : Int32) (P : PM) {Q : QT} (h : St E (rI P) (f_Yr_commonDivisor a0 a1 P) Q) : Con G y_Yr_commonDivisor cw_Yr_commonDivisor d nOb nOb [.int a0, .int a1] P E Q :=
  Con.of hG (by decide +kernel) rfl (fun h => by cases h) hE.2 (Nat.le_of_ble_eq_true rfl) (t_f_Yr_commonDivisor hG hE d hd a0 a1 h)
abbrev c_Yr_isDraws : ByteArray := prog_1_method_51_code
abbrev y_Yr_isDraws : MethodName := ⟨"YawnRoute", "isDraws", "(I)Z"⟩
abbrev cw_Yr_isDraws : Cond := .code y_Yr_isDraws c_Yr_isDraws 1 (some .boolean)
theorem w_Yr_isDraws : SW y_Yr_isDraws c_Yr_isDraws 1 (some .boolean) 1 := ⟨lk1238, lk1, lk1239, ⟨by decide, by decide, by decide +kernel⟩, by decide⟩
noncomputable def j_Yr_isDraws_14 (P : PM) : Int32 := (0 : Int32)
noncomputable def f_Yr_isDraws (a0 : Int32) (P : PM) : Int32 := if a0 < (0 : Int32) then (j_Yr_isDraws_14 P) else (if (6 : Int32) < a0 then (j_Yr_isDraws_14 P) else ((1 : Int32)))
theorem t_j_Yr_isDraws_14 {G : GX} (hG : GOK G) {E : EV} (hE : E0 E) (d : Nat) (hd : 1 ≤ d) {P : PM} {Q : QT} (h : Q (some (.int (j_Yr_isDraws_14 P))) P E) : Go G c_Yr_isDraws "YawnRoute" 1 (some .boolean) false d nOb nOb Q 14 [] [] P E := by
  rw [j_Yr_isDraws_14] at h
  refine Go.iconst (n := 0) (0 : Int32) (by decide +kernel) rfl ?_
  exact Go.iret rfl rfl hE.2 (by decide +kernel) h
theorem t_f_Yr_isDraws {G : GX} (hG : GOK G) {E : EV} (hE : E0 E) (d : Nat) (hd : 1 ≤ d) {P : PM} {Q : QT} (a0 : Int32) (h : Q (some (.int (f_Yr_isDraws a0 P))) P E) : Go G c_Yr_isDraws "YawnRoute" 1 (some .boolean) false d nOb nOb Q 0 [(0, .int a0)] [] P E := by
  rw [f_Yr_isDraws] at h
  refine Go.iload_n (k := 0) (i := 0) 0 (by decide +kernel) rfl rfl ?_
  refine Go.if_lt (off := 13) 14 (by decide +kernel) (by decide) (fun c1 => ?_) (fun c1 => ?_)
  · rw [if_pos c1] at h
    refine Go.sub [] [] rfl ?_
    exact t_j_Yr_isDraws_14 hG hE d hd h
  · rw [if_neg c1] at h
    refine Go.iload_n (k := 0) (i := 0) 0 (by decide +kernel) rfl rfl ?_
    refine Go.bipush (n := 6) (6 : Int32) (by decide +kernel) (by decide) ?_
    refine Go.icmp_gt (off := 7) 14 (by decide +kernel) (by decide) (fun c2 => ?_) (fun c2 => ?_)
    · rw [if_pos c2] at h
      refine Go.sub [] [] rfl ?_
      exact t_j_Yr_isDraws_14 hG hE d hd h
    · rw [if_neg c2] at h
      refine Go.iconst (n := 1) (1 : Int32) (by decide +kernel) rfl ?_
      refine Go.goto (off := 4) 15 (by decide +kernel) (by decide) ?_
      exact Go.iret rfl rfl hE.2 (by decide +kernel) h
theorem e_Yr_isDraws {G : GX} (hG : GOK G) {E : EV} (hE : E0 E) (d : Nat) (hd : 1 ≤ d) (a0 : Int32) (P : PM) {Q : QT} (h : Q (some (.int (f_Yr_isDraws a0 P))) P E) : Con G y_Yr_isDraws cw_Yr_isDraws d nOb nOb [.int a0] P E Q :=
  Con.of hG (by decide +kernel) rfl (fun h => by cases h) hE.2 (Nat.le_of_ble_eq_true rfl) (t_f_Yr_isDraws hG hE d hd a0 h)
