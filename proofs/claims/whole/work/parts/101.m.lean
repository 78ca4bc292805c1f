/-! methods as functions, by program: Ta_readWord Ta_next Ta_takeNumber Nr_readTold Ta_skip Nr_readAt Lr_opens Ne_addCode -/
abbrev c_Ta_readWord : ByteArray := prog_11_method_9_code
abbrev y_Ta_readWord : MethodName := ⟨"YawnRoute$Tape", "readWord", "()V"⟩
abbrev cw_Ta_readWord : Cond := .code y_Ta_readWord c_Ta_readWord 5 none
theorem w_Ta_readWord : VW 9 y_Ta_readWord c_Ta_readWord 5 none 0 := ⟨by decide, lk493, lp2_, lk2, lk494, ⟨by decide, by decide, by decide +kernel⟩, by decide⟩
noncomputable def j_Ta_readWord_135 (k55 : Int32 → Int32 → Int32 → PM → Option PM) (x1 : Int32) (x2 : Int32) (x3 : Int32) (P : PM) : Option PM := k55 x1 x2 (x3 + (1 : Int32)) P
noncomputable def j_Ta_readWord_98 (k55 : Int32 → Int32 → Int32 → PM → Option PM) (x1 : Int32) (x3 : Int32) (s0 : Int32) (P : PM) : Option PM := j_Ta_readWord_135 k55 (x1 + (1 : Int32)) s0 x3 P
noncomputable def j_Ta_readWord_97 (k55 : Int32 → Int32 → Int32 → PM → Option PM) (x1 : Int32) (x3 : Int32) (P : PM) : Option PM := j_Ta_readWord_98 k55 x1 x3 (0 : Int32) P
noncomputable def j_Ta_readWord_118 (k55 : Int32 → Int32 → Int32 → PM → Option PM) (x3 : Int32) (P : PM) : Option PM := lb ((u1 P 1 5 ((P.1 1 5) + (1 : Int32))).1 1 4) (fun y1 => j_Ta_readWord_135 k55 y1 (1 : Int32) x3 (u1 P 1 5 ((P.1 1 5) + (1 : Int32))))
noncomputable def l_Ta_readWord_55 : Nat → Int32 → Int32 → Int32 → PM → Option PM
  | 0, _, _, _, _ => none
  | n + 1, x1, x2, x3, P => if (98 : Int32) ≤ x3 then (some (u1 P 1 5 (220 : Int32))) else (ck (inb x3 98) (lb (sch 0 x3) (fun y3 => if y3 = (32 : Int32) then (if x2 = (0 : Int32) then (j_Ta_readWord_118 (fun z0 z1 z2 Pz => l_Ta_readWord_55 n z0 z1 z2 Pz) x3 P) else (if x1 = (P.1 1 3) then (some P) else (j_Ta_readWord_118 (fun z0 z1 z2 Pz => l_Ta_readWord_55 n z0 z1 z2 Pz) x3 P))) else (if x2 = (0 : Int32) then (j_Ta_readWord_97 (fun z0 z1 z2 Pz => l_Ta_readWord_55 n z0 z1 z2 Pz) x1 x3 P) else ((f_Ta_byteAt x1 P).bind (fun v8 => if y3 = v8 then (j_Ta_readWord_98 (fun z0 z1 z2 Pz => l_Ta_readWord_55 n z0 z1 z2 Pz) x1 x3 (1 : Int32) P) else (j_Ta_readWord_97 (fun z0 z1 z2 Pz => l_Ta_readWord_55 n z0 z1 z2 Pz) x1 x3 P)))))))
noncomputable def j_Ta_readWord_39 (P : PM) : Option PM := lb ((u1 P 1 5 (200 : Int32)).1 1 4) (fun y1 => l_Ta_readWord_55 FU y1 (1 : Int32) (0 : Int32) (u1 P 1 5 (200 : Int32)))
noncomputable def l_Ta_readWord_2 : Nat → Int32 → PM → Option PM
  | 0, _, _ => none
  | n + 1, x1, P => if (900 : Int32) ≤ x1 then (j_Ta_readWord_39 P) else ((f_Ta_byteAt (P.1 1 3) P).bind (fun v2 => if (f_Ta_isLetter v2 P) = (0 : Int32) then (j_Ta_readWord_39 P) else (l_Ta_readWord_2 n (x1 + (1 : Int32)) (u1 P 1 3 ((P.1 1 3) + (1 : Int32))))))
noncomputable def f_Ta_readWord (P : PM) : Option PM := l_Ta_readWord_2 FU (0 : Int32) P
theorem t_j_Ta_readWord_135 {G : GX} (hG : GOK G) {E : EV} (hE : E0 E) (d : Nat) (hd : 5 ≤ d) {Q : QT} (k55 : Int32 → Int32 → Int32 → PM → Option PM) (hk55 : ∀ (x1 : Int32) (x2 : Int32) (x3 : Int32) (P : PM), St E rP (k55 x1 x2 x3 P) Q → Go G c_Ta_readWord "YawnRoute$Tape" 5 none false d nOb nOb Q 55 [(0, .ref (ad E 1)), (1, .int x1), (2, .int x2), (3, .int x3)] [] P E) (x1 : Int32) (x2 : Int32) (x3 : Int32) (P : PM) (h : St E rP (j_Ta_readWord_135 k55 x1 x2 x3 P) Q) : Go G c_Ta_readWord "YawnRoute$Tape" 5 none false d nOb nOb Q 135 [(0, .ref (ad E 1)), (1, .int x1), (2, .int x2), (3, .int x3)] [] P E := by
  rw [j_Ta_readWord_135] at h
  refine Go.iinc (i := 3) (n := 1) 3 (x3 + (1 : Int32)) [(3, .int (x3 + (1 : Int32))), (0, .ref (ad E 1)), (1, .int x1), (2, .int x2)] (by decide +kernel) rfl rfl (by decide) rfl ?_
  refine Go.goto (off := -83) 55 (by decide +kernel) (by decide) ?_
  refine Go.sub [1, 2, 3, 0] [(0, .ref (ad E 1)), (1, .int x1), (2, .int x2), (3, .int (x3 + (1 : Int32)))] rfl ?_
  exact hk55 x1 x2 (x3 + (1 : Int32)) P h
theorem t_j_Ta_readWord_98 {G : GX} (hG : GOK G) {E : EV} (hE : E0 E) (d : Nat) (hd : 5 ≤ d) {Q : QT} (k55 : Int32 → Int32 → Int32 → PM → Option PM) (hk55 : ∀ (x1 : Int32) (x2 : Int32) (x3 : Int32) (P : PM), St E rP (k55 x1 x2 x3 P) Q → Go G c_Ta_readWord "YawnRoute$Tape" 5 none false d nOb nOb Q 55 [(0, .ref (ad E 1)), (1, .int x1), (2, .int x2), (3, .int x3)] [] P E) (x1 : Int32) (x3 : Int32) (s0 : Int32) (P : PM) (h : St E rP (j_Ta_readWord_98 k55 x1 x3 s0 P) Q) : Go G c_Ta_readWord "YawnRoute$Tape" 5 none false d nOb nOb Q 98 [(0, .ref (ad E 1)), (1, .int x1), (3, .int x3)] [.int s0] P E := by
  rw [j_Ta_readWord_98] at h
  refine Go.istore_n (k := 2) (i := 2) [(2, .int s0), (0, .ref (ad E 1)), (1, .int x1), (3, .int x3)] (by decide +kernel) rfl (by decide) rfl ?_
  refine Go.iinc (i := 1) (n := 1) 2 (x1 + (1 : Int32)) [(1, .int (x1 + (1 : Int32))), (2, .int s0), (0, .ref (ad E 1)), (3, .int x3)] (by decide +kernel) rfl rfl (by decide) rfl ?_
  refine Go.goto (off := 33) 135 (by decide +kernel) (by decide) ?_
  refine Go.sub [2, 0, 1, 3] [(0, .ref (ad E 1)), (1, .int (x1 + (1 : Int32))), (2, .int s0), (3, .int x3)] rfl ?_
  exact t_j_Ta_readWord_135 hG hE d hd k55 hk55 (x1 + (1 : Int32)) s0 x3 P h
theorem t_j_Ta_readWord_97 {G : GX} (hG : GOK G) {E : EV} (hE : E0 E) (d : Nat) (hd : 5 ≤ d) {Q : QT} (k55 : Int32 → Int32 → Int32 → PM → Option PM) (hk55 : ∀ (x1 : Int32) (x2 : Int32) (x3 : Int32) (P : PM), St E rP (k55 x1 x2 x3 P) Q → Go G c_Ta_readWord "YawnRoute$Tape" 5 none false d nOb nOb Q 55 [(0, .ref (ad E 1)), (1, .int x1), (2, .int x2), (3, .int x3)] [] P E) (x1 : Int32) (x3 : Int32) (P : PM) (h : St E rP (j_Ta_readWord_97 k55 x1 x3 P) Q) : Go G c_Ta_readWord "YawnRoute$Tape" 5 none false d nOb nOb Q 97 [(0, .ref (ad E 1)), (1, .int x1), (3, .int x3)] [] P E := by
  rw [j_Ta_readWord_97] at h
  refine Go.iconst (n := 0) (0 : Int32) (by decide +kernel) rfl ?_
  exact t_j_Ta_readWord_98 hG hE d hd k55 hk55 x1 x3 (0 : Int32) P h
theorem t_j_Ta_readWord_118 {G : GX} (hG : GOK G) {E : EV} (hE : E0 E) (d : Nat) (hd : 5 ≤ d) {Q : QT} (k55 : Int32 → Int32 → Int32 → PM → Option PM) (hk55 : ∀ (x1 : Int32) (x2 : Int32) (x3 : Int32) (P : PM), St E rP (k55 x1 x2 x3 P) Q → Go G c_Ta_readWord "YawnRoute$Tape" 5 none false d nOb nOb Q 55 [(0, .ref (ad E 1)), (1, .int x1), (2, .int x2), (3, .int x3)] [] P E) (x3 : Int32) (P : PM) (h : St E rP (j_Ta_readWord_118 k55 x3 P) Q) : Go G c_Ta_readWord "YawnRoute$Tape" 5 none false d nOb nOb Q 118 [(0, .ref (ad E 1)), (3, .int x3)] [] P E := by
  rw [j_Ta_readWord_118] at h
  refine Go.aload_n (k := 0) (i := 0) 0 (by decide +kernel) rfl rfl ?_
  refine Go.dup (by decide +kernel) rfl ?_
  refine Go.get 1 5 (.int (P.1 1 5)) (by decide) (by decide) sh1 (ltO hE sh1) rfl lk45 (by decide +kernel) ?_
  refine Go.iconst (n := 1) (1 : Int32) (by decide +kernel) rfl ?_
  refine Go.iadd (by decide +kernel) ?_
  refine Go.put 1 5 (by decide) (by decide) sh1 (ltO hE sh1) (Or.inl rfl) rfl rfl rfl lk45 (by decide +kernel) ?_
  refine Go.aload_n (k := 0) (i := 0) 0 (by decide +kernel) rfl rfl ?_
  refine Go.get 1 4 (.int ((u1 P 1 5 ((P.1 1 5) + (1 : Int32))).1 1 4)) (by decide) (by decide) sh1 (ltO hE sh1) rfl lk42 (by decide +kernel) ?_
  obtain ⟨y1, hy1, h⟩ := St.lb h
  refine Go.eqi y1 hy1 ?_
  refine Go.istore_n (k := 1) (i := 1) [(1, .int y1), (0, .ref (ad E 1)), (3, .int x3)] (by decide +kernel) rfl (by decide) rfl ?_
  refine Go.iconst (n := 1) (1 : Int32) (by decide +kernel) rfl ?_
  refine Go.istore_n (k := 2) (i := 2) [(2, .int (1 : Int32)), (1, .int y1), (0, .ref (ad E 1)), (3, .int x3)] (by decide +kernel) rfl (by decide) rfl ?_
  refine Go.sub [2, 1, 0, 3] [(0, .ref (ad E 1)), (1, .int y1), (2, .int (1 : Int32)), (3, .int x3)] rfl ?_
  exact t_j_Ta_readWord_135 hG hE d hd k55 hk55 y1 (1 : Int32) x3 (u1 P 1 5 ((P.1 1 5) + (1 : Int32))) h
theorem t_l_Ta_readWord_55 {G : GX} (hG : GOK G) {E : EV} (hE : E0 E) (d : Nat) (hd : 5 ≤ d) {Q : QT} : ∀ (n : Nat) (x1 : Int32) (x2 : Int32) (x3 : Int32) (P : PM), St E rP (l_Ta_readWord_55 n x1 x2 x3 P) Q → Go G c_Ta_readWord "YawnRoute$Tape" 5 none false d nOb nOb Q 55 [(0, .ref (ad E 1)), (1, .int x1), (2, .int x2), (3, .int x3)] [] P E := by
  intro n
  induction n with
  | zero =>
    intro x1 x2 x3 P h
    rw [l_Ta_readWord_55] at h
    exact St.none_ h
  | succ n ih =>
    intro x1 x2 x3 P h
    rw [l_Ta_readWord_55] at h
    refine Go.iload_n (k := 3) (i := 3) 3 (by decide +kernel) rfl rfl ?_
    refine Go.ldcS (idx := 80) 0 (by decide) rfl (by decide +kernel) ?_
    refine Go.strLen (i := 0) (98 : Int32) (by decide) rfl lk496 hE (by omega) (Nat.le_of_ble_eq_true rfl) (by decide +kernel) ?_
    refine Go.icmp_ge (off := 80) 141 (by decide +kernel) (by decide) (fun c1 => ?_) (fun c1 => ?_)
    · rw [if_pos c1] at h
      refine Go.aload_n (k := 0) (i := 0) 0 (by decide +kernel) rfl rfl ?_
      refine Go.sipush (n := 220) (220 : Int32) (by decide +kernel) (by decide) ?_
      refine Go.put 1 5 (by decide) (by decide) sh1 (ltO hE sh1) (Or.inl rfl) rfl rfl rfl lk45 (by decide +kernel) ?_
      exact Go.vret rfl hE.2 (by decide +kernel) (St.fP h)
    · rw [if_neg c1] at h
      refine Go.ldcS (idx := 80) 0 (by decide) rfl (by decide +kernel) ?_
      refine Go.iload_n (k := 3) (i := 3) 3 (by decide +kernel) rfl rfl ?_
      obtain ⟨b2, h⟩ := St.ck h
      refine Go.strChar (i := 0) (by decide) b2 lk506 hE (by omega) (Nat.le_of_ble_eq_true rfl) (by decide +kernel) ?_
      obtain ⟨y3, hy3, h⟩ := St.lb h
      refine Go.eqi y3 hy3 ?_
      refine Go.istore (i := 4) [(4, .int y3), (0, .ref (ad E 1)), (1, .int x1), (2, .int x2), (3, .int x3)] (by decide +kernel) (by decide) rfl ?_
      refine Go.iload (i := 4) 0 (by decide +kernel) rfl ?_
      refine Go.bipush (n := 32) (32 : Int32) (by decide +kernel) (by decide) ?_
      refine Go.icmp_eq (off := 29) 105 (by decide +kernel) (by decide) (fun c4 => ?_) (fun c4 => ?_)
      · rw [if_pos c4] at h
        refine Go.iload_n (k := 2) (i := 2) 3 (by decide +kernel) rfl rfl ?_
        refine Go.if_eq (off := 12) 118 (by decide +kernel) (by decide) (fun c5 => ?_) (fun c5 => ?_)
        · rw [if_pos c5] at h
          refine Go.sub [1, 4] [(0, .ref (ad E 1)), (3, .int x3)] rfl ?_
          exact t_j_Ta_readWord_118 hG hE d hd (fun z0 z1 z2 Pz => l_Ta_readWord_55 n z0 z1 z2 Pz) (fun z0 z1 z2 Pz q => ih z0 z1 z2 Pz q) x3 P h
        · rw [if_neg c5] at h
          refine Go.iload_n (k := 1) (i := 1) 2 (by decide +kernel) rfl rfl ?_
          refine Go.aload_n (k := 0) (i := 0) 1 (by decide +kernel) rfl rfl ?_
          refine Go.get 1 3 (.int (P.1 1 3)) (by decide) (by decide) sh1 (ltO hE sh1) rfl lk41 (by decide +kernel) ?_
          refine Go.icmp_ne (off := 4) 118 (by decide +kernel) (by decide) (fun c6 => ?_) (fun c6 => ?_)
          · rw [if_neg c6] at h
            refine Go.sub [1, 4] [(0, .ref (ad E 1)), (3, .int x3)] rfl ?_
            exact t_j_Ta_readWord_118 hG hE d hd (fun z0 z1 z2 Pz => l_Ta_readWord_55 n z0 z1 z2 Pz) (fun z0 z1 z2 Pz q => ih z0 z1 z2 Pz q) x3 P h
          · rw [if_pos c6] at h
            exact Go.vret rfl hE.2 (by decide +kernel) (St.fP h)
      · rw [if_neg c4] at h
        refine Go.iload_n (k := 2) (i := 2) 3 (by decide +kernel) rfl rfl ?_
        refine Go.if_eq (off := 17) 97 (by decide +kernel) (by decide) (fun c7 => ?_) (fun c7 => ?_)
        · rw [if_pos c7] at h
          refine Go.sub [1, 2, 4] [(0, .ref (ad E 1)), (1, .int x1), (3, .int x3)] rfl ?_
          exact t_j_Ta_readWord_97 hG hE d hd (fun z0 z1 z2 Pz => l_Ta_readWord_55 n z0 z1 z2 Pz) (fun z0 z1 z2 Pz q => ih z0 z1 z2 Pz q) x1 x3 P h
        · rw [if_neg c7] at h
          refine Go.iload (i := 4) 0 (by decide +kernel) rfl ?_
          refine Go.aload_n (k := 0) (i := 0) 1 (by decide +kernel) rfl rfl ?_
          refine Go.iload_n (k := 1) (i := 1) 2 (by decide +kernel) rfl rfl ?_
          obtain ⟨v8, hv8, h⟩ := St.bind h
          refine Go.cV_i (P1 := P) (v := v8) (d - 1) 1 [.int x1] sh1 hE w_Ta_byteAt (e_Ta_byteAt hG hE (d - 1) (by omega) x1 P ⟨_, hv8, rfl, rfl, rfl⟩) lk470 rfl (by omega) (Nat.le_of_ble_eq_true rfl) (by decide +kernel) _ rfl ?_
          refine Go.icmp_ne (off := 7) 97 (by decide +kernel) (by decide) (fun c9 => ?_) (fun c9 => ?_)
          · rw [if_neg c9] at h
            refine Go.sub [1, 2, 4] [(0, .ref (ad E 1)), (1, .int x1), (3, .int x3)] rfl ?_
            exact t_j_Ta_readWord_97 hG hE d hd (fun z0 z1 z2 Pz => l_Ta_readWord_55 n z0 z1 z2 Pz) (fun z0 z1 z2 Pz q => ih z0 z1 z2 Pz q) x1 x3 P h
          · rw [if_pos c9] at h
            refine Go.iconst (n := 1) (1 : Int32) (by decide +kernel) rfl ?_
            refine Go.goto (off := 4) 98 (by decide +kernel) (by decide) ?_
            refine Go.sub [1, 2, 4] [(0, .ref (ad E 1)), (1, .int x1), (3, .int x3)] rfl ?_
            exact t_j_Ta_readWord_98 hG hE d hd (fun z0 z1 z2 Pz => l_Ta_readWord_55 n z0 z1 z2 Pz) (fun z0 z1 z2 Pz q => ih z0 z1 z2 Pz q) x1 x3 (1 : Int32) P h
theorem t_j_Ta_readWord_39 {G : GX} (hG : GOK G) {E : EV} (hE : E0 E) (d : Nat) (hd : 5 ≤ d) {Q : QT} (P : PM) (h : St E rP (j_Ta_readWord_39 P) Q) : Go G c_Ta_readWord "YawnRoute$Tape" 5 none false d nOb nOb Q 39 [(0, .ref (ad E 1))] [] P E := by
  rw [j_Ta_readWord_39] at h
  refine Go.aload_n (k := 0) (i := 0) 0 (by decide +kernel) rfl rfl ?_
  refine Go.sipush (n := 200) (200 : Int32) (by decide +kernel) (by decide) ?_
  refine Go.put 1 5 (by decide) (by decide) sh1 (ltO hE sh1) (Or.inl rfl) rfl rfl rfl lk45 (by decide +kernel) ?_
  refine Go.aload_n (k := 0) (i := 0) 0 (by decide +kernel) rfl rfl ?_
  refine Go.get 1 4 (.int ((u1 P 1 5 (200 : Int32)).1 1 4)) (by decide) (by decide) sh1 (ltO hE sh1) rfl lk42 (by decide +kernel) ?_
  obtain ⟨y1, hy1, h⟩ := St.lb h
  refine Go.eqi y1 hy1 ?_
  refine Go.istore_n (k := 1) (i := 1) [(1, .int y1), (0, .ref (ad E 1))] (by decide +kernel) rfl (by decide) rfl ?_
  refine Go.iconst (n := 1) (1 : Int32) (by decide +kernel) rfl ?_
  refine Go.istore_n (k := 2) (i := 2) [(2, .int (1 : Int32)), (1, .int y1), (0, .ref (ad E 1))] (by decide +kernel) rfl (by decide) rfl ?_
  refine Go.iconst (n := 0) (0 : Int32) (by decide +kernel) rfl ?_
  refine Go.istore_n (k := 3) (i := 3) [(3, .int (0 : Int32)), (2, .int (1 : Int32)), (1, .int y1), (0, .ref (ad E 1))] (by decide +kernel) rfl (by decide) rfl ?_
  refine Go.sub [3, 2, 1, 0] [(0, .ref (ad E 1)), (1, .int y1), (2, .int (1 : Int32)), (3, .int (0 : Int32))] rfl ?_
  exact t_l_Ta_readWord_55 hG hE d hd FU y1 (1 : Int32) (0 : Int32) (u1 P 1 5 (200 : Int32)) h
theorem t_l_Ta_readWord_2 {G : GX} (hG : GOK G) {E : EV} (hE : E0 E) (d : Nat) (hd : 5 ≤ d) {Q : QT} : ∀ (n : Nat) (x1 : Int32) (P : PM), St E rP (l_Ta_readWord_2 n x1 P) Q → Go G c_Ta_readWord "YawnRoute$Tape" 5 none false d nOb nOb Q 2 [(0, .ref (ad E 1)), (1, .int x1)] [] P E := by
  intro n
  induction n with
  | zero =>
    intro x1 P h
    rw [l_Ta_readWord_2] at h
    exact St.none_ h
  | succ n ih =>
    intro x1 P h
    rw [l_Ta_readWord_2] at h
    refine Go.iload_n (k := 1) (i := 1) 1 (by decide +kernel) rfl rfl ?_
    refine Go.sipush (n := 900) (900 : Int32) (by decide +kernel) (by decide) ?_
    refine Go.icmp_ge (off := 33) 39 (by decide +kernel) (by decide) (fun c1 => ?_) (fun c1 => ?_)
    · rw [if_pos c1] at h
      refine Go.sub [0] [(0, .ref (ad E 1))] rfl ?_
      exact t_j_Ta_readWord_39 hG hE d hd P h
    · rw [if_neg c1] at h
      refine Go.aload_n (k := 0) (i := 0) 0 (by decide +kernel) rfl rfl ?_
      refine Go.aload_n (k := 0) (i := 0) 0 (by decide +kernel) rfl rfl ?_
      refine Go.get 1 3 (.int (P.1 1 3)) (by decide) (by decide) sh1 (ltO hE sh1) rfl lk41 (by decide +kernel) ?_
      obtain ⟨v2, hv2, h⟩ := St.bind h
      refine Go.cV_i (P1 := P) (v := v2) (d - 1) 1 [.int (P.1 1 3)] sh1 hE w_Ta_byteAt (e_Ta_byteAt hG hE (d - 1) (by omega) (P.1 1 3) P ⟨_, hv2, rfl, rfl, rfl⟩) lk470 rfl (by omega) (Nat.le_of_ble_eq_true rfl) (by decide +kernel) _ rfl ?_
      refine Go.cS_i (P1 := P) (v := (f_Ta_isLetter v2 P)) (d - 1) [.int v2] hE w_Ta_isLetter (e_Ta_isLetter hG hE (d - 1) (by omega) v2 P ⟨rfl, rfl, rfl⟩) lk488 rfl (by omega) (Nat.le_of_ble_eq_true rfl) (by decide +kernel) _ rfl ?_
      refine Go.if_eq (off := 19) 39 (by decide +kernel) (by decide) (fun c3 => ?_) (fun c3 => ?_)
      · rw [if_pos c3] at h
        refine Go.sub [0] [(0, .ref (ad E 1))] rfl ?_
        exact t_j_Ta_readWord_39 hG hE d hd P h
      · rw [if_neg c3] at h
        refine Go.aload_n (k := 0) (i := 0) 0 (by decide +kernel) rfl rfl ?_
        refine Go.dup (by decide +kernel) rfl ?_
        refine Go.get 1 3 (.int (P.1 1 3)) (by decide) (by decide) sh1 (ltO hE sh1) rfl lk41 (by decide +kernel) ?_
        refine Go.iconst (n := 1) (1 : Int32) (by decide +kernel) rfl ?_
        refine Go.iadd (by decide +kernel) ?_
        refine Go.put 1 3 (by decide) (by decide) sh1 (ltO hE sh1) (Or.inl rfl) rfl rfl rfl lk41 (by decide +kernel) ?_
        refine Go.iinc (i := 1) (n := 1) 1 (x1 + (1 : Int32)) [(1, .int (x1 + (1 : Int32))), (0, .ref (ad E 1))] (by decide +kernel) rfl rfl (by decide) rfl ?_
        refine Go.goto (off := -34) 2 (by decide +kernel) (by decide) ?_
        refine Go.sub [1, 0] [(0, .ref (ad E 1)), (1, .int (x1 + (1 : Int32)))] rfl ?_
        exact ih (x1 + (1 : Int32)) (u1 P 1 3 ((P.1 1 3) + (1 : Int32))) h
theorem t_f_Ta_readWord {G : GX} (hG : GOK G) {E : EV} (hE : E0 E) (d : Nat) (hd : 5 ≤ d) {Q : QT} (P : PM) (h : St E rP (f_Ta_readWord P) Q) : Go G c_Ta_readWord "YawnRoute$Tape" 5 none false d nOb nOb Q 0 [(0, .ref (ad E 1))] [] P E := by
  rw [f_Ta_readWord] at h
  refine Go.iconst (n := 0) (0 : Int32) (by decide +kernel) rfl ?_
  refine Go.istore_n (k := 1) (i := 1) [(1, .int (0 : Int32)), (0, .ref (ad E 1))] (by decide +kernel) rfl (by decide) rfl ?_
  refine Go.sub [1, 0] [(0, .ref (ad E 1)), (1, .int (0 : Int32))] rfl ?_
  exact t_l_Ta_readWord_2 hG hE d hd FU (0 : Int32) P h
theorem e_Ta_readWord {G : GX} (hG : GOK G) {E : EV} (hE : E0 E) (d : Nat) (hd : 5 ≤ d) (P : PM) {Q : QT} (h : St E rP (f_Ta_readWord P) Q) : Con G y_Ta_readWord cw_Ta_readWord d nOb nOb [.ref (ad E 1)] P E Q :=
  Con.of hG (by decide +kernel) rfl (fun h => by cases h) hE.2 (Nat.le_of_ble_eq_true rfl) (t_f_Ta_readWord hG hE d hd P h)
abbrev c_Ta_next : ByteArray := prog_11_method_5_code
abbrev y_Ta_next : MethodName := ⟨"YawnRoute$Tape", "next", "()V"⟩
abbrev cw_Ta_next : Cond := .code y_Ta_next c_Ta_next 2 none
theorem w_Ta_next : VW 9 y_Ta_next c_Ta_next 2 none 0 := ⟨by decide, lk467, lk468, lk2, lk469, ⟨by decide, by decide, by decide +kernel⟩, by decide⟩
noncomputable def j_Ta_next_68 (P : PM) : Option PM := some (u1 P 1 5 (0 : Int32))
noncomputable def j_Ta_next_39 (P : PM) : Option PM := (f_Ta_byteAt ((u1 P 1 4 (P.1 1 3)).1 1 3) (u1 P 1 4 (P.1 1 3))).bind (fun v1 => if ((u1 P 1 4 (P.1 1 3)).1 1 7) = (0 : Int32) then (if v1 = (-1 : Int32) then (j_Ta_next_68 (u1 P 1 4 (P.1 1 3))) else (if (f_Ta_isDigit v1 (u1 P 1 4 (P.1 1 3))) = (0 : Int32) then (if (f_Ta_isLetter v1 (u1 P 1 4 (P.1 1 3))) = (0 : Int32) then (if (sidx 1 ((v1.toUInt32 % 65536).toInt32)) < (0 : Int32) then ((f_Ta_fail (1 : Int32) (u1 P 1 4 (P.1 1 3))).bind (fun P7 => some P7)) else (some (u1 (u1 (u1 P 1 4 (P.1 1 3)) 1 5 v1) 1 3 (((u1 (u1 P 1 4 (P.1 1 3)) 1 5 v1).1 1 3) + (1 : Int32))))) else ((f_Ta_readWord (u1 P 1 4 (P.1 1 3))).bind (fun P8 => some P8))) else ((f_Ta_readNumber (u1 P 1 4 (P.1 1 3))).bind (fun P9 => some P9)))) else (j_Ta_next_68 (u1 P 1 4 (P.1 1 3))))
noncomputable def l_Ta_next_2 : Nat → Int32 → PM → Option PM
  | 0, _, _ => none
  | n + 1, x1, P => if (900 : Int32) ≤ x1 then (j_Ta_next_39 P) else ((f_Ta_byteAt (P.1 1 3) P).bind (fun v2 => if (f_Ta_isBlank v2 P) = (0 : Int32) then (j_Ta_next_39 P) else (l_Ta_next_2 n (x1 + (1 : Int32)) (u1 P 1 3 ((P.1 1 3) + (1 : Int32))))))
noncomputable def f_Ta_next (P : PM) : Option PM := l_Ta_next_2 FU (0 : Int32) P
theorem t_j_Ta_next_68 {G : GX} (hG : GOK G) {E : EV} (hE : E0 E) (d : Nat) (hd : 6 ≤ d) {Q : QT} (P : PM) (h : St E rP (j_Ta_next_68 P) Q) : Go G c_Ta_next "YawnRoute$Tape" 2 none false d nOb nOb Q 68 [(0, .ref (ad E 1))] [] P E := by
  rw [j_Ta_next_68] at h
  refine Go.aload_n (k := 0) (i := 0) 0 (by decide +kernel) rfl rfl ?_
  refine Go.iconst (n := 0) (0 : Int32) (by decide +kernel) rfl ?_
  refine Go.put 1 5 (by decide) (by decide) sh1 (ltO hE sh1) (Or.inl rfl) rfl rfl rfl lk45 (by decide +kernel) ?_
  refine Go.goto (off := 64) 137 (by decide +kernel) (by decide) ?_
  exact Go.vret rfl hE.2 (by decide +kernel) (St.fP h)
theorem t_j_Ta_next_39 {G : GX} (hG : GOK G) {E : EV} (hE : E0 E) (d : Nat) (hd : 6 ≤ d) {Q : QT} (P : PM) (h : St E rP (j_Ta_next_39 P) Q) : Go G c_Ta_next "YawnRoute$Tape" 2 none false d nOb nOb Q 39 [(0, .ref (ad E 1))] [] P E := by
  rw [j_Ta_next_39] at h
  refine Go.aload_n (k := 0) (i := 0) 0 (by decide +kernel) rfl rfl ?_
  refine Go.aload_n (k := 0) (i := 0) 0 (by decide +kernel) rfl rfl ?_
  refine Go.get 1 3 (.int (P.1 1 3)) (by decide) (by decide) sh1 (ltO hE sh1) rfl lk41 (by decide +kernel) ?_
  refine Go.put 1 4 (by decide) (by decide) sh1 (ltO hE sh1) (Or.inl rfl) rfl rfl rfl lk42 (by decide +kernel) ?_
  refine Go.aload_n (k := 0) (i := 0) 0 (by decide +kernel) rfl rfl ?_
  refine Go.aload_n (k := 0) (i := 0) 0 (by decide +kernel) rfl rfl ?_
  refine Go.get 1 3 (.int ((u1 P 1 4 (P.1 1 3)).1 1 3)) (by decide) (by decide) sh1 (ltO hE sh1) rfl lk41 (by decide +kernel) ?_
  obtain ⟨v1, hv1, h⟩ := St.bind h
  refine Go.cV_i (P1 := (u1 P 1 4 (P.1 1 3))) (v := v1) (d - 1) 1 [.int ((u1 P 1 4 (P.1 1 3)).1 1 3)] sh1 hE w_Ta_byteAt (e_Ta_byteAt hG hE (d - 1) (by omega) ((u1 P 1 4 (P.1 1 3)).1 1 3) (u1 P 1 4 (P.1 1 3)) ⟨_, hv1, rfl, rfl, rfl⟩) lk470 rfl (by omega) (Nat.le_of_ble_eq_true rfl) (by decide +kernel) _ rfl ?_
  refine Go.istore_n (k := 1) (i := 1) [(1, .int v1), (0, .ref (ad E 1))] (by decide +kernel) rfl (by decide) rfl ?_
  refine Go.aload_n (k := 0) (i := 0) 1 (by decide +kernel) rfl rfl ?_
  refine Go.get 1 7 (.int ((u1 P 1 4 (P.1 1 3)).1 1 7)) (by decide) (by decide) sh1 (ltO hE sh1) rfl lk50 (by decide +kernel) ?_
  refine Go.if_ne (off := 8) 68 (by decide +kernel) (by decide) (fun c2 => ?_) (fun c2 => ?_)
  · rw [if_neg c2] at h
    refine Go.sub [1] [(0, .ref (ad E 1))] rfl ?_
    exact t_j_Ta_next_68 hG hE d hd (u1 P 1 4 (P.1 1 3)) h
  · rw [if_pos c2] at h
    refine Go.iload_n (k := 1) (i := 1) 0 (by decide +kernel) rfl rfl ?_
    refine Go.iconst (n := -1) (-1 : Int32) (by decide +kernel) rfl ?_
    refine Go.icmp_ne (off := 11) 76 (by decide +kernel) (by decide) (fun c3 => ?_) (fun c3 => ?_)
    · rw [if_neg c3] at h
      refine Go.iload_n (k := 1) (i := 1) 0 (by decide +kernel) rfl rfl ?_
      refine Go.cS_i (P1 := (u1 P 1 4 (P.1 1 3))) (v := (f_Ta_isDigit v1 (u1 P 1 4 (P.1 1 3)))) (d - 1) [.int v1] hE w_Ta_isDigit (e_Ta_isDigit hG hE (d - 1) (by omega) v1 (u1 P 1 4 (P.1 1 3)) ⟨rfl, rfl, rfl⟩) lk477 rfl (by omega) (Nat.le_of_ble_eq_true rfl) (by decide +kernel) _ rfl ?_
      refine Go.if_eq (off := 10) 90 (by decide +kernel) (by decide) (fun c4 => ?_) (fun c4 => ?_)
      · rw [if_pos c4] at h
        refine Go.iload_n (k := 1) (i := 1) 0 (by decide +kernel) rfl rfl ?_
        refine Go.cS_i (P1 := (u1 P 1 4 (P.1 1 3))) (v := (f_Ta_isLetter v1 (u1 P 1 4 (P.1 1 3)))) (d - 1) [.int v1] hE w_Ta_isLetter (e_Ta_isLetter hG hE (d - 1) (by omega) v1 (u1 P 1 4 (P.1 1 3)) ⟨rfl, rfl, rfl⟩) lk488 rfl (by omega) (Nat.le_of_ble_eq_true rfl) (by decide +kernel) _ rfl ?_
        refine Go.if_eq (off := 10) 104 (by decide +kernel) (by decide) (fun c5 => ?_) (fun c5 => ?_)
        · rw [if_pos c5] at h
          refine Go.ldcS (idx := 66) 1 (by decide) rfl (by decide +kernel) ?_
          refine Go.iload_n (k := 1) (i := 1) 0 (by decide +kernel) rfl rfl ?_
          refine Go.i2c (by decide +kernel) ?_
          refine Go.strIdx (i := 1) (by decide) lk545 hE (by omega) (Nat.le_of_ble_eq_true rfl) (by decide +kernel) ?_
          refine Go.if_lt (off := 21) 132 (by decide +kernel) (by decide) (fun c6 => ?_) (fun c6 => ?_)
          · rw [if_pos c6] at h
            refine Go.aload_n (k := 0) (i := 0) 1 (by decide +kernel) rfl rfl ?_
            refine Go.iconst (n := 1) (1 : Int32) (by decide +kernel) rfl ?_
            obtain ⟨P7, hP7, h⟩ := St.bind h
            refine Go.cV_v (P1 := P7) (d - 1) 1 [.int (1 : Int32)] sh1 hE w_Ta_fail (e_Ta_fail hG hE (d - 1) (by omega) (1 : Int32) (u1 P 1 4 (P.1 1 3)) ⟨_, hP7, rfl, rfl, rfl⟩) lk484 rfl (by omega) (Nat.le_of_ble_eq_true rfl) (by decide +kernel) _ rfl ?_
            exact Go.vret rfl hE.2 (by decide +kernel) (St.fP h)
          · rw [if_neg c6] at h
            refine Go.aload_n (k := 0) (i := 0) 1 (by decide +kernel) rfl rfl ?_
            refine Go.iload_n (k := 1) (i := 1) 0 (by decide +kernel) rfl rfl ?_
            refine Go.put 1 5 (by decide) (by decide) sh1 (ltO hE sh1) (Or.inl rfl) rfl rfl rfl lk45 (by decide +kernel) ?_
            refine Go.aload_n (k := 0) (i := 0) 1 (by decide +kernel) rfl rfl ?_
            refine Go.dup (by decide +kernel) rfl ?_
            refine Go.get 1 3 (.int ((u1 (u1 P 1 4 (P.1 1 3)) 1 5 v1).1 1 3)) (by decide) (by decide) sh1 (ltO hE sh1) rfl lk41 (by decide +kernel) ?_
            refine Go.iconst (n := 1) (1 : Int32) (by decide +kernel) rfl ?_
            refine Go.iadd (by decide +kernel) ?_
            refine Go.put 1 3 (by decide) (by decide) sh1 (ltO hE sh1) (Or.inl rfl) rfl rfl rfl lk41 (by decide +kernel) ?_
            refine Go.goto (off := 8) 137 (by decide +kernel) (by decide) ?_
            exact Go.vret rfl hE.2 (by decide +kernel) (St.fP h)
        · rw [if_neg c5] at h
          refine Go.aload_n (k := 0) (i := 0) 1 (by decide +kernel) rfl rfl ?_
          obtain ⟨P8, hP8, h⟩ := St.bind h
          refine Go.cV_v (P1 := P8) (d - 1) 1 [] sh1 hE w_Ta_readWord (e_Ta_readWord hG hE (d - 1) (by omega) (u1 P 1 4 (P.1 1 3)) ⟨_, hP8, rfl, rfl, rfl⟩) lk491 rfl (by omega) (Nat.le_of_ble_eq_true rfl) (by decide +kernel) _ rfl ?_
          refine Go.goto (off := 36) 137 (by decide +kernel) (by decide) ?_
          exact Go.vret rfl hE.2 (by decide +kernel) (St.fP h)
      · rw [if_neg c4] at h
        refine Go.aload_n (k := 0) (i := 0) 1 (by decide +kernel) rfl rfl ?_
        obtain ⟨P9, hP9, h⟩ := St.bind h
        refine Go.cV_v (P1 := P9) (d - 1) 1 [] sh1 hE w_Ta_readNumber (e_Ta_readNumber hG hE (d - 1) (by omega) (u1 P 1 4 (P.1 1 3)) ⟨_, hP9, rfl, rfl, rfl⟩) lk480 rfl (by omega) (Nat.le_of_ble_eq_true rfl) (by decide +kernel) _ rfl ?_
        refine Go.goto (off := 50) 137 (by decide +kernel) (by decide) ?_
        exact Go.vret rfl hE.2 (by decide +kernel) (St.fP h)
    · rw [if_pos c3] at h
      refine Go.sub [1] [(0, .ref (ad E 1))] rfl ?_
      exact t_j_Ta_next_68 hG hE d hd (u1 P 1 4 (P.1 1 3)) h
theorem t_l_Ta_next_2 {G : GX} (hG : GOK G) {E : EV} (hE : E0 E) (d : Nat) (hd : 6 ≤ d) {Q : QT} : ∀ (n : Nat) (x1 : Int32) (P : PM), St E rP (l_Ta_next_2 n x1 P) Q → Go G c_Ta_next "YawnRoute$Tape" 2 none false d nOb nOb Q 2 [(0, .ref (ad E 1)), (1, .int x1)] [] P E := by
  intro n
  induction n with
  | zero =>
    intro x1 P h
    rw [l_Ta_next_2] at h
    exact St.none_ h
  | succ n ih =>
    intro x1 P h
    rw [l_Ta_next_2] at h
    refine Go.iload_n (k := 1) (i := 1) 1 (by decide +kernel) rfl rfl ?_
    refine Go.sipush (n := 900) (900 : Int32) (by decide +kernel) (by decide) ?_
    refine Go.icmp_ge (off := 33) 39 (by decide +kernel) (by decide) (fun c1 => ?_) (fun c1 => ?_)
    · rw [if_pos c1] at h
      refine Go.sub [0] [(0, .ref (ad E 1))] rfl ?_
      exact t_j_Ta_next_39 hG hE d hd P h
    · rw [if_neg c1] at h
      refine Go.aload_n (k := 0) (i := 0) 0 (by decide +kernel) rfl rfl ?_
      refine Go.aload_n (k := 0) (i := 0) 0 (by decide +kernel) rfl rfl ?_
      refine Go.get 1 3 (.int (P.1 1 3)) (by decide) (by decide) sh1 (ltO hE sh1) rfl lk41 (by decide +kernel) ?_
      obtain ⟨v2, hv2, h⟩ := St.bind h
      refine Go.cV_i (P1 := P) (v := v2) (d - 1) 1 [.int (P.1 1 3)] sh1 hE w_Ta_byteAt (e_Ta_byteAt hG hE (d - 1) (by omega) (P.1 1 3) P ⟨_, hv2, rfl, rfl, rfl⟩) lk470 rfl (by omega) (Nat.le_of_ble_eq_true rfl) (by decide +kernel) _ rfl ?_
      refine Go.cS_i (P1 := P) (v := (f_Ta_isBlank v2 P)) (d - 1) [.int v2] hE w_Ta_isBlank (e_Ta_isBlank hG hE (d - 1) (by omega) v2 P ⟨rfl, rfl, rfl⟩) lk474 rfl (by omega) (Nat.le_of_ble_eq_true rfl) (by decide +kernel) _ rfl ?_
      refine Go.if_eq (off := 19) 39 (by decide +kernel) (by decide) (fun c3 => ?_) (fun c3 => ?_)
      · rw [if_pos c3] at h
        refine Go.sub [0] [(0, .ref (ad E 1))] rfl ?_
        exact t_j_Ta_next_39 hG hE d hd P h
      · rw [if_neg c3] at h
        refine Go.aload_n (k := 0) (i := 0) 0 (by decide +kernel) rfl rfl ?_
        refine Go.dup (by decide +kernel) rfl ?_
        refine Go.get 1 3 (.int (P.1 1 3)) (by decide) (by decide) sh1 (ltO hE sh1) rfl lk41 (by decide +kernel) ?_
        refine Go.iconst (n := 1) (1 : Int32) (by decide +kernel) rfl ?_
        refine Go.iadd (by decide +kernel) ?_
        refine Go.put 1 3 (by decide) (by decide) sh1 (ltO hE sh1) (Or.inl rfl) rfl rfl rfl lk41 (by decide +kernel) ?_
        refine Go.iinc (i := 1) (n := 1) 1 (x1 + (1 : Int32)) [(1, .int (x1 + (1 : Int32))), (0, .ref (ad E 1))] (by decide +kernel) rfl rfl (by decide) rfl ?_
        refine Go.goto (off := -34) 2 (by decide +kernel) (by decide) ?_
        refine Go.sub [1, 0] [(0, .ref (ad E 1)), (1, .int (x1 + (1 : Int32)))] rfl ?_
        exact ih (x1 + (1 : Int32)) (u1 P 1 3 ((P.1 1 3) + (1 : Int32))) h
theorem t_f_Ta_next {G : GX} (hG : GOK G) {E : EV} (hE : E0 E) (d : Nat) (hd : 6 ≤ d) {Q : QT} (P : PM) (h : St E rP (f_Ta_next P) Q) : Go G c_Ta_next "YawnRoute$Tape" 2 none false d nOb nOb Q 0 [(0, .ref (ad E 1))] [] P E := by
  rw [f_Ta_next] at h
  refine Go.iconst (n := 0) (0 : Int32) (by decide +kernel) rfl ?_
  refine Go.istore_n (k := 1) (i := 1) [(1, .int (0 : Int32)), (0, .ref (ad E 1))] (by decide +kernel) rfl (by decide) rfl ?_
  refine Go.sub [1, 0] [(0, .ref (ad E 1)), (1, .int (0 : Int32))] rfl ?_
  exact t_l_Ta_next_2 hG hE d hd FU (0 : Int32) P h
theorem e_Ta_next {G : GX} (hG : GOK G) {E : EV} (hE : E0 E) (d : Nat) (hd : 6 ≤ d) (P : PM) {Q : QT} (h : St E rP (f_Ta_next P) Q) : Con G y_Ta_next cw_Ta_next d nOb nOb [.ref (ad E 1)] P E Q :=
  Con.of hG (by decide +kernel) rfl (fun h => by cases h) hE.2 (Nat.le_of_ble_eq_true rfl) (t_f_Ta_next hG hE d hd P h)
abbrev c_Ta_takeNumber : ByteArray := prog_11_method_7_code
abbrev y_Ta_takeNumber : MethodName := ⟨"YawnRoute$Tape", "takeNumber", "(II)I"⟩
abbrev cw_Ta_takeNumber : Cond := .code y_Ta_takeNumber c_Ta_takeNumber 4 (some .int)
theorem w_Ta_takeNumber : VW 9 y_Ta_takeNumber c_Ta_takeNumber 4 (some .int) 2 := ⟨by decide, lk617, lk618, lk2, lk619, ⟨by decide, by decide, by decide +kernel⟩, by decide⟩
noncomputable def j_Ta_takeNumber_30 (x1 : Int32) (P : PM) : Option (Int32 × PM) := (f_Ta_fail (3 : Int32) P).bind (fun P1 => some (x1, P1))
noncomputable def f_Ta_takeNumber (a1 : Int32) (a2 : Int32) (P : PM) : Option (Int32 × PM) := lb (P.1 1 6) (fun y1 => if (P.1 1 5) = (1 : Int32) then (if y1 < a1 then (j_Ta_takeNumber_30 a1 P) else (if y1 ≤ a2 then ((f_Ta_next P).bind (fun P5 => some (y1, P5))) else (j_Ta_takeNumber_30 a1 P))) else ((f_Ta_fail (2 : Int32) P).bind (fun P6 => some (a1, P6))))
theorem t_j_Ta_takeNumber_30 {G : GX} (hG : GOK G) {E : EV} (hE : E0 E) (d : Nat) (hd : 7 ≤ d) {Q : QT} (x1 : Int32) (P : PM) (h : St E rIP (j_Ta_takeNumber_30 x1 P) Q) : Go G c_Ta_takeNumber "YawnRoute$Tape" 4 (some .int) false d nOb nOb Q 30 [(0, .ref (ad E 1)), (1, .int x1)] [] P E := by
  rw [j_Ta_takeNumber_30] at h
  refine Go.aload_n (k := 0) (i := 0) 0 (by decide +kernel) rfl rfl ?_
  refine Go.iconst (n := 3) (3 : Int32) (by decide +kernel) rfl ?_
  obtain ⟨P1, hP1, h⟩ := St.bind h
  refine Go.cV_v (P1 := P1) (d - 1) 1 [.int (3 : Int32)] sh1 hE w_Ta_fail (e_Ta_fail hG hE (d - 1) (by omega) (3 : Int32) P ⟨_, hP1, rfl, rfl, rfl⟩) lk484 rfl (by omega) (Nat.le_of_ble_eq_true rfl) (by decide +kernel) _ rfl ?_
  refine Go.iload_n (k := 1) (i := 1) 1 (by decide +kernel) rfl rfl ?_
  exact Go.iret rfl rfl hE.2 (by decide +kernel) (St.fIP h)
theorem t_f_Ta_takeNumber {G : GX} (hG : GOK G) {E : EV} (hE : E0 E) (d : Nat) (hd : 7 ≤ d) {Q : QT} (a1 : Int32) (a2 : Int32) (P : PM) (h : St E rIP (f_Ta_takeNumber a1 a2 P) Q) : Go G c_Ta_takeNumber "YawnRoute$Tape" 4 (some .int) false d nOb nOb Q 0 [(0, .ref (ad E 1)), (1, .int a1), (2, .int a2)] [] P E := by
  rw [f_Ta_takeNumber] at h
  refine Go.aload_n (k := 0) (i := 0) 0 (by decide +kernel) rfl rfl ?_
  refine Go.get 1 6 (.int (P.1 1 6)) (by decide) (by decide) sh1 (ltO hE sh1) rfl lk46 (by decide +kernel) ?_
  obtain ⟨y1, hy1, h⟩ := St.lb h
  refine Go.eqi y1 hy1 ?_
  refine Go.istore_n (k := 3) (i := 3) [(3, .int y1), (0, .ref (ad E 1)), (1, .int a1), (2, .int a2)] (by decide +kernel) rfl (by decide) rfl ?_
  refine Go.aload_n (k := 0) (i := 0) 1 (by decide +kernel) rfl rfl ?_
  refine Go.get 1 5 (.int (P.1 1 5)) (by decide) (by decide) sh1 (ltO hE sh1) rfl lk45 (by decide +kernel) ?_
  refine Go.iconst (n := 1) (1 : Int32) (by decide +kernel) rfl ?_
  refine Go.icmp_eq (off := 10) 20 (by decide +kernel) (by decide) (fun c2 => ?_) (fun c2 => ?_)
  · rw [if_pos c2] at h
    refine Go.iload_n (k := 3) (i := 3) 0 (by decide +kernel) rfl rfl ?_
    refine Go.iload_n (k := 1) (i := 1) 2 (by decide +kernel) rfl rfl ?_
    refine Go.icmp_lt (off := 8) 30 (by decide +kernel) (by decide) (fun c3 => ?_) (fun c3 => ?_)
    · rw [if_pos c3] at h
      refine Go.sub [1, 2] [(0, .ref (ad E 1)), (1, .int a1)] rfl ?_
      exact t_j_Ta_takeNumber_30 hG hE d hd a1 P h
    · rw [if_neg c3] at h
      refine Go.iload_n (k := 3) (i := 3) 0 (by decide +kernel) rfl rfl ?_
      refine Go.iload_n (k := 2) (i := 2) 3 (by decide +kernel) rfl rfl ?_
      refine Go.icmp_le (off := 10) 37 (by decide +kernel) (by decide) (fun c4 => ?_) (fun c4 => ?_)
      · rw [if_pos c4] at h
        refine Go.aload_n (k := 0) (i := 0) 1 (by decide +kernel) rfl rfl ?_
        obtain ⟨P5, hP5, h⟩ := St.bind h
        refine Go.cV_v (P1 := P5) (d - 1) 1 [] sh1 hE w_Ta_next (e_Ta_next hG hE (d - 1) (by omega) P ⟨_, hP5, rfl, rfl, rfl⟩) lk466 rfl (by omega) (Nat.le_of_ble_eq_true rfl) (by decide +kernel) _ rfl ?_
        refine Go.iload_n (k := 3) (i := 3) 0 (by decide +kernel) rfl rfl ?_
        exact Go.iret rfl rfl hE.2 (by decide +kernel) (St.fIP h)
      · rw [if_neg c4] at h
        refine Go.sub [1, 2] [(0, .ref (ad E 1)), (1, .int a1)] rfl ?_
        exact t_j_Ta_takeNumber_30 hG hE d hd a1 P h
  · rw [if_neg c2] at h
    refine Go.aload_n (k := 0) (i := 0) 1 (by decide +kernel) rfl rfl ?_
    refine Go.iconst (n := 2) (2 : Int32) (by decide +kernel) rfl ?_
    obtain ⟨P6, hP6, h⟩ := St.bind h
    refine Go.cV_v (P1 := P6) (d - 1) 1 [.int (2 : Int32)] sh1 hE w_Ta_fail (e_Ta_fail hG hE (d - 1) (by omega) (2 : Int32) P ⟨_, hP6, rfl, rfl, rfl⟩) lk484 rfl (by omega) (Nat.le_of_ble_eq_true rfl) (by decide +kernel) _ rfl ?_
    refine Go.iload_n (k := 1) (i := 1) 2 (by decide +kernel) rfl rfl ?_
    exact Go.iret rfl rfl hE.2 (by decide +kernel) (St.fIP h)
theorem e_Ta_takeNumber {G : GX} (hG : GOK G) {E : EV} (hE : E0 E) (d : Nat) (hd : 7 ≤ d) (a1 : Int32) (a2 : Int32) (P : PM) {Q : QT} (h : St E rIP (f_Ta_takeNumber a1 a2 P) Q) : Con G y_Ta_takeNumber cw_Ta_takeNumber d nOb nOb [.ref (ad E 1), .int a1, .int a2] P E Q :=
  Con.of hG (by decide +kernel) rfl (fun h => by cases h) hE.2 (Nat.le_of_ble_eq_true rfl) (t_f_Ta_takeNumber hG hE d hd a1 a2 P h)
abbrev c_Nr_readTold : ByteArray := prog_5_method_9_code
abbrev y_Nr_readTold : MethodName := ⟨"YawnRoute$NetReader", "readTold", "(I)I"⟩
abbrev cw_Nr_readTold : Cond := .code y_Nr_readTold c_Nr_readTold 2 (some .int)
theorem w_Nr_readTold : VW 3 y_Nr_readTold c_Nr_readTold 2 (some .int) 1 := ⟨by decide, lk630, lp6_, lk3, lk631, ⟨by decide, by decide, by decide +kernel⟩, by decide⟩
noncomputable def j_Nr_readTold_30 (P : PM) : Option (Int32 × PM) := bd2 (f_Ta_takeNumber (0 : Int32) ((P.1 4 0) - (1 : Int32)) P) (fun v1 P2 => some (v1, P2))
noncomputable def f_Nr_readTold (a1 : Int32) (P : PM) : Option (Int32 × PM) := if (P.1 1 5) = (1 : Int32) then (if (P.1 1 6) = a1 then ((f_Ta_fail (3 : Int32) P).bind (fun P3 => j_Nr_readTold_30 P3)) else (j_Nr_readTold_30 P)) else (j_Nr_readTold_30 P)
theorem t_j_Nr_readTold_30 {G : GX} (hG : GOK G) {E : EV} (hE : E0 E) (d : Nat) (hd : 8 ≤ d) {Q : QT} (P : PM) (h : St E rIP (j_Nr_readTold_30 P) Q) : Go G c_Nr_readTold "YawnRoute$NetReader" 2 (some .int) false d nOb nOb Q 30 [(0, .ref (ad E 3))] [] P E := by
  rw [j_Nr_readTold_30] at h
  refine Go.aload_n (k := 0) (i := 0) 0 (by decide +kernel) rfl rfl ?_
  refine Go.get 3 0 (.ref (ad E 1)) (by decide) (by decide) sh3 (ltO hE sh3) (vlR hE rfl rfl) lk195 (by decide +kernel) ?_
  refine Go.iconst (n := 0) (0 : Int32) (by decide +kernel) rfl ?_
  refine Go.aload_n (k := 0) (i := 0) 0 (by decide +kernel) rfl rfl ?_
  refine Go.get 3 1 (.ref (ad E 4)) (by decide) (by decide) sh3 (ltO hE sh3) (vlR hE rfl rfl) lk196 (by decide +kernel) ?_
  refine Go.get 4 0 (.int (P.1 4 0)) (by decide) (by decide) sh4 (ltO hE sh4) rfl lk87 (by decide +kernel) ?_
  refine Go.iconst (n := 1) (1 : Int32) (by decide +kernel) rfl ?_
  refine Go.isub (by decide +kernel) ?_
  obtain ⟨v1, P2, hv1, h⟩ := St.bd2 h
  refine Go.cV_i (P1 := P2) (v := v1) (d - 1) 1 [.int (0 : Int32), .int ((P.1 4 0) - (1 : Int32))] sh1 hE w_Ta_takeNumber (e_Ta_takeNumber hG hE (d - 1) (by omega) (0 : Int32) ((P.1 4 0) - (1 : Int32)) P ⟨_, hv1, rfl, rfl, rfl⟩) lk616 rfl (by omega) (Nat.le_of_ble_eq_true rfl) (by decide +kernel) _ rfl ?_
  exact Go.iret rfl rfl hE.2 (by decide +kernel) (St.fIP h)
theorem t_f_Nr_readTold {G : GX} (hG : GOK G) {E : EV} (hE : E0 E) (d : Nat) (hd : 8 ≤ d) {Q : QT} (a1 : Int32) (P : PM) (h : St E rIP (f_Nr_readTold a1 P) Q) : Go G c_Nr_readTold "YawnRoute$NetReader" 2 (some .int) false d nOb nOb Q 0 [(0, .ref (ad E 3)), (1, .int a1)] [] P E := by
  rw [f_Nr_readTold] at h
  refine Go.aload_n (k := 0) (i := 0) 0 (by decide +kernel) rfl rfl ?_
  refine Go.get 3 0 (.ref (ad E 1)) (by decide) (by decide) sh3 (ltO hE sh3) (vlR hE rfl rfl) lk195 (by decide +kernel) ?_
  refine Go.get 1 5 (.int (P.1 1 5)) (by decide) (by decide) sh1 (ltO hE sh1) rfl lk44 (by decide +kernel) ?_
  refine Go.iconst (n := 1) (1 : Int32) (by decide +kernel) rfl ?_
  refine Go.icmp_ne (off := 22) 30 (by decide +kernel) (by decide) (fun c1 => ?_) (fun c1 => ?_)
  · rw [if_neg c1] at h
    refine Go.sub [0] [(0, .ref (ad E 3))] rfl ?_
    exact t_j_Nr_readTold_30 hG hE d hd P h
  · rw [if_pos c1] at h
    refine Go.aload_n (k := 0) (i := 0) 0 (by decide +kernel) rfl rfl ?_
    refine Go.get 3 0 (.ref (ad E 1)) (by decide) (by decide) sh3 (ltO hE sh3) (vlR hE rfl rfl) lk195 (by decide +kernel) ?_
    refine Go.get 1 6 (.int (P.1 1 6)) (by decide) (by decide) sh1 (ltO hE sh1) rfl lk48 (by decide +kernel) ?_
    refine Go.iload_n (k := 1) (i := 1) 1 (by decide +kernel) rfl rfl ?_
    refine Go.icmp_ne (off := 11) 30 (by decide +kernel) (by decide) (fun c2 => ?_) (fun c2 => ?_)
    · rw [if_neg c2] at h
      refine Go.sub [0] [(0, .ref (ad E 3))] rfl ?_
      exact t_j_Nr_readTold_30 hG hE d hd P h
    · rw [if_pos c2] at h
      refine Go.aload_n (k := 0) (i := 0) 0 (by decide +kernel) rfl rfl ?_
      refine Go.get 3 0 (.ref (ad E 1)) (by decide) (by decide) sh3 (ltO hE sh3) (vlR hE rfl rfl) lk195 (by decide +kernel) ?_
      refine Go.iconst (n := 3) (3 : Int32) (by decide +kernel) rfl ?_
      obtain ⟨P3, hP3, h⟩ := St.bind h
      refine Go.cV_v (P1 := P3) (d - 1) 1 [.int (3 : Int32)] sh1 hE w_Ta_fail (e_Ta_fail hG hE (d - 1) (by omega) (3 : Int32) P ⟨_, hP3, rfl, rfl, rfl⟩) lk610 rfl (by omega) (Nat.le_of_ble_eq_true rfl) (by decide +kernel) _ rfl ?_
      refine Go.sub [0] [(0, .ref (ad E 3))] rfl ?_
      exact t_j_Nr_readTold_30 hG hE d hd P3 h
theorem e_Nr_readTold {G : GX} (hG : GOK G) {E : EV} (hE : E0 E) (d : Nat) (hd : 8 ≤ d) (a1 : Int32) (P : PM) {Q : QT} (h : St E rIP (f_Nr_readTold a1 P) Q) : Con G y_Nr_readTold cw_Nr_readTold d nOb nOb [.ref (ad E 3), .int a1] P E Q :=
  Con.of hG (by decide +kernel) rfl (fun h => by cases h) hE.2 (Nat.le_of_ble_eq_true rfl) (t_f_Nr_readTold hG hE d hd a1 P h)
abbrev c_Ta_skip : ByteArray := prog_11_method_6_code
abbrev y_Ta_skip : MethodName := ⟨"YawnRoute$Tape", "skip", "(I)V"⟩
abbrev cw_Ta_skip : Cond := .code y_Ta_skip c_Ta_skip 2 none
theorem w_Ta_skip : VW 9 y_Ta_skip c_Ta_skip 2 none 1 := ⟨by decide, lk603, lk604, lk2, lk605, ⟨by decide, by decide, by decide +kernel⟩, by decide⟩
noncomputable def f_Ta_skip (a1 : Int32) (P : PM) : Option PM := if (P.1 1 5) = a1 then ((f_Ta_next P).bind (fun P3 => some P3)) else ((f_Ta_fail (2 : Int32) P).bind (fun P2 => some P2))
theorem t_f_Ta_skip {G : GX} (hG : GOK G) {E : EV} (hE : E0 E) (d : Nat) (hd : 7 ≤ d) {Q : QT} (a1 : Int32) (P : PM) (h : St E rP (f_Ta_skip a1 P) Q) : Go G c_Ta_skip "YawnRoute$Tape" 2 none false d nOb nOb Q 0 [(0, .ref (ad E 1)), (1, .int a1)] [] P E := by
  rw [f_Ta_skip] at h
  refine Go.aload_n (k := 0) (i := 0) 0 (by decide +kernel) rfl rfl ?_
  refine Go.get 1 5 (.int (P.1 1 5)) (by decide) (by decide) sh1 (ltO hE sh1) rfl lk45 (by decide +kernel) ?_
  refine Go.iload_n (k := 1) (i := 1) 1 (by decide +kernel) rfl rfl ?_
  refine Go.icmp_ne (off := 10) 15 (by decide +kernel) (by decide) (fun c1 => ?_) (fun c1 => ?_)
  · rw [if_neg c1] at h
    refine Go.aload_n (k := 0) (i := 0) 0 (by decide +kernel) rfl rfl ?_
    refine Go.iconst (n := 2) (2 : Int32) (by decide +kernel) rfl ?_
    obtain ⟨P2, hP2, h⟩ := St.bind h
    refine Go.cV_v (P1 := P2) (d - 1) 1 [.int (2 : Int32)] sh1 hE w_Ta_fail (e_Ta_fail hG hE (d - 1) (by omega) (2 : Int32) P ⟨_, hP2, rfl, rfl, rfl⟩) lk484 rfl (by omega) (Nat.le_of_ble_eq_true rfl) (by decide +kernel) _ rfl ?_
    exact Go.vret rfl hE.2 (by decide +kernel) (St.fP h)
  · rw [if_pos c1] at h
    refine Go.aload_n (k := 0) (i := 0) 0 (by decide +kernel) rfl rfl ?_
    obtain ⟨P3, hP3, h⟩ := St.bind h
    refine Go.cV_v (P1 := P3) (d - 1) 1 [] sh1 hE w_Ta_next (e_Ta_next hG hE (d - 1) (by omega) P ⟨_, hP3, rfl, rfl, rfl⟩) lk466 rfl (by omega) (Nat.le_of_ble_eq_true rfl) (by decide +kernel) _ rfl ?_
    refine Go.goto (off := 8) 20 (by decide +kernel) (by decide) ?_
    exact Go.vret rfl hE.2 (by decide +kernel) (St.fP h)
theorem e_Ta_skip {G : GX} (hG : GOK G) {E : EV} (hE : E0 E) (d : Nat) (hd : 7 ≤ d) (a1 : Int32) (P : PM) {Q : QT} (h : St E rP (f_Ta_skip a1 P) Q) : Con G y_Ta_skip cw_Ta_skip d nOb nOb [.ref (ad E 1), .int a1] P E Q :=
  Con.of hG (by decide +kernel) rfl (fun h => by cases h) hE.2 (Nat.le_of_ble_eq_true rfl) (t_f_Ta_skip hG hE d hd a1 P h)
abbrev c_Nr_readAt : ByteArray := prog_5_method_6_code
abbrev y_Nr_readAt : MethodName := ⟨"YawnRoute$NetReader", "readAt", "()V"⟩
abbrev cw_Nr_readAt : Cond := .code y_Nr_readAt c_Nr_readAt 1 none
theorem w_Nr_readAt : VW 3 y_Nr_readAt c_Nr_readAt 1 none 0 := ⟨by decide, lk642, lp7_, lk3, lk643, ⟨by decide, by decide, by decide +kernel⟩, by decide⟩
noncomputable def f_Nr_readAt (P : PM) : Option PM := (f_Ta_next P).bind (fun P1 => bd2 (f_Nr_readTold (-1 : Int32) P1) (fun v2 P3 => (f_Ta_skip (203 : Int32) (u1 P3 11 0 v2)).bind (fun P4 => bd2 (f_Ta_takeNumber (1 : Int32) (40 : Int32) P4) (fun v5 P6 => some (u1 P6 11 1 v5)))))
theorem t_f_Nr_readAt {G : GX} (hG : GOK G) {E : EV} (hE : E0 E) (d : Nat) (hd : 9 ≤ d) {Q : QT} (P : PM) (h : St E rP (f_Nr_readAt P) Q) : Go G c_Nr_readAt "YawnRoute$NetReader" 1 none false d nOb nOb Q 0 [(0, .ref (ad E 3))] [] P E := by
  rw [f_Nr_readAt] at h
  refine Go.aload_n (k := 0) (i := 0) 0 (by decide +kernel) rfl rfl ?_
  refine Go.get 3 0 (.ref (ad E 1)) (by decide) (by decide) sh3 (ltO hE sh3) (vlR hE rfl rfl) lk195 (by decide +kernel) ?_
  obtain ⟨P1, hP1, h⟩ := St.bind h
  refine Go.cV_v (P1 := P1) (d - 1) 1 [] sh1 hE w_Ta_next (e_Ta_next hG hE (d - 1) (by omega) P ⟨_, hP1, rfl, rfl, rfl⟩) lk611 rfl (by omega) (Nat.le_of_ble_eq_true rfl) (by decide +kernel) _ rfl ?_
  refine Go.aload_n (k := 0) (i := 0) 0 (by decide +kernel) rfl rfl ?_
  refine Go.get 3 2 (.ref (ad E 11)) (by decide) (by decide) sh3 (ltO hE sh3) (vlR hE rfl rfl) lk198 (by decide +kernel) ?_
  refine Go.aload_n (k := 0) (i := 0) 0 (by decide +kernel) rfl rfl ?_
  refine Go.iconst (n := -1) (-1 : Int32) (by decide +kernel) rfl ?_
  obtain ⟨v2, P3, hv2, h⟩ := St.bd2 h
  refine Go.cV_i (P1 := P3) (v := v2) (d - 1) 3 [.int (-1 : Int32)] sh3 hE w_Nr_readTold (e_Nr_readTold hG hE (d - 1) (by omega) (-1 : Int32) P1 ⟨_, hv2, rfl, rfl, rfl⟩) lk628 rfl (by omega) (Nat.le_of_ble_eq_true rfl) (by decide +kernel) _ rfl ?_
  refine Go.put 11 0 (by decide) (by decide) sh11 (ltO hE sh11) (Or.inl rfl) rfl rfl rfl lk153 (by decide +kernel) ?_
  refine Go.aload_n (k := 0) (i := 0) 0 (by decide +kernel) rfl rfl ?_
  refine Go.get 3 0 (.ref (ad E 1)) (by decide) (by decide) sh3 (ltO hE sh3) (vlR hE rfl rfl) lk195 (by decide +kernel) ?_
  refine Go.sipush (n := 203) (203 : Int32) (by decide +kernel) (by decide) ?_
  obtain ⟨P4, hP4, h⟩ := St.bind h
  refine Go.cV_v (P1 := P4) (d - 1) 1 [.int (203 : Int32)] sh1 hE w_Ta_skip (e_Ta_skip hG hE (d - 1) (by omega) (203 : Int32) (u1 P3 11 0 v2) ⟨_, hP4, rfl, rfl, rfl⟩) lk602 rfl (by omega) (Nat.le_of_ble_eq_true rfl) (by decide +kernel) _ rfl ?_
  refine Go.aload_n (k := 0) (i := 0) 0 (by decide +kernel) rfl rfl ?_
  refine Go.get 3 2 (.ref (ad E 11)) (by decide) (by decide) sh3 (ltO hE sh3) (vlR hE rfl rfl) lk198 (by decide +kernel) ?_
  refine Go.aload_n (k := 0) (i := 0) 0 (by decide +kernel) rfl rfl ?_
  refine Go.get 3 0 (.ref (ad E 1)) (by decide) (by decide) sh3 (ltO hE sh3) (vlR hE rfl rfl) lk195 (by decide +kernel) ?_
  refine Go.iconst (n := 1) (1 : Int32) (by decide +kernel) rfl ?_
  refine Go.bipush (n := 40) (40 : Int32) (by decide +kernel) (by decide) ?_
  obtain ⟨v5, P6, hv5, h⟩ := St.bd2 h
  refine Go.cV_i (P1 := P6) (v := v5) (d - 1) 1 [.int (1 : Int32), .int (40 : Int32)] sh1 hE w_Ta_takeNumber (e_Ta_takeNumber hG hE (d - 1) (by omega) (1 : Int32) (40 : Int32) P4 ⟨_, hv5, rfl, rfl, rfl⟩) lk616 rfl (by omega) (Nat.le_of_ble_eq_true rfl) (by decide +kernel) _ rfl ?_
  refine Go.put 11 1 (by decide) (by decide) sh11 (ltO hE sh11) (Or.inl rfl) rfl rfl rfl lk158 (by decide +kernel) ?_
  exact Go.vret rfl hE.2 (by decide +kernel) (St.fP h)
theorem e_Nr_readAt {G : GX} (hG : GOK G) {E : EV} (hE : E0 E) (d : Nat) (hd : 9 ≤ d) (P : PM) {Q : QT} (h : St E rP (f_Nr_readAt P) Q) : Con G y_Nr_readAt cw_Nr_readAt d nOb nOb [.ref (ad E 3)] P E Q :=
  Con.of hG (by decide +kernel) rfl (fun h => by cases h) hE.2 (Nat.le_of_ble_eq_true rfl) (t_f_Nr_readAt hG hE d hd P h)
abbrev c_Lr_opens : ByteArray := prog_3_method_10_code
abbrev y_Lr_opens : MethodName := ⟨"YawnRoute$LawReader", "opens", "(I)Z"⟩
abbrev cw_Lr_opens : Cond := .code y_Lr_opens c_Lr_opens 2 (some .boolean)
theorem w_Lr_opens : VW 1 y_Lr_opens c_Lr_opens 2 (some .boolean) 1 := ⟨by decide, lk662, lp12_, lk6, lk663, ⟨by decide, by decide, by decide +kernel⟩, by decide⟩
noncomputable def f_Lr_opens (a1 : Int32) (P : PM) : Option (Int32 × PM) := if a1 < (6 : Int32) then ((f_Ta_next P).bind (fun P2 => some ((1 : Int32), P2))) else ((f_Ta_fail (4 : Int32) P).bind (fun P3 => some ((0 : Int32), P3)))
theorem t_f_Lr_opens {G : GX} (hG : GOK G) {E : EV} (hE : E0 E) (d : Nat) (hd : 7 ≤ d) {Q : QT} (a1 : Int32) (P : PM) (h : St E rIP (f_Lr_opens a1 P) Q) : Go G c_Lr_opens "YawnRoute$LawReader" 2 (some .boolean) false d nOb nOb Q 0 [(0, .ref (ad E 13)), (1, .int a1)] [] P E := by
  rw [f_Lr_opens] at h
  refine Go.iload_n (k := 1) (i := 1) 1 (by decide +kernel) rfl rfl ?_
  refine Go.bipush (n := 6) (6 : Int32) (by decide +kernel) (by decide) ?_
  refine Go.icmp_lt (off := 13) 16 (by decide +kernel) (by decide) (fun c1 => ?_) (fun c1 => ?_)
  · rw [if_pos c1] at h
    refine Go.aload_n (k := 0) (i := 0) 0 (by decide +kernel) rfl rfl ?_
    refine Go.get 13 0 (.ref (ad E 1)) (by decide) (by decide) sh13 (ltO hE sh13) (vlR hE rfl rfl) lk188 (by decide +kernel) ?_
    obtain ⟨P2, hP2, h⟩ := St.bind h
    refine Go.cV_v (P1 := P2) (d - 1) 1 [] sh1 hE w_Ta_next (e_Ta_next hG hE (d - 1) (by omega) P ⟨_, hP2, rfl, rfl, rfl⟩) lk665 rfl (by omega) (Nat.le_of_ble_eq_true rfl) (by decide +kernel) _ rfl ?_
    refine Go.iconst (n := 1) (1 : Int32) (by decide +kernel) rfl ?_
    exact Go.iret rfl rfl hE.2 (by decide +kernel) (St.fIP h)
  · rw [if_neg c1] at h
    refine Go.aload_n (k := 0) (i := 0) 0 (by decide +kernel) rfl rfl ?_
    refine Go.get 13 0 (.ref (ad E 1)) (by decide) (by decide) sh13 (ltO hE sh13) (vlR hE rfl rfl) lk188 (by decide +kernel) ?_
    refine Go.iconst (n := 4) (4 : Int32) (by decide +kernel) rfl ?_
    obtain ⟨P3, hP3, h⟩ := St.bind h
    refine Go.cV_v (P1 := P3) (d - 1) 1 [.int (4 : Int32)] sh1 hE w_Ta_fail (e_Ta_fail hG hE (d - 1) (by omega) (4 : Int32) P ⟨_, hP3, rfl, rfl, rfl⟩) lk664 rfl (by omega) (Nat.le_of_ble_eq_true rfl) (by decide +kernel) _ rfl ?_
    refine Go.iconst (n := 0) (0 : Int32) (by decide +kernel) rfl ?_
    exact Go.iret rfl rfl hE.2 (by decide +kernel) (St.fIP h)
theorem e_Lr_opens {G : GX} (hG : GOK G) {E : EV} (hE : E0 E) (d : Nat) (hd : 7 ≤ d) (a1 : Int32) (P : PM) {Q : QT} (h : St E rIP (f_Lr_opens a1 P) Q) : Con G y_Lr_opens cw_Lr_opens d nOb nOb [.ref (ad E 13), .int a1] P E Q :=
  Con.of hG (by decide +kernel) rfl (fun h => by cases h) hE.2 (Nat.le_of_ble_eq_true rfl) (t_f_Lr_opens hG hE d hd a1 P h)
abbrev c_Ne_addCode : ByteArray := prog_4_method_10_code
abbrev y_Ne_addCode : MethodName := ⟨"YawnRoute$Net", "addCode", "(I)V"⟩
abbrev cw_Ne_addCode : Cond := .code y_Ne_addCode c_Ne_addCode 2 none
theorem w_Ne_addCode : VW 2 y_Ne_addCode c_Ne_addCode 2 none 1 := ⟨by decide, lk667, lk668, lk4, lk669, ⟨by decide, by decide, by decide +kernel⟩, by decide⟩
noncomputable def f_Ne_addCode (this : Nat) (a1 : Int32) (P : PM) : Option PM := if (900 : Int32) ≤ (P.1 this 6) then (some P) else (ck (inb (P.1 this 6) 900) (some (u1 (u1 P (this + 4) (P.1 this 6).toNatClampNeg a1) this 6 (((u1 P (this + 4) (P.1 this 6).toNatClampNeg a1).1 this 6) + (1 : Int32)))))
theorem t_f_Ne_addCode {G : GX} (hG : GOK G) {E : EV} (hE : E0 E) (d : Nat) (hd : 1 ≤ d) {Q : QT} (this : Nat) (hthis : sh this = .inl 2) (a1 : Int32) (P : PM) (h : St E rP (f_Ne_addCode this a1 P) Q) : Go G c_Ne_addCode "YawnRoute$Net" 2 none false d nOb nOb Q 0 [(0, .ref (ad E this)), (1, .int a1)] [] P E := by
  rw [f_Ne_addCode] at h
  refine Go.aload_n (k := 0) (i := 0) 0 (by decide +kernel) rfl rfl ?_
  refine Go.get this 6 (.int (P.1 this 6)) (by decide) (by decide) hthis (ltO hE hthis) rfl lk103 (by decide +kernel) ?_
  refine Go.aload_n (k := 0) (i := 0) 0 (by decide +kernel) rfl rfl ?_
  refine Go.get this 5 (.ref (ad E (this + 4))) (by decide) (by decide) hthis (ltO hE hthis) (vlR hE rfl (rfNe_5 hthis)) lk102 (by decide +kernel) ?_
  refine Go.alen (this + 4) 0 900 (900 : Int32) (shNe_5 hthis) (by decide) (ltA hE (shNe_5 hthis) (by decide)) rfl (by decide +kernel) ?_
  refine Go.icmp_ge (off := 23) 32 (by decide +kernel) (by decide) (fun c1 => ?_) (fun c1 => ?_)
  · rw [if_pos c1] at h
    exact Go.vret rfl hE.2 (by decide +kernel) (St.fP h)
  · rw [if_neg c1] at h
    refine Go.aload_n (k := 0) (i := 0) 0 (by decide +kernel) rfl rfl ?_
    refine Go.get this 5 (.ref (ad E (this + 4))) (by decide) (by decide) hthis (ltO hE hthis) (vlR hE rfl (rfNe_5 hthis)) lk102 (by decide +kernel) ?_
    refine Go.aload_n (k := 0) (i := 0) 0 (by decide +kernel) rfl rfl ?_
    refine Go.get this 6 (.int (P.1 this 6)) (by decide) (by decide) hthis (ltO hE hthis) rfl lk103 (by decide +kernel) ?_
    refine Go.iload_n (k := 1) (i := 1) 1 (by decide +kernel) rfl rfl ?_
    obtain ⟨b2, h⟩ := St.ck h
    refine Go.iastore (this + 4) 900 (shNe_5 hthis) (ltA hE (shNe_5 hthis) (by decide)) (inb_in b2) (by decide +kernel) ?_
    refine Go.aload_n (k := 0) (i := 0) 0 (by decide +kernel) rfl rfl ?_
    refine Go.dup (by decide +kernel) rfl ?_
    refine Go.get this 6 (.int ((u1 P (this + 4) (P.1 this 6).toNatClampNeg a1).1 this 6)) (by decide) (by decide) hthis (ltO hE hthis) rfl lk103 (by decide +kernel) ?_
    refine Go.iconst (n := 1) (1 : Int32) (by decide +kernel) rfl ?_
    refine Go.iadd (by decide +kernel) ?_
    refine Go.put this 6 (by decide) (by decide) hthis (ltO hE hthis) (Or.inl rfl) rfl rfl rfl lk103 (by decide +kernel) ?_
    exact Go.vret rfl hE.2 (by decide +kernel) (St.fP h)
theorem e_Ne_addCode {G : GX} (hG : GOK G) {E : EV} (hE : E0 E) (d : Nat) (hd : 1 ≤ d) (this : Nat) (hthis : sh this = .inl 2) (a1 : Int32) (P : PM) {Q : QT} (h : St E rP (f_Ne_addCode this a1 P) Q) : Con G y_Ne_addCode cw_Ne_addCode d nOb nOb [.ref (ad E this), .int a1] P E Q :=
  Con.of hG (by decide +kernel) rfl (fun h => by cases h) hE.2 (Nat.le_of_ble_eq_true rfl) (t_f_Ne_addCode hG hE d hd this hthis a1 P h)
