/-! methods as functions, by program: Mo_next Mo_fails Mo_is Mo_eats Mo_takes Mo_isIn Mo_wordOf Mo_codes -/
abbrev c_Mo_next : ByteArray := prog_14_method_10_code
abbrev y_Mo_next : MethodName := ⟨"YawnRouteModel", "next", "()V"⟩
abbrev cw_Mo_next : Cond := .code y_Mo_next c_Mo_next 2 none
theorem w_Mo_next : VW 12 y_Mo_next c_Mo_next 2 none 0 := ⟨by decide, lk1443, lp46_, lk14, lk1444, ⟨by decide, by decide, by decide +kernel⟩, by decide⟩
noncomputable def j_Mo_next_34 (k8 : PM → Option PM) (P : PM) : Option PM := k8 (u1 P 109 6 ((P.1 109 6) + (1 : Int32)))
noncomputable def l_Mo_next_89 : Nat → PM → Option PM
  | 0, _ => none
  | n + 1, P => (f_Mo_see (P.1 109 7) P).bind (fun v1 => if (f_Mo_isSmall v1 P) = (0 : Int32) then ((f_Mo_keyAt P).bind (fun v3 => some (u1 P 109 9 v3))) else (l_Mo_next_89 n (u1 P 109 7 ((P.1 109 7) + (1 : Int32)))))
noncomputable def j_Mo_next_196 (k146 : PM → Option PM) (P : PM) : Option PM := k146 (u1 P 109 7 ((P.1 109 7) + (1 : Int32)))
noncomputable def j_Mo_next_230 (s1 : Int32) (P : PM) : Option PM := some (u1 P 109 9 s1)
noncomputable def l_Mo_next_146 : Nat → PM → Option PM
  | 0, _ => none
  | n + 1, P => (f_Mo_see (P.1 109 7) P).bind (fun v1 => if (f_Mo_isDigit v1 P) = (0 : Int32) then (if ((P.1 109 7) - (P.1 109 6)) ≤ (3 : Int32) then (j_Mo_next_230 (23 : Int32) P) else (j_Mo_next_230 (25 : Int32) P)) else (if (3 : Int32) ≤ ((P.1 109 7) - (P.1 109 6)) then (j_Mo_next_196 (fun Pz => l_Mo_next_146 n Pz) P) else ((f_Mo_see (P.1 109 7) P).bind (fun v5 => j_Mo_next_196 (fun Pz => l_Mo_next_146 n Pz) (u1 P 109 10 ((((10 : Int32) * (P.1 109 10)) + v5) - (48 : Int32)))))))
noncomputable def j_Mo_next_288 (k254 : Int32 → PM → Option PM) (x1 : Int32) (P : PM) : Option PM := k254 (x1 + (1 : Int32)) P
noncomputable def l_Mo_next_254 : Nat → Int32 → PM → Option PM
  | 0, _, _ => none
  | n + 1, x1, P => if (12 : Int32) ≤ x1 then (some P) else ((f_Mo_see (P.1 109 6) P).bind (fun v2 => ck (inb x1 12) (if v2 = (sch 3 x1) then (j_Mo_next_288 (fun z0 Pz => l_Mo_next_254 n z0 Pz) x1 (u1 P 109 9 ((30 : Int32) + x1))) else (j_Mo_next_288 (fun z0 Pz => l_Mo_next_254 n z0 Pz) x1 P))))
noncomputable def l_Mo_next_8 : Nat → PM → Option PM
  | 0, _ => none
  | n + 1, P => (f_Mo_see (P.1 109 6) P).bind (fun v1 => if v1 = (10 : Int32) then (j_Mo_next_34 (fun Pz => l_Mo_next_8 n Pz) P) else ((f_Mo_see (P.1 109 6) P).bind (fun v3 => if v3 = (32 : Int32) then (j_Mo_next_34 (fun Pz => l_Mo_next_8 n Pz) P) else (if ((u1 P 109 7 (P.1 109 6)).1 109 6) < ((u1 P 109 7 (P.1 109 6)).1 109 8) then ((f_Mo_see ((u1 P 109 7 (P.1 109 6)).1 109 6) (u1 P 109 7 (P.1 109 6))).bind (fun v6 => if (f_Mo_isSmall v6 (u1 P 109 7 (P.1 109 6))) = (0 : Int32) then ((f_Mo_see ((u1 P 109 7 (P.1 109 6)).1 109 6) (u1 P 109 7 (P.1 109 6))).bind (fun v8 => if (f_Mo_isDigit v8 (u1 P 109 7 (P.1 109 6))) = (0 : Int32) then (l_Mo_next_254 FU (0 : Int32) (u1 (u1 (u1 P 109 7 (P.1 109 6)) 109 7 (((u1 P 109 7 (P.1 109 6)).1 109 7) + (1 : Int32))) 109 9 (25 : Int32))) else (l_Mo_next_146 FU (u1 (u1 P 109 7 (P.1 109 6)) 109 10 (0 : Int32))))) else (l_Mo_next_89 FU (u1 P 109 7 (P.1 109 6))))) else (some (u1 (u1 P 109 7 (P.1 109 6)) 109 9 (24 : Int32)))))))
noncomputable def f_Mo_next (P : PM) : Option PM := l_Mo_next_8 FU (u1 P 109 6 (P.1 109 7))
theorem t_j_Mo_next_34 {G : GX} (hG : GOK G) {E : EV} (hE : E0 E) (d : Nat) (hd : 6 ≤ d) {Q : QT} (k8 : PM → Option PM) (hk8 : ∀ (P : PM), St E rP (k8 P) Q → Go G c_Mo_next "YawnRouteModel" 2 none false d nOb nOb Q 8 [(0, .ref (ad E 109))] [] P E) (P : PM) (h : St E rP (j_Mo_next_34 k8 P) Q) : Go G c_Mo_next "YawnRouteModel" 2 none false d nOb nOb Q 34 [(0, .ref (ad E 109))] [] P E := by
  rw [j_Mo_next_34] at h
  refine Go.aload_n (k := 0) (i := 0) 0 (by decide +kernel) rfl rfl ?_
  refine Go.dup (by decide +kernel) rfl ?_
  refine Go.get 109 6 (.int (P.1 109 6)) (by decide) (by decide) sh109 (ltO hE sh109) rfl lk1336 (by decide +kernel) ?_
  refine Go.iconst (n := 1) (1 : Int32) (by decide +kernel) rfl ?_
  refine Go.iadd (by decide +kernel) ?_
  refine Go.put 109 6 (by decide) (by decide) sh109 (ltO hE sh109) (Or.inl rfl) rfl rfl rfl lk1336 (by decide +kernel) ?_
  refine Go.goto (off := -36) 8 (by decide +kernel) (by decide) ?_
  exact hk8 (u1 P 109 6 ((P.1 109 6) + (1 : Int32))) h
theorem t_l_Mo_next_89 {G : GX} (hG : GOK G) {E : EV} (hE : E0 E) (d : Nat) (hd : 6 ≤ d) {Q : QT} : ∀ (n : Nat) (P : PM), St E rP (l_Mo_next_89 n P) Q → Go G c_Mo_next "YawnRouteModel" 2 none false d nOb nOb Q 89 [(0, .ref (ad E 109))] [] P E := by
  intro n
  induction n with
  | zero =>
    intro P h
    rw [l_Mo_next_89] at h
    exact St.none_ h
  | succ n ih =>
    intro P h
    rw [l_Mo_next_89] at h
    refine Go.aload_n (k := 0) (i := 0) 0 (by decide +kernel) rfl rfl ?_
    refine Go.aload_n (k := 0) (i := 0) 0 (by decide +kernel) rfl rfl ?_
    refine Go.get 109 7 (.int (P.1 109 7)) (by decide) (by decide) sh109 (ltO hE sh109) rfl lk1337 (by decide +kernel) ?_
    obtain ⟨v1, hv1, h⟩ := St.bind h
    refine Go.cV_i (P1 := P) (v := v1) (d - 1) 109 [.int (P.1 109 7)] sh109 hE w_Mo_see (e_Mo_see hG hE (d - 1) (by omega) (P.1 109 7) P ⟨_, hv1, rfl, rfl, rfl⟩) lk1445 rfl (by omega) (Nat.le_of_ble_eq_true rfl) (by decide +kernel) _ rfl ?_
    refine Go.cS_i (P1 := P) (v := (f_Mo_isSmall v1 P)) (d - 1) [.int v1] hE w_Mo_isSmall (e_Mo_isSmall hG hE (d - 1) (by omega) v1 P ⟨rfl, rfl, rfl⟩) lk1449 rfl (by omega) (Nat.le_of_ble_eq_true rfl) (by decide +kernel) _ rfl ?_
    refine Go.if_eq (off := 16) 116 (by decide +kernel) (by decide) (fun c2 => ?_) (fun c2 => ?_)
    · rw [if_pos c2] at h
      refine Go.aload_n (k := 0) (i := 0) 0 (by decide +kernel) rfl rfl ?_
      refine Go.aload_n (k := 0) (i := 0) 0 (by decide +kernel) rfl rfl ?_
      obtain ⟨v3, hv3, h⟩ := St.bind h
      refine Go.cV_i (P1 := P) (v := v3) (d - 1) 109 [] sh109 hE w_Mo_keyAt (e_Mo_keyAt hG hE (d - 1) (by omega) P ⟨_, hv3, rfl, rfl, rfl⟩) lk1452 rfl (by omega) (Nat.le_of_ble_eq_true rfl) (by decide +kernel) _ rfl ?_
      refine Go.put 109 9 (by decide) (by decide) sh109 (ltO hE sh109) (Or.inl rfl) rfl rfl rfl lk1339 (by decide +kernel) ?_
      refine Go.goto (off := 170) 294 (by decide +kernel) (by decide) ?_
      exact Go.vret rfl hE.2 (by decide +kernel) (St.fP h)
    · rw [if_neg c2] at h
      refine Go.aload_n (k := 0) (i := 0) 0 (by decide +kernel) rfl rfl ?_
      refine Go.dup (by decide +kernel) rfl ?_
      refine Go.get 109 7 (.int (P.1 109 7)) (by decide) (by decide) sh109 (ltO hE sh109) rfl lk1337 (by decide +kernel) ?_
      refine Go.iconst (n := 1) (1 : Int32) (by decide +kernel) rfl ?_
      refine Go.iadd (by decide +kernel) ?_
      refine Go.put 109 7 (by decide) (by decide) sh109 (ltO hE sh109) (Or.inl rfl) rfl rfl rfl lk1337 (by decide +kernel) ?_
      refine Go.goto (off := -24) 89 (by decide +kernel) (by decide) ?_
      exact ih (u1 P 109 7 ((P.1 109 7) + (1 : Int32))) h
theorem t_j_Mo_next_196 {G : GX} (hG : GOK G) {E : EV} (hE : E0 E) (d : Nat) (hd : 6 ≤ d) {Q : QT} (k146 : PM → Option PM) (hk146 : ∀ (P : PM), St E rP (k146 P) Q → Go G c_Mo_next "YawnRouteModel" 2 none false d nOb nOb Q 146 [(0, .ref (ad E 109))] [] P E) (P : PM) (h : St E rP (j_Mo_next_196 k146 P) Q) : Go G c_Mo_next "YawnRouteModel" 2 none false d nOb nOb Q 196 [(0, .ref (ad E 109))] [] P E := by
  rw [j_Mo_next_196] at h
  refine Go.aload_n (k := 0) (i := 0) 0 (by decide +kernel) rfl rfl ?_
  refine Go.dup (by decide +kernel) rfl ?_
  refine Go.get 109 7 (.int (P.1 109 7)) (by decide) (by decide) sh109 (ltO hE sh109) rfl lk1337 (by decide +kernel) ?_
  refine Go.iconst (n := 1) (1 : Int32) (by decide +kernel) rfl ?_
  refine Go.iadd (by decide +kernel) ?_
  refine Go.put 109 7 (by decide) (by decide) sh109 (ltO hE sh109) (Or.inl rfl) rfl rfl rfl lk1337 (by decide +kernel) ?_
  refine Go.goto (off := -60) 146 (by decide +kernel) (by decide) ?_
  exact hk146 (u1 P 109 7 ((P.1 109 7) + (1 : Int32))) h
theorem t_j_Mo_next_230 {G : GX} (hG : GOK G) {E : EV} (hE : E0 E) (d : Nat) (hd : 6 ≤ d) {Q : QT} (s1 : Int32) (P : PM) (h : St E rP (j_Mo_next_230 s1 P) Q) : Go G c_Mo_next "YawnRouteModel" 2 none false d nOb nOb Q 230 [] [.int s1, .ref (ad E 109)] P E := by
  rw [j_Mo_next_230] at h
  refine Go.put 109 9 (by decide) (by decide) sh109 (ltO hE sh109) (Or.inl rfl) rfl rfl rfl lk1339 (by decide +kernel) ?_
  refine Go.goto (off := 61) 294 (by decide +kernel) (by decide) ?_
  exact Go.vret rfl hE.2 (by decide +kernel) (St.fP h)
theorem t_l_Mo_next_146 {G : GX} (hG : GOK G) {E : EV} (hE : E0 E) (d : Nat) (hd : 6 ≤ d) {Q : QT} : ∀ (n : Nat) (P : PM), St E rP (l_Mo_next_146 n P) Q → Go G c_Mo_next "YawnRouteModel" 2 none false d nOb nOb Q 146 [(0, .ref (ad E 109))] [] P E := by
  intro n
  induction n with
  | zero =>
    intro P h
    rw [l_Mo_next_146] at h
    exact St.none_ h
  | succ n ih =>
    intro P h
    rw [l_Mo_next_146] at h
    refine Go.aload_n (k := 0) (i := 0) 0 (by decide +kernel) rfl rfl ?_
    refine Go.aload_n (k := 0) (i := 0) 0 (by decide +kernel) rfl rfl ?_
    refine Go.get 109 7 (.int (P.1 109 7)) (by decide) (by decide) sh109 (ltO hE sh109) rfl lk1337 (by decide +kernel) ?_
    obtain ⟨v1, hv1, h⟩ := St.bind h
    refine Go.cV_i (P1 := P) (v := v1) (d - 1) 109 [.int (P.1 109 7)] sh109 hE w_Mo_see (e_Mo_see hG hE (d - 1) (by omega) (P.1 109 7) P ⟨_, hv1, rfl, rfl, rfl⟩) lk1445 rfl (by omega) (Nat.le_of_ble_eq_true rfl) (by decide +kernel) _ rfl ?_
    refine Go.cS_i (P1 := P) (v := (f_Mo_isDigit v1 P)) (d - 1) [.int v1] hE w_Mo_isDigit (e_Mo_isDigit hG hE (d - 1) (by omega) v1 P ⟨rfl, rfl, rfl⟩) lk1459 rfl (by omega) (Nat.le_of_ble_eq_true rfl) (by decide +kernel) _ rfl ?_
    refine Go.if_eq (off := 52) 209 (by decide +kernel) (by decide) (fun c2 => ?_) (fun c2 => ?_)
    · rw [if_pos c2] at h
      refine Go.aload_n (k := 0) (i := 0) 0 (by decide +kernel) rfl rfl ?_
      refine Go.aload_n (k := 0) (i := 0) 0 (by decide +kernel) rfl rfl ?_
      refine Go.get 109 7 (.int (P.1 109 7)) (by decide) (by decide) sh109 (ltO hE sh109) rfl lk1337 (by decide +kernel) ?_
      refine Go.aload_n (k := 0) (i := 0) 0 (by decide +kernel) rfl rfl ?_
      refine Go.get 109 6 (.int (P.1 109 6)) (by decide) (by decide) sh109 (ltO hE sh109) rfl lk1336 (by decide +kernel) ?_
      refine Go.isub (by decide +kernel) ?_
      refine Go.iconst (n := 3) (3 : Int32) (by decide +kernel) rfl ?_
      refine Go.icmp_le (off := 8) 228 (by decide +kernel) (by decide) (fun c3 => ?_) (fun c3 => ?_)
      · rw [if_pos c3] at h
        refine Go.bipush (n := 23) (23 : Int32) (by decide +kernel) (by decide) ?_
        refine Go.sub [] [] rfl ?_
        exact t_j_Mo_next_230 hG hE d hd (23 : Int32) P h
      · rw [if_neg c3] at h
        refine Go.bipush (n := 25) (25 : Int32) (by decide +kernel) (by decide) ?_
        refine Go.goto (off := 5) 230 (by decide +kernel) (by decide) ?_
        refine Go.sub [] [] rfl ?_
        exact t_j_Mo_next_230 hG hE d hd (25 : Int32) P h
    · rw [if_neg c2] at h
      refine Go.aload_n (k := 0) (i := 0) 0 (by decide +kernel) rfl rfl ?_
      refine Go.get 109 7 (.int (P.1 109 7)) (by decide) (by decide) sh109 (ltO hE sh109) rfl lk1337 (by decide +kernel) ?_
      refine Go.aload_n (k := 0) (i := 0) 0 (by decide +kernel) rfl rfl ?_
      refine Go.get 109 6 (.int (P.1 109 6)) (by decide) (by decide) sh109 (ltO hE sh109) rfl lk1336 (by decide +kernel) ?_
      refine Go.isub (by decide +kernel) ?_
      refine Go.iconst (n := 3) (3 : Int32) (by decide +kernel) rfl ?_
      refine Go.icmp_ge (off := 26) 196 (by decide +kernel) (by decide) (fun c4 => ?_) (fun c4 => ?_)
      · rw [if_pos c4] at h
        exact t_j_Mo_next_196 hG hE d hd (fun Pz => l_Mo_next_146 n Pz) (fun Pz q => ih Pz q) P h
      · rw [if_neg c4] at h
        refine Go.aload_n (k := 0) (i := 0) 0 (by decide +kernel) rfl rfl ?_
        refine Go.bipush (n := 10) (10 : Int32) (by decide +kernel) (by decide) ?_
        refine Go.aload_n (k := 0) (i := 0) 0 (by decide +kernel) rfl rfl ?_
        refine Go.get 109 10 (.int (P.1 109 10)) (by decide) (by decide) sh109 (ltO hE sh109) rfl lk1340 (by decide +kernel) ?_
        refine Go.imul (by decide +kernel) ?_
        refine Go.aload_n (k := 0) (i := 0) 0 (by decide +kernel) rfl rfl ?_
        refine Go.aload_n (k := 0) (i := 0) 0 (by decide +kernel) rfl rfl ?_
        refine Go.get 109 7 (.int (P.1 109 7)) (by decide) (by decide) sh109 (ltO hE sh109) rfl lk1337 (by decide +kernel) ?_
        obtain ⟨v5, hv5, h⟩ := St.bind h
        refine Go.cV_i (P1 := P) (v := v5) (d - 1) 109 [.int (P.1 109 7)] sh109 hE w_Mo_see (e_Mo_see hG hE (d - 1) (by omega) (P.1 109 7) P ⟨_, hv5, rfl, rfl, rfl⟩) lk1445 rfl (by omega) (Nat.le_of_ble_eq_true rfl) (by decide +kernel) _ rfl ?_
        refine Go.iadd (by decide +kernel) ?_
        refine Go.bipush (n := 48) (48 : Int32) (by decide +kernel) (by decide) ?_
        refine Go.isub (by decide +kernel) ?_
        refine Go.put 109 10 (by decide) (by decide) sh109 (ltO hE sh109) (Or.inl rfl) rfl rfl rfl lk1340 (by decide +kernel) ?_
        exact t_j_Mo_next_196 hG hE d hd (fun Pz => l_Mo_next_146 n Pz) (fun Pz q => ih Pz q) (u1 P 109 10 ((((10 : Int32) * (P.1 109 10)) + v5) - (48 : Int32))) h
theorem t_j_Mo_next_288 {G : GX} (hG : GOK G) {E : EV} (hE : E0 E) (d : Nat) (hd : 6 ≤ d) {Q : QT} (k254 : Int32 → PM → Option PM) (hk254 : ∀ (x1 : Int32) (P : PM), St E rP (k254 x1 P) Q → Go G c_Mo_next "YawnRouteModel" 2 none false d nOb nOb Q 254 [(0, .ref (ad E 109)), (1, .int x1)] [] P E) (x1 : Int32) (P : PM) (h : St E rP (j_Mo_next_288 k254 x1 P) Q) : Go G c_Mo_next "YawnRouteModel" 2 none false d nOb nOb Q 288 [(0, .ref (ad E 109)), (1, .int x1)] [] P E := by
  rw [j_Mo_next_288] at h
  refine Go.iinc (i := 1) (n := 1) 1 (x1 + (1 : Int32)) [(1, .int (x1 + (1 : Int32))), (0, .ref (ad E 109))] (by decide +kernel) rfl rfl (by decide) rfl ?_
  refine Go.goto (off := -37) 254 (by decide +kernel) (by decide) ?_
  refine Go.sub [1, 0] [(0, .ref (ad E 109)), (1, .int (x1 + (1 : Int32)))] rfl ?_
  exact hk254 (x1 + (1 : Int32)) P h
theorem t_l_Mo_next_254 {G : GX} (hG : GOK G) {E : EV} (hE : E0 E) (d : Nat) (hd : 6 ≤ d) {Q : QT} : ∀ (n : Nat) (x1 : Int32) (P : PM), St E rP (l_Mo_next_254 n x1 P) Q → Go G c_Mo_next "YawnRouteModel" 2 none false d nOb nOb Q 254 [(0, .ref (ad E 109)), (1, .int x1)] [] P E := by
  intro n
  induction n with
  | zero =>
    intro x1 P h
    rw [l_Mo_next_254] at h
    exact St.none_ h
  | succ n ih =>
    intro x1 P h
    rw [l_Mo_next_254] at h
    refine Go.iload_n (k := 1) (i := 1) 1 (by decide +kernel) rfl rfl ?_
    refine Go.ldcS (idx := 127) 3 (by decide) rfl (by decide +kernel) ?_
    refine Go.strLen (i := 3) (12 : Int32) (by decide) rfl lk1457 hE (by omega) (Nat.le_of_ble_eq_true rfl) (by decide +kernel) ?_
    refine Go.icmp_ge (off := 34) 294 (by decide +kernel) (by decide) (fun c1 => ?_) (fun c1 => ?_)
    · rw [if_pos c1] at h
      exact Go.vret rfl hE.2 (by decide +kernel) (St.fP h)
    · rw [if_neg c1] at h
      refine Go.aload_n (k := 0) (i := 0) 0 (by decide +kernel) rfl rfl ?_
      refine Go.aload_n (k := 0) (i := 0) 0 (by decide +kernel) rfl rfl ?_
      refine Go.get 109 6 (.int (P.1 109 6)) (by decide) (by decide) sh109 (ltO hE sh109) rfl lk1336 (by decide +kernel) ?_
      obtain ⟨v2, hv2, h⟩ := St.bind h
      refine Go.cV_i (P1 := P) (v := v2) (d - 1) 109 [.int (P.1 109 6)] sh109 hE w_Mo_see (e_Mo_see hG hE (d - 1) (by omega) (P.1 109 6) P ⟨_, hv2, rfl, rfl, rfl⟩) lk1445 rfl (by omega) (Nat.le_of_ble_eq_true rfl) (by decide +kernel) _ rfl ?_
      refine Go.ldcS (idx := 127) 3 (by decide) rfl (by decide +kernel) ?_
      refine Go.iload_n (k := 1) (i := 1) 1 (by decide +kernel) rfl rfl ?_
      obtain ⟨b3, h⟩ := St.ck h
      refine Go.strChar (i := 3) (by decide) b3 lk1458 hE (by omega) (Nat.le_of_ble_eq_true rfl) (by decide +kernel) ?_
      refine Go.icmp_ne (off := 11) 288 (by decide +kernel) (by decide) (fun c4 => ?_) (fun c4 => ?_)
      · rw [if_neg c4] at h
        exact t_j_Mo_next_288 hG hE d hd (fun z0 Pz => l_Mo_next_254 n z0 Pz) (fun z0 Pz q => ih z0 Pz q) x1 P h
      · rw [if_pos c4] at h
        refine Go.aload_n (k := 0) (i := 0) 0 (by decide +kernel) rfl rfl ?_
        refine Go.bipush (n := 30) (30 : Int32) (by decide +kernel) (by decide) ?_
        refine Go.iload_n (k := 1) (i := 1) 1 (by decide +kernel) rfl rfl ?_
        refine Go.iadd (by decide +kernel) ?_
        refine Go.put 109 9 (by decide) (by decide) sh109 (ltO hE sh109) (Or.inl rfl) rfl rfl rfl lk1339 (by decide +kernel) ?_
        exact t_j_Mo_next_288 hG hE d hd (fun z0 Pz => l_Mo_next_254 n z0 Pz) (fun z0 Pz q => ih z0 Pz q) x1 (u1 P 109 9 ((30 : Int32) + x1)) h
theorem t_l_Mo_next_8 {G : GX} (hG : GOK G) {E : EV} (hE : E0 E) (d : Nat) (hd : 6 ≤ d) {Q : QT} : ∀ (n : Nat) (P : PM), St E rP (l_Mo_next_8 n P) Q → Go G c_Mo_next "YawnRouteModel" 2 none false d nOb nOb Q 8 [(0, .ref (ad E 109))] [] P E := by
  intro n
  induction n with
  | zero =>
    intro P h
    rw [l_Mo_next_8] at h
    exact St.none_ h
  | succ n ih =>
    intro P h
    rw [l_Mo_next_8] at h
    refine Go.aload_n (k := 0) (i := 0) 0 (by decide +kernel) rfl rfl ?_
    refine Go.aload_n (k := 0) (i := 0) 0 (by decide +kernel) rfl rfl ?_
    refine Go.get 109 6 (.int (P.1 109 6)) (by decide) (by decide) sh109 (ltO hE sh109) rfl lk1336 (by decide +kernel) ?_
    obtain ⟨v1, hv1, h⟩ := St.bind h
    refine Go.cV_i (P1 := P) (v := v1) (d - 1) 109 [.int (P.1 109 6)] sh109 hE w_Mo_see (e_Mo_see hG hE (d - 1) (by omega) (P.1 109 6) P ⟨_, hv1, rfl, rfl, rfl⟩) lk1445 rfl (by omega) (Nat.le_of_ble_eq_true rfl) (by decide +kernel) _ rfl ?_
    refine Go.bipush (n := 10) (10 : Int32) (by decide +kernel) (by decide) ?_
    refine Go.icmp_eq (off := 16) 34 (by decide +kernel) (by decide) (fun c2 => ?_) (fun c2 => ?_)
    · rw [if_pos c2] at h
      exact t_j_Mo_next_34 hG hE d hd (fun Pz => l_Mo_next_8 n Pz) (fun Pz q => ih Pz q) P h
    · rw [if_neg c2] at h
      refine Go.aload_n (k := 0) (i := 0) 0 (by decide +kernel) rfl rfl ?_
      refine Go.aload_n (k := 0) (i := 0) 0 (by decide +kernel) rfl rfl ?_
      refine Go.get 109 6 (.int (P.1 109 6)) (by decide) (by decide) sh109 (ltO hE sh109) rfl lk1336 (by decide +kernel) ?_
      obtain ⟨v3, hv3, h⟩ := St.bind h
      refine Go.cV_i (P1 := P) (v := v3) (d - 1) 109 [.int (P.1 109 6)] sh109 hE w_Mo_see (e_Mo_see hG hE (d - 1) (by omega) (P.1 109 6) P ⟨_, hv3, rfl, rfl, rfl⟩) lk1445 rfl (by omega) (Nat.le_of_ble_eq_true rfl) (by decide +kernel) _ rfl ?_
      refine Go.bipush (n := 32) (32 : Int32) (by decide +kernel) (by decide) ?_
      refine Go.icmp_ne (off := 16) 47 (by decide +kernel) (by decide) (fun c4 => ?_) (fun c4 => ?_)
      · rw [if_neg c4] at h
        refine Go.aload_n (k := 0) (i := 0) 0 (by decide +kernel) rfl rfl ?_
        refine Go.aload_n (k := 0) (i := 0) 0 (by decide +kernel) rfl rfl ?_
        refine Go.get 109 6 (.int (P.1 109 6)) (by decide) (by decide) sh109 (ltO hE sh109) rfl lk1336 (by decide +kernel) ?_
        refine Go.put 109 7 (by decide) (by decide) sh109 (ltO hE sh109) (Or.inl rfl) rfl rfl rfl lk1337 (by decide +kernel) ?_
        refine Go.aload_n (k := 0) (i := 0) 0 (by decide +kernel) rfl rfl ?_
        refine Go.get 109 6 (.int ((u1 P 109 7 (P.1 109 6)).1 109 6)) (by decide) (by decide) sh109 (ltO hE sh109) rfl lk1336 (by decide +kernel) ?_
        refine Go.aload_n (k := 0) (i := 0) 0 (by decide +kernel) rfl rfl ?_
        refine Go.get 109 8 (.int ((u1 P 109 7 (P.1 109 6)).1 109 8)) (by decide) (by decide) sh109 (ltO hE sh109) rfl lk1338 (by decide +kernel) ?_
        refine Go.icmp_lt (off := 12) 75 (by decide +kernel) (by decide) (fun c5 => ?_) (fun c5 => ?_)
        · rw [if_pos c5] at h
          refine Go.aload_n (k := 0) (i := 0) 0 (by decide +kernel) rfl rfl ?_
          refine Go.aload_n (k := 0) (i := 0) 0 (by decide +kernel) rfl rfl ?_
          refine Go.get 109 6 (.int ((u1 P 109 7 (P.1 109 6)).1 109 6)) (by decide) (by decide) sh109 (ltO hE sh109) rfl lk1336 (by decide +kernel) ?_
          obtain ⟨v6, hv6, h⟩ := St.bind h
          refine Go.cV_i (P1 := (u1 P 109 7 (P.1 109 6))) (v := v6) (d - 1) 109 [.int ((u1 P 109 7 (P.1 109 6)).1 109 6)] sh109 hE w_Mo_see (e_Mo_see hG hE (d - 1) (by omega) ((u1 P 109 7 (P.1 109 6)).1 109 6) (u1 P 109 7 (P.1 109 6)) ⟨_, hv6, rfl, rfl, rfl⟩) lk1445 rfl (by omega) (Nat.le_of_ble_eq_true rfl) (by decide +kernel) _ rfl ?_
          refine Go.cS_i (P1 := (u1 P 109 7 (P.1 109 6))) (v := (f_Mo_isSmall v6 (u1 P 109 7 (P.1 109 6)))) (d - 1) [.int v6] hE w_Mo_isSmall (e_Mo_isSmall hG hE (d - 1) (by omega) v6 (u1 P 109 7 (P.1 109 6)) ⟨rfl, rfl, rfl⟩) lk1449 rfl (by omega) (Nat.le_of_ble_eq_true rfl) (by decide +kernel) _ rfl ?_
          refine Go.if_eq (off := 41) 127 (by decide +kernel) (by decide) (fun c7 => ?_) (fun c7 => ?_)
          · rw [if_pos c7] at h
            refine Go.aload_n (k := 0) (i := 0) 0 (by decide +kernel) rfl rfl ?_
            refine Go.aload_n (k := 0) (i := 0) 0 (by decide +kernel) rfl rfl ?_
            refine Go.get 109 6 (.int ((u1 P 109 7 (P.1 109 6)).1 109 6)) (by decide) (by decide) sh109 (ltO hE sh109) rfl lk1336 (by decide +kernel) ?_
            obtain ⟨v8, hv8, h⟩ := St.bind h
            refine Go.cV_i (P1 := (u1 P 109 7 (P.1 109 6))) (v := v8) (d - 1) 109 [.int ((u1 P 109 7 (P.1 109 6)).1 109 6)] sh109 hE w_Mo_see (e_Mo_see hG hE (d - 1) (by omega) ((u1 P 109 7 (P.1 109 6)).1 109 6) (u1 P 109 7 (P.1 109 6)) ⟨_, hv8, rfl, rfl, rfl⟩) lk1445 rfl (by omega) (Nat.le_of_ble_eq_true rfl) (by decide +kernel) _ rfl ?_
            refine Go.cS_i (P1 := (u1 P 109 7 (P.1 109 6))) (v := (f_Mo_isDigit v8 (u1 P 109 7 (P.1 109 6)))) (d - 1) [.int v8] hE w_Mo_isDigit (e_Mo_isDigit hG hE (d - 1) (by omega) v8 (u1 P 109 7 (P.1 109 6)) ⟨rfl, rfl, rfl⟩) lk1459 rfl (by omega) (Nat.le_of_ble_eq_true rfl) (by decide +kernel) _ rfl ?_
            refine Go.if_eq (off := 98) 236 (by decide +kernel) (by decide) (fun c9 => ?_) (fun c9 => ?_)
            · rw [if_pos c9] at h
              refine Go.aload_n (k := 0) (i := 0) 0 (by decide +kernel) rfl rfl ?_
              refine Go.dup (by decide +kernel) rfl ?_
              refine Go.get 109 7 (.int ((u1 P 109 7 (P.1 109 6)).1 109 7)) (by decide) (by decide) sh109 (ltO hE sh109) rfl lk1337 (by decide +kernel) ?_
              refine Go.iconst (n := 1) (1 : Int32) (by decide +kernel) rfl ?_
              refine Go.iadd (by decide +kernel) ?_
              refine Go.put 109 7 (by decide) (by decide) sh109 (ltO hE sh109) (Or.inl rfl) rfl rfl rfl lk1337 (by decide +kernel) ?_
              refine Go.aload_n (k := 0) (i := 0) 0 (by decide +kernel) rfl rfl ?_
              refine Go.bipush (n := 25) (25 : Int32) (by decide +kernel) (by decide) ?_
              refine Go.put 109 9 (by decide) (by decide) sh109 (ltO hE sh109) (Or.inl rfl) rfl rfl rfl lk1339 (by decide +kernel) ?_
              refine Go.iconst (n := 0) (0 : Int32) (by decide +kernel) rfl ?_
              refine Go.istore_n (k := 1) (i := 1) [(1, .int (0 : Int32)), (0, .ref (ad E 109))] (by decide +kernel) rfl (by decide) rfl ?_
              refine Go.sub [1, 0] [(0, .ref (ad E 109)), (1, .int (0 : Int32))] rfl ?_
              exact t_l_Mo_next_254 hG hE d hd FU (0 : Int32) (u1 (u1 (u1 P 109 7 (P.1 109 6)) 109 7 (((u1 P 109 7 (P.1 109 6)).1 109 7) + (1 : Int32))) 109 9 (25 : Int32)) h
            · rw [if_neg c9] at h
              refine Go.aload_n (k := 0) (i := 0) 0 (by decide +kernel) rfl rfl ?_
              refine Go.iconst (n := 0) (0 : Int32) (by decide +kernel) rfl ?_
              refine Go.put 109 10 (by decide) (by decide) sh109 (ltO hE sh109) (Or.inl rfl) rfl rfl rfl lk1340 (by decide +kernel) ?_
              exact t_l_Mo_next_146 hG hE d hd FU (u1 (u1 P 109 7 (P.1 109 6)) 109 10 (0 : Int32)) h
          · rw [if_neg c7] at h
            exact t_l_Mo_next_89 hG hE d hd FU (u1 P 109 7 (P.1 109 6)) h
        · rw [if_neg c5] at h
          refine Go.aload_n (k := 0) (i := 0) 0 (by decide +kernel) rfl rfl ?_
          refine Go.bipush (n := 24) (24 : Int32) (by decide +kernel) (by decide) ?_
          refine Go.put 109 9 (by decide) (by decide) sh109 (ltO hE sh109) (Or.inl rfl) rfl rfl rfl lk1339 (by decide +kernel) ?_
          refine Go.goto (off := 222) 294 (by decide +kernel) (by decide) ?_
          exact Go.vret rfl hE.2 (by decide +kernel) (St.fP h)
      · rw [if_pos c4] at h
        exact t_j_Mo_next_34 hG hE d hd (fun Pz => l_Mo_next_8 n Pz) (fun Pz q => ih Pz q) P h
theorem t_f_Mo_next {G : GX} (hG : GOK G) {E : EV} (hE : E0 E) (d : Nat) (hd : 6 ≤ d) {Q : QT} (P : PM) (h : St E rP (f_Mo_next P) Q) : Go G c_Mo_next "YawnRouteModel" 2 none false d nOb nOb Q 0 [(0, .ref (ad E 109))] [] P E := by
  rw [f_Mo_next] at h
  refine Go.aload_n (k := 0) (i := 0) 0 (by decide +kernel) rfl rfl ?_
  refine Go.aload_n (k := 0) (i := 0) 0 (by decide +kernel) rfl rfl ?_
  refine Go.get 109 7 (.int (P.1 109 7)) (by decide) (by decide) sh109 (ltO hE sh109) rfl lk1337 (by decide +kernel) ?_
  refine Go.put 109 6 (by decide) (by decide) sh109 (ltO hE sh109) (Or.inl rfl) rfl rfl rfl lk1336 (by decide +kernel) ?_
  exact t_l_Mo_next_8 hG hE d hd FU (u1 P 109 6 (P.1 109 7)) h
theorem e_Mo_next {G : GX} (hG : GOK G) {E : EV} (hE : E0 E) (d : Nat) (hd : 6 ≤ d) (P : PM) {Q : QT} (h : St E rP (f_Mo_next P) Q) : Con G y_Mo_next cw_Mo_next d nOb nOb [.ref (ad E 109)] P E Q :=
  Con.of hG (by decide +kernel) rfl (fun h => by cases h) hE.2 (Nat.le_of_ble_eq_true rfl) (t_f_Mo_next hG hE d hd P h)
abbrev c_Mo_fails : ByteArray := prog_14_method_11_code
abbrev y_Mo_fails : MethodName := ⟨"YawnRouteModel", "fails", "(I)V"⟩
abbrev cw_Mo_fails : Cond := .code y_Mo_fails c_Mo_fails 2 none
theorem w_Mo_fails : VW 12 y_Mo_fails c_Mo_fails 2 none 1 := ⟨by decide, lk1473, lp51_, lk14, lk1474, ⟨by decide, by decide, by decide +kernel⟩, by decide⟩
noncomputable def j_Mo_fails_23 (s1 : Int32) (P : PM) : Option PM := some (u1 (u1 P 109 11 s1) 109 12 ((u1 P 109 11 s1).1 109 6))
noncomputable def f_Mo_fails (a1 : Int32) (P : PM) : Option PM := if (P.1 109 11) = (0 : Int32) then (if (P.1 109 9) = (25 : Int32) then (j_Mo_fails_23 (1 : Int32) P) else (j_Mo_fails_23 a1 P)) else (some P)
theorem t_j_Mo_fails_23 {G : GX} (hG : GOK G) {E : EV} (hE : E0 E) (d : Nat) (hd : 1 ≤ d) {Q : QT} (s1 : Int32) (P : PM) (h : St E rP (j_Mo_fails_23 s1 P) Q) : Go G c_Mo_fails "YawnRouteModel" 2 none false d nOb nOb Q 23 [(0, .ref (ad E 109))] [.int s1, .ref (ad E 109)] P E := by
  rw [j_Mo_fails_23] at h
  refine Go.put 109 11 (by decide) (by decide) sh109 (ltO hE sh109) (Or.inl rfl) rfl rfl rfl lk1341 (by decide +kernel) ?_
  refine Go.aload_n (k := 0) (i := 0) 0 (by decide +kernel) rfl rfl ?_
  refine Go.aload_n (k := 0) (i := 0) 0 (by decide +kernel) rfl rfl ?_
  refine Go.get 109 6 (.int ((u1 P 109 11 s1).1 109 6)) (by decide) (by decide) sh109 (ltO hE sh109) rfl lk1336 (by decide +kernel) ?_
  refine Go.put 109 12 (by decide) (by decide) sh109 (ltO hE sh109) (Or.inl rfl) rfl rfl rfl lk1342 (by decide +kernel) ?_
  exact Go.vret rfl hE.2 (by decide +kernel) (St.fP h)
theorem t_f_Mo_fails {G : GX} (hG : GOK G) {E : EV} (hE : E0 E) (d : Nat) (hd : 1 ≤ d) {Q : QT} (a1 : Int32) (P : PM) (h : St E rP (f_Mo_fails a1 P) Q) : Go G c_Mo_fails "YawnRouteModel" 2 none false d nOb nOb Q 0 [(0, .ref (ad E 109)), (1, .int a1)] [] P E := by
  rw [f_Mo_fails] at h
  refine Go.aload_n (k := 0) (i := 0) 0 (by decide +kernel) rfl rfl ?_
  refine Go.get 109 11 (.int (P.1 109 11)) (by decide) (by decide) sh109 (ltO hE sh109) rfl lk1341 (by decide +kernel) ?_
  refine Go.if_eq (off := 4) 8 (by decide +kernel) (by decide) (fun c1 => ?_) (fun c1 => ?_)
  · rw [if_pos c1] at h
    refine Go.aload_n (k := 0) (i := 0) 0 (by decide +kernel) rfl rfl ?_
    refine Go.aload_n (k := 0) (i := 0) 0 (by decide +kernel) rfl rfl ?_
    refine Go.get 109 9 (.int (P.1 109 9)) (by decide) (by decide) sh109 (ltO hE sh109) rfl lk1339 (by decide +kernel) ?_
    refine Go.bipush (n := 25) (25 : Int32) (by decide +kernel) (by decide) ?_
    refine Go.icmp_ne (off := 7) 22 (by decide +kernel) (by decide) (fun c2 => ?_) (fun c2 => ?_)
    · rw [if_neg c2] at h
      refine Go.iload_n (k := 1) (i := 1) 1 (by decide +kernel) rfl rfl ?_
      refine Go.sub [0] [(0, .ref (ad E 109))] rfl ?_
      exact t_j_Mo_fails_23 hG hE d hd a1 P h
    · rw [if_pos c2] at h
      refine Go.iconst (n := 1) (1 : Int32) (by decide +kernel) rfl ?_
      refine Go.goto (off := 4) 23 (by decide +kernel) (by decide) ?_
      refine Go.sub [0] [(0, .ref (ad E 109))] rfl ?_
      exact t_j_Mo_fails_23 hG hE d hd (1 : Int32) P h
  · rw [if_neg c1] at h
    exact Go.vret rfl hE.2 (by decide +kernel) (St.fP h)
theorem e_Mo_fails {G : GX} (hG : GOK G) {E : EV} (hE : E0 E) (d : Nat) (hd : 1 ≤ d) (a1 : Int32) (P : PM) {Q : QT} (h : St E rP (f_Mo_fails a1 P) Q) : Con G y_Mo_fails cw_Mo_fails d nOb nOb [.ref (ad E 109), .int a1] P E Q :=
  Con.of hG (by decide +kernel) rfl (fun h => by cases h) hE.2 (Nat.le_of_ble_eq_true rfl) (t_f_Mo_fails hG hE d hd a1 P h)
abbrev c_Mo_is : ByteArray := prog_14_method_12_code
abbrev y_Mo_is : MethodName := ⟨"YawnRouteModel", "is", "(I)Z"⟩
abbrev cw_Mo_is : Cond := .code y_Mo_is c_Mo_is 2 (some .boolean)
theorem w_Mo_is : VW 12 y_Mo_is c_Mo_is 2 (some .boolean) 1 := ⟨by decide, lk1469, lp50_, lk14, lk1470, ⟨by decide, by decide, by decide +kernel⟩, by decide⟩
noncomputable def j_Mo_is_19 (P : PM) : Int32 := (0 : Int32)
noncomputable def f_Mo_is (a1 : Int32) (P : PM) : Int32 := if (P.1 109 11) = (0 : Int32) then (if (P.1 109 9) = a1 then ((1 : Int32)) else (j_Mo_is_19 P)) else (j_Mo_is_19 P)
theorem t_j_Mo_is_19 {G : GX} (hG : GOK G) {E : EV} (hE : E0 E) (d : Nat) (hd : 1 ≤ d) {P : PM} {Q : QT} (h : Q (some (.int (j_Mo_is_19 P))) P E) : Go G c_Mo_is "YawnRouteModel" 2 (some .boolean) false d nOb nOb Q 19 [] [] P E := by
  rw [j_Mo_is_19] at h
  refine Go.iconst (n := 0) (0 : Int32) (by decide +kernel) rfl ?_
  exact Go.iret rfl rfl hE.2 (by decide +kernel) h
theorem t_f_Mo_is {G : GX} (hG : GOK G) {E : EV} (hE : E0 E) (d : Nat) (hd : 1 ≤ d) {P : PM} {Q : QT} (a1 : Int32) (h : Q (some (.int (f_Mo_is a1 P))) P E) : Go G c_Mo_is "YawnRouteModel" 2 (some .boolean) false d nOb nOb Q 0 [(0, .ref (ad E 109)), (1, .int a1)] [] P E := by
  rw [f_Mo_is] at h
  refine Go.aload_n (k := 0) (i := 0) 0 (by decide +kernel) rfl rfl ?_
  refine Go.get 109 11 (.int (P.1 109 11)) (by decide) (by decide) sh109 (ltO hE sh109) rfl lk1341 (by decide +kernel) ?_
  refine Go.if_ne (off := 15) 19 (by decide +kernel) (by decide) (fun c1 => ?_) (fun c1 => ?_)
  · rw [if_neg c1] at h
    refine Go.sub [] [] rfl ?_
    exact t_j_Mo_is_19 hG hE d hd h
  · rw [if_pos c1] at h
    refine Go.aload_n (k := 0) (i := 0) 0 (by decide +kernel) rfl rfl ?_
    refine Go.get 109 9 (.int (P.1 109 9)) (by decide) (by decide) sh109 (ltO hE sh109) rfl lk1339 (by decide +kernel) ?_
    refine Go.iload_n (k := 1) (i := 1) 1 (by decide +kernel) rfl rfl ?_
    refine Go.icmp_ne (off := 7) 19 (by decide +kernel) (by decide) (fun c2 => ?_) (fun c2 => ?_)
    · rw [if_neg c2] at h
      refine Go.sub [] [] rfl ?_
      exact t_j_Mo_is_19 hG hE d hd h
    · rw [if_pos c2] at h
      refine Go.iconst (n := 1) (1 : Int32) (by decide +kernel) rfl ?_
      refine Go.goto (off := 4) 20 (by decide +kernel) (by decide) ?_
      exact Go.iret rfl rfl hE.2 (by decide +kernel) h
theorem e_Mo_is {G : GX} (hG : GOK G) {E : EV} (hE : E0 E) (d : Nat) (hd : 1 ≤ d) (a1 : Int32) (P : PM) {Q : QT} (h : Q (some (.int (f_Mo_is a1 P))) P E) : Con G y_Mo_is cw_Mo_is d nOb nOb [.ref (ad E 109), .int a1] P E Q :=
  Con.of hG (by decide +kernel) rfl (fun h => by cases h) hE.2 (Nat.le_of_ble_eq_true rfl) (t_f_Mo_is hG hE d hd a1 h)
abbrev c_Mo_eats : ByteArray := prog_14_method_13_code
abbrev y_Mo_eats : MethodName := ⟨"YawnRouteModel", "eats", "(I)Z"⟩
abbrev cw_Mo_eats : Cond := .code y_Mo_eats c_Mo_eats 2 (some .boolean)
theorem w_Mo_eats : VW 12 y_Mo_eats c_Mo_eats 2 (some .boolean) 1 := ⟨by decide, lk1465, lp49_, lk14, lk1466, ⟨by decide, by decide, by decide +kernel⟩, by decide⟩
noncomputable def f_Mo_eats (a1 : Int32) (P : PM) : Option (Int32 × PM) := if (f_Mo_is a1 P) = (0 : Int32) then (some ((0 : Int32), P)) else ((f_Mo_next P).bind (fun P2 => some ((1 : Int32), P2)))
theorem t_f_Mo_eats {G : GX} (hG : GOK G) {E : EV} (hE : E0 E) (d : Nat) (hd : 7 ≤ d) {Q : QT} (a1 : Int32) (P : PM) (h : St E rIP (f_Mo_eats a1 P) Q) : Go G c_Mo_eats "YawnRouteModel" 2 (some .boolean) false d nOb nOb Q 0 [(0, .ref (ad E 109)), (1, .int a1)] [] P E := by
  rw [f_Mo_eats] at h
  refine Go.aload_n (k := 0) (i := 0) 0 (by decide +kernel) rfl rfl ?_
  refine Go.iload_n (k := 1) (i := 1) 1 (by decide +kernel) rfl rfl ?_
  refine Go.cV_i (P1 := P) (v := (f_Mo_is a1 P)) (d - 1) 109 [.int a1] sh109 hE w_Mo_is (e_Mo_is hG hE (d - 1) (by omega) a1 P ⟨rfl, rfl, rfl⟩) lk1467 rfl (by omega) (Nat.le_of_ble_eq_true rfl) (by decide +kernel) _ rfl ?_
  refine Go.if_ne (off := 5) 10 (by decide +kernel) (by decide) (fun c1 => ?_) (fun c1 => ?_)
  · rw [if_neg c1] at h
    refine Go.aload_n (k := 0) (i := 0) 0 (by decide +kernel) rfl rfl ?_
    obtain ⟨P2, hP2, h⟩ := St.bind h
    refine Go.cV_v (P1 := P2) (d - 1) 109 [] sh109 hE w_Mo_next (e_Mo_next hG hE (d - 1) (by omega) P ⟨_, hP2, rfl, rfl, rfl⟩) lk1441 rfl (by omega) (Nat.le_of_ble_eq_true rfl) (by decide +kernel) _ rfl ?_
    refine Go.iconst (n := 1) (1 : Int32) (by decide +kernel) rfl ?_
    exact Go.iret rfl rfl hE.2 (by decide +kernel) (St.fIP h)
  · rw [if_pos c1] at h
    refine Go.iconst (n := 0) (0 : Int32) (by decide +kernel) rfl ?_
    exact Go.iret rfl rfl hE.2 (by decide +kernel) (St.fIP h)
theorem e_Mo_eats {G : GX} (hG : GOK G) {E : EV} (hE : E0 E) (d : Nat) (hd : 7 ≤ d) (a1 : Int32) (P : PM) {Q : QT} (h : St E rIP (f_Mo_eats a1 P) Q) : Con G y_Mo_eats cw_Mo_eats d nOb nOb [.ref (ad E 109), .int a1] P E Q :=
  Con.of hG (by decide +kernel) rfl (fun h => by cases h) hE.2 (Nat.le_of_ble_eq_true rfl) (t_f_Mo_eats hG hE d hd a1 P h)
abbrev c_Mo_takes : ByteArray := prog_14_method_14_code
abbrev y_Mo_takes : MethodName := ⟨"YawnRouteModel", "takes", "(II)I"⟩
abbrev cw_Mo_takes : Cond := .code y_Mo_takes c_Mo_takes 4 (some .int)
theorem w_Mo_takes : VW 12 y_Mo_takes c_Mo_takes 4 (some .int) 2 := ⟨by decide, lk1493, lp56_, lk14, lk1494, ⟨by decide, by decide, by decide +kernel⟩, by decide⟩
noncomputable def j_Mo_takes_37 (P : PM) : Option (Int32 × PM) := lb (P.1 109 10) (fun y1 => if (P.1 109 11) = (0 : Int32) then ((f_Mo_next P).bind (fun P3 => some (y1, P3))) else (some (y1, P)))
noncomputable def f_Mo_takes (a1 : Int32) (a2 : Int32) (P : PM) : Option (Int32 × PM) := if (f_Mo_is (23 : Int32) P) = (0 : Int32) then ((f_Mo_fails (2 : Int32) P).bind (fun P4 => j_Mo_takes_37 P4)) else (if (f_Mo_within ((P.1 109 10).toInt64) (a1.toInt64) (a2.toInt64) P) = (0 : Int32) then ((f_Mo_fails (3 : Int32) P).bind (fun P3 => j_Mo_takes_37 P3)) else (j_Mo_takes_37 P))
theorem t_j_Mo_takes_37 {G : GX} (hG : GOK G) {E : EV} (hE : E0 E) (d : Nat) (hd : 7 ≤ d) {Q : QT} (P : PM) (h : St E rIP (j_Mo_takes_37 P) Q) : Go G c_Mo_takes "YawnRouteModel" 4 (some .int) false d nOb nOb Q 37 [(0, .ref (ad E 109))] [] P E := by
  rw [j_Mo_takes_37] at h
  refine Go.aload_n (k := 0) (i := 0) 0 (by decide +kernel) rfl rfl ?_
  refine Go.get 109 10 (.int (P.1 109 10)) (by decide) (by decide) sh109 (ltO hE sh109) rfl lk1340 (by decide +kernel) ?_
  obtain ⟨y1, hy1, h⟩ := St.lb h
  refine Go.eqi y1 hy1 ?_
  refine Go.istore_n (k := 3) (i := 3) [(3, .int y1), (0, .ref (ad E 109))] (by decide +kernel) rfl (by decide) rfl ?_
  refine Go.aload_n (k := 0) (i := 0) 1 (by decide +kernel) rfl rfl ?_
  refine Go.get 109 11 (.int (P.1 109 11)) (by decide) (by decide) sh109 (ltO hE sh109) rfl lk1341 (by decide +kernel) ?_
  refine Go.if_ne (off := 7) 53 (by decide +kernel) (by decide) (fun c2 => ?_) (fun c2 => ?_)
  · rw [if_neg c2] at h
    refine Go.iload_n (k := 3) (i := 3) 0 (by decide +kernel) rfl rfl ?_
    exact Go.iret rfl rfl hE.2 (by decide +kernel) (St.fIP h)
  · rw [if_pos c2] at h
    refine Go.aload_n (k := 0) (i := 0) 1 (by decide +kernel) rfl rfl ?_
    obtain ⟨P3, hP3, h⟩ := St.bind h
    refine Go.cV_v (P1 := P3) (d - 1) 109 [] sh109 hE w_Mo_next (e_Mo_next hG hE (d - 1) (by omega) P ⟨_, hP3, rfl, rfl, rfl⟩) lk1441 rfl (by omega) (Nat.le_of_ble_eq_true rfl) (by decide +kernel) _ rfl ?_
    refine Go.iload_n (k := 3) (i := 3) 0 (by decide +kernel) rfl rfl ?_
    exact Go.iret rfl rfl hE.2 (by decide +kernel) (St.fIP h)
theorem t_f_Mo_takes {G : GX} (hG : GOK G) {E : EV} (hE : E0 E) (d : Nat) (hd : 7 ≤ d) {Q : QT} (a1 : Int32) (a2 : Int32) (P : PM) (h : St E rIP (f_Mo_takes a1 a2 P) Q) : Go G c_Mo_takes "YawnRouteModel" 4 (some .int) false d nOb nOb Q 0 [(0, .ref (ad E 109)), (1, .int a1), (2, .int a2)] [] P E := by
  rw [f_Mo_takes] at h
  refine Go.aload_n (k := 0) (i := 0) 0 (by decide +kernel) rfl rfl ?_
  refine Go.bipush (n := 23) (23 : Int32) (by decide +kernel) (by decide) ?_
  refine Go.cV_i (P1 := P) (v := (f_Mo_is (23 : Int32) P)) (d - 1) 109 [.int (23 : Int32)] sh109 hE w_Mo_is (e_Mo_is hG hE (d - 1) (by omega) (23 : Int32) P ⟨rfl, rfl, rfl⟩) lk1467 rfl (by omega) (Nat.le_of_ble_eq_true rfl) (by decide +kernel) _ rfl ?_
  refine Go.if_ne (off := 11) 17 (by decide +kernel) (by decide) (fun c1 => ?_) (fun c1 => ?_)
  · rw [if_neg c1] at h
    refine Go.aload_n (k := 0) (i := 0) 0 (by decide +kernel) rfl rfl ?_
    refine Go.get 109 10 (.int (P.1 109 10)) (by decide) (by decide) sh109 (ltO hE sh109) rfl lk1340 (by decide +kernel) ?_
    refine Go.i2l (by decide +kernel) ?_
    refine Go.iload_n (k := 1) (i := 1) 1 (by decide +kernel) rfl rfl ?_
    refine Go.i2l (by decide +kernel) ?_
    refine Go.iload_n (k := 2) (i := 2) 2 (by decide +kernel) rfl rfl ?_
    refine Go.i2l (by decide +kernel) ?_
    refine Go.cS_i (P1 := P) (v := (f_Mo_within ((P.1 109 10).toInt64) (a1.toInt64) (a2.toInt64) P)) (d - 1) [.long ((P.1 109 10).toInt64), .long (a1.toInt64), .long (a2.toInt64)] hE w_Mo_within (e_Mo_within hG hE (d - 1) (by omega) ((P.1 109 10).toInt64) (a1.toInt64) (a2.toInt64) P ⟨rfl, rfl, rfl⟩) lk1438 rfl (by omega) (Nat.le_of_ble_eq_true rfl) (by decide +kernel) _ rfl ?_
    refine Go.if_ne (off := 8) 37 (by decide +kernel) (by decide) (fun c2 => ?_) (fun c2 => ?_)
    · rw [if_neg c2] at h
      refine Go.sub [0] [(0, .ref (ad E 109))] rfl ?_
      exact t_j_Mo_takes_37 hG hE d hd P h
    · rw [if_pos c2] at h
      refine Go.aload_n (k := 0) (i := 0) 0 (by decide +kernel) rfl rfl ?_
      refine Go.iconst (n := 3) (3 : Int32) (by decide +kernel) rfl ?_
      obtain ⟨P3, hP3, h⟩ := St.bind h
      refine Go.cV_v (P1 := P3) (d - 1) 109 [.int (3 : Int32)] sh109 hE w_Mo_fails (e_Mo_fails hG hE (d - 1) (by omega) (3 : Int32) P ⟨_, hP3, rfl, rfl, rfl⟩) lk1471 rfl (by omega) (Nat.le_of_ble_eq_true rfl) (by decide +kernel) _ rfl ?_
      refine Go.sub [0] [(0, .ref (ad E 109))] rfl ?_
      exact t_j_Mo_takes_37 hG hE d hd P3 h
  · rw [if_pos c1] at h
    refine Go.aload_n (k := 0) (i := 0) 0 (by decide +kernel) rfl rfl ?_
    refine Go.iconst (n := 2) (2 : Int32) (by decide +kernel) rfl ?_
    obtain ⟨P4, hP4, h⟩ := St.bind h
    refine Go.cV_v (P1 := P4) (d - 1) 109 [.int (2 : Int32)] sh109 hE w_Mo_fails (e_Mo_fails hG hE (d - 1) (by omega) (2 : Int32) P ⟨_, hP4, rfl, rfl, rfl⟩) lk1471 rfl (by omega) (Nat.le_of_ble_eq_true rfl) (by decide +kernel) _ rfl ?_
    refine Go.goto (off := 23) 37 (by decide +kernel) (by decide) ?_
    refine Go.sub [0] [(0, .ref (ad E 109))] rfl ?_
    exact t_j_Mo_takes_37 hG hE d hd P4 h
theorem e_Mo_takes {G : GX} (hG : GOK G) {E : EV} (hE : E0 E) (d : Nat) (hd : 7 ≤ d) (a1 : Int32) (a2 : Int32) (P : PM) {Q : QT} (h : St E rIP (f_Mo_takes a1 a2 P) Q) : Con G y_Mo_takes cw_Mo_takes d nOb nOb [.ref (ad E 109), .int a1, .int a2] P E Q :=
  Con.of hG (by decide +kernel) rfl (fun h => by cases h) hE.2 (Nat.le_of_ble_eq_true rfl) (t_f_Mo_takes hG hE d hd a1 a2 P h)
abbrev c_Mo_isIn : ByteArray := prog_14_method_15_code
abbrev y_Mo_isIn : MethodName := ⟨"YawnRouteModel", "isIn", "(JI)Z"⟩
abbrev cw_Mo_isIn : Cond := .code y_Mo_isIn c_Mo_isIn 3 (some .boolean)
theorem w_Mo_isIn : SW y_Mo_isIn c_Mo_isIn 3 (some .boolean) 2 := ⟨lk1580, lk14, lk1581, ⟨by decide, by decide, by decide +kernel⟩, by decide⟩
noncomputable def f_Mo_isIn (a0 : Int64) (a2 : Int32) (P : PM) : Int32 := if (lg_cmp ((a0 >>> (a2.toInt64 &&& 63)) &&& (1 : Int64)) (1 : Int64)) = (0 : Int32) then ((1 : Int32)) else ((0 : Int32))
theorem t_f_Mo_isIn {G : GX} (hG : GOK G) {E : EV} (hE : E0 E) (d : Nat) (hd : 1 ≤ d) {P : PM} {Q : QT} (a0 : Int64) (a2 : Int32) (h : Q (some (.int (f_Mo_isIn a0 a2 P))) P E) : Go G c_Mo_isIn "YawnRouteModel" 3 (some .boolean) false d nOb nOb Q 0 [(0, .long a0), (2, .int a2)] [] P E := by
  rw [f_Mo_isIn] at h
  refine Go.lload_n (k := 0) (i := 0) 0 (by decide +kernel) rfl rfl ?_
  refine Go.iload_n (k := 2) (i := 2) 1 (by decide +kernel) rfl rfl ?_
  refine Go.lshr (by decide +kernel) ?_
  refine Go.lconst (n := 1) (1 : Int64) (by decide +kernel) rfl ?_
  refine Go.land (by decide +kernel) ?_
  refine Go.lconst (n := 1) (1 : Int64) (by decide +kernel) rfl ?_
  refine Go.lcmp (by decide +kernel) ?_
  refine Go.if_ne (off := 7) 14 (by decide +kernel) (by decide) (fun c1 => ?_) (fun c1 => ?_)
  · rw [if_neg c1] at h
    refine Go.iconst (n := 0) (0 : Int32) (by decide +kernel) rfl ?_
    exact Go.iret rfl rfl hE.2 (by decide +kernel) h
  · rw [if_pos c1] at h
    refine Go.iconst (n := 1) (1 : Int32) (by decide +kernel) rfl ?_
    refine Go.goto (off := 4) 15 (by decide +kernel) (by decide) ?_
    exact Go.iret rfl rfl hE.2 (by decide +kernel) h
theorem e_Mo_isIn {G : GX} (hG : GOK G) {E : EV} (hE : E0 E) (d : Nat) (hd : 1 ≤ d) (a0 : Int64) (a2 : Int32) (P : PM) {Q : QT} (h : Q (some (.int (f_Mo_isIn a0 a2 P))) P E) : Con G y_Mo_isIn cw_Mo_isIn d nOb nOb [.long a0, .int a2] P E Q :=
  Con.of hG (by decide +kernel) rfl (fun h => by cases h) hE.2 (Nat.le_of_ble_eq_true rfl) (t_f_Mo_isIn hG hE d hd a0 a2 h)
abbrev c_Mo_wordOf : ByteArray := prog_14_method_16_code
abbrev y_Mo_wordOf : MethodName := ⟨"YawnRouteModel", "wordOf", "(I)I"⟩
abbrev cw_Mo_wordOf : Cond := .code y_Mo_wordOf c_Mo_wordOf 2 (some .int)
theorem w_Mo_wordOf : VW 12 y_Mo_wordOf c_Mo_wordOf 2 (some .int) 1 := ⟨by decide, lk1525, lp64_, lk14, lk1526, ⟨by decide, by decide, by decide +kernel⟩, by decide⟩
noncomputable def f_Mo_wordOf (a1 : Int32) (P : PM) : Int32 := if a1 = (1 : Int32) then ((0 : Int32)) else (if a1 = (2 : Int32) then ((-1 : Int32)) else (if a1 = (3 : Int32) then ((-1 : Int32)) else (if a1 = (4 : Int32) then ((-1 : Int32)) else (if a1 = (5 : Int32) then ((-1 : Int32)) else (if a1 = (6 : Int32) then ((1 : Int32)) else (if a1 = (7 : Int32) then ((2 : Int32)) else (if a1 = (8 : Int32) then ((-1 : Int32)) else (if a1 = (9 : Int32) then ((5 : Int32)) else (if a1 = (10 : Int32) then ((-1 : Int32)) else (if a1 = (11 : Int32) then ((3 : Int32)) else (if a1 = (12 : Int32) then ((-1 : Int32)) else (if a1 = (13 : Int32) then ((-1 : Int32)) else (if a1 = (14 : Int32) then ((-1 : Int32)) else (if a1 = (15 : Int32) then ((-1 : Int32)) else (if a1 = (16 : Int32) then ((4 : Int32)) else ((-1 : Int32)))))))))))))))))
theorem t_f_Mo_wordOf {G : GX} (hG : GOK G) {E : EV} (hE : E0 E) (d : Nat) (hd : 1 ≤ d) {P : PM} {Q : QT} (a1 : Int32) (h : Q (some (.int (f_Mo_wordOf a1 P))) P E) : Go G c_Mo_wordOf "YawnRouteModel" 2 (some .int) false d nOb nOb Q 0 [(0, .ref (ad E 109)), (1, .int a1)] [] P E := by
  rw [f_Mo_wordOf] at h
  refine Go.iload_n (k := 1) (i := 1) 1 (by decide +kernel) rfl rfl ?_
  by_cases c1 : a1 = (1 : Int32)
  · rw [if_pos c1] at h
    refine Go.tabIn (dflt := 91) (lo := 1) (hi := 16) (offs := #[79, 91, 91, 91, 91, 81, 83, 91, 89, 91, 85, 91, 91, 91, 91, 87]) (len := 79) (off := 79) 80 (by decide +kernel) (by rw [c1]; decide) (by rw [c1]; decide) (by rw [c1]; rfl) (by decide) ?_
    refine Go.iconst (n := 0) (0 : Int32) (by decide +kernel) rfl ?_
    exact Go.iret rfl rfl hE.2 (by decide +kernel) h
  · rw [if_neg c1] at h
    by_cases c2 : a1 = (2 : Int32)
    · rw [if_pos c2] at h
      refine Go.tabIn (dflt := 91) (lo := 1) (hi := 16) (offs := #[79, 91, 91, 91, 91, 81, 83, 91, 89, 91, 85, 91, 91, 91, 91, 87]) (len := 79) (off := 91) 92 (by decide +kernel) (by rw [c2]; decide) (by rw [c2]; decide) (by rw [c2]; rfl) (by decide) ?_
      refine Go.iconst (n := -1) (-1 : Int32) (by decide +kernel) rfl ?_
      exact Go.iret rfl rfl hE.2 (by decide +kernel) h
    · rw [if_neg c2] at h
      by_cases c3 : a1 = (3 : Int32)
      · rw [if_pos c3] at h
        refine Go.tabIn (dflt := 91) (lo := 1) (hi := 16) (offs := #[79, 91, 91, 91, 91, 81, 83, 91, 89, 91, 85, 91, 91, 91, 91, 87]) (len := 79) (off := 91) 92 (by decide +kernel) (by rw [c3]; decide) (by rw [c3]; decide) (by rw [c3]; rfl) (by decide) ?_
        refine Go.iconst (n := -1) (-1 : Int32) (by decide +kernel) rfl ?_
        exact Go.iret rfl rfl hE.2 (by decide +kernel) h
      · rw [if_neg c3] at h
        by_cases c4 : a1 = (4 : Int32)
        · rw [if_pos c4] at h
          refine Go.tabIn (dflt := 91) (lo := 1) (hi := 16) (offs := #[79, 91, 91, 91, 91, 81, 83, 91, 89, 91, 85, 91, 91, 91, 91, 87]) (len := 79) (off := 91) 92 (by decide +kernel) (by rw [c4]; decide) (by rw [c4]; decide) (by rw [c4]; rfl) (by decide) ?_
          refine Go.iconst (n := -1) (-1 : Int32) (by decide +kernel) rfl ?_
          exact Go.iret rfl rfl hE.2 (by decide +kernel) h
        · rw [if_neg c4] at h
          by_cases c5 : a1 = (5 : Int32)
          · rw [if_pos c5] at h
            refine Go.tabIn (dflt := 91) (lo := 1) (hi := 16) (offs := #[79, 91, 91, 91, 91, 81, 83, 91, 89, 91, 85, 91, 91, 91, 91, 87]) (len := 79) (off := 91) 92 (by decide +kernel) (by rw [c5]; decide) (by rw [c5]; decide) (by rw [c5]; rfl) (by decide) ?_
            refine Go.iconst (n := -1) (-1 : Int32) (by decide +kernel) rfl ?_
            exact Go.iret rfl rfl hE.2 (by decide +kernel) h
          · rw [if_neg c5] at h
            by_cases c6 : a1 = (6 : Int32)
            · rw [if_pos c6] at h
              refine Go.tabIn (dflt := 91) (lo := 1) (hi := 16) (offs := #[79, 91, 91, 91, 91, 81, 83, 91, 89, 91, 85, 91, 91, 91, 91, 87]) (len := 79) (off := 81) 82 (by decide +kernel) (by rw [c6]; decide) (by rw [c6]; decide) (by rw [c6]; rfl) (by decide) ?_
              refine Go.iconst (n := 1) (1 : Int32) (by decide +kernel) rfl ?_
              exact Go.iret rfl rfl hE.2 (by decide +kernel) h
            · rw [if_neg c6] at h
              by_cases c7 : a1 = (7 : Int32)
              · rw [if_pos c7] at h
                refine Go.tabIn (dflt := 91) (lo := 1) (hi := 16) (offs := #[79, 91, 91, 91, 91, 81, 83, 91, 89, 91, 85, 91, 91, 91, 91, 87]) (len := 79) (off := 83) 84 (by decide +kernel) (by rw [c7]; decide) (by rw [c7]; decide) (by rw [c7]; rfl) (by decide) ?_
                refine Go.iconst (n := 2) (2 : Int32) (by decide +kernel) rfl ?_
                exact Go.iret rfl rfl hE.2 (by decide +kernel) h
              · rw [if_neg c7] at h
                by_cases c8 : a1 = (8 : Int32)
                · rw [if_pos c8] at h
                  refine Go.tabIn (dflt := 91) (lo := 1) (hi := 16) (offs := #[79, 91, 91, 91, 91, 81, 83, 91, 89, 91, 85, 91, 91, 91, 91, 87]) (len := 79) (off := 91) 92 (by decide +kernel) (by rw [c8]; decide) (by rw [c8]; decide) (by rw [c8]; rfl) (by decide) ?_
                  refine Go.iconst (n := -1) (-1 : Int32) (by decide +kernel) rfl ?_
                  exact Go.iret rfl rfl hE.2 (by decide +kernel) h
                · rw [if_neg c8] at h
                  by_cases c9 : a1 = (9 : Int32)
                  · rw [if_pos c9] at h
                    refine Go.tabIn (dflt := 91) (lo := 1) (hi := 16) (offs := #[79, 91, 91, 91, 91, 81, 83, 91, 89, 91, 85, 91, 91, 91, 91, 87]) (len := 79) (off := 89) 90 (by decide +kernel) (by rw [c9]; decide) (by rw [c9]; decide) (by rw [c9]; rfl) (by decide) ?_
                    refine Go.iconst (n := 5) (5 : Int32) (by decide +kernel) rfl ?_
                    exact Go.iret rfl rfl hE.2 (by decide +kernel) h
                  · rw [if_neg c9] at h
                    by_cases c10 : a1 = (10 : Int32)
                    · rw [if_pos c10] at h
                      refine Go.tabIn (dflt := 91) (lo := 1) (hi := 16) (offs := #[79, 91, 91, 91, 91, 81, 83, 91, 89, 91, 85, 91, 91, 91, 91, 87]) (len := 79) (off := 91) 92 (by decide +kernel) (by rw [c10]; decide) (by rw [c10]; decide) (by rw [c10]; rfl) (by decide) ?_
                      refine Go.iconst (n := -1) (-1 : Int32) (by decide +kernel) rfl ?_
                      exact Go.iret rfl rfl hE.2 (by decide +kernel) h
                    · rw [if_neg c10] at h
                      by_cases c11 : a1 = (11 : Int32)
                      · rw [if_pos c11] at h
                        refine Go.tabIn (dflt := 91) (lo := 1) (hi := 16) (offs := #[79, 91, 91, 91, 91, 81, 83, 91, 89, 91, 85, 91, 91, 91, 91, 87]) (len := 79) (off := 85) 86 (by decide +kernel) (by rw [c11]; decide) (by rw [c11]; decide) (by rw [c11]; rfl) (by decide) ?_
                        refine Go.iconst (n := 3) (3 : Int32) (by decide +kernel) rfl ?_
                        exact Go.iret rfl rfl hE.2 (by decide +kernel) h
                      · rw [if_neg c11] at h
                        by_cases c12 : a1 = (12 : Int32)
                        · rw [if_pos c12] at h
                          refine Go.tabIn (dflt := 91) (lo := 1) (hi := 16) (offs := #[79, 91, 91, 91, 91, 81, 83, 91, 89, 91, 85, 91, 91, 91, 91, 87]) (len := 79) (off := 91) 92 (by decide +kernel) (by rw [c12]; decide) (by rw [c12]; decide) (by rw [c12]; rfl) (by decide) ?_
                          refine Go.iconst (n := -1) (-1 : Int32) (by decide +kernel) rfl ?_
                          exact Go.iret rfl rfl hE.2 (by decide +kernel) h
                        · rw [if_neg c12] at h
                          by_cases c13 : a1 = (13 : Int32)
                          · rw [if_pos c13] at h
                            refine Go.tabIn (dflt := 91) (lo := 1) (hi := 16) (offs := #[79, 91, 91, 91, 91, 81, 83, 91, 89, 91, 85, 91, 91, 91, 91, 87]) (len := 79) (off := 91) 92 (by decide +kernel) (by rw [c13]; decide) (by rw [c13]; decide) (by rw [c13]; rfl) (by decide) ?_
                            refine Go.iconst (n := -1) (-1 : Int32) (by decide +kernel) rfl ?_
                            exact Go.iret rfl rfl hE.2 (by decide +kernel) h
                          · rw [if_neg c13] at h
                            by_cases c14 : a1 = (14 : Int32)
                            · rw [if_pos c14] at h
                              refine Go.tabIn (dflt := 91) (lo := 1) (hi := 16) (offs := #[79, 91, 91, 91, 91, 81, 83, 91, 89, 91, 85, 91, 91, 91, 91, 87]) (len := 79) (off := 91) 92 (by decide +kernel) (by rw [c14]; decide) (by rw [c14]; decide) (by rw [c14]; rfl) (by decide) ?_
                              refine Go.iconst (n := -1) (-1 : Int32) (by decide +kernel) rfl ?_
                              exact Go.iret rfl rfl hE.2 (by decide +kernel) h
                            · rw [if_neg c14] at h
                              by_cases c15 : a1 = (15 : Int32)
                              · rw [if_pos c15] at h
                                refine Go.tabIn (dflt := 91) (lo := 1) (hi := 16) (offs := #[79, 91, 91, 91, 91, 81, 83, 91, 89, 91, 85, 91, 91, 91, 91, 87]) (len := 79) (off := 91) 92 (by decide +kernel) (by rw [c15]; decide) (by rw [c15]; decide) (by rw [c15]; rfl) (by decide) ?_
                                refine Go.iconst (n := -1) (-1 : Int32) (by decide +kernel) rfl ?_
                                exact Go.iret rfl rfl hE.2 (by decide +kernel) h
                              · rw [if_neg c15] at h
                                by_cases c16 : a1 = (16 : Int32)
                                · rw [if_pos c16] at h
                                  refine Go.tabIn (dflt := 91) (lo := 1) (hi := 16) (offs := #[79, 91, 91, 91, 91, 81, 83, 91, 89, 91, 85, 91, 91, 91, 91, 87]) (len := 79) (off := 87) 88 (by decide +kernel) (by rw [c16]; decide) (by rw [c16]; decide) (by rw [c16]; rfl) (by decide) ?_
                                  refine Go.iconst (n := 4) (4 : Int32) (by decide +kernel) rfl ?_
                                  exact Go.iret rfl rfl hE.2 (by decide +kernel) h
                                · rw [if_neg c16] at h
                                  have qc1 := lv_neT (k := (1 : Int32)) (a := 1) c1 (by decide)
                                  have qc2 := lv_neT (k := (2 : Int32)) (a := 2) c2 (by decide)
                                  have qc3 := lv_neT (k := (3 : Int32)) (a := 3) c3 (by decide)
                                  have qc4 := lv_neT (k := (4 : Int32)) (a := 4) c4 (by decide)
                                  have qc5 := lv_neT (k := (5 : Int32)) (a := 5) c5 (by decide)
                                  have qc6 := lv_neT (k := (6 : Int32)) (a := 6) c6 (by decide)
                                  have qc7 := lv_neT (k := (7 : Int32)) (a := 7) c7 (by decide)
                                  have qc8 := lv_neT (k := (8 : Int32)) (a := 8) c8 (by decide)
                                  have qc9 := lv_neT (k := (9 : Int32)) (a := 9) c9 (by decide)
                                  have qc10 := lv_neT (k := (10 : Int32)) (a := 10) c10 (by decide)
                                  have qc11 := lv_neT (k := (11 : Int32)) (a := 11) c11 (by decide)
                                  have qc12 := lv_neT (k := (12 : Int32)) (a := 12) c12 (by decide)
                                  have qc13 := lv_neT (k := (13 : Int32)) (a := 13) c13 (by decide)
                                  have qc14 := lv_neT (k := (14 : Int32)) (a := 14) c14 (by decide)
                                  have qc15 := lv_neT (k := (15 : Int32)) (a := 15) c15 (by decide)
                                  have qc16 := lv_neT (k := (16 : Int32)) (a := 16) c16 (by decide)
                                  refine Go.tabOut (dflt := 91) (lo := 1) (hi := 16) (offs := #[79, 91, 91, 91, 91, 81, 83, 91, 89, 91, 85, 91, 91, 91, 91, 87]) (len := 79) 92 (by decide +kernel) (by omega) (by decide) ?_
                                  refine Go.iconst (n := -1) (-1 : Int32) (by decide +kernel) rfl ?_
                                  exact Go.iret rfl rfl hE.2 (by decide +kernel) h
theorem e_Mo_wordOf {G : GX} (hG : GOK G) {E : EV} (hE : E0 E) (d : Nat) (hd : 1 ≤ d) (a1 : Int32) (P : PM) {Q : QT} (h : Q (some (.int (f_Mo_wordOf a1 P))) P E) : Con G y_Mo_wordOf cw_Mo_wordOf d nOb nOb [.ref (ad E 109), .int a1] P E Q :=
  Con.of hG (by decide +kernel) rfl (fun h => by cases h) hE.2 (Nat.le_of_ble_eq_true rfl) (t_f_Mo_wordOf hG hE d hd a1 h)
abbrev c_Mo_codes : ByteArray := prog_14_method_17_code
abbrev y_Mo_codes : MethodName := ⟨"YawnRouteModel", "codes", "(I)V"⟩
abbrev cw_Mo_codes : Cond := .code y_Mo_codes c_Mo_codes 2 none
theorem w_Mo_codes : VW 12 y_Mo_codes c_Mo_codes 2 none 1 := ⟨by decide, lk1521, lp63_, lk14, lk1522, ⟨by decide, by decide, by decide +kernel⟩, by decide⟩
noncomputable def f_Mo_codes (a1 : Int32) (P : PM) : Option PM := if (P.1 109 11) = (0 : Int32) then (ck (inb ((236 : Int32) + (P.1 113 (235 : Int32).toNatClampNeg)) 1136) (some (u1 (u1 P 113 ((236 : Int32) + (P.1 113 (235 : Int32).toNatClampNeg)).toNatClampNeg a1) 113 (235 : Int32).toNatClampNeg (((u1 P 113 ((236 : Int32) + (P.1 113 (235 : Int32).toNatClampNeg)).toNatClampNeg a1).1 113 (235 : Int32).toNatClampNeg) + (1 : Int32))))) else (some P)
theorem t_f_Mo_codes {G : GX} (hG : GOK G) {E : EV} (hE : E0 E) (d : Nat) (hd : 1 ≤ d) {Q : QT} (a1 : Int32) (P : PM) (h : St E rP (f_Mo_codes a1 P) Q) : Go G c_Mo_codes "YawnRouteModel" 2 none false d nOb nOb Q 0 [(0, .ref (ad E 109)), (1, .int a1)] [] P E := by
  rw [f_Mo_codes] at h
  refine Go.aload_n (k := 0) (i := 0) 0 (by decide +kernel) rfl rfl ?_
  refine Go.get 109 11 (.int (P.1 109 11)) (by decide) (by decide) sh109 (ltO hE sh109) rfl lk1341 (by decide +kernel) ?_
  refine Go.if_eq (off := 4) 8 (by decide +kernel) (by decide) (fun c1 => ?_) (fun c1 => ?_)
  · rw [if_pos c1] at h
    refine Go.aload_n (k := 0) (i := 0) 0 (by decide +kernel) rfl rfl ?_
    refine Go.get 109 4 (.ref (ad E 113)) (by decide) (by decide) sh109 (ltO hE sh109) (vlR hE rfl rfl) lk1334 (by decide +kernel) ?_
    refine Go.sipush (n := 236) (236 : Int32) (by decide +kernel) (by decide) ?_
    refine Go.aload_n (k := 0) (i := 0) 0 (by decide +kernel) rfl rfl ?_
    refine Go.get 109 4 (.ref (ad E 113)) (by decide) (by decide) sh109 (ltO hE sh109) (vlR hE rfl rfl) lk1334 (by decide +kernel) ?_
    refine Go.sipush (n := 235) (235 : Int32) (by decide +kernel) (by decide) ?_
    refine Go.iaload 113 1136 sh113 (ltA hE sh113 (by decide)) (vp_in_iff.mpr (by decide)) (by decide +kernel) ?_
    refine Go.iadd (by decide +kernel) ?_
    refine Go.iload_n (k := 1) (i := 1) 1 (by decide +kernel) rfl rfl ?_
    obtain ⟨b2, h⟩ := St.ck h
    refine Go.iastore 113 1136 sh113 (ltA hE sh113 (by decide)) (inb_in b2) (by decide +kernel) ?_
    refine Go.aload_n (k := 0) (i := 0) 0 (by decide +kernel) rfl rfl ?_
    refine Go.get 109 4 (.ref (ad E 113)) (by decide) (by decide) sh109 (ltO hE sh109) (vlR hE rfl rfl) lk1334 (by decide +kernel) ?_
    refine Go.sipush (n := 235) (235 : Int32) (by decide +kernel) (by decide) ?_
    refine Go.dup2 (by decide +kernel) rfl rfl ?_
    refine Go.iaload 113 1136 sh113 (ltA hE sh113 (by decide)) (vp_in_iff.mpr (by decide)) (by decide +kernel) ?_
    refine Go.iconst (n := 1) (1 : Int32) (by decide +kernel) rfl ?_
    refine Go.iadd (by decide +kernel) ?_
    refine Go.iastore 113 1136 sh113 (ltA hE sh113 (by decide)) (vp_in_iff.mpr (by decide)) (by decide +kernel) ?_
    exact Go.vret rfl hE.2 (by decide +kernel) (St.fP h)
  · rw [if_neg c1] at h
    exact Go.vret rfl hE.2 (by decide +kernel) (St.fP h)
theorem e_Mo_codes {G : GX} (hG : GOK G) {E : EV} (hE : E0 E) (d : Nat) (hd : 1 ≤ d) (a1 : Int32) (P : PM) {Q : QT} (h : St E rP (f_Mo_codes a1 P) Q) : Con G y_Mo_codes cw_Mo_codes d nOb nOb [.ref (ad E 109), .int a1] P E Q :=
  Con.of hG (by decide +kernel) rfl (fun h => by cases h) hE.2 (Nat.le_of_ble_eq_true rfl) (t_f_Mo_codes hG hE d hd a1 P h)
