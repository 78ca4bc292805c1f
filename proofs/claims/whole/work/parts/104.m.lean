/-! methods as functions, by program: Nr_read De_forgetPast Ne_copy Ja_fill_ABB Pa_forgetAll Sa_copy Yr_takeOver -/
abbrev c_Nr_read : ByteArray := prog_5_method_2_code
abbrev y_Nr_read : MethodName := ⟨"YawnRoute$NetReader", "read", "(I)Z"⟩
abbrev cw_Nr_read : Cond := .code y_Nr_read c_Nr_read 3 (some .boolean)
theorem w_Nr_read : VW 3 y_Nr_read c_Nr_read 3 (some .boolean) 1 := ⟨by decide, lk444, lk445, lk3, lk446, ⟨by decide, by decide, by decide +kernel⟩, by decide⟩
noncomputable def j_Nr_read_175 (k51 : Int32 → PM → Option (Int32 × PM)) (x2 : Int32) (P : PM) : Option (Int32 × PM) := (f_Ta_skip (59 : Int32) P).bind (fun P1 => k51 (x2 + (1 : Int32)) (u1 P1 4 1 ((P1.1 4 1) + (1 : Int32))))
noncomputable def j_Nr_read_203 (P : PM) : Option (Int32 × PM) := if (P.1 1 7) = (0 : Int32) then (some ((1 : Int32), P)) else (some ((0 : Int32), P))
noncomputable def l_Nr_read_51 : Nat → Int32 → PM → Option (Int32 × PM)
  | 0, _, _ => none
  | n + 1, x2, P => if (900 : Int32) ≤ x2 then (j_Nr_read_203 P) else (if (P.1 1 5) = (0 : Int32) then (j_Nr_read_203 P) else (if (P.1 1 5) = (200 : Int32) then ((f_Nr_readStation P).bind (fun P4 => j_Nr_read_175 (fun z0 Pz => l_Nr_read_51 n z0 Pz) x2 P4)) else (if (P.1 1 5) = (201 : Int32) then ((f_Ta_fail (2 : Int32) P).bind (fun P6 => j_Nr_read_175 (fun z0 Pz => l_Nr_read_51 n z0 Pz) x2 P6)) else (if (P.1 1 5) = (202 : Int32) then ((f_Ta_fail (2 : Int32) P).bind (fun P8 => j_Nr_read_175 (fun z0 Pz => l_Nr_read_51 n z0 Pz) x2 P8)) else (if (P.1 1 5) = (203 : Int32) then ((f_Ta_fail (2 : Int32) P).bind (fun P10 => j_Nr_read_175 (fun z0 Pz => l_Nr_read_51 n z0 Pz) x2 P10)) else (if (P.1 1 5) = (204 : Int32) then ((f_Ta_fail (2 : Int32) P).bind (fun P12 => j_Nr_read_175 (fun z0 Pz => l_Nr_read_51 n z0 Pz) x2 P12)) else (if (P.1 1 5) = (205 : Int32) then ((f_Ta_fail (2 : Int32) P).bind (fun P14 => j_Nr_read_175 (fun z0 Pz => l_Nr_read_51 n z0 Pz) x2 P14)) else (if (P.1 1 5) = (206 : Int32) then ((f_Ta_fail (2 : Int32) P).bind (fun P16 => j_Nr_read_175 (fun z0 Pz => l_Nr_read_51 n z0 Pz) x2 P16)) else (if (P.1 1 5) = (207 : Int32) then ((f_Nr_readWay P).bind (fun P18 => j_Nr_read_175 (fun z0 Pz => l_Nr_read_51 n z0 Pz) x2 P18)) else (if (P.1 1 5) = (208 : Int32) then ((f_Nr_readAt P).bind (fun P20 => j_Nr_read_175 (fun z0 Pz => l_Nr_read_51 n z0 Pz) x2 P20)) else (if (P.1 1 5) = (209 : Int32) then ((f_Nr_readTakes P).bind (fun P22 => j_Nr_read_175 (fun z0 Pz => l_Nr_read_51 n z0 Pz) x2 P22)) else (if (P.1 1 5) = (210 : Int32) then ((f_Nr_readPasses P).bind (fun P24 => j_Nr_read_175 (fun z0 Pz => l_Nr_read_51 n z0 Pz) x2 P24)) else ((f_Ta_fail (2 : Int32) P).bind (fun P25 => j_Nr_read_175 (fun z0 Pz => l_Nr_read_51 n z0 Pz) x2 P25))))))))))))))
noncomputable def f_Nr_read (a1 : Int32) (P : PM) : Option (Int32 × PM) := (f_Ne_clear 4 P).bind (fun P1 => (f_Sa_clear 11 P1).bind (fun P2 => (f_Ta_open a1 P2).bind (fun P3 => (f_Ta_skip (206 : Int32) P3).bind (fun P4 => (f_Ta_skip (59 : Int32) P4).bind (fun P5 => l_Nr_read_51 FU (0 : Int32) (u1 P5 4 1 (1 : Int32)))))))
theorem t_j_Nr_read_175 {G : GX} (hG : GOK G) {E : EV} (hE : E0 E) (d : Nat) (hd : 110 ≤ d) {Q : QT} (k51 : Int32 → PM → Option (Int32 × PM)) (hk51 : ∀ (x2 : Int32) (P : PM), St E rIP (k51 x2 P) Q → Go G c_Nr_read "YawnRoute$NetReader" 3 (some .boolean) false d nOb nOb Q 51 [(0, .ref (ad E 3)), (2, .int x2)] [] P E) (x2 : Int32) (P : PM) (h : St E rIP (j_Nr_read_175 k51 x2 P) Q) : Go G c_Nr_read "YawnRoute$NetReader" 3 (some .boolean) false d nOb nOb Q 175 [(0, .ref (ad E 3)), (2, .int x2)] [] P E := by
  rw [j_Nr_read_175] at h
  refine Go.aload_n (k := 0) (i := 0) 0 (by decide +kernel) rfl rfl ?_
  refine Go.get 3 0 (.ref (ad E 1)) (by decide) (by decide) sh3 (ltO hE sh3) (vlR hE rfl rfl) lk195 (by decide +kernel) ?_
  refine Go.bipush (n := 59) (59 : Int32) (by decide +kernel) (by decide) ?_
  obtain ⟨P1, hP1, h⟩ := St.bind h
  refine Go.cV_v (P1 := P1) (d - 1) 1 [.int (59 : Int32)] sh1 hE w_Ta_skip (e_Ta_skip hG hE (d - 1) (by omega) (59 : Int32) P ⟨_, hP1, rfl, rfl, rfl⟩) lk602 rfl (by omega) (Nat.le_of_ble_eq_true rfl) (by decide +kernel) _ rfl ?_
  refine Go.aload_n (k := 0) (i := 0) 0 (by decide +kernel) rfl rfl ?_
  refine Go.get 3 1 (.ref (ad E 4)) (by decide) (by decide) sh3 (ltO hE sh3) (vlR hE rfl rfl) lk196 (by decide +kernel) ?_
  refine Go.dup (by decide +kernel) rfl ?_
  refine Go.get 4 1 (.int (P1.1 4 1)) (by decide) (by decide) sh4 (ltO hE sh4) rfl lk95 (by decide +kernel) ?_
  refine Go.iconst (n := 1) (1 : Int32) (by decide +kernel) rfl ?_
  refine Go.iadd (by decide +kernel) ?_
  refine Go.put 4 1 (by decide) (by decide) sh4 (ltO hE sh4) (Or.inl rfl) rfl rfl rfl lk95 (by decide +kernel) ?_
  refine Go.iinc (i := 2) (n := 1) 1 (x2 + (1 : Int32)) [(2, .int (x2 + (1 : Int32))), (0, .ref (ad E 3))] (by decide +kernel) rfl rfl (by decide) rfl ?_
  refine Go.goto (off := -149) 51 (by decide +kernel) (by decide) ?_
  refine Go.sub [1, 0] [(0, .ref (ad E 3)), (2, .int (x2 + (1 : Int32)))] rfl ?_
  exact hk51 (x2 + (1 : Int32)) (u1 P1 4 1 ((P1.1 4 1) + (1 : Int32))) h
theorem t_j_Nr_read_203 {G : GX} (hG : GOK G) {E : EV} (hE : E0 E) (d : Nat) (hd : 110 ≤ d) {Q : QT} (P : PM) (h : St E rIP (j_Nr_read_203 P) Q) : Go G c_Nr_read "YawnRoute$NetReader" 3 (some .boolean) false d nOb nOb Q 203 [(0, .ref (ad E 3))] [] P E := by
  rw [j_Nr_read_203] at h
  refine Go.aload_n (k := 0) (i := 0) 0 (by decide +kernel) rfl rfl ?_
  refine Go.get 3 0 (.ref (ad E 1)) (by decide) (by decide) sh3 (ltO hE sh3) (vlR hE rfl rfl) lk195 (by decide +kernel) ?_
  refine Go.get 1 7 (.int (P.1 1 7)) (by decide) (by decide) sh1 (ltO hE sh1) rfl lk49 (by decide +kernel) ?_
  refine Go.if_ne (off := 7) 217 (by decide +kernel) (by decide) (fun c1 => ?_) (fun c1 => ?_)
  · rw [if_neg c1] at h
    refine Go.iconst (n := 0) (0 : Int32) (by decide +kernel) rfl ?_
    exact Go.iret rfl rfl hE.2 (by decide +kernel) (St.fIP h)
  · rw [if_pos c1] at h
    refine Go.iconst (n := 1) (1 : Int32) (by decide +kernel) rfl ?_
    refine Go.goto (off := 4) 218 (by decide +kernel) (by decide) ?_
    exact Go.iret rfl rfl hE.2 (by decide +kernel) (St.fIP h)
theorem t_l_Nr_read_51 {G : GX} (hG : GOK G) {E : EV} (hE : E0 E) (d : Nat) (hd : 110 ≤ d) {Q : QT} : ∀ (n : Nat) (x2 : Int32) (P : PM), St E rIP (l_Nr_read_51 n x2 P) Q → Go G c_Nr_read "YawnRoute$NetReader" 3 (some .boolean) false d nOb nOb Q 51 [(0, .ref (ad E 3)), (2, .int x2)] [] P E := by
  intro n
  induction n with
  | zero =>
    intro x2 P h
    rw [l_Nr_read_51] at h
    exact St.none_ h
  | succ n ih =>
    intro x2 P h
    rw [l_Nr_read_51] at h
    refine Go.iload_n (k := 2) (i := 2) 1 (by decide +kernel) rfl rfl ?_
    refine Go.sipush (n := 900) (900 : Int32) (by decide +kernel) (by decide) ?_
    refine Go.icmp_ge (off := 148) 203 (by decide +kernel) (by decide) (fun c1 => ?_) (fun c1 => ?_)
    · rw [if_pos c1] at h
      refine Go.sub [0] [(0, .ref (ad E 3))] rfl ?_
      exact t_j_Nr_read_203 hG hE d hd P h
    · rw [if_neg c1] at h
      refine Go.aload_n (k := 0) (i := 0) 0 (by decide +kernel) rfl rfl ?_
      refine Go.get 3 0 (.ref (ad E 1)) (by decide) (by decide) sh3 (ltO hE sh3) (vlR hE rfl rfl) lk195 (by decide +kernel) ?_
      refine Go.get 1 5 (.int (P.1 1 5)) (by decide) (by decide) sh1 (ltO hE sh1) rfl lk44 (by decide +kernel) ?_
      refine Go.if_eq (off := 138) 203 (by decide +kernel) (by decide) (fun c2 => ?_) (fun c2 => ?_)
      · rw [if_pos c2] at h
        refine Go.sub [0] [(0, .ref (ad E 3))] rfl ?_
        exact t_j_Nr_read_203 hG hE d hd P h
      · rw [if_neg c2] at h
        refine Go.aload_n (k := 0) (i := 0) 0 (by decide +kernel) rfl rfl ?_
        refine Go.get 3 0 (.ref (ad E 1)) (by decide) (by decide) sh3 (ltO hE sh3) (vlR hE rfl rfl) lk195 (by decide +kernel) ?_
        refine Go.get 1 5 (.int (P.1 1 5)) (by decide) (by decide) sh1 (ltO hE sh1) rfl lk44 (by decide +kernel) ?_
        by_cases c3 : (P.1 1 5) = (200 : Int32)
        · rw [if_pos c3] at h
          refine Go.tabIn (dflt := 92) (lo := 200) (hi := 210) (offs := #[57, 92, 92, 92, 92, 92, 92, 64, 71, 78, 85]) (len := 57) (off := 57) 132 (by decide +kernel) (by rw [c3]; decide) (by rw [c3]; decide) (by rw [c3]; rfl) (by decide) ?_
          refine Go.aload_n (k := 0) (i := 0) 0 (by decide +kernel) rfl rfl ?_
          obtain ⟨P4, hP4, h⟩ := St.bind h
          refine Go.cV_v (P1 := P4) (d - 1) 3 [] sh3 hE w_Nr_readStation (e_Nr_readStation hG hE (d - 1) (by omega) P ⟨_, hP4, rfl, rfl, rfl⟩) lk606 rfl (by omega) (Nat.le_of_ble_eq_true rfl) (by decide +kernel) _ rfl ?_
          refine Go.goto (off := 39) 175 (by decide +kernel) (by decide) ?_
          exact t_j_Nr_read_175 hG hE d hd (fun z0 Pz => l_Nr_read_51 n z0 Pz) (fun z0 Pz q => ih z0 Pz q) x2 P4 h
        · rw [if_neg c3] at h
          by_cases c5 : (P.1 1 5) = (201 : Int32)
          · rw [if_pos c5] at h
            refine Go.tabIn (dflt := 92) (lo := 200) (hi := 210) (offs := #[57, 92, 92, 92, 92, 92, 92, 64, 71, 78, 85]) (len := 57) (off := 92) 167 (by decide +kernel) (by rw [c5]; decide) (by rw [c5]; decide) (by rw [c5]; rfl) (by decide) ?_
            refine Go.aload_n (k := 0) (i := 0) 0 (by decide +kernel) rfl rfl ?_
            refine Go.get 3 0 (.ref (ad E 1)) (by decide) (by decide) sh3 (ltO hE sh3) (vlR hE rfl rfl) lk195 (by decide +kernel) ?_
            refine Go.iconst (n := 2) (2 : Int32) (by decide +kernel) rfl ?_
            obtain ⟨P6, hP6, h⟩ := St.bind h
            refine Go.cV_v (P1 := P6) (d - 1) 1 [.int (2 : Int32)] sh1 hE w_Ta_fail (e_Ta_fail hG hE (d - 1) (by omega) (2 : Int32) P ⟨_, hP6, rfl, rfl, rfl⟩) lk610 rfl (by omega) (Nat.le_of_ble_eq_true rfl) (by decide +kernel) _ rfl ?_
            exact t_j_Nr_read_175 hG hE d hd (fun z0 Pz => l_Nr_read_51 n z0 Pz) (fun z0 Pz q => ih z0 Pz q) x2 P6 h
          · rw [if_neg c5] at h
            by_cases c7 : (P.1 1 5) = (202 : Int32)
            · rw [if_pos c7] at h
              refine Go.tabIn (dflt := 92) (lo := 200) (hi := 210) (offs := #[57, 92, 92, 92, 92, 92, 92, 64, 71, 78, 85]) (len := 57) (off := 92) 167 (by decide +kernel) (by rw [c7]; decide) (by rw [c7]; decide) (by rw [c7]; rfl) (by decide) ?_
              refine Go.aload_n (k := 0) (i := 0) 0 (by decide +kernel) rfl rfl ?_
              refine Go.get 3 0 (.ref (ad E 1)) (by decide) (by decide) sh3 (ltO hE sh3) (vlR hE rfl rfl) lk195 (by decide +kernel) ?_
              refine Go.iconst (n := 2) (2 : Int32) (by decide +kernel) rfl ?_
              obtain ⟨P8, hP8, h⟩ := St.bind h
              refine Go.cV_v (P1 := P8) (d - 1) 1 [.int (2 : Int32)] sh1 hE w_Ta_fail (e_Ta_fail hG hE (d - 1) (by omega) (2 : Int32) P ⟨_, hP8, rfl, rfl, rfl⟩) lk610 rfl (by omega) (Nat.le_of_ble_eq_true rfl) (by decide +kernel) _ rfl ?_
              exact t_j_Nr_read_175 hG hE d hd (fun z0 Pz => l_Nr_read_51 n z0 Pz) (fun z0 Pz q => ih z0 Pz q) x2 P8 h
            · rw [if_neg c7] at h
              by_cases c9 : (P.1 1 5) = (203 : Int32)
              · rw [if_pos c9] at h
                refine Go.tabIn (dflt := 92) (lo := 200) (hi := 210) (offs := #[57, 92, 92, 92, 92, 92, 92, 64, 71, 78, 85]) (len := 57) (off := 92) 167 (by decide +kernel) (by rw [c9]; decide) (by rw [c9]; decide) (by rw [c9]; rfl) (by decide) ?_
                refine Go.aload_n (k := 0) (i := 0) 0 (by decide +kernel) rfl rfl ?_
                refine Go.get 3 0 (.ref (ad E 1)) (by decide) (by decide) sh3 (ltO hE sh3) (vlR hE rfl rfl) lk195 (by decide +kernel) ?_
                refine Go.iconst (n := 2) (2 : Int32) (by decide +kernel) rfl ?_
                obtain ⟨P10, hP10, h⟩ := St.bind h
                refine Go.cV_v (P1 := P10) (d - 1) 1 [.int (2 : Int32)] sh1 hE w_Ta_fail (e_Ta_fail hG hE (d - 1) (by omega) (2 : Int32) P ⟨_, hP10, rfl, rfl, rfl⟩) lk610 rfl (by omega) (Nat.le_of_ble_eq_true rfl) (by decide +kernel) _ rfl ?_
                exact t_j_Nr_read_175 hG hE d hd (fun z0 Pz => l_Nr_read_51 n z0 Pz) (fun z0 Pz q => ih z0 Pz q) x2 P10 h
              · rw [if_neg c9] at h
                by_cases c11 : (P.1 1 5) = (204 : Int32)
                · rw [if_pos c11] at h
                  refine Go.tabIn (dflt := 92) (lo := 200) (hi := 210) (offs := #[57, 92, 92, 92, 92, 92, 92, 64, 71, 78, 85]) (len := 57) (off := 92) 167 (by decide +kernel) (by rw [c11]; decide) (by rw [c11]; decide) (by rw [c11]; rfl) (by decide) ?_
                  refine Go.aload_n (k := 0) (i := 0) 0 (by decide +kernel) rfl rfl ?_
                  refine Go.get 3 0 (.ref (ad E 1)) (by decide) (by decide) sh3 (ltO hE sh3) (vlR hE rfl rfl) lk195 (by decide +kernel) ?_
                  refine Go.iconst (n := 2) (2 : Int32) (by decide +kernel) rfl ?_
                  obtain ⟨P12, hP12, h⟩ := St.bind h
                  refine Go.cV_v (P1 := P12) (d - 1) 1 [.int (2 : Int32)] sh1 hE w_Ta_fail (e_Ta_fail hG hE (d - 1) (by omega) (2 : Int32) P ⟨_, hP12, rfl, rfl, rfl⟩) lk610 rfl (by omega) (Nat.le_of_ble_eq_true rfl) (by decide +kernel) _ rfl ?_
                  exact t_j_Nr_read_175 hG hE d hd (fun z0 Pz => l_Nr_read_51 n z0 Pz) (fun z0 Pz q => ih z0 Pz q) x2 P12 h
                · rw [if_neg c11] at h
                  by_cases c13 : (P.1 1 5) = (205 : Int32)
                  · rw [if_pos c13] at h
                    refine Go.tabIn (dflt := 92) (lo := 200) (hi := 210) (offs := #[57, 92, 92, 92, 92, 92, 92, 64, 71, 78, 85]) (len := 57) (off := 92) 167 (by decide +kernel) (by rw [c13]; decide) (by rw [c13]; decide) (by rw [c13]; rfl) (by decide) ?_
                    refine Go.aload_n (k := 0) (i := 0) 0 (by decide +kernel) rfl rfl ?_
                    refine Go.get 3 0 (.ref (ad E 1)) (by decide) (by decide) sh3 (ltO hE sh3) (vlR hE rfl rfl) lk195 (by decide +kernel) ?_
                    refine Go.iconst (n := 2) (2 : Int32) (by decide +kernel) rfl ?_
                    obtain ⟨P14, hP14, h⟩ := St.bind h
                    refine Go.cV_v (P1 := P14) (d - 1) 1 [.int (2 : Int32)] sh1 hE w_Ta_fail (e_Ta_fail hG hE (d - 1) (by omega) (2 : Int32) P ⟨_, hP14, rfl, rfl, rfl⟩) lk610 rfl (by omega) (Nat.le_of_ble_eq_true rfl) (by decide +kernel) _ rfl ?_
                    exact t_j_Nr_read_175 hG hE d hd (fun z0 Pz => l_Nr_read_51 n z0 Pz) (fun z0 Pz q => ih z0 Pz q) x2 P14 h
                  · rw [if_neg c13] at h
                    by_cases c15 : (P.1 1 5) = (206 : Int32)
                    · rw [if_pos c15] at h
                      refine Go.tabIn (dflt := 92) (lo := 200) (hi := 210) (offs := #[57, 92, 92, 92, 92, 92, 92, 64, 71, 78, 85]) (len := 57) (off := 92) 167 (by decide +kernel) (by rw [c15]; decide) (by rw [c15]; decide) (by rw [c15]; rfl) (by decide) ?_
                      refine Go.aload_n (k := 0) (i := 0) 0 (by decide +kernel) rfl rfl ?_
                      refine Go.get 3 0 (.ref (ad E 1)) (by decide) (by decide) sh3 (ltO hE sh3) (vlR hE rfl rfl) lk195 (by decide +kernel) ?_
                      refine Go.iconst (n := 2) (2 : Int32) (by decide +kernel) rfl ?_
                      obtain ⟨P16, hP16, h⟩ := St.bind h
                      refine Go.cV_v (P1 := P16) (d - 1) 1 [.int (2 : Int32)] sh1 hE w_Ta_fail (e_Ta_fail hG hE (d - 1) (by omega) (2 : Int32) P ⟨_, hP16, rfl, rfl, rfl⟩) lk610 rfl (by omega) (Nat.le_of_ble_eq_true rfl) (by decide +kernel) _ rfl ?_
                      exact t_j_Nr_read_175 hG hE d hd (fun z0 Pz => l_Nr_read_51 n z0 Pz) (fun z0 Pz q => ih z0 Pz q) x2 P16 h
                    · rw [if_neg c15] at h
                      by_cases c17 : (P.1 1 5) = (207 : Int32)
                      · rw [if_pos c17] at h
                        refine Go.tabIn (dflt := 92) (lo := 200) (hi := 210) (offs := #[57, 92, 92, 92, 92, 92, 92, 64, 71, 78, 85]) (len := 57) (off := 64) 139 (by decide +kernel) (by rw [c17]; decide) (by rw [c17]; decide) (by rw [c17]; rfl) (by decide) ?_
                        refine Go.aload_n (k := 0) (i := 0) 0 (by decide +kernel) rfl rfl ?_
                        obtain ⟨P18, hP18, h⟩ := St.bind h
                        refine Go.cV_v (P1 := P18) (d - 1) 3 [] sh3 hE w_Nr_readWay (e_Nr_readWay hG hE (d - 1) (by omega) P ⟨_, hP18, rfl, rfl, rfl⟩) lk624 rfl (by omega) (Nat.le_of_ble_eq_true rfl) (by decide +kernel) _ rfl ?_
                        refine Go.goto (off := 32) 175 (by decide +kernel) (by decide) ?_
                        exact t_j_Nr_read_175 hG hE d hd (fun z0 Pz => l_Nr_read_51 n z0 Pz) (fun z0 Pz q => ih z0 Pz q) x2 P18 h
                      · rw [if_neg c17] at h
                        by_cases c19 : (P.1 1 5) = (208 : Int32)
                        · rw [if_pos c19] at h
                          refine Go.tabIn (dflt := 92) (lo := 200) (hi := 210) (offs := #[57, 92, 92, 92, 92, 92, 92, 64, 71, 78, 85]) (len := 57) (off := 71) 146 (by decide +kernel) (by rw [c19]; decide) (by rw [c19]; decide) (by rw [c19]; rfl) (by decide) ?_
                          refine Go.aload_n (k := 0) (i := 0) 0 (by decide +kernel) rfl rfl ?_
                          obtain ⟨P20, hP20, h⟩ := St.bind h
                          refine Go.cV_v (P1 := P20) (d - 1) 3 [] sh3 hE w_Nr_readAt (e_Nr_readAt hG hE (d - 1) (by omega) P ⟨_, hP20, rfl, rfl, rfl⟩) lk640 rfl (by omega) (Nat.le_of_ble_eq_true rfl) (by decide +kernel) _ rfl ?_
                          refine Go.goto (off := 25) 175 (by decide +kernel) (by decide) ?_
                          exact t_j_Nr_read_175 hG hE d hd (fun z0 Pz => l_Nr_read_51 n z0 Pz) (fun z0 Pz q => ih z0 Pz q) x2 P20 h
                        · rw [if_neg c19] at h
                          by_cases c21 : (P.1 1 5) = (209 : Int32)
                          · rw [if_pos c21] at h
                            refine Go.tabIn (dflt := 92) (lo := 200) (hi := 210) (offs := #[57, 92, 92, 92, 92, 92, 92, 64, 71, 78, 85]) (len := 57) (off := 78) 153 (by decide +kernel) (by rw [c21]; decide) (by rw [c21]; decide) (by rw [c21]; rfl) (by decide) ?_
                            refine Go.aload_n (k := 0) (i := 0) 0 (by decide +kernel) rfl rfl ?_
                            obtain ⟨P22, hP22, h⟩ := St.bind h
                            refine Go.cV_v (P1 := P22) (d - 1) 3 [] sh3 hE w_Nr_readTakes (e_Nr_readTakes hG hE (d - 1) (by omega) P ⟨_, hP22, rfl, rfl, rfl⟩) lk644 rfl (by omega) (Nat.le_of_ble_eq_true rfl) (by decide +kernel) _ rfl ?_
                            refine Go.goto (off := 18) 175 (by decide +kernel) (by decide) ?_
                            exact t_j_Nr_read_175 hG hE d hd (fun z0 Pz => l_Nr_read_51 n z0 Pz) (fun z0 Pz q => ih z0 Pz q) x2 P22 h
                          · rw [if_neg c21] at h
                            by_cases c23 : (P.1 1 5) = (210 : Int32)
                            · rw [if_pos c23] at h
                              refine Go.tabIn (dflt := 92) (lo := 200) (hi := 210) (offs := #[57, 92, 92, 92, 92, 92, 92, 64, 71, 78, 85]) (len := 57) (off := 85) 160 (by decide +kernel) (by rw [c23]; decide) (by rw [c23]; decide) (by rw [c23]; rfl) (by decide) ?_
                              refine Go.aload_n (k := 0) (i := 0) 0 (by decide +kernel) rfl rfl ?_
                              obtain ⟨P24, hP24, h⟩ := St.bind h
                              refine Go.cV_v (P1 := P24) (d - 1) 3 [] sh3 hE w_Nr_readPasses (e_Nr_readPasses hG hE (d - 1) (by omega) P ⟨_, hP24, rfl, rfl, rfl⟩) lk692 rfl (by omega) (Nat.le_of_ble_eq_true rfl) (by decide +kernel) _ rfl ?_
                              refine Go.goto (off := 11) 175 (by decide +kernel) (by decide) ?_
                              exact t_j_Nr_read_175 hG hE d hd (fun z0 Pz => l_Nr_read_51 n z0 Pz) (fun z0 Pz q => ih z0 Pz q) x2 P24 h
                            · rw [if_neg c23] at h
                              have qc3 := lv_neT (k := (200 : Int32)) (a := 200) c3 (by decide)
                              have qc5 := lv_neT (k := (201 : Int32)) (a := 201) c5 (by decide)
                              have qc7 := lv_neT (k := (202 : Int32)) (a := 202) c7 (by decide)
                              have qc9 := lv_neT (k := (203 : Int32)) (a := 203) c9 (by decide)
                              have qc11 := lv_neT (k := (204 : Int32)) (a := 204) c11 (by decide)
                              have qc13 := lv_neT (k := (205 : Int32)) (a := 205) c13 (by decide)
                              have qc15 := lv_neT (k := (206 : Int32)) (a := 206) c15 (by decide)
                              have qc17 := lv_neT (k := (207 : Int32)) (a := 207) c17 (by decide)
                              have qc19 := lv_neT (k := (208 : Int32)) (a := 208) c19 (by decide)
                              have qc21 := lv_neT (k := (209 : Int32)) (a := 209) c21 (by decide)
                              have qc23 := lv_neT (k := (210 : Int32)) (a := 210) c23 (by decide)
                              refine Go.tabOut (dflt := 92) (lo := 200) (hi := 210) (offs := #[57, 92, 92, 92, 92, 92, 92, 64, 71, 78, 85]) (len := 57) 167 (by decide +kernel) (by omega) (by decide) ?_
                              refine Go.aload_n (k := 0) (i := 0) 0 (by decide +kernel) rfl rfl ?_
                              refine Go.get 3 0 (.ref (ad E 1)) (by decide) (by decide) sh3 (ltO hE sh3) (vlR hE rfl rfl) lk195 (by decide +kernel) ?_
                              refine Go.iconst (n := 2) (2 : Int32) (by decide +kernel) rfl ?_
                              obtain ⟨P25, hP25, h⟩ := St.bind h
                              refine Go.cV_v (P1 := P25) (d - 1) 1 [.int (2 : Int32)] sh1 hE w_Ta_fail (e_Ta_fail hG hE (d - 1) (by omega) (2 : Int32) P ⟨_, hP25, rfl, rfl, rfl⟩) lk610 rfl (by omega) (Nat.le_of_ble_eq_true rfl) (by decide +kernel) _ rfl ?_
                              exact t_j_Nr_read_175 hG hE d hd (fun z0 Pz => l_Nr_read_51 n z0 Pz) (fun z0 Pz q => ih z0 Pz q) x2 P25 h
theorem t_f_Nr_read {G : GX} (hG : GOK G) {E : EV} (hE : E0 E) (d : Nat) (hd : 110 ≤ d) {Q : QT} (a1 : Int32) (P : PM) (h : St E rIP (f_Nr_read a1 P) Q) : Go G c_Nr_read "YawnRoute$NetReader" 3 (some .boolean) false d nOb nOb Q 0 [(0, .ref (ad E 3)), (1, .int a1)] [] P E := by
  rw [f_Nr_read] at h
  refine Go.aload_n (k := 0) (i := 0) 0 (by decide +kernel) rfl rfl ?_
  refine Go.get 3 1 (.ref (ad E 4)) (by decide) (by decide) sh3 (ltO hE sh3) (vlR hE rfl rfl) lk196 (by decide +kernel) ?_
  obtain ⟨P1, hP1, h⟩ := St.bind h
  refine Go.cV_v (P1 := P1) (d - 1) 4 [] sh4 hE w_Ne_clear (e_Ne_clear hG hE (d - 1) (by omega) 4 sh4 P ⟨_, hP1, rfl, rfl, rfl⟩) lk447 rfl (by omega) (Nat.le_of_ble_eq_true rfl) (by decide +kernel) _ rfl ?_
  refine Go.aload_n (k := 0) (i := 0) 0 (by decide +kernel) rfl rfl ?_
  refine Go.get 3 2 (.ref (ad E 11)) (by decide) (by decide) sh3 (ltO hE sh3) (vlR hE rfl rfl) lk198 (by decide +kernel) ?_
  obtain ⟨P2, hP2, h⟩ := St.bind h
  refine Go.cV_v (P1 := P2) (d - 1) 11 [] sh11 hE w_Sa_clear (e_Sa_clear hG hE (d - 1) (by omega) 11 sh11 P1 ⟨_, hP2, rfl, rfl, rfl⟩) lk454 rfl (by omega) (Nat.le_of_ble_eq_true rfl) (by decide +kernel) _ rfl ?_
  refine Go.aload_n (k := 0) (i := 0) 0 (by decide +kernel) rfl rfl ?_
  refine Go.get 3 0 (.ref (ad E 1)) (by decide) (by decide) sh3 (ltO hE sh3) (vlR hE rfl rfl) lk195 (by decide +kernel) ?_
  refine Go.iload_n (k := 1) (i := 1) 1 (by decide +kernel) rfl rfl ?_
  obtain ⟨P3, hP3, h⟩ := St.bind h
  refine Go.cV_v (P1 := P3) (d - 1) 1 [.int a1] sh1 hE w_Ta_open (e_Ta_open hG hE (d - 1) (by omega) a1 P2 ⟨_, hP3, rfl, rfl, rfl⟩) lk459 rfl (by omega) (Nat.le_of_ble_eq_true rfl) (by decide +kernel) _ rfl ?_
  refine Go.aload_n (k := 0) (i := 0) 0 (by decide +kernel) rfl rfl ?_
  refine Go.get 3 0 (.ref (ad E 1)) (by decide) (by decide) sh3 (ltO hE sh3) (vlR hE rfl rfl) lk195 (by decide +kernel) ?_
  refine Go.sipush (n := 206) (206 : Int32) (by decide +kernel) (by decide) ?_
  obtain ⟨P4, hP4, h⟩ := St.bind h
  refine Go.cV_v (P1 := P4) (d - 1) 1 [.int (206 : Int32)] sh1 hE w_Ta_skip (e_Ta_skip hG hE (d - 1) (by omega) (206 : Int32) P3 ⟨_, hP4, rfl, rfl, rfl⟩) lk602 rfl (by omega) (Nat.le_of_ble_eq_true rfl) (by decide +kernel) _ rfl ?_
  refine Go.aload_n (k := 0) (i := 0) 0 (by decide +kernel) rfl rfl ?_
  refine Go.get 3 0 (.ref (ad E 1)) (by decide) (by decide) sh3 (ltO hE sh3) (vlR hE rfl rfl) lk195 (by decide +kernel) ?_
  refine Go.bipush (n := 59) (59 : Int32) (by decide +kernel) (by decide) ?_
  obtain ⟨P5, hP5, h⟩ := St.bind h
  refine Go.cV_v (P1 := P5) (d - 1) 1 [.int (59 : Int32)] sh1 hE w_Ta_skip (e_Ta_skip hG hE (d - 1) (by omega) (59 : Int32) P4 ⟨_, hP5, rfl, rfl, rfl⟩) lk602 rfl (by omega) (Nat.le_of_ble_eq_true rfl) (by decide +kernel) _ rfl ?_
  refine Go.aload_n (k := 0) (i := 0) 0 (by decide +kernel) rfl rfl ?_
  refine Go.get 3 1 (.ref (ad E 4)) (by decide) (by decide) sh3 (ltO hE sh3) (vlR hE rfl rfl) lk196 (by decide +kernel) ?_
  refine Go.iconst (n := 1) (1 : Int32) (by decide +kernel) rfl ?_
  refine Go.put 4 1 (by decide) (by decide) sh4 (ltO hE sh4) (Or.inl rfl) rfl rfl rfl lk95 (by decide +kernel) ?_
  refine Go.iconst (n := 0) (0 : Int32) (by decide +kernel) rfl ?_
  refine Go.istore_n (k := 2) (i := 2) [(2, .int (0 : Int32)), (0, .ref (ad E 3)), (1, .int a1)] (by decide +kernel) rfl (by decide) rfl ?_
  refine Go.sub [1, 0] [(0, .ref (ad E 3)), (2, .int (0 : Int32))] rfl ?_
  exact t_l_Nr_read_51 hG hE d hd FU (0 : Int32) (u1 P5 4 1 (1 : Int32)) h
theorem e_Nr_read {G : GX} (hG : GOK G) {E : EV} (hE : E0 E) (d : Nat) (hd : 110 ≤ d) (a1 : Int32) (P : PM) {Q : QT} (h : St E rIP (f_Nr_read a1 P) Q) : Con G y_Nr_read cw_Nr_read d nOb nOb [.ref (ad E 3), .int a1] P E Q :=
  Con.of hG (by decide +kernel) rfl (fun h => by cases h) hE.2 (Nat.le_of_ble_eq_true rfl) (t_f_Nr_read hG hE d hd a1 P h)
abbrev c_De_forgetPast : ByteArray := prog_2_method_5_code
abbrev y_De_forgetPast : MethodName := ⟨"YawnRoute$Deeds", "forgetPast", "()V"⟩
abbrev cw_De_forgetPast : Cond := .code y_De_forgetPast c_De_forgetPast 1 none
theorem w_De_forgetPast : VW 0 y_De_forgetPast c_De_forgetPast 1 none 0 := ⟨by decide, lk714, lk715, lk8, lk716, ⟨by decide, by decide, by decide +kernel⟩, by decide⟩
noncomputable def f_De_forgetPast (P : PM) : Option PM := some (u1 P 31 5 (0 : Int32))
theorem t_f_De_forgetPast {G : GX} (hG : GOK G) {E : EV} (hE : E0 E) (d : Nat) (hd : 1 ≤ d) {Q : QT} (P : PM) (h : St E rP (f_De_forgetPast P) Q) : Go G c_De_forgetPast "YawnRoute$Deeds" 1 none false d nOb nOb Q 0 [(0, .ref (ad E 31))] [] P E := by
  rw [f_De_forgetPast] at h
  refine Go.aload_n (k := 0) (i := 0) 0 (by decide +kernel) rfl rfl ?_
  refine Go.iconst (n := 0) (0 : Int32) (by decide +kernel) rfl ?_
  refine Go.put 31 5 (by decide) (by decide) sh31 (ltO hE sh31) (Or.inl rfl) rfl rfl rfl lk249 (by decide +kernel) ?_
  exact Go.vret rfl hE.2 (by decide +kernel) (St.fP h)
theorem e_De_forgetPast {G : GX} (hG : GOK G) {E : EV} (hE : E0 E) (d : Nat) (hd : 1 ≤ d) (P : PM) {Q : QT} (h : St E rP (f_De_forgetPast P) Q) : Con G y_De_forgetPast cw_De_forgetPast d nOb nOb [.ref (ad E 31)] P E Q :=
  Con.of hG (by decide +kernel) rfl (fun h => by cases h) hE.2 (Nat.le_of_ble_eq_true rfl) (t_f_De_forgetPast hG hE d hd P h)
abbrev c_Ne_copy : ByteArray := prog_4_method_3_code
abbrev y_Ne_copy : MethodName := ⟨"YawnRoute$Net", "copy", "(LYawnRoute$Net;)V"⟩
abbrev cw_Ne_copy : Cond := .code y_Ne_copy c_Ne_copy 2 none
theorem w_Ne_copy : VW 2 y_Ne_copy c_Ne_copy 2 none 1 := ⟨by decide, lk702, lk703, lk4, lk704, ⟨by decide, by decide, by decide +kernel⟩, by decide⟩
noncomputable def f_Ne_copy (this : Nat) (a1 : Nat) (P : PM) : Option PM := some (uc (uc (uc (uc (u1 (u1 (u1 (u1 (u1 (u1 (u1 P this 0 (P.1 a1 0)) this 1 ((u1 P this 0 (P.1 a1 0)).1 a1 1)) this 6 ((u1 (u1 P this 0 (P.1 a1 0)) this 1 ((u1 P this 0 (P.1 a1 0)).1 a1 1)).1 a1 6)) this 7 ((u1 (u1 (u1 P this 0 (P.1 a1 0)) this 1 ((u1 P this 0 (P.1 a1 0)).1 a1 1)) this 6 ((u1 (u1 P this 0 (P.1 a1 0)) this 1 ((u1 P this 0 (P.1 a1 0)).1 a1 1)).1 a1 6)).1 a1 7)) this 8 ((u1 (u1 (u1 (u1 P this 0 (P.1 a1 0)) this 1 ((u1 P this 0 (P.1 a1 0)).1 a1 1)) this 6 ((u1 (u1 P this 0 (P.1 a1 0)) this 1 ((u1 P this 0 (P.1 a1 0)).1 a1 1)).1 a1 6)) this 7 ((u1 (u1 (u1 P this 0 (P.1 a1 0)) this 1 ((u1 P this 0 (P.1 a1 0)).1 a1 1)) this 6 ((u1 (u1 P this 0 (P.1 a1 0)) this 1 ((u1 P this 0 (P.1 a1 0)).1 a1 1)).1 a1 6)).1 a1 7)).1 a1 8)) this 9 ((u1 (u1 (u1 (u1 (u1 P this 0 (P.1 a1 0)) this 1 ((u1 P this 0 (P.1 a1 0)).1 a1 1)) this 6 ((u1 (u1 P this 0 (P.1 a1 0)) this 1 ((u1 P this 0 (P.1 a1 0)).1 a1 1)).1 a1 6)) this 7 ((u1 (u1 (u1 P this 0 (P.1 a1 0)) this 1 ((u1 P this 0 (P.1 a1 0)).1 a1 1)) this 6 ((u1 (u1 P this 0 (P.1 a1 0)) this 1 ((u1 P this 0 (P.1 a1 0)).1 a1 1)).1 a1 6)).1 a1 7)) this 8 ((u1 (u1 (u1 (u1 P this 0 (P.1 a1 0)) this 1 ((u1 P this 0 (P.1 a1 0)).1 a1 1)) this 6 ((u1 (u1 P this 0 (P.1 a1 0)) this 1 ((u1 P this 0 (P.1 a1 0)).1 a1 1)).1 a1 6)) this 7 ((u1 (u1 (u1 P this 0 (P.1 a1 0)) this 1 ((u1 P this 0 (P.1 a1 0)).1 a1 1)) this 6 ((u1 (u1 P this 0 (P.1 a1 0)) this 1 ((u1 P this 0 (P.1 a1 0)).1 a1 1)).1 a1 6)).1 a1 7)).1 a1 8)).1 a1 9)) this 10 ((u1 (u1 (u1 (u1 (u1 (u1 P this 0 (P.1 a1 0)) this 1 ((u1 P this 0 (P.1 a1 0)).1 a1 1)) this 6 ((u1 (u1 P this 0 (P.1 a1 0)) this 1 ((u1 P this 0 (P.1 a1 0)).1 a1 1)).1 a1 6)) this 7 ((u1 (u1 (u1 P this 0 (P.1 a1 0)) this 1 ((u1 P this 0 (P.1 a1 0)).1 a1 1)) this 6 ((u1 (u1 P this 0 (P.1 a1 0)) this 1 ((u1 P this 0 (P.1 a1 0)).1 a1 1)).1 a1 6)).1 a1 7)) this 8 ((u1 (u1 (u1 (u1 P this 0 (P.1 a1 0)) this 1 ((u1 P this 0 (P.1 a1 0)).1 a1 1)) this 6 ((u1 (u1 P this 0 (P.1 a1 0)) this 1 ((u1 P this 0 (P.1 a1 0)).1 a1 1)).1 a1 6)) this 7 ((u1 (u1 (u1 P this 0 (P.1 a1 0)) this 1 ((u1 P this 0 (P.1 a1 0)).1 a1 1)) this 6 ((u1 (u1 P this 0 (P.1 a1 0)) this 1 ((u1 P this 0 (P.1 a1 0)).1 a1 1)).1 a1 6)).1 a1 7)).1 a1 8)) this 9 ((u1 (u1 (u1 (u1 (u1 P this 0 (P.1 a1 0)) this 1 ((u1 P this 0 (P.1 a1 0)).1 a1 1)) this 6 ((u1 (u1 P this 0 (P.1 a1 0)) this 1 ((u1 P this 0 (P.1 a1 0)).1 a1 1)).1 a1 6)) this 7 ((u1 (u1 (u1 P this 0 (P.1 a1 0)) this 1 ((u1 P this 0 (P.1 a1 0)).1 a1 1)) this 6 ((u1 (u1 P this 0 (P.1 a1 0)) this 1 ((u1 P this 0 (P.1 a1 0)).1 a1 1)).1 a1 6)).1 a1 7)) this 8 ((u1 (u1 (u1 (u1 P this 0 (P.1 a1 0)) this 1 ((u1 P this 0 (P.1 a1 0)).1 a1 1)) this 6 ((u1 (u1 P this 0 (P.1 a1 0)) this 1 ((u1 P this 0 (P.1 a1 0)).1 a1 1)).1 a1 6)) this 7 ((u1 (u1 (u1 P this 0 (P.1 a1 0)) this 1 ((u1 P this 0 (P.1 a1 0)).1 a1 1)) this 6 ((u1 (u1 P this 0 (P.1 a1 0)) this 1 ((u1 P this 0 (P.1 a1 0)).1 a1 1)).1 a1 6)).1 a1 7)).1 a1 8)).1 a1 9)).1 a1 10)) (a1 + 1) (0 : Int32).toNatClampNeg (this + 1) (0 : Int32).toNatClampNeg (7 : Int32).toNatClampNeg) (a1 + 2) (0 : Int32).toNatClampNeg (this + 2) (0 : Int32).toNatClampNeg (49 : Int32).toNatClampNeg) (a1 + 3) (0 : Int32).toNatClampNeg (this + 3) (0 : Int32).toNatClampNeg (49 : Int32).toNatClampNeg) (a1 + 4) (0 : Int32).toNatClampNeg (this + 4) (0 : Int32).toNatClampNeg (900 : Int32).toNatClampNeg)
theorem t_f_Ne_copy {G : GX} (hG : GOK G) {E : EV} (hE : E0 E) (d : Nat) (hd : 1 ≤ d) {Q : QT} (this : Nat) (hthis : sh this = .inl 2) (a1 : Nat) (ha1 : sh a1 = .inl 2) (P : PM) (h : St E rP (f_Ne_copy this a1 P) Q) : Go G c_Ne_copy "YawnRoute$Net" 2 none false d nOb nOb Q 0 [(0, .ref (ad E this)), (1, .ref (ad E a1))] [] P E := by
  rw [f_Ne_copy] at h
  refine Go.aload_n (k := 0) (i := 0) 0 (by decide +kernel) rfl rfl ?_
  refine Go.aload_n (k := 1) (i := 1) 1 (by decide +kernel) rfl rfl ?_
  refine Go.get a1 0 (.int (P.1 a1 0)) (by decide) (by decide) ha1 (ltO hE ha1) rfl lk86 (by decide +kernel) ?_
  refine Go.put this 0 (by decide) (by decide) hthis (ltO hE hthis) (Or.inl rfl) rfl rfl rfl lk86 (by decide +kernel) ?_
  refine Go.aload_n (k := 0) (i := 0) 0 (by decide +kernel) rfl rfl ?_
  refine Go.aload_n (k := 1) (i := 1) 1 (by decide +kernel) rfl rfl ?_
  refine Go.get a1 1 (.int ((u1 P this 0 (P.1 a1 0)).1 a1 1)) (by decide) (by decide) ha1 (ltO hE ha1) rfl lk94 (by decide +kernel) ?_
  refine Go.put this 1 (by decide) (by decide) hthis (ltO hE hthis) (Or.inl rfl) rfl rfl rfl lk94 (by decide +kernel) ?_
  refine Go.aload_n (k := 0) (i := 0) 0 (by decide +kernel) rfl rfl ?_
  refine Go.aload_n (k := 1) (i := 1) 1 (by decide +kernel) rfl rfl ?_
  refine Go.get a1 6 (.int ((u1 (u1 P this 0 (P.1 a1 0)) this 1 ((u1 P this 0 (P.1 a1 0)).1 a1 1)).1 a1 6)) (by decide) (by decide) ha1 (ltO hE ha1) rfl lk103 (by decide +kernel) ?_
  refine Go.put this 6 (by decide) (by decide) hthis (ltO hE hthis) (Or.inl rfl) rfl rfl rfl lk103 (by decide +kernel) ?_
  refine Go.aload_n (k := 0) (i := 0) 0 (by decide +kernel) rfl rfl ?_
  refine Go.aload_n (k := 1) (i := 1) 1 (by decide +kernel) rfl rfl ?_
  refine Go.get a1 7 (.int ((u1 (u1 (u1 P this 0 (P.1 a1 0)) this 1 ((u1 P this 0 (P.1 a1 0)).1 a1 1)) this 6 ((u1 (u1 P this 0 (P.1 a1 0)) this 1 ((u1 P this 0 (P.1 a1 0)).1 a1 1)).1 a1 6)).1 a1 7)) (by decide) (by decide) ha1 (ltO hE ha1) rfl lk105 (by decide +kernel) ?_
  refine Go.put this 7 (by decide) (by decide) hthis (ltO hE hthis) (Or.inl rfl) rfl rfl rfl lk105 (by decide +kernel) ?_
  refine Go.aload_n (k := 0) (i := 0) 0 (by decide +kernel) rfl rfl ?_
  refine Go.aload_n (k := 1) (i := 1) 1 (by decide +kernel) rfl rfl ?_
  refine Go.get a1 8 (.int ((u1 (u1 (u1 (u1 P this 0 (P.1 a1 0)) this 1 ((u1 P this 0 (P.1 a1 0)).1 a1 1)) this 6 ((u1 (u1 P this 0 (P.1 a1 0)) this 1 ((u1 P this 0 (P.1 a1 0)).1 a1 1)).1 a1 6)) this 7 ((u1 (u1 (u1 P this 0 (P.1 a1 0)) this 1 ((u1 P this 0 (P.1 a1 0)).1 a1 1)) this 6 ((u1 (u1 P this 0 (P.1 a1 0)) this 1 ((u1 P this 0 (P.1 a1 0)).1 a1 1)).1 a1 6)).1 a1 7)).1 a1 8)) (by decide) (by decide) ha1 (ltO hE ha1) rfl lk107 (by decide +kernel) ?_
  refine Go.put this 8 (by decide) (by decide) hthis (ltO hE hthis) (Or.inl rfl) rfl rfl rfl lk107 (by decide +kernel) ?_
  refine Go.aload_n (k := 0) (i := 0) 0 (by decide +kernel) rfl rfl ?_
  refine Go.aload_n (k := 1) (i := 1) 1 (by decide +kernel) rfl rfl ?_
  refine Go.get a1 9 (.int ((u1 (u1 (u1 (u1 (u1 P this 0 (P.1 a1 0)) this 1 ((u1 P this 0 (P.1 a1 0)).1 a1 1)) this 6 ((u1 (u1 P this 0 (P.1 a1 0)) this 1 ((u1 P this 0 (P.1 a1 0)).1 a1 1)).1 a1 6)) this 7 ((u1 (u1 (u1 P this 0 (P.1 a1 0)) this 1 ((u1 P this 0 (P.1 a1 0)).1 a1 1)) this 6 ((u1 (u1 P this 0 (P.1 a1 0)) this 1 ((u1 P this 0 (P.1 a1 0)).1 a1 1)).1 a1 6)).1 a1 7)) this 8 ((u1 (u1 (u1 (u1 P this 0 (P.1 a1 0)) this 1 ((u1 P this 0 (P.1 a1 0)).1 a1 1)) this 6 ((u1 (u1 P this 0 (P.1 a1 0)) this 1 ((u1 P this 0 (P.1 a1 0)).1 a1 1)).1 a1 6)) this 7 ((u1 (u1 (u1 P this 0 (P.1 a1 0)) this 1 ((u1 P this 0 (P.1 a1 0)).1 a1 1)) this 6 ((u1 (u1 P this 0 (P.1 a1 0)) this 1 ((u1 P this 0 (P.1 a1 0)).1 a1 1)).1 a1 6)).1 a1 7)).1 a1 8)).1 a1 9)) (by decide) (by decide) ha1 (ltO hE ha1) rfl lk109 (by decide +kernel) ?_
  refine Go.put this 9 (by decide) (by decide) hthis (ltO hE hthis) (Or.inl rfl) rfl rfl rfl lk109 (by decide +kernel) ?_
  refine Go.aload_n (k := 0) (i := 0) 0 (by decide +kernel) rfl rfl ?_
  refine Go.aload_n (k := 1) (i := 1) 1 (by decide +kernel) rfl rfl ?_
  refine Go.get a1 10 (.int ((u1 (u1 (u1 (u1 (u1 (u1 P this 0 (P.1 a1 0)) this 1 ((u1 P this 0 (P.1 a1 0)).1 a1 1)) this 6 ((u1 (u1 P this 0 (P.1 a1 0)) this 1 ((u1 P this 0 (P.1 a1 0)).1 a1 1)).1 a1 6)) this 7 ((u1 (u1 (u1 P this 0 (P.1 a1 0)) this 1 ((u1 P this 0 (P.1 a1 0)).1 a1 1)) this 6 ((u1 (u1 P this 0 (P.1 a1 0)) this 1 ((u1 P this 0 (P.1 a1 0)).1 a1 1)).1 a1 6)).1 a1 7)) this 8 ((u1 (u1 (u1 (u1 P this 0 (P.1 a1 0)) this 1 ((u1 P this 0 (P.1 a1 0)).1 a1 1)) this 6 ((u1 (u1 P this 0 (P.1 a1 0)) this 1 ((u1 P this 0 (P.1 a1 0)).1 a1 1)).1 a1 6)) this 7 ((u1 (u1 (u1 P this 0 (P.1 a1 0)) this 1 ((u1 P this 0 (P.1 a1 0)).1 a1 1)) this 6 ((u1 (u1 P this 0 (P.1 a1 0)) this 1 ((u1 P this 0 (P.1 a1 0)).1 a1 1)).1 a1 6)).1 a1 7)).1 a1 8)) this 9 ((u1 (u1 (u1 (u1 (u1 P this 0 (P.1 a1 0)) this 1 ((u1 P this 0 (P.1 a1 0)).1 a1 1)) this 6 ((u1 (u1 P this 0 (P.1 a1 0)) this 1 ((u1 P this 0 (P.1 a1 0)).1 a1 1)).1 a1 6)) this 7 ((u1 (u1 (u1 P this 0 (P.1 a1 0)) this 1 ((u1 P this 0 (P.1 a1 0)).1 a1 1)) this 6 ((u1 (u1 P this 0 (P.1 a1 0)) this 1 ((u1 P this 0 (P.1 a1 0)).1 a1 1)).1 a1 6)).1 a1 7)) this 8 ((u1 (u1 (u1 (u1 P this 0 (P.1 a1 0)) this 1 ((u1 P this 0 (P.1 a1 0)).1 a1 1)) this 6 ((u1 (u1 P this 0 (P.1 a1 0)) this 1 ((u1 P this 0 (P.1 a1 0)).1 a1 1)).1 a1 6)) this 7 ((u1 (u1 (u1 P this 0 (P.1 a1 0)) this 1 ((u1 P this 0 (P.1 a1 0)).1 a1 1)) this 6 ((u1 (u1 P this 0 (P.1 a1 0)) this 1 ((u1 P this 0 (P.1 a1 0)).1 a1 1)).1 a1 6)).1 a1 7)).1 a1 8)).1 a1 9)).1 a1 10)) (by decide) (by decide) ha1 (ltO hE ha1) rfl lk111 (by decide +kernel) ?_
  refine Go.put this 10 (by decide) (by decide) hthis (ltO hE hthis) (Or.inl rfl) rfl rfl rfl lk111 (by decide +kernel) ?_
  refine Go.aload_n (k := 1) (i := 1) 1 (by decide +kernel) rfl rfl ?_
  refine Go.get a1 2 (.ref (ad E (a1 + 1))) (by decide) (by decide) ha1 (ltO hE ha1) (vlR hE rfl (rfNe_2 ha1)) lk97 (by decide +kernel) ?_
  refine Go.iconst (n := 0) (0 : Int32) (by decide +kernel) rfl ?_
  refine Go.aload_n (k := 0) (i := 0) 0 (by decide +kernel) rfl rfl ?_
  refine Go.get this 2 (.ref (ad E (this + 1))) (by decide) (by decide) hthis (ltO hE hthis) (vlR hE rfl (rfNe_2 hthis)) lk97 (by decide +kernel) ?_
  refine Go.iconst (n := 0) (0 : Int32) (by decide +kernel) rfl ?_
  refine Go.aload_n (k := 0) (i := 0) 0 (by decide +kernel) rfl rfl ?_
  refine Go.get this 2 (.ref (ad E (this + 1))) (by decide) (by decide) hthis (ltO hE hthis) (vlR hE rfl (rfNe_2 hthis)) lk97 (by decide +kernel) ?_
  refine Go.alen (this + 1) 0 7 (7 : Int32) (shNe_2 hthis) (by decide) (ltA hE (shNe_2 hthis) (by decide)) rfl (by decide +kernel) ?_
  refine Go.copy (a1 + 1) (this + 1) 7 7 (shNe_2 ha1) (shNe_2 hthis) (ltA hE (shNe_2 ha1) (by decide)) (ltA hE (shNe_2 hthis) (by decide)) lk705 (by decide) (by decide) (by decide) (by decide) (by decide) (by omega) (Nat.le_of_ble_eq_true rfl) (by decide +kernel) ?_
  refine Go.aload_n (k := 1) (i := 1) 1 (by decide +kernel) rfl rfl ?_
  refine Go.get a1 3 (.ref (ad E (a1 + 2))) (by decide) (by decide) ha1 (ltO hE ha1) (vlR hE rfl (rfNe_3 ha1)) lk100 (by decide +kernel) ?_
  refine Go.iconst (n := 0) (0 : Int32) (by decide +kernel) rfl ?_
  refine Go.aload_n (k := 0) (i := 0) 0 (by decide +kernel) rfl rfl ?_
  refine Go.get this 3 (.ref (ad E (this + 2))) (by decide) (by decide) hthis (ltO hE hthis) (vlR hE rfl (rfNe_3 hthis)) lk100 (by decide +kernel) ?_
  refine Go.iconst (n := 0) (0 : Int32) (by decide +kernel) rfl ?_
  refine Go.aload_n (k := 0) (i := 0) 0 (by decide +kernel) rfl rfl ?_
  refine Go.get this 3 (.ref (ad E (this + 2))) (by decide) (by decide) hthis (ltO hE hthis) (vlR hE rfl (rfNe_3 hthis)) lk100 (by decide +kernel) ?_
  refine Go.alen (this + 2) 0 49 (49 : Int32) (shNe_3 hthis) (by decide) (ltA hE (shNe_3 hthis) (by decide)) rfl (by decide +kernel) ?_
  refine Go.copy (a1 + 2) (this + 2) 49 49 (shNe_3 ha1) (shNe_3 hthis) (ltA hE (shNe_3 ha1) (by decide)) (ltA hE (shNe_3 hthis) (by decide)) lk705 (by decide) (by decide) (by decide) (by decide) (by decide) (by omega) (Nat.le_of_ble_eq_true rfl) (by decide +kernel) ?_
  refine Go.aload_n (k := 1) (i := 1) 1 (by decide +kernel) rfl rfl ?_
  refine Go.get a1 4 (.ref (ad E (a1 + 3))) (by decide) (by decide) ha1 (ltO hE ha1) (vlR hE rfl (rfNe_4 ha1)) lk101 (by decide +kernel) ?_
  refine Go.iconst (n := 0) (0 : Int32) (by decide +kernel) rfl ?_
  refine Go.aload_n (k := 0) (i := 0) 0 (by decide +kernel) rfl rfl ?_
  refine Go.get this 4 (.ref (ad E (this + 3))) (by decide) (by decide) hthis (ltO hE hthis) (vlR hE rfl (rfNe_4 hthis)) lk101 (by decide +kernel) ?_
  refine Go.iconst (n := 0) (0 : Int32) (by decide +kernel) rfl ?_
  refine Go.aload_n (k := 0) (i := 0) 0 (by decide +kernel) rfl rfl ?_
  refine Go.get this 4 (.ref (ad E (this + 3))) (by decide) (by decide) hthis (ltO hE hthis) (vlR hE rfl (rfNe_4 hthis)) lk101 (by decide +kernel) ?_
  refine Go.alen (this + 3) 0 49 (49 : Int32) (shNe_4 hthis) (by decide) (ltA hE (shNe_4 hthis) (by decide)) rfl (by decide +kernel) ?_
  refine Go.copy (a1 + 3) (this + 3) 49 49 (shNe_4 ha1) (shNe_4 hthis) (ltA hE (shNe_4 ha1) (by decide)) (ltA hE (shNe_4 hthis) (by decide)) lk705 (by decide) (by decide) (by decide) (by decide) (by decide) (by omega) (Nat.le_of_ble_eq_true rfl) (by decide +kernel) ?_
  refine Go.aload_n (k := 1) (i := 1) 1 (by decide +kernel) rfl rfl ?_
  refine Go.get a1 5 (.ref (ad E (a1 + 4))) (by decide) (by decide) ha1 (ltO hE ha1) (vlR hE rfl (rfNe_5 ha1)) lk102 (by decide +kernel) ?_
  refine Go.iconst (n := 0) (0 : Int32) (by decide +kernel) rfl ?_
  refine Go.aload_n (k := 0) (i := 0) 0 (by decide +kernel) rfl rfl ?_
  refine Go.get this 5 (.ref (ad E (this + 4))) (by decide) (by decide) hthis (ltO hE hthis) (vlR hE rfl (rfNe_5 hthis)) lk102 (by decide +kernel) ?_
  refine Go.iconst (n := 0) (0 : Int32) (by decide +kernel) rfl ?_
  refine Go.aload_n (k := 0) (i := 0) 0 (by decide +kernel) rfl rfl ?_
  refine Go.get this 5 (.ref (ad E (this + 4))) (by decide) (by decide) hthis (ltO hE hthis) (vlR hE rfl (rfNe_5 hthis)) lk102 (by decide +kernel) ?_
  refine Go.alen (this + 4) 0 900 (900 : Int32) (shNe_5 hthis) (by decide) (ltA hE (shNe_5 hthis) (by decide)) rfl (by decide +kernel) ?_
  refine Go.copy (a1 + 4) (this + 4) 900 900 (shNe_5 ha1) (shNe_5 hthis) (ltA hE (shNe_5 ha1) (by decide)) (ltA hE (shNe_5 hthis) (by decide)) lk705 (by decide) (by decide) (by decide) (by decide) (by decide) (by omega) (Nat.le_of_ble_eq_true rfl) (by decide +kernel) ?_
  exact Go.vret rfl hE.2 (by decide +kernel) (St.fP h)
theorem e_Ne_copy {G : GX} (hG : GOK G) {E : EV} (hE : E0 E) (d : Nat) (hd : 1 ≤ d) (this : Nat) (hthis : sh this = .inl 2) (a1 : Nat) (ha1 : sh a1 = .inl 2) (P : PM) {Q : QT} (h : St E rP (f_Ne_copy this a1 P) Q) : Con G y_Ne_copy cw_Ne_copy d nOb nOb [.ref (ad E this), .ref (ad E a1)] P E Q :=
  Con.of hG (by decide +kernel) rfl (fun h => by cases h) hE.2 (Nat.le_of_ble_eq_true rfl) (t_f_Ne_copy hG hE d hd this hthis a1 ha1 P h)
abbrev c_Ja_fill_ABB : ByteArray := prog_22_method_109_code
abbrev y_Ja_fill_ABB : MethodName := ⟨"java/util/Arrays", "fill", "([BB)V"⟩
abbrev cw_Ja_fill_ABB : Cond := .code y_Ja_fill_ABB c_Ja_fill_ABB 4 none
theorem w_Ja_fill_ABB : SW y_Ja_fill_ABB c_Ja_fill_ABB 4 none 2 := ⟨lk287, lk10, lk288, ⟨by decide, by decide, by decide +kernel⟩, by decide⟩
noncomputable def l_Ja_fill_ABB_5 (a0 : Nat) (n0 : Nat) : Nat → Int32 → Int32 → Int32 → PM → Option PM
  | 0, _, _, _, _ => none
  | n + 1, x1, x2, x3, P => if x3 ≤ x2 then (some P) else (ck (inb x2 n0) (l_Ja_fill_ABB_5 a0 n0 n x1 (x2 + (1 : Int32)) x3 (u1 P a0 x2.toNatClampNeg (vp_nar .byte x1))))
noncomputable def f_Ja_fill_ABB (a0 : Nat) (n0 : Nat) (a1 : Int32) (P : PM) : Option PM := lb (Int32.ofNat n0) (fun y1 => l_Ja_fill_ABB_5 a0 n0 FU a1 (0 : Int32) y1 P)
theorem t_l_Ja_fill_ABB_5 {G : GX} (hG : GOK G) {E : EV} (hE : E0 E) (d : Nat) (hd : 1 ≤ d) {Q : QT} (a0 : Nat) (n0 : Nat) (ha0 : sh a0 = .inr (1, n0)) : ∀ (n : Nat) (x1 : Int32) (x2 : Int32) (x3 : Int32) (P : PM), St E rP (l_Ja_fill_ABB_5 a0 n0 n x1 x2 x3 P) Q → Go G c_Ja_fill_ABB "java/util/Arrays" 4 none false d nOb nOb Q 5 [(0, .ref (ad E a0)), (1, .int x1), (2, .int x2), (3, .int x3)] [] P E := by
  intro n
  induction n with
  | zero =>
    intro x1 x2 x3 P h
    rw [l_Ja_fill_ABB_5] at h
    exact St.none_ h
  | succ n ih =>
    intro x1 x2 x3 P h
    rw [l_Ja_fill_ABB_5] at h
    refine Go.iload_n (k := 2) (i := 2) 2 (by decide +kernel) rfl rfl ?_
    refine Go.iload_n (k := 3) (i := 3) 3 (by decide +kernel) rfl rfl ?_
    refine Go.icmp_ge (off := 13) 20 (by decide +kernel) (by decide) (fun c1 => ?_) (fun c1 => ?_)
    · rw [if_pos c1] at h
      exact Go.vret rfl hE.2 (by decide +kernel) (St.fP h)
    · rw [if_neg c1] at h
      refine Go.aload_n (k := 0) (i := 0) 0 (by decide +kernel) rfl rfl ?_
      refine Go.iload_n (k := 2) (i := 2) 2 (by decide +kernel) rfl rfl ?_
      refine Go.iload_n (k := 1) (i := 1) 1 (by decide +kernel) rfl rfl ?_
      obtain ⟨b2, h⟩ := St.ck h
      refine Go.bastore a0 n0 ha0 (ltA hE ha0 (by decide)) (inb_in b2) (by decide +kernel) ?_
      refine Go.iinc (i := 2) (n := 1) 2 (x2 + (1 : Int32)) [(2, .int (x2 + (1 : Int32))), (0, .ref (ad E a0)), (1, .int x1), (3, .int x3)] (by decide +kernel) rfl rfl (by decide) rfl ?_
      refine Go.goto (off := -12) 5 (by decide +kernel) (by decide) ?_
      refine Go.sub [1, 2, 0, 3] [(0, .ref (ad E a0)), (1, .int x1), (2, .int (x2 + (1 : Int32))), (3, .int x3)] rfl ?_
      exact ih x1 (x2 + (1 : Int32)) x3 (u1 P a0 x2.toNatClampNeg (vp_nar .byte x1)) h
theorem t_f_Ja_fill_ABB {G : GX} (hG : GOK G) {E : EV} (hE : E0 E) (d : Nat) (hd : 1 ≤ d) {Q : QT} (a0 : Nat) (n0 : Nat) (ha0 : sh a0 = .inr (1, n0)) (a1 : Int32) (P : PM) (h : St E rP (f_Ja_fill_ABB a0 n0 a1 P) Q) : Go G c_Ja_fill_ABB "java/util/Arrays" 4 none false d nOb nOb Q 0 [(0, .ref (ad E a0)), (1, .int a1)] [] P E := by
  rw [f_Ja_fill_ABB] at h
  refine Go.iconst (n := 0) (0 : Int32) (by decide +kernel) rfl ?_
  refine Go.istore_n (k := 2) (i := 2) [(2, .int (0 : Int32)), (0, .ref (ad E a0)), (1, .int a1)] (by decide +kernel) rfl (by decide) rfl ?_
  refine Go.aload_n (k := 0) (i := 0) 1 (by decide +kernel) rfl rfl ?_
  refine Go.alen a0 1 n0 (Int32.ofNat n0) ha0 (by decide) (ltA hE ha0 (by decide)) rfl (by decide +kernel) ?_
  obtain ⟨y1, hy1, h⟩ := St.lb h
  refine Go.eqi y1 hy1 ?_
  refine Go.istore_n (k := 3) (i := 3) [(3, .int y1), (2, .int (0 : Int32)), (0, .ref (ad E a0)), (1, .int a1)] (by decide +kernel) rfl (by decide) rfl ?_
  refine Go.sub [2, 3, 1, 0] [(0, .ref (ad E a0)), (1, .int a1), (2, .int (0 : Int32)), (3, .int y1)] rfl ?_
  exact t_l_Ja_fill_ABB_5 hG hE d hd a0 n0 ha0 FU a1 (0 : Int32) y1 P h
theorem e_Ja_fill_ABB {G : GX} (hG : GOK G) {E : EV} (hE : E0 E) (d : Nat) (hd : 1 ≤ d) (a0 : Nat) (n0 : Nat) (ha0 : sh a0 = .inr (1, n0)) (a1 : Int32) (P : PM) {Q : QT} (h : St E rP (f_Ja_fill_ABB a0 n0 a1 P) Q) : Con G y_Ja_fill_ABB cw_Ja_fill_ABB d nOb nOb [.ref (ad E a0), .int a1] P E Q :=
  Con.of hG (by decide +kernel) rfl (fun h => by cases h) hE.2 (Nat.le_of_ble_eq_true rfl) (t_f_Ja_fill_ABB hG hE d hd a0 n0 ha0 a1 P h)
abbrev c_Pa_forgetAll : ByteArray := prog_6_method_2_code
abbrev y_Pa_forgetAll : MethodName := ⟨"YawnRoute$Passings", "forgetAll", "()V"⟩
abbrev cw_Pa_forgetAll : Cond := .code y_Pa_forgetAll c_Pa_forgetAll 1 none
theorem w_Pa_forgetAll : VW 4 y_Pa_forgetAll c_Pa_forgetAll 1 none 0 := ⟨by decide, lk283, lk284, lk9, lk285, ⟨by decide, by decide, by decide +kernel⟩, by decide⟩
noncomputable def f_Pa_forgetAll (P : PM) : Option PM := (f_Ja_fill_ABB 59 1960 (-2 : Int32) P).bind (fun P1 => some P1)
theorem t_f_Pa_forgetAll {G : GX} (hG : GOK G) {E : EV} (hE : E0 E) (d : Nat) (hd : 2 ≤ d) {Q : QT} (P : PM) (h : St E rP (f_Pa_forgetAll P) Q) : Go G c_Pa_forgetAll "YawnRoute$Passings" 1 none false d nOb nOb Q 0 [(0, .ref (ad E 58))] [] P E := by
  rw [f_Pa_forgetAll] at h
  refine Go.aload_n (k := 0) (i := 0) 0 (by decide +kernel) rfl rfl ?_
  refine Go.get 58 2 (.ref (ad E 59)) (by decide) (by decide) sh58 (ltO hE sh58) (vlR hE rfl rfl) lk291 (by decide +kernel) ?_
  refine Go.bipush (n := -2) (-2 : Int32) (by decide +kernel) (by decide) ?_
  obtain ⟨P1, hP1, h⟩ := St.bind h
  refine Go.cS_v (P1 := P1) (d - 1) [.ref (ad E 59), .int (-2 : Int32)] hE w_Ja_fill_ABB (e_Ja_fill_ABB hG hE (d - 1) (by omega) 59 1960 sh59 (-2 : Int32) P ⟨_, hP1, rfl, rfl, rfl⟩) lk286 rfl (by omega) (Nat.le_of_ble_eq_true rfl) (by decide +kernel) _ rfl ?_
  exact Go.vret rfl hE.2 (by decide +kernel) (St.fP h)
theorem e_Pa_forgetAll {G : GX} (hG : GOK G) {E : EV} (hE : E0 E) (d : Nat) (hd : 2 ≤ d) (P : PM) {Q : QT} (h : St E rP (f_Pa_forgetAll P) Q) : Con G y_Pa_forgetAll cw_Pa_forgetAll d nOb nOb [.ref (ad E 58)] P E Q :=
  Con.of hG (by decide +kernel) rfl (fun h => by cases h) hE.2 (Nat.le_of_ble_eq_true rfl) (t_f_Pa_forgetAll hG hE d hd P h)
abbrev c_Sa_copy : ByteArray := prog_9_method_3_code
abbrev y_Sa_copy : MethodName := ⟨"YawnRoute$State", "copy", "(LYawnRoute$State;)V"⟩
abbrev cw_Sa_copy : Cond := .code y_Sa_copy c_Sa_copy 2 none
theorem w_Sa_copy : VW 7 y_Sa_copy c_Sa_copy 2 none 1 := ⟨by decide, lk709, lk710, lk5, lk711, ⟨by decide, by decide, by decide +kernel⟩, by decide⟩
noncomputable def f_Sa_copy (this : Nat) (a1 : Nat) (P : PM) : Option PM := some (uc (u1 (u1 (u1 (u1 P this 0 (P.1 a1 0)) this 1 ((u1 P this 0 (P.1 a1 0)).1 a1 1)) this 2 ((u1 (u1 P this 0 (P.1 a1 0)) this 1 ((u1 P this 0 (P.1 a1 0)).1 a1 1)).1 a1 2)) this 3 ((u1 (u1 (u1 P this 0 (P.1 a1 0)) this 1 ((u1 P this 0 (P.1 a1 0)).1 a1 1)) this 2 ((u1 (u1 P this 0 (P.1 a1 0)) this 1 ((u1 P this 0 (P.1 a1 0)).1 a1 1)).1 a1 2)).1 a1 3)) (a1 + 1) (0 : Int32).toNatClampNeg (this + 1) (0 : Int32).toNatClampNeg (7 : Int32).toNatClampNeg)
theorem t_f_Sa_copy {G : GX} (hG : GOK G) {E : EV} (hE : E0 E) (d : Nat) (hd : 1 ≤ d) {Q : QT} (this : Nat) (hthis : sh this = .inl 7) (a1 : Nat) (ha1 : sh a1 = .inl 7) (P : PM) (h : St E rP (f_Sa_copy this a1 P) Q) : Go G c_Sa_copy "YawnRoute$State" 2 none false d nOb nOb Q 0 [(0, .ref (ad E this)), (1, .ref (ad E a1))] [] P E := by
  rw [f_Sa_copy] at h
  refine Go.aload_n (k := 0) (i := 0) 0 (by decide +kernel) rfl rfl ?_
  refine Go.aload_n (k := 1) (i := 1) 1 (by decide +kernel) rfl rfl ?_
  refine Go.get a1 0 (.int (P.1 a1 0)) (by decide) (by decide) ha1 (ltO hE ha1) rfl lk149 (by decide +kernel) ?_
  refine Go.put this 0 (by decide) (by decide) hthis (ltO hE hthis) (Or.inl rfl) rfl rfl rfl lk149 (by decide +kernel) ?_
  refine Go.aload_n (k := 0) (i := 0) 0 (by decide +kernel) rfl rfl ?_
  refine Go.aload_n (k := 1) (i := 1) 1 (by decide +kernel) rfl rfl ?_
  refine Go.get a1 1 (.int ((u1 P this 0 (P.1 a1 0)).1 a1 1)) (by decide) (by decide) ha1 (ltO hE ha1) rfl lk155 (by decide +kernel) ?_
  refine Go.put this 1 (by decide) (by decide) hthis (ltO hE hthis) (Or.inl rfl) rfl rfl rfl lk155 (by decide +kernel) ?_
  refine Go.aload_n (k := 0) (i := 0) 0 (by decide +kernel) rfl rfl ?_
  refine Go.aload_n (k := 1) (i := 1) 1 (by decide +kernel) rfl rfl ?_
  refine Go.get a1 2 (.int ((u1 (u1 P this 0 (P.1 a1 0)) this 1 ((u1 P this 0 (P.1 a1 0)).1 a1 1)).1 a1 2)) (by decide) (by decide) ha1 (ltO hE ha1) rfl lk160 (by decide +kernel) ?_
  refine Go.put this 2 (by decide) (by decide) hthis (ltO hE hthis) (Or.inl rfl) rfl rfl rfl lk160 (by decide +kernel) ?_
  refine Go.aload_n (k := 0) (i := 0) 0 (by decide +kernel) rfl rfl ?_
  refine Go.aload_n (k := 1) (i := 1) 1 (by decide +kernel) rfl rfl ?_
  refine Go.get a1 3 (.int ((u1 (u1 (u1 P this 0 (P.1 a1 0)) this 1 ((u1 P this 0 (P.1 a1 0)).1 a1 1)) this 2 ((u1 (u1 P this 0 (P.1 a1 0)) this 1 ((u1 P this 0 (P.1 a1 0)).1 a1 1)).1 a1 2)).1 a1 3)) (by decide) (by decide) ha1 (ltO hE ha1) rfl lk165 (by decide +kernel) ?_
  refine Go.put this 3 (by decide) (by decide) hthis (ltO hE hthis) (Or.inl rfl) rfl rfl rfl lk165 (by decide +kernel) ?_
  refine Go.aload_n (k := 1) (i := 1) 1 (by decide +kernel) rfl rfl ?_
  refine Go.get a1 4 (.ref (ad E (a1 + 1))) (by decide) (by decide) ha1 (ltO hE ha1) (vlR hE rfl (rfSa_4 ha1)) lk170 (by decide +kernel) ?_
  refine Go.iconst (n := 0) (0 : Int32) (by decide +kernel) rfl ?_
  refine Go.aload_n (k := 0) (i := 0) 0 (by decide +kernel) rfl rfl ?_
  refine Go.get this 4 (.ref (ad E (this + 1))) (by decide) (by decide) hthis (ltO hE hthis) (vlR hE rfl (rfSa_4 hthis)) lk170 (by decide +kernel) ?_
  refine Go.iconst (n := 0) (0 : Int32) (by decide +kernel) rfl ?_
  refine Go.bipush (n := 7) (7 : Int32) (by decide +kernel) (by decide) ?_
  refine Go.copy (a1 + 1) (this + 1) 7 7 (shSa_4 ha1) (shSa_4 hthis) (ltA hE (shSa_4 ha1) (by decide)) (ltA hE (shSa_4 hthis) (by decide)) lk712 (by decide) (by decide) (by decide) (by decide) (by decide) (by omega) (Nat.le_of_ble_eq_true rfl) (by decide +kernel) ?_
  exact Go.vret rfl hE.2 (by decide +kernel) (St.fP h)
theorem e_Sa_copy {G : GX} (hG : GOK G) {E : EV} (hE : E0 E) (d : Nat) (hd : 1 ≤ d) (this : Nat) (hthis : sh this = .inl 7) (a1 : Nat) (ha1 : sh a1 = .inl 7) (P : PM) {Q : QT} (h : St E rP (f_Sa_copy this a1 P) Q) : Con G y_Sa_copy cw_Sa_copy d nOb nOb [.ref (ad E this), .ref (ad E a1)] P E Q :=
  Con.of hG (by decide +kernel) rfl (fun h => by cases h) hE.2 (Nat.le_of_ble_eq_true rfl) (t_f_Sa_copy hG hE d hd this hthis a1 ha1 P h)
abbrev c_Yr_takeOver : ByteArray := prog_1_method_44_code
abbrev y_Yr_takeOver : MethodName := ⟨"YawnRoute", "takeOver", "(LYawnRoute$Net;LYawnRoute$State;)V"⟩
abbrev cw_Yr_takeOver : Cond := .code y_Yr_takeOver c_Yr_takeOver 3 none
theorem w_Yr_takeOver : VW 11 y_Yr_takeOver c_Yr_takeOver 3 none 2 := ⟨by decide, lk699, lp19_, lk1, lk700, ⟨by decide, by decide, by decide +kernel⟩, by decide⟩
noncomputable def f_Yr_takeOver (a1 : Nat) (a2 : Nat) (P : PM) : Option PM := (f_Ne_copy 14 a1 P).bind (fun P1 => (f_Sa_copy 21 a2 P1).bind (fun P2 => (f_De_forgetPast P2).bind (fun P3 => (f_Pa_forgetAll P3).bind (fun P4 => some P4))))
theorem t_f_Yr_takeOver {G : GX} (hG : GOK G) {E : EV} (hE : E0 E) (d : Nat) (hd : 3 ≤ d) {Q : QT} (a1 : Nat) (ha1 : sh a1 = .inl 2) (a2 : Nat) (ha2 : sh a2 = .inl 7) (P : PM) (h : St E rP (f_Yr_takeOver a1 a2 P) Q) : Go G c_Yr_takeOver "YawnRoute" 3 none false d nOb nOb Q 0 [(0, .ref (ad E 0)), (1, .ref (ad E a1)), (2, .ref (ad E a2))] [] P E := by
  rw [f_Yr_takeOver] at h
  refine Go.aload_n (k := 0) (i := 0) 0 (by decide +kernel) rfl rfl ?_
  refine Go.get 0 2 (.ref (ad E 14)) (by decide) (by decide) sh0 (ltO hE sh0) (vlR hE rfl rfl) lk392 (by decide +kernel) ?_
  refine Go.aload_n (k := 1) (i := 1) 1 (by decide +kernel) rfl rfl ?_
  obtain ⟨P1, hP1, h⟩ := St.bind h
  refine Go.cV_v (P1 := P1) (d - 1) 14 [.ref (ad E a1)] sh14 hE w_Ne_copy (e_Ne_copy hG hE (d - 1) (by omega) 14 sh14 a1 ha1 P ⟨_, hP1, rfl, rfl, rfl⟩) lk701 rfl (by omega) (Nat.le_of_ble_eq_true rfl) (by decide +kernel) _ rfl ?_
  refine Go.aload_n (k := 0) (i := 0) 0 (by decide +kernel) rfl rfl ?_
  refine Go.get 0 3 (.ref (ad E 21)) (by decide) (by decide) sh0 (ltO hE sh0) (vlR hE rfl rfl) lk393 (by decide +kernel) ?_
  refine Go.aload_n (k := 2) (i := 2) 2 (by decide +kernel) rfl rfl ?_
  obtain ⟨P2, hP2, h⟩ := St.bind h
  refine Go.cV_v (P1 := P2) (d - 1) 21 [.ref (ad E a2)] sh21 hE w_Sa_copy (e_Sa_copy hG hE (d - 1) (by omega) 21 sh21 a2 ha2 P1 ⟨_, hP2, rfl, rfl, rfl⟩) lk708 rfl (by omega) (Nat.le_of_ble_eq_true rfl) (by decide +kernel) _ rfl ?_
  refine Go.aload_n (k := 0) (i := 0) 0 (by decide +kernel) rfl rfl ?_
  refine Go.get 0 5 (.ref (ad E 31)) (by decide) (by decide) sh0 (ltO hE sh0) (vlR hE rfl rfl) lk395 (by decide +kernel) ?_
  obtain ⟨P3, hP3, h⟩ := St.bind h
  refine Go.cV_v (P1 := P3) (d - 1) 31 [] sh31 hE w_De_forgetPast (e_De_forgetPast hG hE (d - 1) (by omega) P2 ⟨_, hP3, rfl, rfl, rfl⟩) lk713 rfl (by omega) (Nat.le_of_ble_eq_true rfl) (by decide +kernel) _ rfl ?_
  refine Go.aload_n (k := 0) (i := 0) 0 (by decide +kernel) rfl rfl ?_
  refine Go.get 0 6 (.ref (ad E 58)) (by decide) (by decide) sh0 (ltO hE sh0) (vlR hE rfl rfl) lk396 (by decide +kernel) ?_
  obtain ⟨P4, hP4, h⟩ := St.bind h
  refine Go.cV_v (P1 := P4) (d - 1) 58 [] sh58 hE w_Pa_forgetAll (e_Pa_forgetAll hG hE (d - 1) (by omega) P3 ⟨_, hP4, rfl, rfl, rfl⟩) lk717 rfl (by omega) (Nat.le_of_ble_eq_true rfl) (by decide +kernel) _ rfl ?_
  exact Go.vret rfl hE.2 (by decide +kernel) (St.fP h)
theorem e_Yr_takeOver {G : GX} (hG : GOK G) {E : EV} (hE : E0 E) (d : Nat) (hd : 3 ≤ d) (a1 : Nat) (ha1 : sh a1 = .inl 2) (a2 : Nat) (ha2 : sh a2 = .inl 7) (P : PM) {Q : QT} (h : St E rP (f_Yr_takeOver a1 a2 P) Q) : Con G y_Yr_takeOver cw_Yr_takeOver d nOb nOb [.ref (ad E 0), .ref (ad E a1), .ref (ad E a2)] P E Q :=
  Con.of hG (by decide +kernel) rfl (fun h => by cases h) hE.2 (Nat.le_of_ble_eq_true rfl) (t_f_Yr_takeOver hG hE d hd a1 ha1 a2 ha2 P h)
