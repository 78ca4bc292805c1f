/-! methods as functions, by program: Mo_waysAll Mo_count -/
abbrev c_Mo_waysAll : ByteArray := prog_14_method_127_code
abbrev y_Mo_waysAll : MethodName := ⟨"YawnRouteModel", "waysAll", "()I"⟩
abbrev cw_Mo_waysAll : Cond := .code y_Mo_waysAll c_Mo_waysAll 3 (some .int)
theorem w_Mo_waysAll : VW 12 y_Mo_waysAll c_Mo_waysAll 3 (some .int) 0 := ⟨by decide, lk1939, lp116_, lk14, lk1940, ⟨by decide, by decide, by decide +kernel⟩, by decide⟩
noncomputable def j_Mo_waysAll_28 (k4 : Int32 → Int32 → Option Int32) (x2 : Int32) (s0 : Int32) (s1 : Int32) (P : PM) : Option Int32 := lb (s0 + s1) (fun y1 => k4 y1 (x2 + (1 : Int32)))
noncomputable def l_Mo_waysAll_4 : Nat → Int32 → Int32 → PM → Option Int32
  | 0, _, _, _ => none
  | n + 1, x1, x2, P => if (49 : Int32) ≤ x2 then (some x1) else (ck (inb ((15 : Int32) + x2) 3408) (if (P.1 110 ((15 : Int32) + x2).toNatClampNeg) ≤ (0 : Int32) then (j_Mo_waysAll_28 (fun z0 z1 => l_Mo_waysAll_4 n z0 z1 P) x2 x1 (0 : Int32) P) else (j_Mo_waysAll_28 (fun z0 z1 => l_Mo_waysAll_4 n z0 z1 P) x2 x1 (1 : Int32) P)))
noncomputable def f_Mo_waysAll (P : PM) : Option Int32 := l_Mo_waysAll_4 FU (0 : Int32) (0 : Int32) P
theorem t_j_Mo_waysAll_28 {G : GX} (hG : GOK G) {E : EV} (hE : E0 E) (d : Nat) (hd : 1 ≤ d) {P : PM} {Q : QT} (k4 : Int32 → Int32 → Option Int32) (hk4 : ∀ (x1 : Int32) (x2 : Int32), St E (rI P) (k4 x1 x2) Q → Go G c_Mo_waysAll "YawnRouteModel" 3 (some .int) false d nOb nOb Q 4 [(0, .ref (ad E 109)), (1, .int x1), (2, .int x2)] [] P E) (x2 : Int32) (s0 : Int32) (s1 : Int32) (h : St E (rI P) (j_Mo_waysAll_28 k4 x2 s0 s1 P) Q) : Go G c_Mo_waysAll "YawnRouteModel" 3 (some .int) false d nOb nOb Q 28 [(0, .ref (ad E 109)), (2, .int x2)] [.int s1, .int s0] P E := by
  rw [j_Mo_waysAll_28] at h
  refine Go.iadd (by decide +kernel) ?_
  obtain ⟨y1, hy1, h⟩ := St.lb h
  refine Go.eqi y1 hy1 ?_
  refine Go.istore_n (k := 1) (i := 1) [(1, .int y1), (0, .ref (ad E 109)), (2, .int x2)] (by decide +kernel) rfl (by decide) rfl ?_
  refine Go.iinc (i := 2) (n := 1) 2 (x2 + (1 : Int32)) [(2, .int (x2 + (1 : Int32))), (1, .int y1), (0, .ref (ad E 109))] (by decide +kernel) rfl rfl (by decide) rfl ?_
  refine Go.goto (off := -29) 4 (by decide +kernel) (by decide) ?_
  refine Go.sub [2, 1, 0] [(0, .ref (ad E 109)), (1, .int y1), (2, .int (x2 + (1 : Int32)))] rfl ?_
  exact hk4 y1 (x2 + (1 : Int32)) h
theorem t_l_Mo_waysAll_4 {G : GX} (hG : GOK G) {E : EV} (hE : E0 E) (d : Nat) (hd : 1 ≤ d) {P : PM} {Q : QT} : ∀ (n : Nat) (x1 : Int32) (x2 : Int32), St E (rI P) (l_Mo_waysAll_4 n x1 x2 P) Q → Go G c_Mo_waysAll "YawnRouteModel" 3 (some .int) false d nOb nOb Q 4 [(0, .ref (ad E 109)), (1, .int x1), (2, .int x2)] [] P E := by
  intro n
  induction n with
  | zero =>
    intro x1 x2 h
    rw [l_Mo_waysAll_4] at h
    exact St.none_ h
  | succ n ih =>
    intro x1 x2 h
    rw [l_Mo_waysAll_4] at h
    refine Go.iload_n (k := 2) (i := 2) 2 (by decide +kernel) rfl rfl ?_
    refine Go.bipush (n := 49) (49 : Int32) (by decide +kernel) (by decide) ?_
    refine Go.icmp_ge (off := 29) 36 (by decide +kernel) (by decide) (fun c1 => ?_) (fun c1 => ?_)
    · rw [if_pos c1] at h
      refine Go.iload_n (k := 1) (i := 1) 1 (by decide +kernel) rfl rfl ?_
      exact Go.iret rfl rfl hE.2 (by decide +kernel) (St.fI h)
    · rw [if_neg c1] at h
      refine Go.iload_n (k := 1) (i := 1) 1 (by decide +kernel) rfl rfl ?_
      refine Go.aload_n (k := 0) (i := 0) 0 (by decide +kernel) rfl rfl ?_
      refine Go.get 109 1 (.ref (ad E 110)) (by decide) (by decide) sh109 (ltO hE sh109) (vlR hE rfl rfl) lk1331 (by decide +kernel) ?_
      refine Go.bipush (n := 15) (15 : Int32) (by decide +kernel) (by decide) ?_
      refine Go.iload_n (k := 2) (i := 2) 2 (by decide +kernel) rfl rfl ?_
      refine Go.iadd (by decide +kernel) ?_
      obtain ⟨b2, h⟩ := St.ck h
      refine Go.iaload 110 3408 sh110 (ltA hE sh110 (by decide)) (inb_in b2) (by decide +kernel) ?_
      refine Go.if_le (off := 7) 27 (by decide +kernel) (by decide) (fun c3 => ?_) (fun c3 => ?_)
      · rw [if_pos c3] at h
        refine Go.iconst (n := 0) (0 : Int32) (by decide +kernel) rfl ?_
        refine Go.sub [0, 2] [(0, .ref (ad E 109)), (2, .int x2)] rfl ?_
        exact t_j_Mo_waysAll_28 hG hE d hd (fun z0 z1 => l_Mo_waysAll_4 n z0 z1 P) (fun z0 z1 q => ih z0 z1 q) x2 x1 (0 : Int32) h
      · rw [if_neg c3] at h
        refine Go.iconst (n := 1) (1 : Int32) (by decide +kernel) rfl ?_
        refine Go.goto (off := 4) 28 (by decide +kernel) (by decide) ?_
        refine Go.sub [0, 2] [(0, .ref (ad E 109)), (2, .int x2)] rfl ?_
        exact t_j_Mo_waysAll_28 hG hE d hd (fun z0 z1 => l_Mo_waysAll_4 n z0 z1 P) (fun z0 z1 q => ih z0 z1 q) x2 x1 (1 : Int32) h
theorem t_f_Mo_waysAll {G : GX} (hG : GOK G) {E : EV} (hE : E0 E) (d : Nat) (hd : 1 ≤ d) {P : PM} {Q : QT} (h : St E (rI P) (f_Mo_waysAll P) Q) : Go G c_Mo_waysAll "YawnRouteModel" 3 (some .int) false d nOb nOb Q 0 [(0, .ref (ad E 109))] [] P E := by
  rw [f_Mo_waysAll] at h
  refine Go.iconst (n := 0) (0 : Int32) (by decide +kernel) rfl ?_
  refine Go.istore_n (k := 1) (i := 1) [(1, .int (0 : Int32)), (0, .ref (ad E 109))] (by decide +kernel) rfl (by decide) rfl ?_
  refine Go.iconst (n := 0) (0 : Int32) (by decide +kernel) rfl ?_
  refine Go.istore_n (k := 2) (i := 2) [(2, .int (0 : Int32)), (1, .int (0 : Int32)), (0, .ref (ad E 109))] (by decide +kernel) rfl (by decide) rfl ?_
  refine Go.sub [2, 1, 0] [(0, .ref (ad E 109)), (1, .int (0 : Int32)), (2, .int (0 : Int32))] rfl ?_
  exact t_l_Mo_waysAll_4 hG hE d hd FU (0 : Int32) (0 : Int32) h
theorem e_Mo_waysAll {G : GX} (hG : GOK G) {E : EV} (hE : E0 E) (d : Nat) (hd : 1 ≤ d) (P : PM) {Q : QT} (h : St E (rI P) (f_Mo_waysAll P) Q) : Con G y_Mo_waysAll cw_Mo_waysAll d nOb nOb [.ref (ad E 109)] P E Q :=
  Con.of hG (by decide +kernel) rfl (fun h => by cases h) hE.2 (Nat.le_of_ble_eq_true rfl) (t_f_Mo_waysAll hG hE d hd h)
abbrev c_Mo_count : ByteArray := prog_14_method_128_code
abbrev y_Mo_count : MethodName := ⟨"YawnRouteModel", "count", "(I)I"⟩
abbrev cw_Mo_count : Cond := .code y_Mo_count c_Mo_count 2 (some .int)
theorem w_Mo_count : VW 12 y_Mo_count c_Mo_count 2 (some .int) 1 := ⟨by decide, lk1934, lk1935, lk14, lk1936, ⟨by decide, by decide, by decide +kernel⟩, by decide⟩
noncomputable def f_Mo_count (a1 : Int32) (P : PM) : Option (Int32 × PM) := if a1 = (0 : Int32) then (some (((u1 P 109 0 (0 : Int32)).1 110 (1 : Int32).toNatClampNeg), (u1 P 109 0 (0 : Int32)))) else (if a1 = (1 : Int32) then ((f_Mo_waysAll (u1 P 109 0 (0 : Int32))).bind (fun v3 => some (v3, (u1 P 109 0 (0 : Int32))))) else (if a1 = (2 : Int32) then (some (((u1 P 109 0 (0 : Int32)).1 110 (113 : Int32).toNatClampNeg), (u1 P 109 0 (0 : Int32)))) else (if a1 = (3 : Int32) then (some (((u1 P 109 0 (0 : Int32)).1 110 (114 : Int32).toNatClampNeg), (u1 P 109 0 (0 : Int32)))) else (if a1 = (4 : Int32) then (some (((u1 P 109 0 (0 : Int32)).1 110 (116 : Int32).toNatClampNeg), (u1 P 109 0 (0 : Int32)))) else (if a1 = (5 : Int32) then (some (((u1 P 109 0 (0 : Int32)).1 110 (115 : Int32).toNatClampNeg), (u1 P 109 0 (0 : Int32)))) else (if a1 = (6 : Int32) then (some (((u1 P 109 0 (0 : Int32)).1 110 (124 : Int32).toNatClampNeg), (u1 P 109 0 (0 : Int32)))) else (if a1 = (7 : Int32) then (some (((u1 P 109 0 (0 : Int32)).1 109 5), (u1 P 109 0 (0 : Int32)))) else (if a1 = (8 : Int32) then (some (((u1 P 109 0 (0 : Int32)).1 110 (0 : Int32).toNatClampNeg), (u1 P 109 0 (0 : Int32)))) else (some ((-1 : Int32), (u1 P 109 0 (0 : Int32))))))))))))
theorem t_f_Mo_count {G : GX} (hG : GOK G) {E : EV} (hE : E0 E) (d : Nat) (hd : 2 ≤ d) {Q : QT} (a1 : Int32) (P : PM) (h : St E rIP (f_Mo_count a1 P) Q) : Go G c_Mo_count "YawnRouteModel" 2 (some .int) false d nOb nOb Q 0 [(0, .ref (ad E 109)), (1, .int a1)] [] P E := by
  rw [f_Mo_count] at h
  refine Go.aload_n (k := 0) (i := 0) 0 (by decide +kernel) rfl rfl ?_
  refine Go.iconst (n := 0) (0 : Int32) (by decide +kernel) rfl ?_
  refine Go.put 109 0 (by decide) (by decide) sh109 (ltO hE sh109) (Or.inl rfl) rfl rfl rfl lk1330 (by decide +kernel) ?_
  refine Go.iload_n (k := 1) (i := 1) 1 (by decide +kernel) rfl rfl ?_
  by_cases c1 : a1 = (0 : Int32)
  · rw [if_pos c1] at h
    refine Go.tabIn (dflt := 114) (lo := 0) (hi := 8) (offs := #[50, 57, 62, 70, 78, 86, 94, 102, 107]) (len := 50) (off := 50) 56 (by decide +kernel) (by rw [c1]; decide) (by rw [c1]; decide) (by rw [c1]; rfl) (by decide) ?_
    refine Go.aload_n (k := 0) (i := 0) 0 (by decide +kernel) rfl rfl ?_
    refine Go.get 109 1 (.ref (ad E 110)) (by decide) (by decide) sh109 (ltO hE sh109) (vlR hE rfl rfl) lk1331 (by decide +kernel) ?_
    refine Go.iconst (n := 1) (1 : Int32) (by decide +kernel) rfl ?_
    refine Go.iaload 110 3408 sh110 (ltA hE sh110 (by decide)) (vp_in_iff.mpr (by decide)) (by decide +kernel) ?_
    exact Go.iret rfl rfl hE.2 (by decide +kernel) (St.fIP h)
  · rw [if_neg c1] at h
    by_cases c2 : a1 = (1 : Int32)
    · rw [if_pos c2] at h
      refine Go.tabIn (dflt := 114) (lo := 0) (hi := 8) (offs := #[50, 57, 62, 70, 78, 86, 94, 102, 107]) (len := 50) (off := 57) 63 (by decide +kernel) (by rw [c2]; decide) (by rw [c2]; decide) (by rw [c2]; rfl) (by decide) ?_
      refine Go.aload_n (k := 0) (i := 0) 0 (by decide +kernel) rfl rfl ?_
      obtain ⟨v3, hv3, h⟩ := St.bind h
      refine Go.cV_i (P1 := (u1 P 109 0 (0 : Int32))) (v := v3) (d - 1) 109 [] sh109 hE w_Mo_waysAll (e_Mo_waysAll hG hE (d - 1) (by omega) (u1 P 109 0 (0 : Int32)) ⟨_, hv3, rfl, rfl, rfl⟩) lk1937 rfl (by omega) (Nat.le_of_ble_eq_true rfl) (by decide +kernel) _ rfl ?_
      exact Go.iret rfl rfl hE.2 (by decide +kernel) (St.fIP h)
    · rw [if_neg c2] at h
      by_cases c4 : a1 = (2 : Int32)
      · rw [if_pos c4] at h
        refine Go.tabIn (dflt := 114) (lo := 0) (hi := 8) (offs := #[50, 57, 62, 70, 78, 86, 94, 102, 107]) (len := 50) (off := 62) 68 (by decide +kernel) (by rw [c4]; decide) (by rw [c4]; decide) (by rw [c4]; rfl) (by decide) ?_
        refine Go.aload_n (k := 0) (i := 0) 0 (by decide +kernel) rfl rfl ?_
        refine Go.get 109 1 (.ref (ad E 110)) (by decide) (by decide) sh109 (ltO hE sh109) (vlR hE rfl rfl) lk1331 (by decide +kernel) ?_
        refine Go.bipush (n := 113) (113 : Int32) (by decide +kernel) (by decide) ?_
        refine Go.iaload 110 3408 sh110 (ltA hE sh110 (by decide)) (vp_in_iff.mpr (by decide)) (by decide +kernel) ?_
        exact Go.iret rfl rfl hE.2 (by decide +kernel) (St.fIP h)
      · rw [if_neg c4] at h
        by_cases c5 : a1 = (3 : Int32)
        · rw [if_pos c5] at h
          refine Go.tabIn (dflt := 114) (lo := 0) (hi := 8) (offs := #[50, 57, 62, 70, 78, 86, 94, 102, 107]) (len := 50) (off := 70) 76 (by decide +kernel) (by rw [c5]; decide) (by rw [c5]; decide) (by rw [c5]; rfl) (by decide) ?_
          refine Go.aload_n (k := 0) (i := 0) 0 (by decide +kernel) rfl rfl ?_
          refine Go.get 109 1 (.ref (ad E 110)) (by decide) (by decide) sh109 (ltO hE sh109) (vlR hE rfl rfl) lk1331 (by decide +kernel) ?_
          refine Go.bipush (n := 114) (114 : Int32) (by decide +kernel) (by decide) ?_
          refine Go.iaload 110 3408 sh110 (ltA hE sh110 (by decide)) (vp_in_iff.mpr (by decide)) (by decide +kernel) ?_
          exact Go.iret rfl rfl hE.2 (by decide +kernel) (St.fIP h)
        · rw [if_neg c5] at h
          by_cases c6 : a1 = (4 : Int32)
          · rw [if_pos c6] at h
            refine Go.tabIn (dflt := 114) (lo := 0) (hi := 8) (offs := #[50, 57, 62, 70, 78, 86, 94, 102, 107]) (len := 50) (off := 78) 84 (by decide +kernel) (by rw [c6]; decide) (by rw [c6]; decide) (by rw [c6]; rfl) (by decide) ?_
            refine Go.aload_n (k := 0) (i := 0) 0 (by decide +kernel) rfl rfl ?_
            refine Go.get 109 1 (.ref (ad E 110)) (by decide) (by decide) sh109 (ltO hE sh109) (vlR hE rfl rfl) lk1331 (by decide +kernel) ?_
            refine Go.bipush (n := 116) (116 : Int32) (by decide +kernel) (by decide) ?_
            refine Go.iaload 110 3408 sh110 (ltA hE sh110 (by decide)) (vp_in_iff.mpr (by decide)) (by decide +kernel) ?_
            exact Go.iret rfl rfl hE.2 (by decide +kernel) (St.fIP h)
          · rw [if_neg c6] at h
            by_cases c7 : a1 = (5 : Int32)
            · rw [if_pos c7] at h
              refine Go.tabIn (dflt := 114) (lo := 0) (hi := 8) (offs := #[50, 57, 62, 70, 78, 86, 94, 102, 107]) (len := 50) (off := 86) 92 (by decide +kernel) (by rw [c7]; decide) (by rw [c7]; decide) (by rw [c7]; rfl) (by decide) ?_
              refine Go.aload_n (k := 0) (i := 0) 0 (by decide +kernel) rfl rfl ?_
              refine Go.get 109 1 (.ref (ad E 110)) (by decide) (by decide) sh109 (ltO hE sh109) (vlR hE rfl rfl) lk1331 (by decide +kernel) ?_
              refine Go.bipush (n := 115) (115 : Int32) (by decide +kernel) (by decide) ?_
              refine Go.iaload 110 3408 sh110 (ltA hE sh110 (by decide)) (vp_in_iff.mpr (by decide)) (by decide +kernel) ?_
              exact Go.iret rfl rfl hE.2 (by decide +kernel) (St.fIP h)
            · rw [if_neg c7] at h
              by_cases c8 : a1 = (6 : Int32)
              · rw [if_pos c8] at h
                refine Go.tabIn (dflt := 114) (lo := 0) (hi := 8) (offs := #[50, 57, 62, 70, 78, 86, 94, 102, 107]) (len := 50) (off := 94) 100 (by decide +kernel) (by rw [c8]; decide) (by rw [c8]; decide) (by rw [c8]; rfl) (by decide) ?_
                refine Go.aload_n (k := 0) (i := 0) 0 (by decide +kernel) rfl rfl ?_
                refine Go.get 109 1 (.ref (ad E 110)) (by decide) (by decide) sh109 (ltO hE sh109) (vlR hE rfl rfl) lk1331 (by decide +kernel) ?_
                refine Go.bipush (n := 124) (124 : Int32) (by decide +kernel) (by decide) ?_
                refine Go.iaload 110 3408 sh110 (ltA hE sh110 (by decide)) (vp_in_iff.mpr (by decide)) (by decide +kernel) ?_
                exact Go.iret rfl rfl hE.2 (by decide +kernel) (St.fIP h)
              · rw [if_neg c8] at h
                by_cases c9 : a1 = (7 : Int32)
                · rw [if_pos c9] at h
                  refine Go.tabIn (dflt := 114) (lo := 0) (hi := 8) (offs := #[50, 57, 62, 70, 78, 86, 94, 102, 107]) (len := 50) (off := 102) 108 (by decide +kernel) (by rw [c9]; decide) (by rw [c9]; decide) (by rw [c9]; rfl) (by decide) ?_
                  refine Go.aload_n (k := 0) (i := 0) 0 (by decide +kernel) rfl rfl ?_
                  refine Go.get 109 5 (.int ((u1 P 109 0 (0 : Int32)).1 109 5)) (by decide) (by decide) sh109 (ltO hE sh109) rfl lk1335 (by decide +kernel) ?_
                  exact Go.iret rfl rfl hE.2 (by decide +kernel) (St.fIP h)
                · rw [if_neg c9] at h
                  by_cases c10 : a1 = (8 : Int32)
                  · rw [if_pos c10] at h
                    refine Go.tabIn (dflt := 114) (lo := 0) (hi := 8) (offs := #[50, 57, 62, 70, 78, 86, 94, 102, 107]) (len := 50) (off := 107) 113 (by decide +kernel) (by rw [c10]; decide) (by rw [c10]; decide) (by rw [c10]; rfl) (by decide) ?_
                    refine Go.aload_n (k := 0) (i := 0) 0 (by decide +kernel) rfl rfl ?_
                    refine Go.get 109 1 (.ref (ad E 110)) (by decide) (by decide) sh109 (ltO hE sh109) (vlR hE rfl rfl) lk1331 (by decide +kernel) ?_
                    refine Go.iconst (n := 0) (0 : Int32) (by decide +kernel) rfl ?_
                    refine Go.iaload 110 3408 sh110 (ltA hE sh110 (by decide)) (vp_in_iff.mpr (by decide)) (by decide +kernel) ?_
                    exact Go.iret rfl rfl hE.2 (by decide +kernel) (St.fIP h)
                  · rw [if_neg c10] at h
                    have qc1 := lv_neT (k := (0 : Int32)) (a := 0) c1 (by decide)
                    have qc2 := lv_neT (k := (1 : Int32)) (a := 1) c2 (by decide)
                    have qc4 := lv_neT (k := (2 : Int32)) (a := 2) c4 (by decide)
                    have qc5 := lv_neT (k := (3 : Int32)) (a := 3) c5 (by decide)
                    have qc6 := lv_neT (k := (4 : Int32)) (a := 4) c6 (by decide)
                    have qc7 := lv_neT (k := (5 : Int32)) (a := 5) c7 (by decide)
                    have qc8 := lv_neT (k := (6 : Int32)) (a := 6) c8 (by decide)
                    have qc9 := lv_neT (k := (7 : Int32)) (a := 7) c9 (by decide)
                    have qc10 := lv_neT (k := (8 : Int32)) (a := 8) c10 (by decide)
                    refine Go.tabOut (dflt := 114) (lo := 0) (hi := 8) (offs := #[50, 57, 62, 70, 78, 86, 94, 102, 107]) (len := 50) 120 (by decide +kernel) (by omega) (by decide) ?_
                    refine Go.iconst (n := -1) (-1 : Int32) (by decide +kernel) rfl ?_
                    exact Go.iret rfl rfl hE.2 (by decide +kernel) (St.fIP h)
theorem e_Mo_count {G : GX} (hG : GOK G) {E : EV} (hE : E0 E) (d : Nat) (hd : 2 ≤ d) (a1 : Int32) (P : PM) {Q : QT} (h : St E rIP (f_Mo_count a1 P) Q) : Con G y_Mo_count cw_Mo_count d nOb nOb [.ref (ad E 109), .int a1] P E Q :=
  Con.of hG (by decide +kernel) rfl (fun h => by cases h) hE.2 (Nat.le_of_ble_eq_true rfl) (t_f_Mo_count hG hE d hd a1 P h)
