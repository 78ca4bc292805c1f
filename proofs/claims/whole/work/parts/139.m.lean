/-! methods as functions, by program: Mo_count -/
abbrev c_Mo_count : ByteArray := prog_14_method_128_code
abbrev y_Mo_count : MethodName := ⟨"YawnRouteModel", "count", "(I)I"⟩
abbrev cw_Mo_count : Cond := .code y_Mo_count c_Mo_count 2 (some .int)
theorem w_Mo_count : VW 12 y_Mo_count c_Mo_count 2 (some .int) 1 := ⟨by decide, lk1934, lk1935, lk14, lk1936, ⟨by decide, by decide, by decide +kernel⟩, by decide⟩
def f_Mo_count (a1 : Int32) (P : PM) : Option (Int32 × PM) := if a1 = (0 : Int32) then (some (((u1 P 109 0 (0 : Int32)).1 110 (1 : Int32).toNatClampNeg), (u1 P 109 0 (0 : Int32)))) else (if a1 = (1 : Int32) then ((f_Mo_waysAll (u1 P 109 0 (0 : Int32))).bind (fun v3 => some (v3, (u1 P 109 0 (0 : Int32))))) else (if a1 = (2 : Int32) then (some (((u1 P 109 0 (0 : Int32)).1 110 (113 : Int32).toNatClampNeg), (u1 P 109 0 (0 : Int32)))) else (if a1 = (3 : Int32) then (some (((u1 P 109 0 (0 : Int32)).1 110 (114 : Int32).toNatClampNeg), (u1 P 109 0 (0 : Int32)))) else (if a1 = (4 : Int32) then (some (((u1 P 109 0 (0 : Int32)).1 110 (116 : Int32).toNatClampNeg), (u1 P 109 0 (0 : Int32)))) else (if a1 = (5 : Int32) then (some (((u1 P 109 0 (0 : Int32)).1 110 (115 : Int32).toNatClampNeg), (u1 P 109 0 (0 : Int32)))) else (if a1 = (6 : Int32) then (some (((u1 P 109 0 (0 : Int32)).1 110 (124 : Int32).toNatClampNeg), (u1 P 109 0 (0 : Int32)))) else (if a1 = (7 : Int32) then (some (((u1 P 109 0 (0 : Int32)).1 109 5), (u1 P 109 0 (0 : Int32)))) else (if a1 = (8 : Int32) then (some (((u1 P 109 0 (0 : Int32)).1 110 (0 : Int32).toNatClampNeg), (u1 P 109 0 (0 : Int32)))) else (some ((-1 : Int32), (u1 P 109 0 (0 : Int32))))))))))))
theorem t_f_Mo_count {G : GX} (hG : GOK G) {E : EV} (hE : E0 E) (d : Nat) (hd : 2 ≤ d) {Q : QT} (a1 : Int32) (P : PM) (h : St E rIP (f_Mo_count a1 P) Q) : Go G c_Mo_count "YawnRouteModel" 2 (some .int) false d nOb nOb Q 0 [(0, .ref (ad E 109)), (1, .int a1)] [] P E := by
  rw [f_Mo_count] at h
  refine Go.aload_n (k := 0) (i := 0) 0 (by decide +kernel) rfl rfl ?_
  refine Go.iconst (n := 0) (0 : Int32) (by decide +kernel) rfl ?_
  refine Go.put 109 0 (by decide) (by decide) sh109 (ltO hE sh109) (Or.inl rfl) rfl rfl rfl lk1330 (by decide +kernel) ?_
  refine Go.iload_n (k := 1) (i := 1) 1 (by decide +kernel) rfl rfl ?_
  by_cases c1 : a1 = (0 : Int32)
  · rw [if_pos c1] at h
    refine Go.tabIn (dflt := 114) (lo := 0) (hi := 8) (offs := #[50, 57, 62, 70, 78, 86, 94, 102, 107]) (len := 50) (off := 50) 56 (by decide +kernel) (by rw [c1]; decide) (by rw [c1]; decide) (by rw [c1]; rfl) (by decide) ?_
    refine Go.aload_n (k := 0) (i := 0) 0 (by decide +kernel) rfl rfl ?_
    refine Go.get 109 1 (.ref (ad E 110)) (by decide) (by decide) sh109 (ltO hE sh109) (vlR hE rfl rfl) lk1331 (by decide +kernel) ?_
    refine Go.iconst (n := 1) (1 : Int32) (by decide +kernel) rfl ?_
    refine Go.iaload 110 3408 sh110 (ltA hE sh110 (by decide)) (vp_in_iff.mpr (by decide)) (by decide +kernel) ?_
    exact Go.iret rfl rfl hE.2 (by decide +kernel) h
  · rw [if_neg c1] at h
    by_cases c2 : a1 = (1 : Int32)
    · rw [if_pos c2] at h
      refine Go.tabIn (dflt := 114) (lo := 0) (hi := 8) (offs := #[50, 57, 62, 70, 78, 86, 94, 102, 107]) (len := 50) (off := 57) 63 (by decide +kernel) (by rw [c2]; decide) (by rw [c2]; decide) (by rw [c2]; rfl) (by decide) ?_
      refine Go.aload_n (k := 0) (i := 0) 0 (by decide +kernel) rfl rfl ?_
      obtain ⟨v3, hv3, h⟩ := St.bind h
      refine Go.cV_i (d - 1) 109 [] sh109 hE w_Mo_waysAll (e_Mo_waysAll hG hE (d - 1) (by omega) (u1 P 109 0 (0 : Int32)) (by rw [hv3]; exact ⟨rfl, rfl, rfl⟩)) lk1937 rfl (by omega) (Nat.le_of_ble_eq_true rfl) (by decide +kernel) _ rfl ?_
      exact Go.iret rfl rfl hE.2 (by decide +kernel) h
    · rw [if_neg c2] at h
      by_cases c4 : a1 = (2 : Int32)
      · rw [if_pos c4] at h
        refine Go.tabIn (dflt := 114) (lo := 0) (hi := 8) (offs := #[50, 57, 62, 70, 78, 86, 94, 102, 107]) (len := 50) (off := 62) 68 (by decide +kernel) (by rw [c4]; decide) (by rw [c4]; decide) (by rw [c4]; rfl) (by decide) ?_
        refine Go.aload_n (k := 0) (i := 0) 0 (by decide +kernel) rfl rfl ?_
        refine Go.get 109 1 (.ref (ad E 110)) (by decide) (by decide) sh109 (ltO hE sh109) (vlR hE rfl rfl) lk1331 (by decide +kernel) ?_
        refine Go.bipush (n := 113) (113 : Int32) (by decide +kernel) (by decide) ?_
        refine Go.iaload 110 3408 sh110 (ltA hE sh110 (by decide)) (vp_in_iff.mpr (by decide)) (by decide +kernel) ?_
        exact Go.iret rfl rfl hE.2 (by decide +kernel) h
      · rw [if_neg c4] at h
        by_cases c5 : a1 = (3 : Int32)
        · rw [if_pos c5] at h
          refine Go.tabIn (dflt := 114) (lo := 0) (hi := 8) (offs := #[50, 57, 62, 70, 78, 86, 94, 102, 107]) (len := 50) (off := 70) 76 (by decide +kernel) (by rw [c5]; decide) (by rw [c5]; decide) (by rw [c5]; rfl) (by decide) ?_
          refine Go.aload_n (k := 0) (i := 0) 0 (by decide +kernel) rfl rfl ?_
          refine Go.get 109 1 (.ref (ad E 110)) (by decide) (by decide) sh109 (ltO hE sh109) (vlR hE rfl rfl) lk1331 (by decide +kernel) ?_
          refine Go.bipush (n := 114) (114 : Int32) (by decide +kernel) (by decide) ?_
          refine Go.iaload 110 3408 sh110 (ltA hE sh110 (by decide)) (vp_in_iff.mpr (by decide)) (by decide +kernel) ?_
          exact Go.iret rfl rfl hE.2 (by decide +kernel) h
        · rw [if_neg c5] at h
          by_cases c6 : a1 = (4 : Int32)
          · rw [if_pos c6] at h
            refine Go.tabIn (dflt := 114) (lo := 0) (hi := 8) (offs := #[50, 57, 62, 70, 78, 86, 94, 102, 107]) (len := 50) (off := 78) 84 (by decide +kernel) (by rw [c6]; decide) (by rw [c6]; decide) (by rw [c6]; rfl) (by decide) ?_
            refine Go.aload_n (k := 0) (i := 0) 0 (by decide +kernel) rfl rfl ?_
            refine Go.get 109 1 (.ref (ad E 110)) (by decide) (by decide) sh109 (ltO hE sh109) (vlR hE rfl rfl) lk1331 (by decide +kernel) ?_
            refine Go.bipush (n := 116) (116 : Int32) (by decide +kernel) (by decide) ?_
            refine Go.iaload 110 3408 sh110 (ltA hE sh110 (by decide)) (vp_in_iff.mpr (by decide)) (by decide +kernel) ?_
            exact Go.iret rfl rfl hE.2 (by decide +kernel) h
          · rw [if_neg c6] at h
            by_cases c7 : a1 = (5 : Int32)
            · rw [if_pos c7] at h
              refine Go.tabIn (dflt := 114) (lo := 0) (hi := 8) (offs := #[50, 57, 62, 70, 78, 86, 94, 102, 107]) (len := 50) (off := 86) 92 (by decide +kernel) (by rw [c7]; decide) (by rw [c7]; decide) (by rw [c7]; rfl) (by decide) ?_
              refine Go.aload_n (k := 0) (i := 0) 0 (by decide +kernel) rfl rfl ?_
              refine Go.get 109 1 (.ref (ad E 110)) (by decide) (by decide) sh109 (ltO hE sh109) (vlR hE rfl rfl) lk1331 (by decide +kernel) ?_
              refine Go.bipush (n := 115) (115 : Int32) (by decide +kernel) (by decide) ?_
              refine Go.iaload 110 3408 sh110 (ltA hE sh110 (by decide)) (vp_in_iff.mpr (by decide)) (by decide +kernel) ?_
              exact Go.iret rfl rfl hE.2 (by decide +kernel) h
            · rw [if_neg c7] at h
              by_cases c8 : a1 = (6 : Int32)
              · rw [if_pos c8] at h
                refine Go.tabIn (dflt := 114) (lo := 0) (hi := 8) (offs := #[50, 57, 62, 70, 78, 86, 94, 102, 107]) (len := 50) (off := 94) 100 (by decide +kernel) (by rw [c8]; decide) (by rw [c8]; decide) (by rw [c8]; rfl) (by decide) ?_
                refine Go.aload_n (k := 0) (i := 0) 0 (by decide +kernel) rfl rfl ?_
                refine Go.get 109 1 (.ref (ad E 110)) (by decide) (by decide) sh109 (ltO hE sh109) (vlR hE rfl rfl) lk1331 (by decide +kernel) ?_
                refine Go.bipush (n := 124) (124 : Int32) (by decide +kernel) (by decide) ?_
                refine Go.iaload 110 3408 sh110 (ltA hE sh110 (by decide)) (vp_in_iff.mpr (by decide)) (by decide +kernel) ?_
                exact Go.iret rfl rfl hE.2 (by decide +kernel) h
              · rw [if_neg c8] at h
                by_cases c9 : a1 = (7 : Int32)
                · rw [if_pos c9] at h
                  refine Go.tabIn (dflt := 114) (lo := 0) (hi := 8) (offs := #[50, 57, 62, 70, 78, 86, 94, 102, 107]) (len := 50) (off := 102) 108 (by decide +kernel) (by rw [c9]; decide) (by rw [c9]; decide) (by rw [c9]; rfl) (by decide) ?_
                  refine Go.aload_n (k := 0) (i := 0) 0 (by decide +kernel) rfl rfl ?_
                  refine Go.get 109 5 (.int ((u1 P 109 0 (0 : Int32)).1 109 5)) (by decide) (by decide) sh109 (ltO hE sh109) rfl lk1335 (by decide +kernel) ?_
                  exact Go.iret rfl rfl hE.2 (by decide +kernel) h
                · rw [if_neg c9] at h
                  by_cases c10 : a1 = (8 : Int32)
                  · rw [if_pos c10] at h
                    refine Go.tabIn (dflt := 114) (lo := 0) (hi := 8) (offs := #[50, 57, 62, 70, 78, 86, 94, 102, 107]) (len := 50) (off := 107) 113 (by decide +kernel) (by rw [c10]; decide) (by rw [c10]; decide) (by rw [c10]; rfl) (by decide) ?_
                    refine Go.aload_n (k := 0) (i := 0) 0 (by decide +kernel) rfl rfl ?_
                    refine Go.get 109 1 (.ref (ad E 110)) (by decide) (by decide) sh109 (ltO hE sh109) (vlR hE rfl rfl) lk1331 (by decide +kernel) ?_
                    refine Go.iconst (n := 0) (0 : Int32) (by decide +kernel) rfl ?_
                    refine Go.iaload 110 3408 sh110 (ltA hE sh110 (by decide)) (vp_in_iff.mpr (by decide)) (by decide +kernel) ?_
                    exact Go.iret rfl rfl hE.2 (by decide +kernel) h
                  · rw [if_neg c10] at h
                    have qc1 := lv_neT (k := (0 : Int32)) (a := 0) c1 (by decide)
                    have qc2 := lv_neT (k := (1 : Int32)) (a := 1) c2 (by decide)
                    have qc4 := lv_neT (k := (2 : Int32)) (a := 2) c4 (by decide)
                    have qc5 := lv_neT (k := (3 : Int32)) (a := 3) c5 (by decide)
                    have qc6 := lv_neT (k := (4 : Int32)) (a := 4) c6 (by decide)
                    have qc7 := lv_neT (k := (5 : Int32)) (a := 5) c7 (by decide)
                    have qc8 := lv_neT (k := (6 : Int32)) (a := 6) c8 (by decide)
                    have qc9 := lv_neT (k := (7 : Int32)) (a := 7) c9 (by decide)
                    have qc10 := lv_neT (k := (8 : Int32)) (a := 8) c10 (by decide)
                    refine Go.tabOut (dflt := 114) (lo := 0) (hi := 8) (offs := #[50, 57, 62, 70, 78, 86, 94, 102, 107]) (len := 50) 120 (by decide +kernel) (by omega) (by decide) ?_
                    refine Go.iconst (n := -1) (-1 : Int32) (by decide +kernel) rfl ?_
                    exact Go.iret rfl rfl hE.2 (by decide +kernel) h
theorem e_Mo_count {G : GX} (hG : GOK G) {E : EV} (hE : E0 E) (d : Nat) (hd : 2 ≤ d) (a1 : Int32) (P : PM) {Q : QT} (h : St E rIP (f_Mo_count a1 P) Q) : Con G y_Mo_count cw_Mo_count d nOb nOb [.ref (ad E 109), .int a1] P E Q :=
  Con.of hG (by decide) rfl (fun h => by cases h) hE.2 (Nat.le_of_ble_eq_true rfl) (t_f_Mo_count hG hE d hd a1 P h)
