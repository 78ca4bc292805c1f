/-! the law's walk, over the memory -/
theorem W.room {p : Program} {l : Launch} {e : Env} {R R' : Room} {s : State} {m : MethodId} {args : Array Value} {below : List Frame} {meth : Method} {c : Code} {H : Heap} {locs : List Loc} {cells slots : Nat} {Q Q' : State → Prop} {g : JFrame} (h : ∀ pl, s.hasRoom pl R' = true → s.hasRoom pl R = true) (hq : ∀ t, Q t → Q' t) (k : W p l e R s m args below meth c H locs cells slots Q g) : W p l e R' s m args below meth c H locs cells slots Q' g := by
  intro T hT X
  obtain ⟨t, a, b⟩ := k T hT { X with room := h _ X.room }
  exact ⟨t, a, hq t b⟩
theorem room_mono {s : State} {pl : Platform} {R R' : Room} (h1 : R.frames ≤ R'.frames) (h2 : R.cells ≤ R'.cells) (h3 : R.slots ≤ R'.slots) (h4 : R.locals ≤ R'.locals) (h : s.hasRoom pl R' = true) : s.hasRoom pl R = true := by
  simp only [State.hasRoom, Bool.and_eq_true, decide_eq_true_eq] at h ⊢
  obtain ⟨⟨⟨⟨a, b⟩, c⟩, d⟩, e⟩ := h
  exact ⟨⟨⟨⟨by omega, by omega⟩, by omega⟩, by omega⟩, e⟩
theorem va_X.at {G : GX} {s : State} {b L : Nat} {xs : Nat → Int32} {H : Heap} (hX : va_X b L xs (gs G) (gs G).heap) (hbl : b < (gs G).heap.size) (hKn : Kn G s) (hlow : ∀ q : Nat, q < (gs G).heap.size → H[q]? = (gs G).heap[q]?) : va_X b L xs s H := by
  obtain ⟨scr, h1, h2, h3, h4, h5⟩ := hX
  exact ⟨scr, by rw [hlow b hbl]; exact h1, State.isArrayOf_alike hKn.1 h2, h3, h4, h5⟩
section GO7
variable {G : GX} {cc : ByteArray} {own : String} {nL : Nat} {rt : Option FieldType} {ini : Bool} {d n0 n1 : Nat} {Q : QT} {pc : Nat} {lv : List (Nat × Value)} {st : List Value} {P P1 : PM} {E : EV}
theorem Go.sld {b L : Nat} {xs : Nat → Int32} {i : Int32} (hX : va_X b L xs (gs G) (gs G).heap) (hbl : b < (gs G).heap.size) (hi : vp_in i L) (hd : decode cc pc = .ok (.iaload, 1)) (g : Go G cc own nL rt ini d n0 n1 Q (pc + 1) lv (.int (xs i.toNatClampNeg) :: st) P E) : Go G cc own nL rt ini d n0 n1 Q pc lv (.int i :: .ref b :: st) P E := by
  intro p e s m a be me c H lo ls C hS hR hl hn
  obtain ⟨hx, hb, -, -, -, -, ho, hts, hKn, hG⟩ := id C
  have hX2 := va_X.at hX hbl hKn hR.2.2.1
  have hlt : b < H.size := by
    obtain ⟨scr, h1, -⟩ := hX2
    exact (Array.getElem?_eq_some_iff.mp h1).1
  exact va_sld hx hb hX2 hlt (A := AG G) (by simp [AG]; exact hbl) ⟨Nat.le_refl _, fun _ _ _ => rfl, hS.2.2⟩ hi hd (g p e s m a be me c H lo ls C hS hR hl hn)
theorem Go.slen {b L : Nat} {xs : Nat → Int32} (hX : va_X b L xs (gs G) (gs G).heap) (hbl : b < (gs G).heap.size) (hd : decode cc pc = .ok (.arraylength, 1)) (g : Go G cc own nL rt ini d n0 n1 Q (pc + 1) lv (.int (Int32.ofNat L) :: st) P E) : Go G cc own nL rt ini d n0 n1 Q pc lv (.ref b :: st) P E := by
  intro p e s m a be me c H lo ls C hS hR hl hn
  obtain ⟨hx, hb, -, -, -, -, ho, hts, hKn, hG⟩ := id C
  have hX2 := va_X.at hX hbl hKn hR.2.2.1
  have hlt : b < H.size := by
    obtain ⟨scr, h1, -⟩ := hX2
    exact (Array.getElem?_eq_some_iff.mp h1).1
  exact va_slen hx hb hX2 hlt (A := AG G) (by simp [AG]; exact hbl) ⟨Nat.le_refl _, fun _ _ _ => rfl, hS.2.2⟩ hd (g p e s m a be me c H lo ls C hS hR hl hn)
end GO7
noncomputable def j_La_law_1565 (xs : Nat → Int32) (L : Nat) (k18 : Int32 → PM → Option (Int32 × PM)) (x3 : Int32) (P : PM) : Option (Int32 × PM) := k18 (x3 + (6 : Int32)) P
set_option maxRecDepth 20000 in
set_option maxHeartbeats 4000000 in
theorem t_j_La_law_1565 {G : GX} (hG : GOK G) {E : EV} (hE : E0 E) (d : Nat) (hd : 112 ≤ d) {n0 : Nat} {Q : QT} (b : Nat) (xs : Nat → Int32) (L : Nat) (hX : va_X b L xs (gs G) (gs G).heap) (hbl : b < (gs G).heap.size) (k18 : Int32 → PM → Option (Int32 × PM)) (hk18 : ∀ (x3 : Int32) (P : PM), St E rIP (k18 x3 P) Q → Go G code "YawnRouteLaw" 4 (some .boolean) false d n0 nOb Q 18 [(0, .ref b), (1, .ref (ad E 0)), (2, .ref (ad E 109)), (3, .int x3)] [] P E) (x3 : Int32) (P : PM) (h : St E rIP (j_La_law_1565 xs L k18 x3 P) Q) : Go G code "YawnRouteLaw" 4 (some .boolean) false d n0 nOb Q 1565 [(0, .ref b), (1, .ref (ad E 0)), (2, .ref (ad E 109)), (3, .int x3)] [] P E := by
  rw [j_La_law_1565] at h
  refine Go.iinc (i := 3) (n := 6) 3 (x3 + (6 : Int32)) [(3, .int (x3 + (6 : Int32))), (0, .ref b), (1, .ref (ad E 0)), (2, .ref (ad E 109))] (by decide +kernel) rfl rfl (by decide) rfl ?_
  refine Go.goto (off := -1550) 18 (by decide +kernel) (by decide) ?_
  refine Go.sub [1, 2, 3, 0] [(0, .ref b), (1, .ref (ad E 0)), (2, .ref (ad E 109)), (3, .int (x3 + (6 : Int32)))] rfl ?_
  exact hk18 (x3 + (6 : Int32)) P h
noncomputable def l_La_law_18 (xs : Nat → Int32) (L : Nat) : Nat → Int32 → PM → Option (Int32 × PM)
  | 0, _, _ => none
  | n + 1, x3, P => if ((Int32.ofNat L) - (6 : Int32)) < x3 then (some ((1 : Int32), P)) else (ck (inb x3 L) (if ((xs x3.toNatClampNeg) &&& (63 : Int32)) = (0 : Int32) then (ck (inb (x3 + (1 : Int32)) L) (ck (inb (x3 + (2 : Int32)) L) (ck (inb (x3 + (3 : Int32)) L) (ck (inb (x3 + (4 : Int32)) L) (ck (inb (x3 + (5 : Int32)) L) (bd2 (f_Yr_feed (xs (x3 + (1 : Int32)).toNatClampNeg) (xs (x3 + (2 : Int32)).toNatClampNeg) (xs (x3 + (3 : Int32)).toNatClampNeg) (xs (x3 + (4 : Int32)).toNatClampNeg) (xs (x3 + (5 : Int32)).toNatClampNeg) P) (fun v9 P10 => ck (inb (x3 + (1 : Int32)) L) (ck (inb (x3 + (2 : Int32)) L) (ck (inb (x3 + (3 : Int32)) L) (ck (inb (x3 + (4 : Int32)) L) (ck (inb (x3 + (5 : Int32)) L) (bd2 (f_Mo_feed (xs (x3 + (1 : Int32)).toNatClampNeg) (xs (x3 + (2 : Int32)).toNatClampNeg) (xs (x3 + (3 : Int32)).toNatClampNeg) (xs (x3 + (4 : Int32)).toNatClampNeg) (xs (x3 + (5 : Int32)).toNatClampNeg) P10) (fun v16 P17 => if v9 = v16 then (j_La_law_1565 xs L (fun z0 Pz => l_La_law_18 xs L n z0 Pz) x3 P17) else (some ((0 : Int32), P17))))))))))))))) else (if ((xs x3.toNatClampNeg) &&& (63 : Int32)) = (1 : Int32) then (ck (inb (x3 + (1 : Int32)) L) (bd2 (f_Yr_net (xs (x3 + (1 : Int32)).toNatClampNeg) P) (fun v21 P22 => ck (inb (x3 + (1 : Int32)) L) (bd2 (f_Mo_net (xs (x3 + (1 : Int32)).toNatClampNeg) P22) (fun v24 P25 => if v21 = v24 then (j_La_law_1565 xs L (fun z0 Pz => l_La_law_18 xs L n z0 Pz) x3 P25) else (some ((0 : Int32), P25))))))) else (if ((xs x3.toNatClampNeg) &&& (63 : Int32)) = (2 : Int32) then (ck (inb (x3 + (1 : Int32)) L) (ck (inb (x3 + (1 : Int32)) L) (bd2 (f_Mo_fault (xs (x3 + (1 : Int32)).toNatClampNeg) P) (fun v30 P31 => if (f_Yr_fault (xs (x3 + (1 : Int32)).toNatClampNeg) P) = v30 then (j_La_law_1565 xs L (fun z0 Pz => l_La_law_18 xs L n z0 Pz) x3 P31) else (some ((0 : Int32), P31)))))) else (if ((xs x3.toNatClampNeg) &&& (63 : Int32)) = (3 : Int32) then (ck (inb (x3 + (1 : Int32)) L) (ck (inb (x3 + (2 : Int32)) L) ((f_Yr_station (xs (x3 + (1 : Int32)).toNatClampNeg) (xs (x3 + (2 : Int32)).toNatClampNeg) P).bind (fun v36 => ck (inb (x3 + (1 : Int32)) L) (ck (inb (x3 + (2 : Int32)) L) (bd2 (f_Mo_station (xs (x3 + (1 : Int32)).toNatClampNeg) (xs (x3 + (2 : Int32)).toNatClampNeg) P) (fun v39 P40 => if v36 = v39 then (j_La_law_1565 xs L (fun z0 Pz => l_La_law_18 xs L n z0 Pz) x3 P40) else (some ((0 : Int32), P40))))))))) else (if ((xs x3.toNatClampNeg) &&& (63 : Int32)) = (4 : Int32) then (ck (inb (x3 + (1 : Int32)) L) (ck (inb (x3 + (2 : Int32)) L) (ck (inb (x3 + (3 : Int32)) L) ((f_Yr_way (xs (x3 + (1 : Int32)).toNatClampNeg) (xs (x3 + (2 : Int32)).toNatClampNeg) (xs (x3 + (3 : Int32)).toNatClampNeg) P).bind (fun v46 => ck (inb (x3 + (1 : Int32)) L) (ck (inb (x3 + (2 : Int32)) L) (ck (inb (x3 + (3 : Int32)) L) (bd2 (f_Mo_way (xs (x3 + (1 : Int32)).toNatClampNeg) (xs (x3 + (2 : Int32)).toNatClampNeg) (xs (x3 + (3 : Int32)).toNatClampNeg) P) (fun v50 P51 => if v46 = v50 then (j_La_law_1565 xs L (fun z0 Pz => l_La_law_18 xs L n z0 Pz) x3 P51) else (some ((0 : Int32), P51))))))))))) else (if ((xs x3.toNatClampNeg) &&& (63 : Int32)) = (5 : Int32) then (ck (inb (x3 + (1 : Int32)) L) (bd2 (f_Yr_brings (xs (x3 + (1 : Int32)).toNatClampNeg) P) (fun v55 P56 => ck (inb (x3 + (1 : Int32)) L) (bd2 (f_Mo_brings (xs (x3 + (1 : Int32)).toNatClampNeg) P56) (fun v58 P59 => if v55 = v58 then (j_La_law_1565 xs L (fun z0 Pz => l_La_law_18 xs L n z0 Pz) x3 P59) else (some ((0 : Int32), P59))))))) else (if ((xs x3.toNatClampNeg) &&& (63 : Int32)) = (6 : Int32) then (ck (inb (x3 + (1 : Int32)) L) (bd2 (f_Yr_pass (xs (x3 + (1 : Int32)).toNatClampNeg) P) (fun v63 P64 => ck (inb (x3 + (1 : Int32)) L) (bd2 (f_Mo_pass (xs (x3 + (1 : Int32)).toNatClampNeg) P64) (fun v66 P67 => if v63 = v66 then (j_La_law_1565 xs L (fun z0 Pz => l_La_law_18 xs L n z0 Pz) x3 P67) else (some ((0 : Int32), P67))))))) else (if ((xs x3.toNatClampNeg) &&& (63 : Int32)) = (7 : Int32) then (ck (inb (x3 + (1 : Int32)) L) (ck (inb (x3 + (2 : Int32)) L) (bd2 (f_Yr_off (xs (x3 + (1 : Int32)).toNatClampNeg) (xs (x3 + (2 : Int32)).toNatClampNeg) P) (fun v72 P73 => ck (inb (x3 + (1 : Int32)) L) (ck (inb (x3 + (2 : Int32)) L) (bd2 (f_Mo_off (xs (x3 + (1 : Int32)).toNatClampNeg) (xs (x3 + (2 : Int32)).toNatClampNeg) P73) (fun v76 P77 => if v72 = v76 then (j_La_law_1565 xs L (fun z0 Pz => l_La_law_18 xs L n z0 Pz) x3 P77) else (some ((0 : Int32), P77))))))))) else (if ((xs x3.toNatClampNeg) &&& (63 : Int32)) = (8 : Int32) then (ck (inb (x3 + (1 : Int32)) L) (bd2 (f_Yr_sleep (xs (x3 + (1 : Int32)).toNatClampNeg) P) (fun v81 P82 => ck (inb (x3 + (1 : Int32)) L) (bd2 (f_Mo_sleep (xs (x3 + (1 : Int32)).toNatClampNeg) P82) (fun v84 P85 => if v81 = v84 then (j_La_law_1565 xs L (fun z0 Pz => l_La_law_18 xs L n z0 Pz) x3 P85) else (some ((0 : Int32), P85))))))) else (if ((xs x3.toNatClampNeg) &&& (63 : Int32)) = (9 : Int32) then (ck (inb (x3 + (1 : Int32)) L) (ck (inb (x3 + (2 : Int32)) L) (bd2 (f_Yr_dull (xs (x3 + (1 : Int32)).toNatClampNeg) (xs (x3 + (2 : Int32)).toNatClampNeg) P) (fun v90 P91 => ck (inb (x3 + (1 : Int32)) L) (ck (inb (x3 + (2 : Int32)) L) (bd2 (f_Mo_dull (xs (x3 + (1 : Int32)).toNatClampNeg) (xs (x3 + (2 : Int32)).toNatClampNeg) P91) (fun v94 P95 => if v90 = v94 then (j_La_law_1565 xs L (fun z0 Pz => l_La_law_18 xs L n z0 Pz) x3 P95) else (some ((0 : Int32), P95))))))))) else (if ((xs x3.toNatClampNeg) &&& (63 : Int32)) = (10 : Int32) then (ck (inb (x3 + (1 : Int32)) L) (bd2 (f_Yr_undo (xs (x3 + (1 : Int32)).toNatClampNeg) P) (fun v99 P100 => ck (inb (x3 + (1 : Int32)) L) (bd2 (f_Mo_undo (xs (x3 + (1 : Int32)).toNatClampNeg) P100) (fun v102 P103 => if v99 = v102 then (j_La_law_1565 xs L (fun z0 Pz => l_La_law_18 xs L n z0 Pz) x3 P103) else (some ((0 : Int32), P103))))))) else (if ((xs x3.toNatClampNeg) &&& (63 : Int32)) = (11 : Int32) then (ck (inb (x3 + (1 : Int32)) L) (ck (inb (x3 + (2 : Int32)) L) (bd2 (f_Yr_judge (xs (x3 + (1 : Int32)).toNatClampNeg) (xs (x3 + (2 : Int32)).toNatClampNeg) P) (fun v108 P109 => ck (inb (x3 + (1 : Int32)) L) (ck (inb (x3 + (2 : Int32)) L) (bd2 (f_Mo_judge (xs (x3 + (1 : Int32)).toNatClampNeg) (xs (x3 + (2 : Int32)).toNatClampNeg) P109) (fun v112 P113 => if v108 = v112 then (j_La_law_1565 xs L (fun z0 Pz => l_La_law_18 xs L n z0 Pz) x3 P113) else (some ((0 : Int32), P113))))))))) else (if ((xs x3.toNatClampNeg) &&& (63 : Int32)) = (12 : Int32) then (ck (inb (x3 + (1 : Int32)) L) (bd2 (f_Yr_perform (xs (x3 + (1 : Int32)).toNatClampNeg) P) (fun v117 P118 => ck (inb (x3 + (1 : Int32)) L) (bd2 (f_Mo_perform (xs (x3 + (1 : Int32)).toNatClampNeg) P118) (fun v120 P121 => if v117 = v120 then (j_La_law_1565 xs L (fun z0 Pz => l_La_law_18 xs L n z0 Pz) x3 P121) else (some ((0 : Int32), P121))))))) else (if ((xs x3.toNatClampNeg) &&& (63 : Int32)) = (13 : Int32) then (ck (inb (x3 + (1 : Int32)) L) (ck (inb (x3 + (2 : Int32)) L) (bd2 (f_Yr_season (xs (x3 + (1 : Int32)).toNatClampNeg) (xs (x3 + (2 : Int32)).toNatClampNeg) P) (fun v126 P127 => ck (inb (x3 + (1 : Int32)) L) (ck (inb (x3 + (2 : Int32)) L) (bd2 (f_Mo_season (xs (x3 + (1 : Int32)).toNatClampNeg) (xs (x3 + (2 : Int32)).toNatClampNeg) P127) (fun v130 P131 => if v126 = v130 then (j_La_law_1565 xs L (fun z0 Pz => l_La_law_18 xs L n z0 Pz) x3 P131) else (some ((0 : Int32), P131))))))))) else (if ((xs x3.toNatClampNeg) &&& (63 : Int32)) = (14 : Int32) then (ck (inb (x3 + (1 : Int32)) L) (ck (inb (x3 + (2 : Int32)) L) (bd2 (f_Yr_soonest (xs (x3 + (1 : Int32)).toNatClampNeg) (xs (x3 + (2 : Int32)).toNatClampNeg) P) (fun v136 P137 => ck (inb (x3 + (1 : Int32)) L) (ck (inb (x3 + (2 : Int32)) L) (bd2 (f_Mo_soonest (xs (x3 + (1 : Int32)).toNatClampNeg) (xs (x3 + (2 : Int32)).toNatClampNeg) P137) (fun v140 P141 => if v136 = v140 then (j_La_law_1565 xs L (fun z0 Pz => l_La_law_18 xs L n z0 Pz) x3 P141) else (some ((0 : Int32), P141))))))))) else (if ((xs x3.toNatClampNeg) &&& (63 : Int32)) = (15 : Int32) then (ck (inb (x3 + (1 : Int32)) L) (ck (inb (x3 + (2 : Int32)) L) (ck (inb (x3 + (3 : Int32)) L) (bd2 (f_Yr_soonBy (xs (x3 + (1 : Int32)).toNatClampNeg) (xs (x3 + (2 : Int32)).toNatClampNeg) (xs (x3 + (3 : Int32)).toNatClampNeg) P) (fun v147 P148 => ck (inb (x3 + (1 : Int32)) L) (ck (inb (x3 + (2 : Int32)) L) (ck (inb (x3 + (3 : Int32)) L) (bd2 (f_Mo_soonBy (xs (x3 + (1 : Int32)).toNatClampNeg) (xs (x3 + (2 : Int32)).toNatClampNeg) (xs (x3 + (3 : Int32)).toNatClampNeg) P148) (fun v152 P153 => if v147 = v152 then (j_La_law_1565 xs L (fun z0 Pz => l_La_law_18 xs L n z0 Pz) x3 P153) else (some ((0 : Int32), P153))))))))))) else (if ((xs x3.toNatClampNeg) &&& (63 : Int32)) = (16 : Int32) then (ck (inb (x3 + (1 : Int32)) L) (ck (inb (x3 + (2 : Int32)) L) (bd2 (f_Yr_fewest (xs (x3 + (1 : Int32)).toNatClampNeg) (xs (x3 + (2 : Int32)).toNatClampNeg) P) (fun v158 P159 => ck (inb (x3 + (1 : Int32)) L) (ck (inb (x3 + (2 : Int32)) L) (bd2 (f_Mo_fewest (xs (x3 + (1 : Int32)).toNatClampNeg) (xs (x3 + (2 : Int32)).toNatClampNeg) P159) (fun v162 P163 => if v158 = v162 then (j_La_law_1565 xs L (fun z0 Pz => l_La_law_18 xs L n z0 Pz) x3 P163) else (some ((0 : Int32), P163))))))))) else (if ((xs x3.toNatClampNeg) &&& (63 : Int32)) = (17 : Int32) then (ck (inb (x3 + (1 : Int32)) L) (ck (inb (x3 + (2 : Int32)) L) (ck (inb (x3 + (3 : Int32)) L) (bd2 (f_Yr_fewBy (xs (x3 + (1 : Int32)).toNatClampNeg) (xs (x3 + (2 : Int32)).toNatClampNeg) (xs (x3 + (3 : Int32)).toNatClampNeg) P) (fun v169 P170 => ck (inb (x3 + (1 : Int32)) L) (ck (inb (x3 + (2 : Int32)) L) (ck (inb (x3 + (3 : Int32)) L) (bd2 (f_Mo_fewBy (xs (x3 + (1 : Int32)).toNatClampNeg) (xs (x3 + (2 : Int32)).toNatClampNeg) (xs (x3 + (3 : Int32)).toNatClampNeg) P170) (fun v174 P175 => if v169 = v174 then (j_La_law_1565 xs L (fun z0 Pz => l_La_law_18 xs L n z0 Pz) x3 P175) else (some ((0 : Int32), P175))))))))))) else (if ((xs x3.toNatClampNeg) &&& (63 : Int32)) = (18 : Int32) then (ck (inb (x3 + (1 : Int32)) L) (bd2 (f_Yr_biggest (xs (x3 + (1 : Int32)).toNatClampNeg) P) (fun v179 P180 => ck (inb (x3 + (1 : Int32)) L) (bd2 (f_Mo_biggest (xs (x3 + (1 : Int32)).toNatClampNeg) P180) (fun v182 P183 => if v179 = v182 then (j_La_law_1565 xs L (fun z0 Pz => l_La_law_18 xs L n z0 Pz) x3 P183) else (some ((0 : Int32), P183))))))) else (if ((xs x3.toNatClampNeg) &&& (63 : Int32)) = (19 : Int32) then (bd2 (f_Yr_reach P) (fun v186 P187 => bd2 (f_Mo_reach P187) (fun v188 P189 => if v186 = v188 then (j_La_law_1565 xs L (fun z0 Pz => l_La_law_18 xs L n z0 Pz) x3 P189) else (some ((0 : Int32), P189))))) else (if ((xs x3.toNatClampNeg) &&& (63 : Int32)) = (20 : Int32) then (ck (inb (x3 + (1 : Int32)) L) (bd2 (f_Yr_needed (xs (x3 + (1 : Int32)).toNatClampNeg) P) (fun v193 P194 => ck (inb (x3 + (1 : Int32)) L) (bd2 (f_Mo_needed (xs (x3 + (1 : Int32)).toNatClampNeg) P194) (fun v196 P197 => if v193 = v196 then (j_La_law_1565 xs L (fun z0 Pz => l_La_law_18 xs L n z0 Pz) x3 P197) else (some ((0 : Int32), P197))))))) else (if ((xs x3.toNatClampNeg) &&& (63 : Int32)) = (21 : Int32) then (ck (inb (x3 + (1 : Int32)) L) (ck (inb (x3 + (2 : Int32)) L) (bd2 (f_Yr_sleepers (xs (x3 + (1 : Int32)).toNatClampNeg) (xs (x3 + (2 : Int32)).toNatClampNeg) P) (fun v202 P203 => ck (inb (x3 + (1 : Int32)) L) (ck (inb (x3 + (2 : Int32)) L) (bd2 (f_Mo_sleepers (xs (x3 + (1 : Int32)).toNatClampNeg) (xs (x3 + (2 : Int32)).toNatClampNeg) P203) (fun v206 P207 => if v202 = v206 then (j_La_law_1565 xs L (fun z0 Pz => l_La_law_18 xs L n z0 Pz) x3 P207) else (some ((0 : Int32), P207))))))))) else (if ((xs x3.toNatClampNeg) &&& (63 : Int32)) = (22 : Int32) then (ck (inb (x3 + (1 : Int32)) L) (ck (inb (x3 + (2 : Int32)) L) (bd2 (f_Yr_spread (xs (x3 + (1 : Int32)).toNatClampNeg) (xs (x3 + (2 : Int32)).toNatClampNeg) P) (fun v212 P213 => ck (inb (x3 + (1 : Int32)) L) (ck (inb (x3 + (2 : Int32)) L) (bd2 (f_Mo_spread (xs (x3 + (1 : Int32)).toNatClampNeg) (xs (x3 + (2 : Int32)).toNatClampNeg) P213) (fun v216 P217 => if v212 = v216 then (j_La_law_1565 xs L (fun z0 Pz => l_La_law_18 xs L n z0 Pz) x3 P217) else (some ((0 : Int32), P217))))))))) else (if ((xs x3.toNatClampNeg) &&& (63 : Int32)) = (23 : Int32) then (bd2 (f_Yr_rounds P) (fun v220 P221 => bd2 (f_Mo_rounds P221) (fun v222 P223 => if v220 = v222 then (j_La_law_1565 xs L (fun z0 Pz => l_La_law_18 xs L n z0 Pz) x3 P223) else (some ((0 : Int32), P223))))) else (if ((xs x3.toNatClampNeg) &&& (63 : Int32)) = (24 : Int32) then (bd2 (f_Yr_crowd P) (fun v226 P227 => bd2 (f_Mo_crowd P227) (fun v228 P229 => if v226 = v228 then (j_La_law_1565 xs L (fun z0 Pz => l_La_law_18 xs L n z0 Pz) x3 P229) else (some ((0 : Int32), P229))))) else (if ((xs x3.toNatClampNeg) &&& (63 : Int32)) = (25 : Int32) then (bd2 (f_Yr_stopper P) (fun v232 P233 => bd2 (f_Mo_stopper P233) (fun v234 P235 => if v232 = v234 then (j_La_law_1565 xs L (fun z0 Pz => l_La_law_18 xs L n z0 Pz) x3 P235) else (some ((0 : Int32), P235))))) else (if ((xs x3.toNatClampNeg) &&& (63 : Int32)) = (26 : Int32) then (ck (inb (x3 + (1 : Int32)) L) (ck (inb (x3 + (2 : Int32)) L) (ck (inb (x3 + (3 : Int32)) L) (bd2 (f_Yr_meets (xs (x3 + (1 : Int32)).toNatClampNeg) (xs (x3 + (2 : Int32)).toNatClampNeg) (xs (x3 + (3 : Int32)).toNatClampNeg) P) (fun v241 P242 => ck (inb (x3 + (1 : Int32)) L) (ck (inb (x3 + (2 : Int32)) L) (ck (inb (x3 + (3 : Int32)) L) (bd2 (f_Mo_meets (xs (x3 + (1 : Int32)).toNatClampNeg) (xs (x3 + (2 : Int32)).toNatClampNeg) (xs (x3 + (3 : Int32)).toNatClampNeg) P242) (fun v246 P247 => if v241 = v246 then (j_La_law_1565 xs L (fun z0 Pz => l_La_law_18 xs L n z0 Pz) x3 P247) else (some ((0 : Int32), P247))))))))))) else (if ((xs x3.toNatClampNeg) &&& (63 : Int32)) = (27 : Int32) then (ck (inb (x3 + (1 : Int32)) L) (ck (inb (x3 + (2 : Int32)) L) (ck (inb (x3 + (3 : Int32)) L) (bd2 (f_Yr_back (xs (x3 + (1 : Int32)).toNatClampNeg) (xs (x3 + (2 : Int32)).toNatClampNeg) (xs (x3 + (3 : Int32)).toNatClampNeg) P) (fun v253 P254 => ck (inb (x3 + (1 : Int32)) L) (ck (inb (x3 + (2 : Int32)) L) (ck (inb (x3 + (3 : Int32)) L) (bd2 (f_Mo_back (xs (x3 + (1 : Int32)).toNatClampNeg) (xs (x3 + (2 : Int32)).toNatClampNeg) (xs (x3 + (3 : Int32)).toNatClampNeg) P254) (fun v258 P259 => if (lg_cmp v253 v258) = (0 : Int32) then (j_La_law_1565 xs L (fun z0 Pz => l_La_law_18 xs L n z0 Pz) x3 P259) else (some ((0 : Int32), P259))))))))))) else (if ((xs x3.toNatClampNeg) &&& (63 : Int32)) = (28 : Int32) then (ck (inb (x3 + (1 : Int32)) L) (ck (inb (x3 + (2 : Int32)) L) (ck (inb (x3 + (3 : Int32)) L) (ck (inb (x3 + (4 : Int32)) L) (bd2 (f_Yr_backBy (xs (x3 + (1 : Int32)).toNatClampNeg) (xs (x3 + (2 : Int32)).toNatClampNeg) (xs (x3 + (3 : Int32)).toNatClampNeg) (xs (x3 + (4 : Int32)).toNatClampNeg) P) (fun v266 P267 => ck (inb (x3 + (1 : Int32)) L) (ck (inb (x3 + (2 : Int32)) L) (ck (inb (x3 + (3 : Int32)) L) (ck (inb (x3 + (4 : Int32)) L) (bd2 (f_Mo_backBy (xs (x3 + (1 : Int32)).toNatClampNeg) (xs (x3 + (2 : Int32)).toNatClampNeg) (xs (x3 + (3 : Int32)).toNatClampNeg) (xs (x3 + (4 : Int32)).toNatClampNeg) P267) (fun v272 P273 => if v266 = v272 then (j_La_law_1565 xs L (fun z0 Pz => l_La_law_18 xs L n z0 Pz) x3 P273) else (some ((0 : Int32), P273))))))))))))) else (if ((xs x3.toNatClampNeg) &&& (63 : Int32)) = (29 : Int32) then (ck (inb (x3 + (1 : Int32)) L) (ck (inb (x3 + (2 : Int32)) L) (ck (inb (x3 + (3 : Int32)) L) (bd2 (f_Yr_surely (xs (x3 + (1 : Int32)).toNatClampNeg) (xs (x3 + (2 : Int32)).toNatClampNeg) (xs (x3 + (3 : Int32)).toNatClampNeg) P) (fun v279 P280 => ck (inb (x3 + (1 : Int32)) L) (ck (inb (x3 + (2 : Int32)) L) (ck (inb (x3 + (3 : Int32)) L) (bd2 (f_Mo_surely (xs (x3 + (1 : Int32)).toNatClampNeg) (xs (x3 + (2 : Int32)).toNatClampNeg) (xs (x3 + (3 : Int32)).toNatClampNeg) P280) (fun v284 P285 => if v279 = v284 then (j_La_law_1565 xs L (fun z0 Pz => l_La_law_18 xs L n z0 Pz) x3 P285) else (some ((0 : Int32), P285))))))))))) else (if ((xs x3.toNatClampNeg) &&& (63 : Int32)) = (30 : Int32) then (ck (inb (x3 + (1 : Int32)) L) (ck (inb (x3 + (2 : Int32)) L) (ck (inb (x3 + (3 : Int32)) L) (bd2 (f_Yr_dulls (xs (x3 + (1 : Int32)).toNatClampNeg) (xs (x3 + (2 : Int32)).toNatClampNeg) (xs (x3 + (3 : Int32)).toNatClampNeg) P) (fun v291 P292 => ck (inb (x3 + (1 : Int32)) L) (ck (inb (x3 + (2 : Int32)) L) (ck (inb (x3 + (3 : Int32)) L) (bd2 (f_Mo_dulls (xs (x3 + (1 : Int32)).toNatClampNeg) (xs (x3 + (2 : Int32)).toNatClampNeg) (xs (x3 + (3 : Int32)).toNatClampNeg) P292) (fun v296 P297 => if v291 = v296 then (j_La_law_1565 xs L (fun z0 Pz => l_La_law_18 xs L n z0 Pz) x3 P297) else (some ((0 : Int32), P297))))))))))) else (if ((xs x3.toNatClampNeg) &&& (63 : Int32)) = (31 : Int32) then (ck (inb (x3 + (1 : Int32)) L) (ck (inb (x3 + (2 : Int32)) L) (ck (inb (x3 + (3 : Int32)) L) (bd2 (f_Yr_attempt (xs (x3 + (1 : Int32)).toNatClampNeg) (xs (x3 + (2 : Int32)).toNatClampNeg) (xs (x3 + (3 : Int32)).toNatClampNeg) P) (fun v303 P304 => ck (inb (x3 + (1 : Int32)) L) (ck (inb (x3 + (2 : Int32)) L) (ck (inb (x3 + (3 : Int32)) L) (bd2 (f_Mo_attempt (xs (x3 + (1 : Int32)).toNatClampNeg) (xs (x3 + (2 : Int32)).toNatClampNeg) (xs (x3 + (3 : Int32)).toNatClampNeg) P304) (fun v308 P309 => if v303 = v308 then (j_La_law_1565 xs L (fun z0 Pz => l_La_law_18 xs L n z0 Pz) x3 P309) else (some ((0 : Int32), P309))))))))))) else (if ((xs x3.toNatClampNeg) &&& (63 : Int32)) = (32 : Int32) then (ck (inb (x3 + (1 : Int32)) L) (bd2 (f_Yr_forces (xs (x3 + (1 : Int32)).toNatClampNeg) P) (fun v313 P314 => ck (inb (x3 + (1 : Int32)) L) (bd2 (f_Mo_forces (xs (x3 + (1 : Int32)).toNatClampNeg) P314) (fun v316 P317 => if v313 = v316 then (j_La_law_1565 xs L (fun z0 Pz => l_La_law_18 xs L n z0 Pz) x3 P317) else (some ((0 : Int32), P317))))))) else (if ((xs x3.toNatClampNeg) &&& (63 : Int32)) = (33 : Int32) then (ck (inb (x3 + (1 : Int32)) L) (bd2 (f_Yr_best (xs (x3 + (1 : Int32)).toNatClampNeg) P) (fun v321 P322 => ck (inb (x3 + (1 : Int32)) L) (bd2 (f_Mo_best (xs (x3 + (1 : Int32)).toNatClampNeg) P322) (fun v324 P325 => if v321 = v324 then (j_La_law_1565 xs L (fun z0 Pz => l_La_law_18 xs L n z0 Pz) x3 P325) else (some ((0 : Int32), P325))))))) else (if ((xs x3.toNatClampNeg) &&& (63 : Int32)) = (34 : Int32) then (ck (inb (x3 + (1 : Int32)) L) (ck (inb (x3 + (2 : Int32)) L) (ck (inb (x3 + (3 : Int32)) L) (bd2 (f_Yr_chance (xs (x3 + (1 : Int32)).toNatClampNeg) (xs (x3 + (2 : Int32)).toNatClampNeg) (xs (x3 + (3 : Int32)).toNatClampNeg) P) (fun v331 P332 => ck (inb (x3 + (1 : Int32)) L) (ck (inb (x3 + (2 : Int32)) L) (ck (inb (x3 + (3 : Int32)) L) (bd2 (f_Mo_chance (xs (x3 + (1 : Int32)).toNatClampNeg) (xs (x3 + (2 : Int32)).toNatClampNeg) (xs (x3 + (3 : Int32)).toNatClampNeg) P332) (fun v336 P337 => if (lg_cmp v331 v336) = (0 : Int32) then (j_La_law_1565 xs L (fun z0 Pz => l_La_law_18 xs L n z0 Pz) x3 P337) else (some ((0 : Int32), P337))))))))))) else (if ((xs x3.toNatClampNeg) &&& (63 : Int32)) = (35 : Int32) then (ck (inb (x3 + (1 : Int32)) L) (bd2 (f_Yr_likeliest (xs (x3 + (1 : Int32)).toNatClampNeg) P) (fun v341 P342 => ck (inb (x3 + (1 : Int32)) L) (bd2 (f_Mo_likeliest (xs (x3 + (1 : Int32)).toNatClampNeg) P342) (fun v344 P345 => if v341 = v344 then (j_La_law_1565 xs L (fun z0 Pz => l_La_law_18 xs L n z0 Pz) x3 P345) else (some ((0 : Int32), P345))))))) else (if ((xs x3.toNatClampNeg) &&& (63 : Int32)) = (36 : Int32) then (ck (inb (x3 + (1 : Int32)) L) (ck (inb (x3 + (2 : Int32)) L) (ck (inb (x3 + (3 : Int32)) L) (bd2 (f_Yr_numbers (xs (x3 + (1 : Int32)).toNatClampNeg) (xs (x3 + (2 : Int32)).toNatClampNeg) (xs (x3 + (3 : Int32)).toNatClampNeg) P) (fun v351 P352 => ck (inb (x3 + (1 : Int32)) L) (ck (inb (x3 + (2 : Int32)) L) (ck (inb (x3 + (3 : Int32)) L) (bd2 (f_Mo_numbers (xs (x3 + (1 : Int32)).toNatClampNeg) (xs (x3 + (2 : Int32)).toNatClampNeg) (xs (x3 + (3 : Int32)).toNatClampNeg) P352) (fun v356 P357 => if v351 = v356 then (j_La_law_1565 xs L (fun z0 Pz => l_La_law_18 xs L n z0 Pz) x3 P357) else (some ((0 : Int32), P357))))))))))) else (if ((xs x3.toNatClampNeg) &&& (63 : Int32)) = (37 : Int32) then (ck (inb (x3 + (1 : Int32)) L) (ck (inb (x3 + (2 : Int32)) L) (ck (inb (x3 + (3 : Int32)) L) (ck (inb (x3 + (4 : Int32)) L) (bd2 (f_Yr_write (xs (x3 + (1 : Int32)).toNatClampNeg) (xs (x3 + (2 : Int32)).toNatClampNeg) ((((xs (x3 + (3 : Int32)).toNatClampNeg).toInt64) <<< ((32 : Int32).toInt64 &&& 63)) ||| (((xs (x3 + (4 : Int32)).toNatClampNeg).toInt64) &&& (4294967295 : Int64))) P) (fun v364 P365 => ck (inb (x3 + (1 : Int32)) L) (ck (inb (x3 + (2 : Int32)) L) (ck (inb (x3 + (3 : Int32)) L) (ck (inb (x3 + (4 : Int32)) L) (bd2 (f_Mo_write (xs (x3 + (1 : Int32)).toNatClampNeg) (xs (x3 + (2 : Int32)).toNatClampNeg) ((((xs (x3 + (3 : Int32)).toNatClampNeg).toInt64) <<< ((32 : Int32).toInt64 &&& 63)) ||| (((xs (x3 + (4 : Int32)).toNatClampNeg).toInt64) &&& (4294967295 : Int64))) P365) (fun v370 P371 => if (lg_cmp v364 v370) = (0 : Int32) then (j_La_law_1565 xs L (fun z0 Pz => l_La_law_18 xs L n z0 Pz) x3 P371) else (some ((0 : Int32), P371))))))))))))) else (if ((xs x3.toNatClampNeg) &&& (63 : Int32)) = (38 : Int32) then (ck (inb (x3 + (1 : Int32)) L) (ck (inb (x3 + (2 : Int32)) L) (bd2 (f_Yr_lists (xs (x3 + (1 : Int32)).toNatClampNeg) (xs (x3 + (2 : Int32)).toNatClampNeg) P) (fun v376 P377 => ck (inb (x3 + (1 : Int32)) L) (ck (inb (x3 + (2 : Int32)) L) (bd2 (f_Mo_lists (xs (x3 + (1 : Int32)).toNatClampNeg) (xs (x3 + (2 : Int32)).toNatClampNeg) P377) (fun v380 P381 => if v376 = v380 then (j_La_law_1565 xs L (fun z0 Pz => l_La_law_18 xs L n z0 Pz) x3 P381) else (some ((0 : Int32), P381))))))))) else (if ((xs x3.toNatClampNeg) &&& (63 : Int32)) = (39 : Int32) then (ck (inb (x3 + (1 : Int32)) L) (bd2 (f_Yr_image (xs (x3 + (1 : Int32)).toNatClampNeg) P) (fun v385 P386 => ck (inb (x3 + (1 : Int32)) L) (bd2 (f_Mo_image (xs (x3 + (1 : Int32)).toNatClampNeg) P386) (fun v388 P389 => if v385 = v388 then (j_La_law_1565 xs L (fun z0 Pz => l_La_law_18 xs L n z0 Pz) x3 P389) else (some ((0 : Int32), P389))))))) else (if ((xs x3.toNatClampNeg) &&& (63 : Int32)) = (40 : Int32) then (ck (inb (x3 + (1 : Int32)) L) (bd2 (f_Yr_restore (xs (x3 + (1 : Int32)).toNatClampNeg) P) (fun v393 P394 => ck (inb (x3 + (1 : Int32)) L) (bd2 (f_Mo_restore (xs (x3 + (1 : Int32)).toNatClampNeg) P394) (fun v396 P397 => if v393 = v396 then (j_La_law_1565 xs L (fun z0 Pz => l_La_law_18 xs L n z0 Pz) x3 P397) else (some ((0 : Int32), P397))))))) else (if ((xs x3.toNatClampNeg) &&& (63 : Int32)) = (41 : Int32) then (ck (inb (x3 + (1 : Int32)) L) ((f_Yr_count (xs (x3 + (1 : Int32)).toNatClampNeg) P).bind (fun v401 => ck (inb (x3 + (1 : Int32)) L) (bd2 (f_Mo_count (xs (x3 + (1 : Int32)).toNatClampNeg) P) (fun v403 P404 => if v401 = v403 then (j_La_law_1565 xs L (fun z0 Pz => l_La_law_18 xs L n z0 Pz) x3 P404) else (some ((0 : Int32), P404))))))) else (j_La_law_1565 xs L (fun z0 Pz => l_La_law_18 xs L n z0 Pz) x3 P))))))))))))))))))))))))))))))))))))))))))))
set_option maxRecDepth 20000 in
set_option maxHeartbeats 4000000 in
theorem t_l_La_law_18 {G : GX} (hG : GOK G) {E : EV} (hE : E0 E) (d : Nat) (hd : 112 ≤ d) {n0 : Nat} {Q : QT} (b : Nat) (xs : Nat → Int32) (L : Nat) (hX : va_X b L xs (gs G) (gs G).heap) (hbl : b < (gs G).heap.size) : ∀ (n : Nat) (x3 : Int32) (P : PM), St E rIP (l_La_law_18 xs L n x3 P) Q → Go G code "YawnRouteLaw" 4 (some .boolean) false d n0 nOb Q 18 [(0, .ref b), (1, .ref (ad E 0)), (2, .ref (ad E 109)), (3, .int x3)] [] P E := by
  intro n
  induction n with
  | zero =>
    intro x3 P h
    rw [l_La_law_18] at h
    exact St.none_ h
  | succ n ih =>
    intro x3 P h
    rw [l_La_law_18] at h
    refine Go.iload_n (k := 3) (i := 3) 3 (by decide +kernel) rfl rfl ?_
    refine Go.aload_n (k := 0) (i := 0) 0 (by decide +kernel) rfl rfl ?_
    refine Go.slen hX hbl (by decide +kernel) ?_
    refine Go.bipush (n := 6) (6 : Int32) (by decide +kernel) (by decide) ?_
    refine Go.isub (by decide +kernel) ?_
    refine Go.icmp_gt (off := 1547) 1571 (by decide +kernel) (by decide) (fun c1 => ?_) (fun c1 => ?_)
    · rw [if_pos c1] at h
      refine Go.iconst (n := 1) (1 : Int32) (by decide +kernel) rfl ?_
      exact Go.iret rfl rfl hE.2 (by decide +kernel) (St.fIP h)
    · rw [if_neg c1] at h
      refine Go.aload_n (k := 0) (i := 0) 0 (by decide +kernel) rfl rfl ?_
      refine Go.iload_n (k := 3) (i := 3) 3 (by decide +kernel) rfl rfl ?_
      obtain ⟨b2, h⟩ := St.ck h
      refine Go.sld hX hbl (inb_in b2) (by decide +kernel) ?_
      refine Go.bipush (n := 63) (63 : Int32) (by decide +kernel) (by decide) ?_
      refine Go.iand (by decide +kernel) ?_
      by_cases c3 : ((xs x3.toNatClampNeg) &&& (63 : Int32)) = (0 : Int32)
      · rw [if_pos c3] at h
        refine Go.tabIn (dflt := 1532) (lo := 0) (hi := 41) (offs := #[183, 246, 269, 292, 325, 368, 391, 414, 447, 470, 503, 526, 559, 582, 615, 648, 691, 724, 767, 790, 803, 826, 859, 892, 905, 918, 931, 974, 1018, 1071, 1114, 1157, 1200, 1223, 1246, 1290, 1313, 1356, 1430, 1463, 1486, 1509]) (len := 183) (off := 183) 216 (by decide +kernel) (by rw [c3]; decide) (by rw [c3]; decide) (by rw [c3]; rfl) (by decide) ?_
        refine Go.aload_n (k := 1) (i := 1) 1 (by decide +kernel) rfl rfl ?_
        refine Go.aload_n (k := 0) (i := 0) 0 (by decide +kernel) rfl rfl ?_
        refine Go.iload_n (k := 3) (i := 3) 3 (by decide +kernel) rfl rfl ?_
        refine Go.iconst (n := 1) (1 : Int32) (by decide +kernel) rfl ?_
        refine Go.iadd (by decide +kernel) ?_
        obtain ⟨b4, h⟩ := St.ck h
        refine Go.sld hX hbl (inb_in b4) (by decide +kernel) ?_
        refine Go.aload_n (k := 0) (i := 0) 0 (by decide +kernel) rfl rfl ?_
        refine Go.iload_n (k := 3) (i := 3) 3 (by decide +kernel) rfl rfl ?_
        refine Go.iconst (n := 2) (2 : Int32) (by decide +kernel) rfl ?_
        refine Go.iadd (by decide +kernel) ?_
        obtain ⟨b5, h⟩ := St.ck h
        refine Go.sld hX hbl (inb_in b5) (by decide +kernel) ?_
        refine Go.aload_n (k := 0) (i := 0) 0 (by decide +kernel) rfl rfl ?_
        refine Go.iload_n (k := 3) (i := 3) 3 (by decide +kernel) rfl rfl ?_
        refine Go.iconst (n := 3) (3 : Int32) (by decide +kernel) rfl ?_
        refine Go.iadd (by decide +kernel) ?_
        obtain ⟨b6, h⟩ := St.ck h
        refine Go.sld hX hbl (inb_in b6) (by decide +kernel) ?_
        refine Go.aload_n (k := 0) (i := 0) 0 (by decide +kernel) rfl rfl ?_
        refine Go.iload_n (k := 3) (i := 3) 3 (by decide +kernel) rfl rfl ?_
        refine Go.iconst (n := 4) (4 : Int32) (by decide +kernel) rfl ?_
        refine Go.iadd (by decide +kernel) ?_
        obtain ⟨b7, h⟩ := St.ck h
        refine Go.sld hX hbl (inb_in b7) (by decide +kernel) ?_
        refine Go.aload_n (k := 0) (i := 0) 0 (by decide +kernel) rfl rfl ?_
        refine Go.iload_n (k := 3) (i := 3) 3 (by decide +kernel) rfl rfl ?_
        refine Go.iconst (n := 5) (5 : Int32) (by decide +kernel) rfl ?_
        refine Go.iadd (by decide +kernel) ?_
        obtain ⟨b8, h⟩ := St.ck h
        refine Go.sld hX hbl (inb_in b8) (by decide +kernel) ?_
        obtain ⟨v9, P10, hv9, h⟩ := St.bd2 h
        refine Go.cV_i (P1 := P10) (v := v9) (d - 1) 0 [.int (xs (x3 + (1 : Int32)).toNatClampNeg), .int (xs (x3 + (2 : Int32)).toNatClampNeg), .int (xs (x3 + (3 : Int32)).toNatClampNeg), .int (xs (x3 + (4 : Int32)).toNatClampNeg), .int (xs (x3 + (5 : Int32)).toNatClampNeg)] sh0 hE w_Yr_feed (e_Yr_feed hG hE (d - 1) (by omega) (xs (x3 + (1 : Int32)).toNatClampNeg) (xs (x3 + (2 : Int32)).toNatClampNeg) (xs (x3 + (3 : Int32)).toNatClampNeg) (xs (x3 + (4 : Int32)).toNatClampNeg) (xs (x3 + (5 : Int32)).toNatClampNeg) P ⟨_, hv9, rfl, rfl, rfl⟩) lk431 rfl (by omega) (Nat.le_of_ble_eq_true rfl) (by decide +kernel) _ rfl ?_
        refine Go.aload_n (k := 2) (i := 2) 2 (by decide +kernel) rfl rfl ?_
        refine Go.aload_n (k := 0) (i := 0) 0 (by decide +kernel) rfl rfl ?_
        refine Go.iload_n (k := 3) (i := 3) 3 (by decide +kernel) rfl rfl ?_
        refine Go.iconst (n := 1) (1 : Int32) (by decide +kernel) rfl ?_
        refine Go.iadd (by decide +kernel) ?_
        obtain ⟨b11, h⟩ := St.ck h
        refine Go.sld hX hbl (inb_in b11) (by decide +kernel) ?_
        refine Go.aload_n (k := 0) (i := 0) 0 (by decide +kernel) rfl rfl ?_
        refine Go.iload_n (k := 3) (i := 3) 3 (by decide +kernel) rfl rfl ?_
        refine Go.iconst (n := 2) (2 : Int32) (by decide +kernel) rfl ?_
        refine Go.iadd (by decide +kernel) ?_
        obtain ⟨b12, h⟩ := St.ck h
        refine Go.sld hX hbl (inb_in b12) (by decide +kernel) ?_
        refine Go.aload_n (k := 0) (i := 0) 0 (by decide +kernel) rfl rfl ?_
        refine Go.iload_n (k := 3) (i := 3) 3 (by decide +kernel) rfl rfl ?_
        refine Go.iconst (n := 3) (3 : Int32) (by decide +kernel) rfl ?_
        refine Go.iadd (by decide +kernel) ?_
        obtain ⟨b13, h⟩ := St.ck h
        refine Go.sld hX hbl (inb_in b13) (by decide +kernel) ?_
        refine Go.aload_n (k := 0) (i := 0) 0 (by decide +kernel) rfl rfl ?_
        refine Go.iload_n (k := 3) (i := 3) 3 (by decide +kernel) rfl rfl ?_
        refine Go.iconst (n := 4) (4 : Int32) (by decide +kernel) rfl ?_
        refine Go.iadd (by decide +kernel) ?_
        obtain ⟨b14, h⟩ := St.ck h
        refine Go.sld hX hbl (inb_in b14) (by decide +kernel) ?_
        refine Go.aload_n (k := 0) (i := 0) 0 (by decide +kernel) rfl rfl ?_
        refine Go.iload_n (k := 3) (i := 3) 3 (by decide +kernel) rfl rfl ?_
        refine Go.iconst (n := 5) (5 : Int32) (by decide +kernel) rfl ?_
        refine Go.iadd (by decide +kernel) ?_
        obtain ⟨b15, h⟩ := St.ck h
        refine Go.sld hX hbl (inb_in b15) (by decide +kernel) ?_
        obtain ⟨v16, P17, hv16, h⟩ := St.bd2 h
        refine Go.cV_i (P1 := P17) (v := v16) (d - 1) 109 [.int (xs (x3 + (1 : Int32)).toNatClampNeg), .int (xs (x3 + (2 : Int32)).toNatClampNeg), .int (xs (x3 + (3 : Int32)).toNatClampNeg), .int (xs (x3 + (4 : Int32)).toNatClampNeg), .int (xs (x3 + (5 : Int32)).toNatClampNeg)] sh109 hE w_Mo_feed (e_Mo_feed hG hE (d - 1) (by omega) (xs (x3 + (1 : Int32)).toNatClampNeg) (xs (x3 + (2 : Int32)).toNatClampNeg) (xs (x3 + (3 : Int32)).toNatClampNeg) (xs (x3 + (4 : Int32)).toNatClampNeg) (xs (x3 + (5 : Int32)).toNatClampNeg) P10 ⟨_, hv16, rfl, rfl, rfl⟩) lk1430 rfl (by omega) (Nat.le_of_ble_eq_true rfl) (by decide +kernel) _ rfl ?_
        refine Go.icmp_eq (off := 1291) 1565 (by decide +kernel) (by decide) (fun c18 => ?_) (fun c18 => ?_)
        · rw [if_pos c18] at h
          exact t_j_La_law_1565 hG hE d hd b xs L hX hbl (fun z0 Pz => l_La_law_18 xs L n z0 Pz) (fun z0 Pz q => ih z0 Pz q) x3 P17 h
        · rw [if_neg c18] at h
          refine Go.iconst (n := 0) (0 : Int32) (by decide +kernel) rfl ?_
          exact Go.iret rfl rfl hE.2 (by decide +kernel) (St.fIP h)
      · rw [if_neg c3] at h
        by_cases c19 : ((xs x3.toNatClampNeg) &&& (63 : Int32)) = (1 : Int32)
        · rw [if_pos c19] at h
          refine Go.tabIn (dflt := 1532) (lo := 0) (hi := 41) (offs := #[183, 246, 269, 292, 325, 368, 391, 414, 447, 470, 503, 526, 559, 582, 615, 648, 691, 724, 767, 790, 803, 826, 859, 892, 905, 918, 931, 974, 1018, 1071, 1114, 1157, 1200, 1223, 1246, 1290, 1313, 1356, 1430, 1463, 1486, 1509]) (len := 183) (off := 246) 279 (by decide +kernel) (by rw [c19]; decide) (by rw [c19]; decide) (by rw [c19]; rfl) (by decide) ?_
          refine Go.aload_n (k := 1) (i := 1) 1 (by decide +kernel) rfl rfl ?_
          refine Go.aload_n (k := 0) (i := 0) 0 (by decide +kernel) rfl rfl ?_
          refine Go.iload_n (k := 3) (i := 3) 3 (by decide +kernel) rfl rfl ?_
          refine Go.iconst (n := 1) (1 : Int32) (by decide +kernel) rfl ?_
          refine Go.iadd (by decide +kernel) ?_
          obtain ⟨b20, h⟩ := St.ck h
          refine Go.sld hX hbl (inb_in b20) (by decide +kernel) ?_
          obtain ⟨v21, P22, hv21, h⟩ := St.bd2 h
          refine Go.cV_i (P1 := P22) (v := v21) (d - 1) 0 [.int (xs (x3 + (1 : Int32)).toNatClampNeg)] sh0 hE w_Yr_net (e_Yr_net hG hE (d - 1) (by omega) (xs (x3 + (1 : Int32)).toNatClampNeg) P ⟨_, hv21, rfl, rfl, rfl⟩) lk439 rfl (by omega) (Nat.le_of_ble_eq_true rfl) (by decide +kernel) _ rfl ?_
          refine Go.aload_n (k := 2) (i := 2) 2 (by decide +kernel) rfl rfl ?_
          refine Go.aload_n (k := 0) (i := 0) 0 (by decide +kernel) rfl rfl ?_
          refine Go.iload_n (k := 3) (i := 3) 3 (by decide +kernel) rfl rfl ?_
          refine Go.iconst (n := 1) (1 : Int32) (by decide +kernel) rfl ?_
          refine Go.iadd (by decide +kernel) ?_
          obtain ⟨b23, h⟩ := St.ck h
          refine Go.sld hX hbl (inb_in b23) (by decide +kernel) ?_
          obtain ⟨v24, P25, hv24, h⟩ := St.bd2 h
          refine Go.cV_i (P1 := P25) (v := v24) (d - 1) 109 [.int (xs (x3 + (1 : Int32)).toNatClampNeg)] sh109 hE w_Mo_net (e_Mo_net hG hE (d - 1) (by omega) (xs (x3 + (1 : Int32)).toNatClampNeg) P22 ⟨_, hv24, rfl, rfl, rfl⟩) lk1434 rfl (by omega) (Nat.le_of_ble_eq_true rfl) (by decide +kernel) _ rfl ?_
          refine Go.icmp_eq (off := 1268) 1565 (by decide +kernel) (by decide) (fun c26 => ?_) (fun c26 => ?_)
          · rw [if_pos c26] at h
            exact t_j_La_law_1565 hG hE d hd b xs L hX hbl (fun z0 Pz => l_La_law_18 xs L n z0 Pz) (fun z0 Pz q => ih z0 Pz q) x3 P25 h
          · rw [if_neg c26] at h
            refine Go.iconst (n := 0) (0 : Int32) (by decide +kernel) rfl ?_
            exact Go.iret rfl rfl hE.2 (by decide +kernel) (St.fIP h)
        · rw [if_neg c19] at h
          by_cases c27 : ((xs x3.toNatClampNeg) &&& (63 : Int32)) = (2 : Int32)
          · rw [if_pos c27] at h
            refine Go.tabIn (dflt := 1532) (lo := 0) (hi := 41) (offs := #[183, 246, 269, 292, 325, 368, 391, 414, 447, 470, 503, 526, 559, 582, 615, 648, 691, 724, 767, 790, 803, 826, 859, 892, 905, 918, 931, 974, 1018, 1071, 1114, 1157, 1200, 1223, 1246, 1290, 1313, 1356, 1430, 1463, 1486, 1509]) (len := 183) (off := 269) 302 (by decide +kernel) (by rw [c27]; decide) (by rw [c27]; decide) (by rw [c27]; rfl) (by decide) ?_
            refine Go.aload_n (k := 1) (i := 1) 1 (by decide +kernel) rfl rfl ?_
            refine Go.aload_n (k := 0) (i := 0) 0 (by decide +kernel) rfl rfl ?_
            refine Go.iload_n (k := 3) (i := 3) 3 (by decide +kernel) rfl rfl ?_
            refine Go.iconst (n := 1) (1 : Int32) (by decide +kernel) rfl ?_
            refine Go.iadd (by decide +kernel) ?_
            obtain ⟨b28, h⟩ := St.ck h
            refine Go.sld hX hbl (inb_in b28) (by decide +kernel) ?_
            refine Go.cV_i (P1 := P) (v := (f_Yr_fault (xs (x3 + (1 : Int32)).toNatClampNeg) P)) (d - 1) 0 [.int (xs (x3 + (1 : Int32)).toNatClampNeg)] sh0 hE w_Yr_fault (e_Yr_fault hG hE (d - 1) (by omega) (xs (x3 + (1 : Int32)).toNatClampNeg) P ⟨rfl, rfl, rfl⟩) lk718 rfl (by omega) (Nat.le_of_ble_eq_true rfl) (by decide +kernel) _ rfl ?_
            refine Go.aload_n (k := 2) (i := 2) 2 (by decide +kernel) rfl rfl ?_
            refine Go.aload_n (k := 0) (i := 0) 0 (by decide +kernel) rfl rfl ?_
            refine Go.iload_n (k := 3) (i := 3) 3 (by decide +kernel) rfl rfl ?_
            refine Go.iconst (n := 1) (1 : Int32) (by decide +kernel) rfl ?_
            refine Go.iadd (by decide +kernel) ?_
            obtain ⟨b29, h⟩ := St.ck h
            refine Go.sld hX hbl (inb_in b29) (by decide +kernel) ?_
            obtain ⟨v30, P31, hv30, h⟩ := St.bd2 h
            refine Go.cV_i (P1 := P31) (v := v30) (d - 1) 109 [.int (xs (x3 + (1 : Int32)).toNatClampNeg)] sh109 hE w_Mo_fault (e_Mo_fault hG hE (d - 1) (by omega) (xs (x3 + (1 : Int32)).toNatClampNeg) P ⟨_, hv30, rfl, rfl, rfl⟩) lk1547 rfl (by omega) (Nat.le_of_ble_eq_true rfl) (by decide +kernel) _ rfl ?_
            refine Go.icmp_eq (off := 1245) 1565 (by decide +kernel) (by decide) (fun c32 => ?_) (fun c32 => ?_)
            · rw [if_pos c32] at h
              exact t_j_La_law_1565 hG hE d hd b xs L hX hbl (fun z0 Pz => l_La_law_18 xs L n z0 Pz) (fun z0 Pz q => ih z0 Pz q) x3 P31 h
            · rw [if_neg c32] at h
              refine Go.iconst (n := 0) (0 : Int32) (by decide +kernel) rfl ?_
              exact Go.iret rfl rfl hE.2 (by decide +kernel) (St.fIP h)
          · rw [if_neg c27] at h
            by_cases c33 : ((xs x3.toNatClampNeg) &&& (63 : Int32)) = (3 : Int32)
            · rw [if_pos c33] at h
              refine Go.tabIn (dflt := 1532) (lo := 0) (hi := 41) (offs := #[183, 246, 269, 292, 325, 368, 391, 414, 447, 470, 503, 526, 559, 582, 615, 648, 691, 724, 767, 790, 803, 826, 859, 892, 905, 918, 931, 974, 1018, 1071, 1114, 1157, 1200, 1223, 1246, 1290, 1313, 1356, 1430, 1463, 1486, 1509]) (len := 183) (off := 292) 325 (by decide +kernel) (by rw [c33]; decide) (by rw [c33]; decide) (by rw [c33]; rfl) (by decide) ?_
              refine Go.aload_n (k := 1) (i := 1) 1 (by decide +kernel) rfl rfl ?_
              refine Go.aload_n (k := 0) (i := 0) 0 (by decide +kernel) rfl rfl ?_
              refine Go.iload_n (k := 3) (i := 3) 3 (by decide +kernel) rfl rfl ?_
              refine Go.iconst (n := 1) (1 : Int32) (by decide +kernel) rfl ?_
              refine Go.iadd (by decide +kernel) ?_
              obtain ⟨b34, h⟩ := St.ck h
              refine Go.sld hX hbl (inb_in b34) (by decide +kernel) ?_
              refine Go.aload_n (k := 0) (i := 0) 0 (by decide +kernel) rfl rfl ?_
              refine Go.iload_n (k := 3) (i := 3) 3 (by decide +kernel) rfl rfl ?_
              refine Go.iconst (n := 2) (2 : Int32) (by decide +kernel) rfl ?_
              refine Go.iadd (by decide +kernel) ?_
              obtain ⟨b35, h⟩ := St.ck h
              refine Go.sld hX hbl (inb_in b35) (by decide +kernel) ?_
              obtain ⟨v36, hv36, h⟩ := St.bind h
              refine Go.cV_i (P1 := P) (v := v36) (d - 1) 0 [.int (xs (x3 + (1 : Int32)).toNatClampNeg), .int (xs (x3 + (2 : Int32)).toNatClampNeg)] sh0 hE w_Yr_station (e_Yr_station hG hE (d - 1) (by omega) (xs (x3 + (1 : Int32)).toNatClampNeg) (xs (x3 + (2 : Int32)).toNatClampNeg) P ⟨_, hv36, rfl, rfl, rfl⟩) lk722 rfl (by omega) (Nat.le_of_ble_eq_true rfl) (by decide +kernel) _ rfl ?_
              refine Go.aload_n (k := 2) (i := 2) 2 (by decide +kernel) rfl rfl ?_
              refine Go.aload_n (k := 0) (i := 0) 0 (by decide +kernel) rfl rfl ?_
              refine Go.iload_n (k := 3) (i := 3) 3 (by decide +kernel) rfl rfl ?_
              refine Go.iconst (n := 1) (1 : Int32) (by decide +kernel) rfl ?_
              refine Go.iadd (by decide +kernel) ?_
              obtain ⟨b37, h⟩ := St.ck h
              refine Go.sld hX hbl (inb_in b37) (by decide +kernel) ?_
              refine Go.aload_n (k := 0) (i := 0) 0 (by decide +kernel) rfl rfl ?_
              refine Go.iload_n (k := 3) (i := 3) 3 (by decide +kernel) rfl rfl ?_
              refine Go.iconst (n := 2) (2 : Int32) (by decide +kernel) rfl ?_
              refine Go.iadd (by decide +kernel) ?_
              obtain ⟨b38, h⟩ := St.ck h
              refine Go.sld hX hbl (inb_in b38) (by decide +kernel) ?_
              obtain ⟨v39, P40, hv39, h⟩ := St.bd2 h
              refine Go.cV_i (P1 := P40) (v := v39) (d - 1) 109 [.int (xs (x3 + (1 : Int32)).toNatClampNeg), .int (xs (x3 + (2 : Int32)).toNatClampNeg)] sh109 hE w_Mo_station (e_Mo_station hG hE (d - 1) (by omega) (xs (x3 + (1 : Int32)).toNatClampNeg) (xs (x3 + (2 : Int32)).toNatClampNeg) P ⟨_, hv39, rfl, rfl, rfl⟩) lk1551 rfl (by omega) (Nat.le_of_ble_eq_true rfl) (by decide +kernel) _ rfl ?_
              refine Go.icmp_eq (off := 1212) 1565 (by decide +kernel) (by decide) (fun c41 => ?_) (fun c41 => ?_)
              · rw [if_pos c41] at h
                exact t_j_La_law_1565 hG hE d hd b xs L hX hbl (fun z0 Pz => l_La_law_18 xs L n z0 Pz) (fun z0 Pz q => ih z0 Pz q) x3 P40 h
              · rw [if_neg c41] at h
                refine Go.iconst (n := 0) (0 : Int32) (by decide +kernel) rfl ?_
                exact Go.iret rfl rfl hE.2 (by decide +kernel) (St.fIP h)
            · rw [if_neg c33] at h
              by_cases c42 : ((xs x3.toNatClampNeg) &&& (63 : Int32)) = (4 : Int32)
              · rw [if_pos c42] at h
                refine Go.tabIn (dflt := 1532) (lo := 0) (hi := 41) (offs := #[183, 246, 269, 292, 325, 368, 391, 414, 447, 470, 503, 526, 559, 582, 615, 648, 691, 724, 767, 790, 803, 826, 859, 892, 905, 918, 931, 974, 1018, 1071, 1114, 1157, 1200, 1223, 1246, 1290, 1313, 1356, 1430, 1463, 1486, 1509]) (len := 183) (off := 325) 358 (by decide +kernel) (by rw [c42]; decide) (by rw [c42]; decide) (by rw [c42]; rfl) (by decide) ?_
                refine Go.aload_n (k := 1) (i := 1) 1 (by decide +kernel) rfl rfl ?_
                refine Go.aload_n (k := 0) (i := 0) 0 (by decide +kernel) rfl rfl ?_
                refine Go.iload_n (k := 3) (i := 3) 3 (by decide +kernel) rfl rfl ?_
                refine Go.iconst (n := 1) (1 : Int32) (by decide +kernel) rfl ?_
                refine Go.iadd (by decide +kernel) ?_
                obtain ⟨b43, h⟩ := St.ck h
                refine Go.sld hX hbl (inb_in b43) (by decide +kernel) ?_
                refine Go.aload_n (k := 0) (i := 0) 0 (by decide +kernel) rfl rfl ?_
                refine Go.iload_n (k := 3) (i := 3) 3 (by decide +kernel) rfl rfl ?_
                refine Go.iconst (n := 2) (2 : Int32) (by decide +kernel) rfl ?_
                refine Go.iadd (by decide +kernel) ?_
                obtain ⟨b44, h⟩ := St.ck h
                refine Go.sld hX hbl (inb_in b44) (by decide +kernel) ?_
                refine Go.aload_n (k := 0) (i := 0) 0 (by decide +kernel) rfl rfl ?_
                refine Go.iload_n (k := 3) (i := 3) 3 (by decide +kernel) rfl rfl ?_
                refine Go.iconst (n := 3) (3 : Int32) (by decide +kernel) rfl ?_
                refine Go.iadd (by decide +kernel) ?_
                obtain ⟨b45, h⟩ := St.ck h
                refine Go.sld hX hbl (inb_in b45) (by decide +kernel) ?_
                obtain ⟨v46, hv46, h⟩ := St.bind h
                refine Go.cV_i (P1 := P) (v := v46) (d - 1) 0 [.int (xs (x3 + (1 : Int32)).toNatClampNeg), .int (xs (x3 + (2 : Int32)).toNatClampNeg), .int (xs (x3 + (3 : Int32)).toNatClampNeg)] sh0 hE w_Yr_way (e_Yr_way hG hE (d - 1) (by omega) (xs (x3 + (1 : Int32)).toNatClampNeg) (xs (x3 + (2 : Int32)).toNatClampNeg) (xs (x3 + (3 : Int32)).toNatClampNeg) P ⟨_, hv46, rfl, rfl, rfl⟩) lk746 rfl (by omega) (Nat.le_of_ble_eq_true rfl) (by decide +kernel) _ rfl ?_
                refine Go.aload_n (k := 2) (i := 2) 2 (by decide +kernel) rfl rfl ?_
                refine Go.aload_n (k := 0) (i := 0) 0 (by decide +kernel) rfl rfl ?_
                refine Go.iload_n (k := 3) (i := 3) 3 (by decide +kernel) rfl rfl ?_
                refine Go.iconst (n := 1) (1 : Int32) (by decide +kernel) rfl ?_
                refine Go.iadd (by decide +kernel) ?_
                obtain ⟨b47, h⟩ := St.ck h
                refine Go.sld hX hbl (inb_in b47) (by decide +kernel) ?_
                refine Go.aload_n (k := 0) (i := 0) 0 (by decide +kernel) rfl rfl ?_
                refine Go.iload_n (k := 3) (i := 3) 3 (by decide +kernel) rfl rfl ?_
                refine Go.iconst (n := 2) (2 : Int32) (by decide +kernel) rfl ?_
                refine Go.iadd (by decide +kernel) ?_
                obtain ⟨b48, h⟩ := St.ck h
                refine Go.sld hX hbl (inb_in b48) (by decide +kernel) ?_
                refine Go.aload_n (k := 0) (i := 0) 0 (by decide +kernel) rfl rfl ?_
                refine Go.iload_n (k := 3) (i := 3) 3 (by decide +kernel) rfl rfl ?_
                refine Go.iconst (n := 3) (3 : Int32) (by decide +kernel) rfl ?_
                refine Go.iadd (by decide +kernel) ?_
                obtain ⟨b49, h⟩ := St.ck h
                refine Go.sld hX hbl (inb_in b49) (by decide +kernel) ?_
                obtain ⟨v50, P51, hv50, h⟩ := St.bd2 h
                refine Go.cV_i (P1 := P51) (v := v50) (d - 1) 109 [.int (xs (x3 + (1 : Int32)).toNatClampNeg), .int (xs (x3 + (2 : Int32)).toNatClampNeg), .int (xs (x3 + (3 : Int32)).toNatClampNeg)] sh109 hE w_Mo_way (e_Mo_way hG hE (d - 1) (by omega) (xs (x3 + (1 : Int32)).toNatClampNeg) (xs (x3 + (2 : Int32)).toNatClampNeg) (xs (x3 + (3 : Int32)).toNatClampNeg) P ⟨_, hv50, rfl, rfl, rfl⟩) lk1563 rfl (by omega) (Nat.le_of_ble_eq_true rfl) (by decide +kernel) _ rfl ?_
                refine Go.icmp_eq (off := 1169) 1565 (by decide +kernel) (by decide) (fun c52 => ?_) (fun c52 => ?_)
                · rw [if_pos c52] at h
                  exact t_j_La_law_1565 hG hE d hd b xs L hX hbl (fun z0 Pz => l_La_law_18 xs L n z0 Pz) (fun z0 Pz q => ih z0 Pz q) x3 P51 h
                · rw [if_neg c52] at h
                  refine Go.iconst (n := 0) (0 : Int32) (by decide +kernel) rfl ?_
                  exact Go.iret rfl rfl hE.2 (by decide +kernel) (St.fIP h)
              · rw [if_neg c42] at h
                by_cases c53 : ((xs x3.toNatClampNeg) &&& (63 : Int32)) = (5 : Int32)
                · rw [if_pos c53] at h
                  refine Go.tabIn (dflt := 1532) (lo := 0) (hi := 41) (offs := #[183, 246, 269, 292, 325, 368, 391, 414, 447, 470, 503, 526, 559, 582, 615, 648, 691, 724, 767, 790, 803, 826, 859, 892, 905, 918, 931, 974, 1018, 1071, 1114, 1157, 1200, 1223, 1246, 1290, 1313, 1356, 1430, 1463, 1486, 1509]) (len := 183) (off := 368) 401 (by decide +kernel) (by rw [c53]; decide) (by rw [c53]; decide) (by rw [c53]; rfl) (by decide) ?_
                  refine Go.aload_n (k := 1) (i := 1) 1 (by decide +kernel) rfl rfl ?_
                  refine Go.aload_n (k := 0) (i := 0) 0 (by decide +kernel) rfl rfl ?_
                  refine Go.iload_n (k := 3) (i := 3) 3 (by decide +kernel) rfl rfl ?_
                  refine Go.iconst (n := 1) (1 : Int32) (by decide +kernel) rfl ?_
                  refine Go.iadd (by decide +kernel) ?_
                  obtain ⟨b54, h⟩ := St.ck h
                  refine Go.sld hX hbl (inb_in b54) (by decide +kernel) ?_
                  obtain ⟨v55, P56, hv55, h⟩ := St.bd2 h
                  refine Go.cV_i (P1 := P56) (v := v55) (d - 1) 0 [.int (xs (x3 + (1 : Int32)).toNatClampNeg)] sh0 hE w_Yr_brings (e_Yr_brings hG hE (d - 1) (by omega) (xs (x3 + (1 : Int32)).toNatClampNeg) P ⟨_, hv55, rfl, rfl, rfl⟩) lk755 rfl (by omega) (Nat.le_of_ble_eq_true rfl) (by decide +kernel) _ rfl ?_
                  refine Go.aload_n (k := 2) (i := 2) 2 (by decide +kernel) rfl rfl ?_
                  refine Go.aload_n (k := 0) (i := 0) 0 (by decide +kernel) rfl rfl ?_
                  refine Go.iload_n (k := 3) (i := 3) 3 (by decide +kernel) rfl rfl ?_
                  refine Go.iconst (n := 1) (1 : Int32) (by decide +kernel) rfl ?_
                  refine Go.iadd (by decide +kernel) ?_
                  obtain ⟨b57, h⟩ := St.ck h
                  refine Go.sld hX hbl (inb_in b57) (by decide +kernel) ?_
                  obtain ⟨v58, P59, hv58, h⟩ := St.bd2 h
                  refine Go.cV_i (P1 := P59) (v := v58) (d - 1) 109 [.int (xs (x3 + (1 : Int32)).toNatClampNeg)] sh109 hE w_Mo_brings (e_Mo_brings hG hE (d - 1) (by omega) (xs (x3 + (1 : Int32)).toNatClampNeg) P56 ⟨_, hv58, rfl, rfl, rfl⟩) lk1567 rfl (by omega) (Nat.le_of_ble_eq_true rfl) (by decide +kernel) _ rfl ?_
                  refine Go.icmp_eq (off := 1146) 1565 (by decide +kernel) (by decide) (fun c60 => ?_) (fun c60 => ?_)
                  · rw [if_pos c60] at h
                    exact t_j_La_law_1565 hG hE d hd b xs L hX hbl (fun z0 Pz => l_La_law_18 xs L n z0 Pz) (fun z0 Pz q => ih z0 Pz q) x3 P59 h
                  · rw [if_neg c60] at h
                    refine Go.iconst (n := 0) (0 : Int32) (by decide +kernel) rfl ?_
                    exact Go.iret rfl rfl hE.2 (by decide +kernel) (St.fIP h)
                · rw [if_neg c53] at h
                  by_cases c61 : ((xs x3.toNatClampNeg) &&& (63 : Int32)) = (6 : Int32)
                  · rw [if_pos c61] at h
                    refine Go.tabIn (dflt := 1532) (lo := 0) (hi := 41) (offs := #[183, 246, 269, 292, 325, 368, 391, 414, 447, 470, 503, 526, 559, 582, 615, 648, 691, 724, 767, 790, 803, 826, 859, 892, 905, 918, 931, 974, 1018, 1071, 1114, 1157, 1200, 1223, 1246, 1290, 1313, 1356, 1430, 1463, 1486, 1509]) (len := 183) (off := 391) 424 (by decide +kernel) (by rw [c61]; decide) (by rw [c61]; decide) (by rw [c61]; rfl) (by decide) ?_
                    refine Go.aload_n (k := 1) (i := 1) 1 (by decide +kernel) rfl rfl ?_
                    refine Go.aload_n (k := 0) (i := 0) 0 (by decide +kernel) rfl rfl ?_
                    refine Go.iload_n (k := 3) (i := 3) 3 (by decide +kernel) rfl rfl ?_
                    refine Go.iconst (n := 1) (1 : Int32) (by decide +kernel) rfl ?_
                    refine Go.iadd (by decide +kernel) ?_
                    obtain ⟨b62, h⟩ := St.ck h
                    refine Go.sld hX hbl (inb_in b62) (by decide +kernel) ?_
                    obtain ⟨v63, P64, hv63, h⟩ := St.bd2 h
                    refine Go.cV_i (P1 := P64) (v := v63) (d - 1) 0 [.int (xs (x3 + (1 : Int32)).toNatClampNeg)] sh0 hE w_Yr_pass (e_Yr_pass hG hE (d - 1) (by omega) (xs (x3 + (1 : Int32)).toNatClampNeg) P ⟨_, hv63, rfl, rfl, rfl⟩) lk783 rfl (by omega) (Nat.le_of_ble_eq_true rfl) (by decide +kernel) _ rfl ?_
                    refine Go.aload_n (k := 2) (i := 2) 2 (by decide +kernel) rfl rfl ?_
                    refine Go.aload_n (k := 0) (i := 0) 0 (by decide +kernel) rfl rfl ?_
                    refine Go.iload_n (k := 3) (i := 3) 3 (by decide +kernel) rfl rfl ?_
                    refine Go.iconst (n := 1) (1 : Int32) (by decide +kernel) rfl ?_
                    refine Go.iadd (by decide +kernel) ?_
                    obtain ⟨b65, h⟩ := St.ck h
                    refine Go.sld hX hbl (inb_in b65) (by decide +kernel) ?_
                    obtain ⟨v66, P67, hv66, h⟩ := St.bd2 h
                    refine Go.cV_i (P1 := P67) (v := v66) (d - 1) 109 [.int (xs (x3 + (1 : Int32)).toNatClampNeg)] sh109 hE w_Mo_pass (e_Mo_pass hG hE (d - 1) (by omega) (xs (x3 + (1 : Int32)).toNatClampNeg) P64 ⟨_, hv66, rfl, rfl, rfl⟩) lk1595 rfl (by omega) (Nat.le_of_ble_eq_true rfl) (by decide +kernel) _ rfl ?_
                    refine Go.icmp_eq (off := 1123) 1565 (by decide +kernel) (by decide) (fun c68 => ?_) (fun c68 => ?_)
                    · rw [if_pos c68] at h
                      exact t_j_La_law_1565 hG hE d hd b xs L hX hbl (fun z0 Pz => l_La_law_18 xs L n z0 Pz) (fun z0 Pz q => ih z0 Pz q) x3 P67 h
                    · rw [if_neg c68] at h
                      refine Go.iconst (n := 0) (0 : Int32) (by decide +kernel) rfl ?_
                      exact Go.iret rfl rfl hE.2 (by decide +kernel) (St.fIP h)
                  · rw [if_neg c61] at h
                    by_cases c69 : ((xs x3.toNatClampNeg) &&& (63 : Int32)) = (7 : Int32)
                    · rw [if_pos c69] at h
                      refine Go.tabIn (dflt := 1532) (lo := 0) (hi := 41) (offs := #[183, 246, 269, 292, 325, 368, 391, 414, 447, 470, 503, 526, 559, 582, 615, 648, 691, 724, 767, 790, 803, 826, 859, 892, 905, 918, 931, 974, 1018, 1071, 1114, 1157, 1200, 1223, 1246, 1290, 1313, 1356, 1430, 1463, 1486, 1509]) (len := 183) (off := 414) 447 (by decide +kernel) (by rw [c69]; decide) (by rw [c69]; decide) (by rw [c69]; rfl) (by decide) ?_
                      refine Go.aload_n (k := 1) (i := 1) 1 (by decide +kernel) rfl rfl ?_
                      refine Go.aload_n (k := 0) (i := 0) 0 (by decide +kernel) rfl rfl ?_
                      refine Go.iload_n (k := 3) (i := 3) 3 (by decide +kernel) rfl rfl ?_
                      refine Go.iconst (n := 1) (1 : Int32) (by decide +kernel) rfl ?_
                      refine Go.iadd (by decide +kernel) ?_
                      obtain ⟨b70, h⟩ := St.ck h
                      refine Go.sld hX hbl (inb_in b70) (by decide +kernel) ?_
                      refine Go.aload_n (k := 0) (i := 0) 0 (by decide +kernel) rfl rfl ?_
                      refine Go.iload_n (k := 3) (i := 3) 3 (by decide +kernel) rfl rfl ?_
                      refine Go.iconst (n := 2) (2 : Int32) (by decide +kernel) rfl ?_
                      refine Go.iadd (by decide +kernel) ?_
                      obtain ⟨b71, h⟩ := St.ck h
                      refine Go.sld hX hbl (inb_in b71) (by decide +kernel) ?_
                      obtain ⟨v72, P73, hv72, h⟩ := St.bd2 h
                      refine Go.cV_i (P1 := P73) (v := v72) (d - 1) 0 [.int (xs (x3 + (1 : Int32)).toNatClampNeg), .int (xs (x3 + (2 : Int32)).toNatClampNeg)] sh0 hE w_Yr_off (e_Yr_off hG hE (d - 1) (by omega) (xs (x3 + (1 : Int32)).toNatClampNeg) (xs (x3 + (2 : Int32)).toNatClampNeg) P ⟨_, hv72, rfl, rfl, rfl⟩) lk807 rfl (by omega) (Nat.le_of_ble_eq_true rfl) (by decide +kernel) _ rfl ?_
                      refine Go.aload_n (k := 2) (i := 2) 2 (by decide +kernel) rfl rfl ?_
                      refine Go.aload_n (k := 0) (i := 0) 0 (by decide +kernel) rfl rfl ?_
                      refine Go.iload_n (k := 3) (i := 3) 3 (by decide +kernel) rfl rfl ?_
                      refine Go.iconst (n := 1) (1 : Int32) (by decide +kernel) rfl ?_
                      refine Go.iadd (by decide +kernel) ?_
                      obtain ⟨b74, h⟩ := St.ck h
                      refine Go.sld hX hbl (inb_in b74) (by decide +kernel) ?_
                      refine Go.aload_n (k := 0) (i := 0) 0 (by decide +kernel) rfl rfl ?_
                      refine Go.iload_n (k := 3) (i := 3) 3 (by decide +kernel) rfl rfl ?_
                      refine Go.iconst (n := 2) (2 : Int32) (by decide +kernel) rfl ?_
                      refine Go.iadd (by decide +kernel) ?_
                      obtain ⟨b75, h⟩ := St.ck h
                      refine Go.sld hX hbl (inb_in b75) (by decide +kernel) ?_
                      obtain ⟨v76, P77, hv76, h⟩ := St.bd2 h
                      refine Go.cV_i (P1 := P77) (v := v76) (d - 1) 109 [.int (xs (x3 + (1 : Int32)).toNatClampNeg), .int (xs (x3 + (2 : Int32)).toNatClampNeg)] sh109 hE w_Mo_off (e_Mo_off hG hE (d - 1) (by omega) (xs (x3 + (1 : Int32)).toNatClampNeg) (xs (x3 + (2 : Int32)).toNatClampNeg) P73 ⟨_, hv76, rfl, rfl, rfl⟩) lk1611 rfl (by omega) (Nat.le_of_ble_eq_true rfl) (by decide +kernel) _ rfl ?_
                      refine Go.icmp_eq (off := 1090) 1565 (by decide +kernel) (by decide) (fun c78 => ?_) (fun c78 => ?_)
                      · rw [if_pos c78] at h
                        exact t_j_La_law_1565 hG hE d hd b xs L hX hbl (fun z0 Pz => l_La_law_18 xs L n z0 Pz) (fun z0 Pz q => ih z0 Pz q) x3 P77 h
                      · rw [if_neg c78] at h
                        refine Go.iconst (n := 0) (0 : Int32) (by decide +kernel) rfl ?_
                        exact Go.iret rfl rfl hE.2 (by decide +kernel) (St.fIP h)
                    · rw [if_neg c69] at h
                      by_cases c79 : ((xs x3.toNatClampNeg) &&& (63 : Int32)) = (8 : Int32)
                      · rw [if_pos c79] at h
                        refine Go.tabIn (dflt := 1532) (lo := 0) (hi := 41) (offs := #[183, 246, 269, 292, 325, 368, 391, 414, 447, 470, 503, 526, 559, 582, 615, 648, 691, 724, 767, 790, 803, 826, 859, 892, 905, 918, 931, 974, 1018, 1071, 1114, 1157, 1200, 1223, 1246, 1290, 1313, 1356, 1430, 1463, 1486, 1509]) (len := 183) (off := 447) 480 (by decide +kernel) (by rw [c79]; decide) (by rw [c79]; decide) (by rw [c79]; rfl) (by decide) ?_
                        refine Go.aload_n (k := 1) (i := 1) 1 (by decide +kernel) rfl rfl ?_
                        refine Go.aload_n (k := 0) (i := 0) 0 (by decide +kernel) rfl rfl ?_
                        refine Go.iload_n (k := 3) (i := 3) 3 (by decide +kernel) rfl rfl ?_
                        refine Go.iconst (n := 1) (1 : Int32) (by decide +kernel) rfl ?_
                        refine Go.iadd (by decide +kernel) ?_
                        obtain ⟨b80, h⟩ := St.ck h
                        refine Go.sld hX hbl (inb_in b80) (by decide +kernel) ?_
                        obtain ⟨v81, P82, hv81, h⟩ := St.bd2 h
                        refine Go.cV_i (P1 := P82) (v := v81) (d - 1) 0 [.int (xs (x3 + (1 : Int32)).toNatClampNeg)] sh0 hE w_Yr_sleep (e_Yr_sleep hG hE (d - 1) (by omega) (xs (x3 + (1 : Int32)).toNatClampNeg) P ⟨_, hv81, rfl, rfl, rfl⟩) lk818 rfl (by omega) (Nat.le_of_ble_eq_true rfl) (by decide +kernel) _ rfl ?_
                        refine Go.aload_n (k := 2) (i := 2) 2 (by decide +kernel) rfl rfl ?_
                        refine Go.aload_n (k := 0) (i := 0) 0 (by decide +kernel) rfl rfl ?_
                        refine Go.iload_n (k := 3) (i := 3) 3 (by decide +kernel) rfl rfl ?_
                        refine Go.iconst (n := 1) (1 : Int32) (by decide +kernel) rfl ?_
                        refine Go.iadd (by decide +kernel) ?_
                        obtain ⟨b83, h⟩ := St.ck h
                        refine Go.sld hX hbl (inb_in b83) (by decide +kernel) ?_
                        obtain ⟨v84, P85, hv84, h⟩ := St.bd2 h
                        refine Go.cV_i (P1 := P85) (v := v84) (d - 1) 109 [.int (xs (x3 + (1 : Int32)).toNatClampNeg)] sh109 hE w_Mo_sleep (e_Mo_sleep hG hE (d - 1) (by omega) (xs (x3 + (1 : Int32)).toNatClampNeg) P82 ⟨_, hv84, rfl, rfl, rfl⟩) lk1623 rfl (by omega) (Nat.le_of_ble_eq_true rfl) (by decide +kernel) _ rfl ?_
                        refine Go.icmp_eq (off := 1067) 1565 (by decide +kernel) (by decide) (fun c86 => ?_) (fun c86 => ?_)
                        · rw [if_pos c86] at h
                          exact t_j_La_law_1565 hG hE d hd b xs L hX hbl (fun z0 Pz => l_La_law_18 xs L n z0 Pz) (fun z0 Pz q => ih z0 Pz q) x3 P85 h
                        · rw [if_neg c86] at h
                          refine Go.iconst (n := 0) (0 : Int32) (by decide +kernel) rfl ?_
                          exact Go.iret rfl rfl hE.2 (by decide +kernel) (St.fIP h)
                      · rw [if_neg c79] at h
                        by_cases c87 : ((xs x3.toNatClampNeg) &&& (63 : Int32)) = (9 : Int32)
                        · rw [if_pos c87] at h
                          refine Go.tabIn (dflt := 1532) (lo := 0) (hi := 41) (offs := #[183, 246, 269, 292, 325, 368, 391, 414, 447, 470, 503, 526, 559, 582, 615, 648, 691, 724, 767, 790, 803, 826, 859, 892, 905, 918, 931, 974, 1018, 1071, 1114, 1157, 1200, 1223, 1246, 1290, 1313, 1356, 1430, 1463, 1486, 1509]) (len := 183) (off := 470) 503 (by decide +kernel) (by rw [c87]; decide) (by rw [c87]; decide) (by rw [c87]; rfl) (by decide) ?_
                          refine Go.aload_n (k := 1) (i := 1) 1 (by decide +kernel) rfl rfl ?_
                          refine Go.aload_n (k := 0) (i := 0) 0 (by decide +kernel) rfl rfl ?_
                          refine Go.iload_n (k := 3) (i := 3) 3 (by decide +kernel) rfl rfl ?_
                          refine Go.iconst (n := 1) (1 : Int32) (by decide +kernel) rfl ?_
                          refine Go.iadd (by decide +kernel) ?_
                          obtain ⟨b88, h⟩ := St.ck h
                          refine Go.sld hX hbl (inb_in b88) (by decide +kernel) ?_
                          refine Go.aload_n (k := 0) (i := 0) 0 (by decide +kernel) rfl rfl ?_
                          refine Go.iload_n (k := 3) (i := 3) 3 (by decide +kernel) rfl rfl ?_
                          refine Go.iconst (n := 2) (2 : Int32) (by decide +kernel) rfl ?_
                          refine Go.iadd (by decide +kernel) ?_
                          obtain ⟨b89, h⟩ := St.ck h
                          refine Go.sld hX hbl (inb_in b89) (by decide +kernel) ?_
                          obtain ⟨v90, P91, hv90, h⟩ := St.bd2 h
                          refine Go.cV_i (P1 := P91) (v := v90) (d - 1) 0 [.int (xs (x3 + (1 : Int32)).toNatClampNeg), .int (xs (x3 + (2 : Int32)).toNatClampNeg)] sh0 hE w_Yr_dull (e_Yr_dull hG hE (d - 1) (by omega) (xs (x3 + (1 : Int32)).toNatClampNeg) (xs (x3 + (2 : Int32)).toNatClampNeg) P ⟨_, hv90, rfl, rfl, rfl⟩) lk826 rfl (by omega) (Nat.le_of_ble_eq_true rfl) (by decide +kernel) _ rfl ?_
                          refine Go.aload_n (k := 2) (i := 2) 2 (by decide +kernel) rfl rfl ?_
                          refine Go.aload_n (k := 0) (i := 0) 0 (by decide +kernel) rfl rfl ?_
                          refine Go.iload_n (k := 3) (i := 3) 3 (by decide +kernel) rfl rfl ?_
                          refine Go.iconst (n := 1) (1 : Int32) (by decide +kernel) rfl ?_
                          refine Go.iadd (by decide +kernel) ?_
                          obtain ⟨b92, h⟩ := St.ck h
                          refine Go.sld hX hbl (inb_in b92) (by decide +kernel) ?_
                          refine Go.aload_n (k := 0) (i := 0) 0 (by decide +kernel) rfl rfl ?_
                          refine Go.iload_n (k := 3) (i := 3) 3 (by decide +kernel) rfl rfl ?_
                          refine Go.iconst (n := 2) (2 : Int32) (by decide +kernel) rfl ?_
                          refine Go.iadd (by decide +kernel) ?_
                          obtain ⟨b93, h⟩ := St.ck h
                          refine Go.sld hX hbl (inb_in b93) (by decide +kernel) ?_
                          obtain ⟨v94, P95, hv94, h⟩ := St.bd2 h
                          refine Go.cV_i (P1 := P95) (v := v94) (d - 1) 109 [.int (xs (x3 + (1 : Int32)).toNatClampNeg), .int (xs (x3 + (2 : Int32)).toNatClampNeg)] sh109 hE w_Mo_dull (e_Mo_dull hG hE (d - 1) (by omega) (xs (x3 + (1 : Int32)).toNatClampNeg) (xs (x3 + (2 : Int32)).toNatClampNeg) P91 ⟨_, hv94, rfl, rfl, rfl⟩) lk1627 rfl (by omega) (Nat.le_of_ble_eq_true rfl) (by decide +kernel) _ rfl ?_
                          refine Go.icmp_eq (off := 1034) 1565 (by decide +kernel) (by decide) (fun c96 => ?_) (fun c96 => ?_)
                          · rw [if_pos c96] at h
                            exact t_j_La_law_1565 hG hE d hd b xs L hX hbl (fun z0 Pz => l_La_law_18 xs L n z0 Pz) (fun z0 Pz q => ih z0 Pz q) x3 P95 h
                          · rw [if_neg c96] at h
                            refine Go.iconst (n := 0) (0 : Int32) (by decide +kernel) rfl ?_
                            exact Go.iret rfl rfl hE.2 (by decide +kernel) (St.fIP h)
                        · rw [if_neg c87] at h
                          by_cases c97 : ((xs x3.toNatClampNeg) &&& (63 : Int32)) = (10 : Int32)
                          · rw [if_pos c97] at h
                            refine Go.tabIn (dflt := 1532) (lo := 0) (hi := 41) (offs := #[183, 246, 269, 292, 325, 368, 391, 414, 447, 470, 503, 526, 559, 582, 615, 648, 691, 724, 767, 790, 803, 826, 859, 892, 905, 918, 931, 974, 1018, 1071, 1114, 1157, 1200, 1223, 1246, 1290, 1313, 1356, 1430, 1463, 1486, 1509]) (len := 183) (off := 503) 536 (by decide +kernel) (by rw [c97]; decide) (by rw [c97]; decide) (by rw [c97]; rfl) (by decide) ?_
                            refine Go.aload_n (k := 1) (i := 1) 1 (by decide +kernel) rfl rfl ?_
                            refine Go.aload_n (k := 0) (i := 0) 0 (by decide +kernel) rfl rfl ?_
                            refine Go.iload_n (k := 3) (i := 3) 3 (by decide +kernel) rfl rfl ?_
                            refine Go.iconst (n := 1) (1 : Int32) (by decide +kernel) rfl ?_
                            refine Go.iadd (by decide +kernel) ?_
                            obtain ⟨b98, h⟩ := St.ck h
                            refine Go.sld hX hbl (inb_in b98) (by decide +kernel) ?_
                            obtain ⟨v99, P100, hv99, h⟩ := St.bd2 h
                            refine Go.cV_i (P1 := P100) (v := v99) (d - 1) 0 [.int (xs (x3 + (1 : Int32)).toNatClampNeg)] sh0 hE w_Yr_undo (e_Yr_undo hG hE (d - 1) (by omega) (xs (x3 + (1 : Int32)).toNatClampNeg) P ⟨_, hv99, rfl, rfl, rfl⟩) lk835 rfl (by omega) (Nat.le_of_ble_eq_true rfl) (by decide +kernel) _ rfl ?_
                            refine Go.aload_n (k := 2) (i := 2) 2 (by decide +kernel) rfl rfl ?_
                            refine Go.aload_n (k := 0) (i := 0) 0 (by decide +kernel) rfl rfl ?_
                            refine Go.iload_n (k := 3) (i := 3) 3 (by decide +kernel) rfl rfl ?_
                            refine Go.iconst (n := 1) (1 : Int32) (by decide +kernel) rfl ?_
                            refine Go.iadd (by decide +kernel) ?_
                            obtain ⟨b101, h⟩ := St.ck h
                            refine Go.sld hX hbl (inb_in b101) (by decide +kernel) ?_
                            obtain ⟨v102, P103, hv102, h⟩ := St.bd2 h
                            refine Go.cV_i (P1 := P103) (v := v102) (d - 1) 109 [.int (xs (x3 + (1 : Int32)).toNatClampNeg)] sh109 hE w_Mo_undo (e_Mo_undo hG hE (d - 1) (by omega) (xs (x3 + (1 : Int32)).toNatClampNeg) P100 ⟨_, hv102, rfl, rfl, rfl⟩) lk1632 rfl (by omega) (Nat.le_of_ble_eq_true rfl) (by decide +kernel) _ rfl ?_
                            refine Go.icmp_eq (off := 1011) 1565 (by decide +kernel) (by decide) (fun c104 => ?_) (fun c104 => ?_)
                            · rw [if_pos c104] at h
                              exact t_j_La_law_1565 hG hE d hd b xs L hX hbl (fun z0 Pz => l_La_law_18 xs L n z0 Pz) (fun z0 Pz q => ih z0 Pz q) x3 P103 h
                            · rw [if_neg c104] at h
                              refine Go.iconst (n := 0) (0 : Int32) (by decide +kernel) rfl ?_
                              exact Go.iret rfl rfl hE.2 (by decide +kernel) (St.fIP h)
                          · rw [if_neg c97] at h
                            by_cases c105 : ((xs x3.toNatClampNeg) &&& (63 : Int32)) = (11 : Int32)
                            · rw [if_pos c105] at h
                              refine Go.tabIn (dflt := 1532) (lo := 0) (hi := 41) (offs := #[183, 246, 269, 292, 325, 368, 391, 414, 447, 470, 503, 526, 559, 582, 615, 648, 691, 724, 767, 790, 803, 826, 859, 892, 905, 918, 931, 974, 1018, 1071, 1114, 1157, 1200, 1223, 1246, 1290, 1313, 1356, 1430, 1463, 1486, 1509]) (len := 183) (off := 526) 559 (by decide +kernel) (by rw [c105]; decide) (by rw [c105]; decide) (by rw [c105]; rfl) (by decide) ?_
                              refine Go.aload_n (k := 1) (i := 1) 1 (by decide +kernel) rfl rfl ?_
                              refine Go.aload_n (k := 0) (i := 0) 0 (by decide +kernel) rfl rfl ?_
                              refine Go.iload_n (k := 3) (i := 3) 3 (by decide +kernel) rfl rfl ?_
                              refine Go.iconst (n := 1) (1 : Int32) (by decide +kernel) rfl ?_
                              refine Go.iadd (by decide +kernel) ?_
                              obtain ⟨b106, h⟩ := St.ck h
                              refine Go.sld hX hbl (inb_in b106) (by decide +kernel) ?_
                              refine Go.aload_n (k := 0) (i := 0) 0 (by decide +kernel) rfl rfl ?_
                              refine Go.iload_n (k := 3) (i := 3) 3 (by decide +kernel) rfl rfl ?_
                              refine Go.iconst (n := 2) (2 : Int32) (by decide +kernel) rfl ?_
                              refine Go.iadd (by decide +kernel) ?_
                              obtain ⟨b107, h⟩ := St.ck h
                              refine Go.sld hX hbl (inb_in b107) (by decide +kernel) ?_
                              obtain ⟨v108, P109, hv108, h⟩ := St.bd2 h
                              refine Go.cV_i (P1 := P109) (v := v108) (d - 1) 0 [.int (xs (x3 + (1 : Int32)).toNatClampNeg), .int (xs (x3 + (2 : Int32)).toNatClampNeg)] sh0 hE w_Yr_judge (e_Yr_judge hG hE (d - 1) (by omega) (xs (x3 + (1 : Int32)).toNatClampNeg) (xs (x3 + (2 : Int32)).toNatClampNeg) P ⟨_, hv108, rfl, rfl, rfl⟩) lk846 rfl (by omega) (Nat.le_of_ble_eq_true rfl) (by decide +kernel) _ rfl ?_
                              refine Go.aload_n (k := 2) (i := 2) 2 (by decide +kernel) rfl rfl ?_
                              refine Go.aload_n (k := 0) (i := 0) 0 (by decide +kernel) rfl rfl ?_
                              refine Go.iload_n (k := 3) (i := 3) 3 (by decide +kernel) rfl rfl ?_
                              refine Go.iconst (n := 1) (1 : Int32) (by decide +kernel) rfl ?_
                              refine Go.iadd (by decide +kernel) ?_
                              obtain ⟨b110, h⟩ := St.ck h
                              refine Go.sld hX hbl (inb_in b110) (by decide +kernel) ?_
                              refine Go.aload_n (k := 0) (i := 0) 0 (by decide +kernel) rfl rfl ?_
                              refine Go.iload_n (k := 3) (i := 3) 3 (by decide +kernel) rfl rfl ?_
                              refine Go.iconst (n := 2) (2 : Int32) (by decide +kernel) rfl ?_
                              refine Go.iadd (by decide +kernel) ?_
                              obtain ⟨b111, h⟩ := St.ck h
                              refine Go.sld hX hbl (inb_in b111) (by decide +kernel) ?_
                              obtain ⟨v112, P113, hv112, h⟩ := St.bd2 h
                              refine Go.cV_i (P1 := P113) (v := v112) (d - 1) 109 [.int (xs (x3 + (1 : Int32)).toNatClampNeg), .int (xs (x3 + (2 : Int32)).toNatClampNeg)] sh109 hE w_Mo_judge (e_Mo_judge hG hE (d - 1) (by omega) (xs (x3 + (1 : Int32)).toNatClampNeg) (xs (x3 + (2 : Int32)).toNatClampNeg) P109 ⟨_, hv112, rfl, rfl, rfl⟩) lk1637 rfl (by omega) (Nat.le_of_ble_eq_true rfl) (by decide +kernel) _ rfl ?_
                              refine Go.icmp_eq (off := 978) 1565 (by decide +kernel) (by decide) (fun c114 => ?_) (fun c114 => ?_)
                              · rw [if_pos c114] at h
                                exact t_j_La_law_1565 hG hE d hd b xs L hX hbl (fun z0 Pz => l_La_law_18 xs L n z0 Pz) (fun z0 Pz q => ih z0 Pz q) x3 P113 h
                              · rw [if_neg c114] at h
                                refine Go.iconst (n := 0) (0 : Int32) (by decide +kernel) rfl ?_
                                exact Go.iret rfl rfl hE.2 (by decide +kernel) (St.fIP h)
                            · rw [if_neg c105] at h
                              by_cases c115 : ((xs x3.toNatClampNeg) &&& (63 : Int32)) = (12 : Int32)
                              · rw [if_pos c115] at h
                                refine Go.tabIn (dflt := 1532) (lo := 0) (hi := 41) (offs := #[183, 246, 269, 292, 325, 368, 391, 414, 447, 470, 503, 526, 559, 582, 615, 648, 691, 724, 767, 790, 803, 826, 859, 892, 905, 918, 931, 974, 1018, 1071, 1114, 1157, 1200, 1223, 1246, 1290, 1313, 1356, 1430, 1463, 1486, 1509]) (len := 183) (off := 559) 592 (by decide +kernel) (by rw [c115]; decide) (by rw [c115]; decide) (by rw [c115]; rfl) (by decide) ?_
                                refine Go.aload_n (k := 1) (i := 1) 1 (by decide +kernel) rfl rfl ?_
                                refine Go.aload_n (k := 0) (i := 0) 0 (by decide +kernel) rfl rfl ?_
                                refine Go.iload_n (k := 3) (i := 3) 3 (by decide +kernel) rfl rfl ?_
                                refine Go.iconst (n := 1) (1 : Int32) (by decide +kernel) rfl ?_
                                refine Go.iadd (by decide +kernel) ?_
                                obtain ⟨b116, h⟩ := St.ck h
                                refine Go.sld hX hbl (inb_in b116) (by decide +kernel) ?_
                                obtain ⟨v117, P118, hv117, h⟩ := St.bd2 h
                                refine Go.cV_i (P1 := P118) (v := v117) (d - 1) 0 [.int (xs (x3 + (1 : Int32)).toNatClampNeg)] sh0 hE w_Yr_perform (e_Yr_perform hG hE (d - 1) (by omega) (xs (x3 + (1 : Int32)).toNatClampNeg) P ⟨_, hv117, rfl, rfl, rfl⟩) lk885 rfl (by omega) (Nat.le_of_ble_eq_true rfl) (by decide +kernel) _ rfl ?_
                                refine Go.aload_n (k := 2) (i := 2) 2 (by decide +kernel) rfl rfl ?_
                                refine Go.aload_n (k := 0) (i := 0) 0 (by decide +kernel) rfl rfl ?_
                                refine Go.iload_n (k := 3) (i := 3) 3 (by decide +kernel) rfl rfl ?_
                                refine Go.iconst (n := 1) (1 : Int32) (by decide +kernel) rfl ?_
                                refine Go.iadd (by decide +kernel) ?_
                                obtain ⟨b119, h⟩ := St.ck h
                                refine Go.sld hX hbl (inb_in b119) (by decide +kernel) ?_
                                obtain ⟨v120, P121, hv120, h⟩ := St.bd2 h
                                refine Go.cV_i (P1 := P121) (v := v120) (d - 1) 109 [.int (xs (x3 + (1 : Int32)).toNatClampNeg)] sh109 hE w_Mo_perform (e_Mo_perform hG hE (d - 1) (by omega) (xs (x3 + (1 : Int32)).toNatClampNeg) P118 ⟨_, hv120, rfl, rfl, rfl⟩) lk1667 rfl (by omega) (Nat.le_of_ble_eq_true rfl) (by decide +kernel) _ rfl ?_
                                refine Go.icmp_eq (off := 955) 1565 (by decide +kernel) (by decide) (fun c122 => ?_) (fun c122 => ?_)
                                · rw [if_pos c122] at h
                                  exact t_j_La_law_1565 hG hE d hd b xs L hX hbl (fun z0 Pz => l_La_law_18 xs L n z0 Pz) (fun z0 Pz q => ih z0 Pz q) x3 P121 h
                                · rw [if_neg c122] at h
                                  refine Go.iconst (n := 0) (0 : Int32) (by decide +kernel) rfl ?_
                                  exact Go.iret rfl rfl hE.2 (by decide +kernel) (St.fIP h)
                              · rw [if_neg c115] at h
                                by_cases c123 : ((xs x3.toNatClampNeg) &&& (63 : Int32)) = (13 : Int32)
                                · rw [if_pos c123] at h
                                  refine Go.tabIn (dflt := 1532) (lo := 0) (hi := 41) (offs := #[183, 246, 269, 292, 325, 368, 391, 414, 447, 470, 503, 526, 559, 582, 615, 648, 691, 724, 767, 790, 803, 826, 859, 892, 905, 918, 931, 974, 1018, 1071, 1114, 1157, 1200, 1223, 1246, 1290, 1313, 1356, 1430, 1463, 1486, 1509]) (len := 183) (off := 582) 615 (by decide +kernel) (by rw [c123]; decide) (by rw [c123]; decide) (by rw [c123]; rfl) (by decide) ?_
                                  refine Go.aload_n (k := 1) (i := 1) 1 (by decide +kernel) rfl rfl ?_
                                  refine Go.aload_n (k := 0) (i := 0) 0 (by decide +kernel) rfl rfl ?_
                                  refine Go.iload_n (k := 3) (i := 3) 3 (by decide +kernel) rfl rfl ?_
                                  refine Go.iconst (n := 1) (1 : Int32) (by decide +kernel) rfl ?_
                                  refine Go.iadd (by decide +kernel) ?_
                                  obtain ⟨b124, h⟩ := St.ck h
                                  refine Go.sld hX hbl (inb_in b124) (by decide +kernel) ?_
                                  refine Go.aload_n (k := 0) (i := 0) 0 (by decide +kernel) rfl rfl ?_
                                  refine Go.iload_n (k := 3) (i := 3) 3 (by decide +kernel) rfl rfl ?_
                                  refine Go.iconst (n := 2) (2 : Int32) (by decide +kernel) rfl ?_
                                  refine Go.iadd (by decide +kernel) ?_
                                  obtain ⟨b125, h⟩ := St.ck h
                                  refine Go.sld hX hbl (inb_in b125) (by decide +kernel) ?_
                                  obtain ⟨v126, P127, hv126, h⟩ := St.bd2 h
                                  refine Go.cV_i (P1 := P127) (v := v126) (d - 1) 0 [.int (xs (x3 + (1 : Int32)).toNatClampNeg), .int (xs (x3 + (2 : Int32)).toNatClampNeg)] sh0 hE w_Yr_season (e_Yr_season hG hE (d - 1) (by omega) (xs (x3 + (1 : Int32)).toNatClampNeg) (xs (x3 + (2 : Int32)).toNatClampNeg) P ⟨_, hv126, rfl, rfl, rfl⟩) lk890 rfl (by omega) (Nat.le_of_ble_eq_true rfl) (by decide +kernel) _ rfl ?_
                                  refine Go.aload_n (k := 2) (i := 2) 2 (by decide +kernel) rfl rfl ?_
                                  refine Go.aload_n (k := 0) (i := 0) 0 (by decide +kernel) rfl rfl ?_
                                  refine Go.iload_n (k := 3) (i := 3) 3 (by decide +kernel) rfl rfl ?_
                                  refine Go.iconst (n := 1) (1 : Int32) (by decide +kernel) rfl ?_
                                  refine Go.iadd (by decide +kernel) ?_
                                  obtain ⟨b128, h⟩ := St.ck h
                                  refine Go.sld hX hbl (inb_in b128) (by decide +kernel) ?_
                                  refine Go.aload_n (k := 0) (i := 0) 0 (by decide +kernel) rfl rfl ?_
                                  refine Go.iload_n (k := 3) (i := 3) 3 (by decide +kernel) rfl rfl ?_
                                  refine Go.iconst (n := 2) (2 : Int32) (by decide +kernel) rfl ?_
                                  refine Go.iadd (by decide +kernel) ?_
                                  obtain ⟨b129, h⟩ := St.ck h
                                  refine Go.sld hX hbl (inb_in b129) (by decide +kernel) ?_
                                  obtain ⟨v130, P131, hv130, h⟩ := St.bd2 h
                                  refine Go.cV_i (P1 := P131) (v := v130) (d - 1) 109 [.int (xs (x3 + (1 : Int32)).toNatClampNeg), .int (xs (x3 + (2 : Int32)).toNatClampNeg)] sh109 hE w_Mo_season (e_Mo_season hG hE (d - 1) (by omega) (xs (x3 + (1 : Int32)).toNatClampNeg) (xs (x3 + (2 : Int32)).toNatClampNeg) P127 ⟨_, hv130, rfl, rfl, rfl⟩) lk1671 rfl (by omega) (Nat.le_of_ble_eq_true rfl) (by decide +kernel) _ rfl ?_
                                  refine Go.icmp_eq (off := 922) 1565 (by decide +kernel) (by decide) (fun c132 => ?_) (fun c132 => ?_)
                                  · rw [if_pos c132] at h
                                    exact t_j_La_law_1565 hG hE d hd b xs L hX hbl (fun z0 Pz => l_La_law_18 xs L n z0 Pz) (fun z0 Pz q => ih z0 Pz q) x3 P131 h
                                  · rw [if_neg c132] at h
                                    refine Go.iconst (n := 0) (0 : Int32) (by decide +kernel) rfl ?_
                                    exact Go.iret rfl rfl hE.2 (by decide +kernel) (St.fIP h)
                                · rw [if_neg c123] at h
                                  by_cases c133 : ((xs x3.toNatClampNeg) &&& (63 : Int32)) = (14 : Int32)
                                  · rw [if_pos c133] at h
                                    refine Go.tabIn (dflt := 1532) (lo := 0) (hi := 41) (offs := #[183, 246, 269, 292, 325, 368, 391, 414, 447, 470, 503, 526, 559, 582, 615, 648, 691, 724, 767, 790, 803, 826, 859, 892, 905, 918, 931, 974, 1018, 1071, 1114, 1157, 1200, 1223, 1246, 1290, 1313, 1356, 1430, 1463, 1486, 1509]) (len := 183) (off := 615) 648 (by decide +kernel) (by rw [c133]; decide) (by rw [c133]; decide) (by rw [c133]; rfl) (by decide) ?_
                                    refine Go.aload_n (k := 1) (i := 1) 1 (by decide +kernel) rfl rfl ?_
                                    refine Go.aload_n (k := 0) (i := 0) 0 (by decide +kernel) rfl rfl ?_
                                    refine Go.iload_n (k := 3) (i := 3) 3 (by decide +kernel) rfl rfl ?_
                                    refine Go.iconst (n := 1) (1 : Int32) (by decide +kernel) rfl ?_
                                    refine Go.iadd (by decide +kernel) ?_
                                    obtain ⟨b134, h⟩ := St.ck h
                                    refine Go.sld hX hbl (inb_in b134) (by decide +kernel) ?_
                                    refine Go.aload_n (k := 0) (i := 0) 0 (by decide +kernel) rfl rfl ?_
                                    refine Go.iload_n (k := 3) (i := 3) 3 (by decide +kernel) rfl rfl ?_
                                    refine Go.iconst (n := 2) (2 : Int32) (by decide +kernel) rfl ?_
                                    refine Go.iadd (by decide +kernel) ?_
                                    obtain ⟨b135, h⟩ := St.ck h
                                    refine Go.sld hX hbl (inb_in b135) (by decide +kernel) ?_
                                    obtain ⟨v136, P137, hv136, h⟩ := St.bd2 h
                                    refine Go.cV_i (P1 := P137) (v := v136) (d - 1) 0 [.int (xs (x3 + (1 : Int32)).toNatClampNeg), .int (xs (x3 + (2 : Int32)).toNatClampNeg)] sh0 hE w_Yr_soonest (e_Yr_soonest hG hE (d - 1) (by omega) (xs (x3 + (1 : Int32)).toNatClampNeg) (xs (x3 + (2 : Int32)).toNatClampNeg) P ⟨_, hv136, rfl, rfl, rfl⟩) lk907 rfl (by omega) (Nat.le_of_ble_eq_true rfl) (by decide +kernel) _ rfl ?_
                                    refine Go.aload_n (k := 2) (i := 2) 2 (by decide +kernel) rfl rfl ?_
                                    refine Go.aload_n (k := 0) (i := 0) 0 (by decide +kernel) rfl rfl ?_
                                    refine Go.iload_n (k := 3) (i := 3) 3 (by decide +kernel) rfl rfl ?_
                                    refine Go.iconst (n := 1) (1 : Int32) (by decide +kernel) rfl ?_
                                    refine Go.iadd (by decide +kernel) ?_
                                    obtain ⟨b138, h⟩ := St.ck h
                                    refine Go.sld hX hbl (inb_in b138) (by decide +kernel) ?_
                                    refine Go.aload_n (k := 0) (i := 0) 0 (by decide +kernel) rfl rfl ?_
                                    refine Go.iload_n (k := 3) (i := 3) 3 (by decide +kernel) rfl rfl ?_
                                    refine Go.iconst (n := 2) (2 : Int32) (by decide +kernel) rfl ?_
                                    refine Go.iadd (by decide +kernel) ?_
                                    obtain ⟨b139, h⟩ := St.ck h
                                    refine Go.sld hX hbl (inb_in b139) (by decide +kernel) ?_
                                    obtain ⟨v140, P141, hv140, h⟩ := St.bd2 h
                                    refine Go.cV_i (P1 := P141) (v := v140) (d - 1) 109 [.int (xs (x3 + (1 : Int32)).toNatClampNeg), .int (xs (x3 + (2 : Int32)).toNatClampNeg)] sh109 hE w_Mo_soonest (e_Mo_soonest hG hE (d - 1) (by omega) (xs (x3 + (1 : Int32)).toNatClampNeg) (xs (x3 + (2 : Int32)).toNatClampNeg) P137 ⟨_, hv140, rfl, rfl, rfl⟩) lk1684 rfl (by omega) (Nat.le_of_ble_eq_true rfl) (by decide +kernel) _ rfl ?_
                                    refine Go.icmp_eq (off := 889) 1565 (by decide +kernel) (by decide) (fun c142 => ?_) (fun c142 => ?_)
                                    · rw [if_pos c142] at h
                                      exact t_j_La_law_1565 hG hE d hd b xs L hX hbl (fun z0 Pz => l_La_law_18 xs L n z0 Pz) (fun z0 Pz q => ih z0 Pz q) x3 P141 h
                                    · rw [if_neg c142] at h
                                      refine Go.iconst (n := 0) (0 : Int32) (by decide +kernel) rfl ?_
                                      exact Go.iret rfl rfl hE.2 (by decide +kernel) (St.fIP h)
                                  · rw [if_neg c133] at h
                                    by_cases c143 : ((xs x3.toNatClampNeg) &&& (63 : Int32)) = (15 : Int32)
                                    · rw [if_pos c143] at h
                                      refine Go.tabIn (dflt := 1532) (lo := 0) (hi := 41) (offs := #[183, 246, 269, 292, 325, 368, 391, 414, 447, 470, 503, 526, 559, 582, 615, 648, 691, 724, 767, 790, 803, 826, 859, 892, 905, 918, 931, 974, 1018, 1071, 1114, 1157, 1200, 1223, 1246, 1290, 1313, 1356, 1430, 1463, 1486, 1509]) (len := 183) (off := 648) 681 (by decide +kernel) (by rw [c143]; decide) (by rw [c143]; decide) (by rw [c143]; rfl) (by decide) ?_
                                      refine Go.aload_n (k := 1) (i := 1) 1 (by decide +kernel) rfl rfl ?_
                                      refine Go.aload_n (k := 0) (i := 0) 0 (by decide +kernel) rfl rfl ?_
                                      refine Go.iload_n (k := 3) (i := 3) 3 (by decide +kernel) rfl rfl ?_
                                      refine Go.iconst (n := 1) (1 : Int32) (by decide +kernel) rfl ?_
                                      refine Go.iadd (by decide +kernel) ?_
                                      obtain ⟨b144, h⟩ := St.ck h
                                      refine Go.sld hX hbl (inb_in b144) (by decide +kernel) ?_
                                      refine Go.aload_n (k := 0) (i := 0) 0 (by decide +kernel) rfl rfl ?_
                                      refine Go.iload_n (k := 3) (i := 3) 3 (by decide +kernel) rfl rfl ?_
                                      refine Go.iconst (n := 2) (2 : Int32) (by decide +kernel) rfl ?_
                                      refine Go.iadd (by decide +kernel) ?_
                                      obtain ⟨b145, h⟩ := St.ck h
                                      refine Go.sld hX hbl (inb_in b145) (by decide +kernel) ?_
                                      refine Go.aload_n (k := 0) (i := 0) 0 (by decide +kernel) rfl rfl ?_
                                      refine Go.iload_n (k := 3) (i := 3) 3 (by decide +kernel) rfl rfl ?_
                                      refine Go.iconst (n := 3) (3 : Int32) (by decide +kernel) rfl ?_
                                      refine Go.iadd (by decide +kernel) ?_
                                      obtain ⟨b146, h⟩ := St.ck h
                                      refine Go.sld hX hbl (inb_in b146) (by decide +kernel) ?_
                                      obtain ⟨v147, P148, hv147, h⟩ := St.bd2 h
                                      refine Go.cV_i (P1 := P148) (v := v147) (d - 1) 0 [.int (xs (x3 + (1 : Int32)).toNatClampNeg), .int (xs (x3 + (2 : Int32)).toNatClampNeg), .int (xs (x3 + (3 : Int32)).toNatClampNeg)] sh0 hE w_Yr_soonBy (e_Yr_soonBy hG hE (d - 1) (by omega) (xs (x3 + (1 : Int32)).toNatClampNeg) (xs (x3 + (2 : Int32)).toNatClampNeg) (xs (x3 + (3 : Int32)).toNatClampNeg) P ⟨_, hv147, rfl, rfl, rfl⟩) lk996 rfl (by omega) (Nat.le_of_ble_eq_true rfl) (by decide +kernel) _ rfl ?_
                                      refine Go.aload_n (k := 2) (i := 2) 2 (by decide +kernel) rfl rfl ?_
                                      refine Go.aload_n (k := 0) (i := 0) 0 (by decide +kernel) rfl rfl ?_
                                      refine Go.iload_n (k := 3) (i := 3) 3 (by decide +kernel) rfl rfl ?_
                                      refine Go.iconst (n := 1) (1 : Int32) (by decide +kernel) rfl ?_
                                      refine Go.iadd (by decide +kernel) ?_
                                      obtain ⟨b149, h⟩ := St.ck h
                                      refine Go.sld hX hbl (inb_in b149) (by decide +kernel) ?_
                                      refine Go.aload_n (k := 0) (i := 0) 0 (by decide +kernel) rfl rfl ?_
                                      refine Go.iload_n (k := 3) (i := 3) 3 (by decide +kernel) rfl rfl ?_
                                      refine Go.iconst (n := 2) (2 : Int32) (by decide +kernel) rfl ?_
                                      refine Go.iadd (by decide +kernel) ?_
                                      obtain ⟨b150, h⟩ := St.ck h
                                      refine Go.sld hX hbl (inb_in b150) (by decide +kernel) ?_
                                      refine Go.aload_n (k := 0) (i := 0) 0 (by decide +kernel) rfl rfl ?_
                                      refine Go.iload_n (k := 3) (i := 3) 3 (by decide +kernel) rfl rfl ?_
                                      refine Go.iconst (n := 3) (3 : Int32) (by decide +kernel) rfl ?_
                                      refine Go.iadd (by decide +kernel) ?_
                                      obtain ⟨b151, h⟩ := St.ck h
                                      refine Go.sld hX hbl (inb_in b151) (by decide +kernel) ?_
                                      obtain ⟨v152, P153, hv152, h⟩ := St.bd2 h
                                      refine Go.cV_i (P1 := P153) (v := v152) (d - 1) 109 [.int (xs (x3 + (1 : Int32)).toNatClampNeg), .int (xs (x3 + (2 : Int32)).toNatClampNeg), .int (xs (x3 + (3 : Int32)).toNatClampNeg)] sh109 hE w_Mo_soonBy (e_Mo_soonBy hG hE (d - 1) (by omega) (xs (x3 + (1 : Int32)).toNatClampNeg) (xs (x3 + (2 : Int32)).toNatClampNeg) (xs (x3 + (3 : Int32)).toNatClampNeg) P148 ⟨_, hv152, rfl, rfl, rfl⟩) lk1724 rfl (by omega) (Nat.le_of_ble_eq_true rfl) (by decide +kernel) _ rfl ?_
                                      refine Go.icmp_eq (off := 846) 1565 (by decide +kernel) (by decide) (fun c154 => ?_) (fun c154 => ?_)
                                      · rw [if_pos c154] at h
                                        exact t_j_La_law_1565 hG hE d hd b xs L hX hbl (fun z0 Pz => l_La_law_18 xs L n z0 Pz) (fun z0 Pz q => ih z0 Pz q) x3 P153 h
                                      · rw [if_neg c154] at h
                                        refine Go.iconst (n := 0) (0 : Int32) (by decide +kernel) rfl ?_
                                        exact Go.iret rfl rfl hE.2 (by decide +kernel) (St.fIP h)
                                    · rw [if_neg c143] at h
                                      by_cases c155 : ((xs x3.toNatClampNeg) &&& (63 : Int32)) = (16 : Int32)
                                      · rw [if_pos c155] at h
                                        refine Go.tabIn (dflt := 1532) (lo := 0) (hi := 41) (offs := #[183, 246, 269, 292, 325, 368, 391, 414, 447, 470, 503, 526, 559, 582, 615, 648, 691, 724, 767, 790, 803, 826, 859, 892, 905, 918, 931, 974, 1018, 1071, 1114, 1157, 1200, 1223, 1246, 1290, 1313, 1356, 1430, 1463, 1486, 1509]) (len := 183) (off := 691) 724 (by decide +kernel) (by rw [c155]; decide) (by rw [c155]; decide) (by rw [c155]; rfl) (by decide) ?_
                                        refine Go.aload_n (k := 1) (i := 1) 1 (by decide +kernel) rfl rfl ?_
                                        refine Go.aload_n (k := 0) (i := 0) 0 (by decide +kernel) rfl rfl ?_
                                        refine Go.iload_n (k := 3) (i := 3) 3 (by decide +kernel) rfl rfl ?_
                                        refine Go.iconst (n := 1) (1 : Int32) (by decide +kernel) rfl ?_
                                        refine Go.iadd (by decide +kernel) ?_
                                        obtain ⟨b156, h⟩ := St.ck h
                                        refine Go.sld hX hbl (inb_in b156) (by decide +kernel) ?_
                                        refine Go.aload_n (k := 0) (i := 0) 0 (by decide +kernel) rfl rfl ?_
                                        refine Go.iload_n (k := 3) (i := 3) 3 (by decide +kernel) rfl rfl ?_
                                        refine Go.iconst (n := 2) (2 : Int32) (by decide +kernel) rfl ?_
                                        refine Go.iadd (by decide +kernel) ?_
                                        obtain ⟨b157, h⟩ := St.ck h
                                        refine Go.sld hX hbl (inb_in b157) (by decide +kernel) ?_
                                        obtain ⟨v158, P159, hv158, h⟩ := St.bd2 h
                                        refine Go.cV_i (P1 := P159) (v := v158) (d - 1) 0 [.int (xs (x3 + (1 : Int32)).toNatClampNeg), .int (xs (x3 + (2 : Int32)).toNatClampNeg)] sh0 hE w_Yr_fewest (e_Yr_fewest hG hE (d - 1) (by omega) (xs (x3 + (1 : Int32)).toNatClampNeg) (xs (x3 + (2 : Int32)).toNatClampNeg) P ⟨_, hv158, rfl, rfl, rfl⟩) lk1012 rfl (by omega) (Nat.le_of_ble_eq_true rfl) (by decide +kernel) _ rfl ?_
                                        refine Go.aload_n (k := 2) (i := 2) 2 (by decide +kernel) rfl rfl ?_
                                        refine Go.aload_n (k := 0) (i := 0) 0 (by decide +kernel) rfl rfl ?_
                                        refine Go.iload_n (k := 3) (i := 3) 3 (by decide +kernel) rfl rfl ?_
                                        refine Go.iconst (n := 1) (1 : Int32) (by decide +kernel) rfl ?_
                                        refine Go.iadd (by decide +kernel) ?_
                                        obtain ⟨b160, h⟩ := St.ck h
                                        refine Go.sld hX hbl (inb_in b160) (by decide +kernel) ?_
                                        refine Go.aload_n (k := 0) (i := 0) 0 (by decide +kernel) rfl rfl ?_
                                        refine Go.iload_n (k := 3) (i := 3) 3 (by decide +kernel) rfl rfl ?_
                                        refine Go.iconst (n := 2) (2 : Int32) (by decide +kernel) rfl ?_
                                        refine Go.iadd (by decide +kernel) ?_
                                        obtain ⟨b161, h⟩ := St.ck h
                                        refine Go.sld hX hbl (inb_in b161) (by decide +kernel) ?_
                                        obtain ⟨v162, P163, hv162, h⟩ := St.bd2 h
                                        refine Go.cV_i (P1 := P163) (v := v162) (d - 1) 109 [.int (xs (x3 + (1 : Int32)).toNatClampNeg), .int (xs (x3 + (2 : Int32)).toNatClampNeg)] sh109 hE w_Mo_fewest (e_Mo_fewest hG hE (d - 1) (by omega) (xs (x3 + (1 : Int32)).toNatClampNeg) (xs (x3 + (2 : Int32)).toNatClampNeg) P159 ⟨_, hv162, rfl, rfl, rfl⟩) lk1736 rfl (by omega) (Nat.le_of_ble_eq_true rfl) (by decide +kernel) _ rfl ?_
                                        refine Go.icmp_eq (off := 813) 1565 (by decide +kernel) (by decide) (fun c164 => ?_) (fun c164 => ?_)
                                        · rw [if_pos c164] at h
                                          exact t_j_La_law_1565 hG hE d hd b xs L hX hbl (fun z0 Pz => l_La_law_18 xs L n z0 Pz) (fun z0 Pz q => ih z0 Pz q) x3 P163 h
                                        · rw [if_neg c164] at h
                                          refine Go.iconst (n := 0) (0 : Int32) (by decide +kernel) rfl ?_
                                          exact Go.iret rfl rfl hE.2 (by decide +kernel) (St.fIP h)
                                      · rw [if_neg c155] at h
                                        by_cases c165 : ((xs x3.toNatClampNeg) &&& (63 : Int32)) = (17 : Int32)
                                        · rw [if_pos c165] at h
                                          refine Go.tabIn (dflt := 1532) (lo := 0) (hi := 41) (offs := #[183, 246, 269, 292, 325, 368, 391, 414, 447, 470, 503, 526, 559, 582, 615, 648, 691, 724, 767, 790, 803, 826, 859, 892, 905, 918, 931, 974, 1018, 1071, 1114, 1157, 1200, 1223, 1246, 1290, 1313, 1356, 1430, 1463, 1486, 1509]) (len := 183) (off := 724) 757 (by decide +kernel) (by rw [c165]; decide) (by rw [c165]; decide) (by rw [c165]; rfl) (by decide) ?_
                                          refine Go.aload_n (k := 1) (i := 1) 1 (by decide +kernel) rfl rfl ?_
                                          refine Go.aload_n (k := 0) (i := 0) 0 (by decide +kernel) rfl rfl ?_
                                          refine Go.iload_n (k := 3) (i := 3) 3 (by decide +kernel) rfl rfl ?_
                                          refine Go.iconst (n := 1) (1 : Int32) (by decide +kernel) rfl ?_
                                          refine Go.iadd (by decide +kernel) ?_
                                          obtain ⟨b166, h⟩ := St.ck h
                                          refine Go.sld hX hbl (inb_in b166) (by decide +kernel) ?_
                                          refine Go.aload_n (k := 0) (i := 0) 0 (by decide +kernel) rfl rfl ?_
                                          refine Go.iload_n (k := 3) (i := 3) 3 (by decide +kernel) rfl rfl ?_
                                          refine Go.iconst (n := 2) (2 : Int32) (by decide +kernel) rfl ?_
                                          refine Go.iadd (by decide +kernel) ?_
                                          obtain ⟨b167, h⟩ := St.ck h
                                          refine Go.sld hX hbl (inb_in b167) (by decide +kernel) ?_
                                          refine Go.aload_n (k := 0) (i := 0) 0 (by decide +kernel) rfl rfl ?_
                                          refine Go.iload_n (k := 3) (i := 3) 3 (by decide +kernel) rfl rfl ?_
                                          refine Go.iconst (n := 3) (3 : Int32) (by decide +kernel) rfl ?_
                                          refine Go.iadd (by decide +kernel) ?_
                                          obtain ⟨b168, h⟩ := St.ck h
                                          refine Go.sld hX hbl (inb_in b168) (by decide +kernel) ?_
                                          obtain ⟨v169, P170, hv169, h⟩ := St.bd2 h
                                          refine Go.cV_i (P1 := P170) (v := v169) (d - 1) 0 [.int (xs (x3 + (1 : Int32)).toNatClampNeg), .int (xs (x3 + (2 : Int32)).toNatClampNeg), .int (xs (x3 + (3 : Int32)).toNatClampNeg)] sh0 hE w_Yr_fewBy (e_Yr_fewBy hG hE (d - 1) (by omega) (xs (x3 + (1 : Int32)).toNatClampNeg) (xs (x3 + (2 : Int32)).toNatClampNeg) (xs (x3 + (3 : Int32)).toNatClampNeg) P ⟨_, hv169, rfl, rfl, rfl⟩) lk1020 rfl (by omega) (Nat.le_of_ble_eq_true rfl) (by decide +kernel) _ rfl ?_
                                          refine Go.aload_n (k := 2) (i := 2) 2 (by decide +kernel) rfl rfl ?_
                                          refine Go.aload_n (k := 0) (i := 0) 0 (by decide +kernel) rfl rfl ?_
                                          refine Go.iload_n (k := 3) (i := 3) 3 (by decide +kernel) rfl rfl ?_
                                          refine Go.iconst (n := 1) (1 : Int32) (by decide +kernel) rfl ?_
                                          refine Go.iadd (by decide +kernel) ?_
                                          obtain ⟨b171, h⟩ := St.ck h
                                          refine Go.sld hX hbl (inb_in b171) (by decide +kernel) ?_
                                          refine Go.aload_n (k := 0) (i := 0) 0 (by decide +kernel) rfl rfl ?_
                                          refine Go.iload_n (k := 3) (i := 3) 3 (by decide +kernel) rfl rfl ?_
                                          refine Go.iconst (n := 2) (2 : Int32) (by decide +kernel) rfl ?_
                                          refine Go.iadd (by decide +kernel) ?_
                                          obtain ⟨b172, h⟩ := St.ck h
                                          refine Go.sld hX hbl (inb_in b172) (by decide +kernel) ?_
                                          refine Go.aload_n (k := 0) (i := 0) 0 (by decide +kernel) rfl rfl ?_
                                          refine Go.iload_n (k := 3) (i := 3) 3 (by decide +kernel) rfl rfl ?_
                                          refine Go.iconst (n := 3) (3 : Int32) (by decide +kernel) rfl ?_
                                          refine Go.iadd (by decide +kernel) ?_
                                          obtain ⟨b173, h⟩ := St.ck h
                                          refine Go.sld hX hbl (inb_in b173) (by decide +kernel) ?_
                                          obtain ⟨v174, P175, hv174, h⟩ := St.bd2 h
                                          refine Go.cV_i (P1 := P175) (v := v174) (d - 1) 109 [.int (xs (x3 + (1 : Int32)).toNatClampNeg), .int (xs (x3 + (2 : Int32)).toNatClampNeg), .int (xs (x3 + (3 : Int32)).toNatClampNeg)] sh109 hE w_Mo_fewBy (e_Mo_fewBy hG hE (d - 1) (by omega) (xs (x3 + (1 : Int32)).toNatClampNeg) (xs (x3 + (2 : Int32)).toNatClampNeg) (xs (x3 + (3 : Int32)).toNatClampNeg) P170 ⟨_, hv174, rfl, rfl, rfl⟩) lk1740 rfl (by omega) (Nat.le_of_ble_eq_true rfl) (by decide +kernel) _ rfl ?_
                                          refine Go.icmp_eq (off := 770) 1565 (by decide +kernel) (by decide) (fun c176 => ?_) (fun c176 => ?_)
                                          · rw [if_pos c176] at h
                                            exact t_j_La_law_1565 hG hE d hd b xs L hX hbl (fun z0 Pz => l_La_law_18 xs L n z0 Pz) (fun z0 Pz q => ih z0 Pz q) x3 P175 h
                                          · rw [if_neg c176] at h
                                            refine Go.iconst (n := 0) (0 : Int32) (by decide +kernel) rfl ?_
                                            exact Go.iret rfl rfl hE.2 (by decide +kernel) (St.fIP h)
                                        · rw [if_neg c165] at h
                                          by_cases c177 : ((xs x3.toNatClampNeg) &&& (63 : Int32)) = (18 : Int32)
                                          · rw [if_pos c177] at h
                                            refine Go.tabIn (dflt := 1532) (lo := 0) (hi := 41) (offs := #[183, 246, 269, 292, 325, 368, 391, 414, 447, 470, 503, 526, 559, 582, 615, 648, 691, 724, 767, 790, 803, 826, 859, 892, 905, 918, 931, 974, 1018, 1071, 1114, 1157, 1200, 1223, 1246, 1290, 1313, 1356, 1430, 1463, 1486, 1509]) (len := 183) (off := 767) 800 (by decide +kernel) (by rw [c177]; decide) (by rw [c177]; decide) (by rw [c177]; rfl) (by decide) ?_
                                            refine Go.aload_n (k := 1) (i := 1) 1 (by decide +kernel) rfl rfl ?_
                                            refine Go.aload_n (k := 0) (i := 0) 0 (by decide +kernel) rfl rfl ?_
                                            refine Go.iload_n (k := 3) (i := 3) 3 (by decide +kernel) rfl rfl ?_
                                            refine Go.iconst (n := 1) (1 : Int32) (by decide +kernel) rfl ?_
                                            refine Go.iadd (by decide +kernel) ?_
                                            obtain ⟨b178, h⟩ := St.ck h
                                            refine Go.sld hX hbl (inb_in b178) (by decide +kernel) ?_
                                            obtain ⟨v179, P180, hv179, h⟩ := St.bd2 h
                                            refine Go.cV_i (P1 := P180) (v := v179) (d - 1) 0 [.int (xs (x3 + (1 : Int32)).toNatClampNeg)] sh0 hE w_Yr_biggest (e_Yr_biggest hG hE (d - 1) (by omega) (xs (x3 + (1 : Int32)).toNatClampNeg) P ⟨_, hv179, rfl, rfl, rfl⟩) lk1024 rfl (by omega) (Nat.le_of_ble_eq_true rfl) (by decide +kernel) _ rfl ?_
                                            refine Go.aload_n (k := 2) (i := 2) 2 (by decide +kernel) rfl rfl ?_
                                            refine Go.aload_n (k := 0) (i := 0) 0 (by decide +kernel) rfl rfl ?_
                                            refine Go.iload_n (k := 3) (i := 3) 3 (by decide +kernel) rfl rfl ?_
                                            refine Go.iconst (n := 1) (1 : Int32) (by decide +kernel) rfl ?_
                                            refine Go.iadd (by decide +kernel) ?_
                                            obtain ⟨b181, h⟩ := St.ck h
                                            refine Go.sld hX hbl (inb_in b181) (by decide +kernel) ?_
                                            obtain ⟨v182, P183, hv182, h⟩ := St.bd2 h
                                            refine Go.cV_i (P1 := P183) (v := v182) (d - 1) 109 [.int (xs (x3 + (1 : Int32)).toNatClampNeg)] sh109 hE w_Mo_biggest (e_Mo_biggest hG hE (d - 1) (by omega) (xs (x3 + (1 : Int32)).toNatClampNeg) P180 ⟨_, hv182, rfl, rfl, rfl⟩) lk1744 rfl (by omega) (Nat.le_of_ble_eq_true rfl) (by decide +kernel) _ rfl ?_
                                            refine Go.icmp_eq (off := 747) 1565 (by decide +kernel) (by decide) (fun c184 => ?_) (fun c184 => ?_)
                                            · rw [if_pos c184] at h
                                              exact t_j_La_law_1565 hG hE d hd b xs L hX hbl (fun z0 Pz => l_La_law_18 xs L n z0 Pz) (fun z0 Pz q => ih z0 Pz q) x3 P183 h
                                            · rw [if_neg c184] at h
                                              refine Go.iconst (n := 0) (0 : Int32) (by decide +kernel) rfl ?_
                                              exact Go.iret rfl rfl hE.2 (by decide +kernel) (St.fIP h)
                                          · rw [if_neg c177] at h
                                            by_cases c185 : ((xs x3.toNatClampNeg) &&& (63 : Int32)) = (19 : Int32)
                                            · rw [if_pos c185] at h
                                              refine Go.tabIn (dflt := 1532) (lo := 0) (hi := 41) (offs := #[183, 246, 269, 292, 325, 368, 391, 414, 447, 470, 503, 526, 559, 582, 615, 648, 691, 724, 767, 790, 803, 826, 859, 892, 905, 918, 931, 974, 1018, 1071, 1114, 1157, 1200, 1223, 1246, 1290, 1313, 1356, 1430, 1463, 1486, 1509]) (len := 183) (off := 790) 823 (by decide +kernel) (by rw [c185]; decide) (by rw [c185]; decide) (by rw [c185]; rfl) (by decide) ?_
                                              refine Go.aload_n (k := 1) (i := 1) 1 (by decide +kernel) rfl rfl ?_
                                              obtain ⟨v186, P187, hv186, h⟩ := St.bd2 h
                                              refine Go.cV_i (P1 := P187) (v := v186) (d - 1) 0 [] sh0 hE w_Yr_reach (e_Yr_reach hG hE (d - 1) (by omega) P ⟨_, hv186, rfl, rfl, rfl⟩) lk1038 rfl (by omega) (Nat.le_of_ble_eq_true rfl) (by decide +kernel) _ rfl ?_
                                              refine Go.aload_n (k := 2) (i := 2) 2 (by decide +kernel) rfl rfl ?_
                                              obtain ⟨v188, P189, hv188, h⟩ := St.bd2 h
                                              refine Go.cV_i (P1 := P189) (v := v188) (d - 1) 109 [] sh109 hE w_Mo_reach (e_Mo_reach hG hE (d - 1) (by omega) P187 ⟨_, hv188, rfl, rfl, rfl⟩) lk1752 rfl (by omega) (Nat.le_of_ble_eq_true rfl) (by decide +kernel) _ rfl ?_
                                              refine Go.icmp_eq (off := 734) 1565 (by decide +kernel) (by decide) (fun c190 => ?_) (fun c190 => ?_)
                                              · rw [if_pos c190] at h
                                                exact t_j_La_law_1565 hG hE d hd b xs L hX hbl (fun z0 Pz => l_La_law_18 xs L n z0 Pz) (fun z0 Pz q => ih z0 Pz q) x3 P189 h
                                              · rw [if_neg c190] at h
                                                refine Go.iconst (n := 0) (0 : Int32) (by decide +kernel) rfl ?_
                                                exact Go.iret rfl rfl hE.2 (by decide +kernel) (St.fIP h)
                                            · rw [if_neg c185] at h
                                              by_cases c191 : ((xs x3.toNatClampNeg) &&& (63 : Int32)) = (20 : Int32)
                                              · rw [if_pos c191] at h
                                                refine Go.tabIn (dflt := 1532) (lo := 0) (hi := 41) (offs := #[183, 246, 269, 292, 325, 368, 391, 414, 447, 470, 503, 526, 559, 582, 615, 648, 691, 724, 767, 790, 803, 826, 859, 892, 905, 918, 931, 974, 1018, 1071, 1114, 1157, 1200, 1223, 1246, 1290, 1313, 1356, 1430, 1463, 1486, 1509]) (len := 183) (off := 803) 836 (by decide +kernel) (by rw [c191]; decide) (by rw [c191]; decide) (by rw [c191]; rfl) (by decide) ?_
                                                refine Go.aload_n (k := 1) (i := 1) 1 (by decide +kernel) rfl rfl ?_
                                                refine Go.aload_n (k := 0) (i := 0) 0 (by decide +kernel) rfl rfl ?_
                                                refine Go.iload_n (k := 3) (i := 3) 3 (by decide +kernel) rfl rfl ?_
                                                refine Go.iconst (n := 1) (1 : Int32) (by decide +kernel) rfl ?_
                                                refine Go.iadd (by decide +kernel) ?_
                                                obtain ⟨b192, h⟩ := St.ck h
                                                refine Go.sld hX hbl (inb_in b192) (by decide +kernel) ?_
                                                obtain ⟨v193, P194, hv193, h⟩ := St.bd2 h
                                                refine Go.cV_i (P1 := P194) (v := v193) (d - 1) 0 [.int (xs (x3 + (1 : Int32)).toNatClampNeg)] sh0 hE w_Yr_needed (e_Yr_needed hG hE (d - 1) (by omega) (xs (x3 + (1 : Int32)).toNatClampNeg) P ⟨_, hv193, rfl, rfl, rfl⟩) lk1046 rfl (by omega) (Nat.le_of_ble_eq_true rfl) (by decide +kernel) _ rfl ?_
                                                refine Go.aload_n (k := 2) (i := 2) 2 (by decide +kernel) rfl rfl ?_
                                                refine Go.aload_n (k := 0) (i := 0) 0 (by decide +kernel) rfl rfl ?_
                                                refine Go.iload_n (k := 3) (i := 3) 3 (by decide +kernel) rfl rfl ?_
                                                refine Go.iconst (n := 1) (1 : Int32) (by decide +kernel) rfl ?_
                                                refine Go.iadd (by decide +kernel) ?_
                                                obtain ⟨b195, h⟩ := St.ck h
                                                refine Go.sld hX hbl (inb_in b195) (by decide +kernel) ?_
                                                obtain ⟨v196, P197, hv196, h⟩ := St.bd2 h
                                                refine Go.cV_i (P1 := P197) (v := v196) (d - 1) 109 [.int (xs (x3 + (1 : Int32)).toNatClampNeg)] sh109 hE w_Mo_needed (e_Mo_needed hG hE (d - 1) (by omega) (xs (x3 + (1 : Int32)).toNatClampNeg) P194 ⟨_, hv196, rfl, rfl, rfl⟩) lk1760 rfl (by omega) (Nat.le_of_ble_eq_true rfl) (by decide +kernel) _ rfl ?_
                                                refine Go.icmp_eq (off := 711) 1565 (by decide +kernel) (by decide) (fun c198 => ?_) (fun c198 => ?_)
                                                · rw [if_pos c198] at h
                                                  exact t_j_La_law_1565 hG hE d hd b xs L hX hbl (fun z0 Pz => l_La_law_18 xs L n z0 Pz) (fun z0 Pz q => ih z0 Pz q) x3 P197 h
                                                · rw [if_neg c198] at h
                                                  refine Go.iconst (n := 0) (0 : Int32) (by decide +kernel) rfl ?_
                                                  exact Go.iret rfl rfl hE.2 (by decide +kernel) (St.fIP h)
                                              · rw [if_neg c191] at h
                                                by_cases c199 : ((xs x3.toNatClampNeg) &&& (63 : Int32)) = (21 : Int32)
                                                · rw [if_pos c199] at h
                                                  refine Go.tabIn (dflt := 1532) (lo := 0) (hi := 41) (offs := #[183, 246, 269, 292, 325, 368, 391, 414, 447, 470, 503, 526, 559, 582, 615, 648, 691, 724, 767, 790, 803, 826, 859, 892, 905, 918, 931, 974, 1018, 1071, 1114, 1157, 1200, 1223, 1246, 1290, 1313, 1356, 1430, 1463, 1486, 1509]) (len := 183) (off := 826) 859 (by decide +kernel) (by rw [c199]; decide) (by rw [c199]; decide) (by rw [c199]; rfl) (by decide) ?_
                                                  refine Go.aload_n (k := 1) (i := 1) 1 (by decide +kernel) rfl rfl ?_
                                                  refine Go.aload_n (k := 0) (i := 0) 0 (by decide +kernel) rfl rfl ?_
                                                  refine Go.iload_n (k := 3) (i := 3) 3 (by decide +kernel) rfl rfl ?_
                                                  refine Go.iconst (n := 1) (1 : Int32) (by decide +kernel) rfl ?_
                                                  refine Go.iadd (by decide +kernel) ?_
                                                  obtain ⟨b200, h⟩ := St.ck h
                                                  refine Go.sld hX hbl (inb_in b200) (by decide +kernel) ?_
                                                  refine Go.aload_n (k := 0) (i := 0) 0 (by decide +kernel) rfl rfl ?_
                                                  refine Go.iload_n (k := 3) (i := 3) 3 (by decide +kernel) rfl rfl ?_
                                                  refine Go.iconst (n := 2) (2 : Int32) (by decide +kernel) rfl ?_
                                                  refine Go.iadd (by decide +kernel) ?_
                                                  obtain ⟨b201, h⟩ := St.ck h
                                                  refine Go.sld hX hbl (inb_in b201) (by decide +kernel) ?_
                                                  obtain ⟨v202, P203, hv202, h⟩ := St.bd2 h
                                                  refine Go.cV_i (P1 := P203) (v := v202) (d - 1) 0 [.int (xs (x3 + (1 : Int32)).toNatClampNeg), .int (xs (x3 + (2 : Int32)).toNatClampNeg)] sh0 hE w_Yr_sleepers (e_Yr_sleepers hG hE (d - 1) (by omega) (xs (x3 + (1 : Int32)).toNatClampNeg) (xs (x3 + (2 : Int32)).toNatClampNeg) P ⟨_, hv202, rfl, rfl, rfl⟩) lk1059 rfl (by omega) (Nat.le_of_ble_eq_true rfl) (by decide +kernel) _ rfl ?_
                                                  refine Go.aload_n (k := 2) (i := 2) 2 (by decide +kernel) rfl rfl ?_
                                                  refine Go.aload_n (k := 0) (i := 0) 0 (by decide +kernel) rfl rfl ?_
                                                  refine Go.iload_n (k := 3) (i := 3) 3 (by decide +kernel) rfl rfl ?_
                                                  refine Go.iconst (n := 1) (1 : Int32) (by decide +kernel) rfl ?_
                                                  refine Go.iadd (by decide +kernel) ?_
                                                  obtain ⟨b204, h⟩ := St.ck h
                                                  refine Go.sld hX hbl (inb_in b204) (by decide +kernel) ?_
                                                  refine Go.aload_n (k := 0) (i := 0) 0 (by decide +kernel) rfl rfl ?_
                                                  refine Go.iload_n (k := 3) (i := 3) 3 (by decide +kernel) rfl rfl ?_
                                                  refine Go.iconst (n := 2) (2 : Int32) (by decide +kernel) rfl ?_
                                                  refine Go.iadd (by decide +kernel) ?_
                                                  obtain ⟨b205, h⟩ := St.ck h
                                                  refine Go.sld hX hbl (inb_in b205) (by decide +kernel) ?_
                                                  obtain ⟨v206, P207, hv206, h⟩ := St.bd2 h
                                                  refine Go.cV_i (P1 := P207) (v := v206) (d - 1) 109 [.int (xs (x3 + (1 : Int32)).toNatClampNeg), .int (xs (x3 + (2 : Int32)).toNatClampNeg)] sh109 hE w_Mo_sleepers (e_Mo_sleepers hG hE (d - 1) (by omega) (xs (x3 + (1 : Int32)).toNatClampNeg) (xs (x3 + (2 : Int32)).toNatClampNeg) P203 ⟨_, hv206, rfl, rfl, rfl⟩) lk1764 rfl (by omega) (Nat.le_of_ble_eq_true rfl) (by decide +kernel) _ rfl ?_
                                                  refine Go.icmp_eq (off := 678) 1565 (by decide +kernel) (by decide) (fun c208 => ?_) (fun c208 => ?_)
                                                  · rw [if_pos c208] at h
                                                    exact t_j_La_law_1565 hG hE d hd b xs L hX hbl (fun z0 Pz => l_La_law_18 xs L n z0 Pz) (fun z0 Pz q => ih z0 Pz q) x3 P207 h
                                                  · rw [if_neg c208] at h
                                                    refine Go.iconst (n := 0) (0 : Int32) (by decide +kernel) rfl ?_
                                                    exact Go.iret rfl rfl hE.2 (by decide +kernel) (St.fIP h)
                                                · rw [if_neg c199] at h
                                                  by_cases c209 : ((xs x3.toNatClampNeg) &&& (63 : Int32)) = (22 : Int32)
                                                  · rw [if_pos c209] at h
                                                    refine Go.tabIn (dflt := 1532) (lo := 0) (hi := 41) (offs := #[183, 246, 269, 292, 325, 368, 391, 414, 447, 470, 503, 526, 559, 582, 615, 648, 691, 724, 767, 790, 803, 826, 859, 892, 905, 918, 931, 974, 1018, 1071, 1114, 1157, 1200, 1223, 1246, 1290, 1313, 1356, 1430, 1463, 1486, 1509]) (len := 183) (off := 859) 892 (by decide +kernel) (by rw [c209]; decide) (by rw [c209]; decide) (by rw [c209]; rfl) (by decide) ?_
                                                    refine Go.aload_n (k := 1) (i := 1) 1 (by decide +kernel) rfl rfl ?_
                                                    refine Go.aload_n (k := 0) (i := 0) 0 (by decide +kernel) rfl rfl ?_
                                                    refine Go.iload_n (k := 3) (i := 3) 3 (by decide +kernel) rfl rfl ?_
                                                    refine Go.iconst (n := 1) (1 : Int32) (by decide +kernel) rfl ?_
                                                    refine Go.iadd (by decide +kernel) ?_
                                                    obtain ⟨b210, h⟩ := St.ck h
                                                    refine Go.sld hX hbl (inb_in b210) (by decide +kernel) ?_
                                                    refine Go.aload_n (k := 0) (i := 0) 0 (by decide +kernel) rfl rfl ?_
                                                    refine Go.iload_n (k := 3) (i := 3) 3 (by decide +kernel) rfl rfl ?_
                                                    refine Go.iconst (n := 2) (2 : Int32) (by decide +kernel) rfl ?_
                                                    refine Go.iadd (by decide +kernel) ?_
                                                    obtain ⟨b211, h⟩ := St.ck h
                                                    refine Go.sld hX hbl (inb_in b211) (by decide +kernel) ?_
                                                    obtain ⟨v212, P213, hv212, h⟩ := St.bd2 h
                                                    refine Go.cV_i (P1 := P213) (v := v212) (d - 1) 0 [.int (xs (x3 + (1 : Int32)).toNatClampNeg), .int (xs (x3 + (2 : Int32)).toNatClampNeg)] sh0 hE w_Yr_spread (e_Yr_spread hG hE (d - 1) (by omega) (xs (x3 + (1 : Int32)).toNatClampNeg) (xs (x3 + (2 : Int32)).toNatClampNeg) P ⟨_, hv212, rfl, rfl, rfl⟩) lk1079 rfl (by omega) (Nat.le_of_ble_eq_true rfl) (by decide +kernel) _ rfl ?_
                                                    refine Go.aload_n (k := 2) (i := 2) 2 (by decide +kernel) rfl rfl ?_
                                                    refine Go.aload_n (k := 0) (i := 0) 0 (by decide +kernel) rfl rfl ?_
                                                    refine Go.iload_n (k := 3) (i := 3) 3 (by decide +kernel) rfl rfl ?_
                                                    refine Go.iconst (n := 1) (1 : Int32) (by decide +kernel) rfl ?_
                                                    refine Go.iadd (by decide +kernel) ?_
                                                    obtain ⟨b214, h⟩ := St.ck h
                                                    refine Go.sld hX hbl (inb_in b214) (by decide +kernel) ?_
                                                    refine Go.aload_n (k := 0) (i := 0) 0 (by decide +kernel) rfl rfl ?_
                                                    refine Go.iload_n (k := 3) (i := 3) 3 (by decide +kernel) rfl rfl ?_
                                                    refine Go.iconst (n := 2) (2 : Int32) (by decide +kernel) rfl ?_
                                                    refine Go.iadd (by decide +kernel) ?_
                                                    obtain ⟨b215, h⟩ := St.ck h
                                                    refine Go.sld hX hbl (inb_in b215) (by decide +kernel) ?_
                                                    obtain ⟨v216, P217, hv216, h⟩ := St.bd2 h
                                                    refine Go.cV_i (P1 := P217) (v := v216) (d - 1) 109 [.int (xs (x3 + (1 : Int32)).toNatClampNeg), .int (xs (x3 + (2 : Int32)).toNatClampNeg)] sh109 hE w_Mo_spread (e_Mo_spread hG hE (d - 1) (by omega) (xs (x3 + (1 : Int32)).toNatClampNeg) (xs (x3 + (2 : Int32)).toNatClampNeg) P213 ⟨_, hv216, rfl, rfl, rfl⟩) lk1771 rfl (by omega) (Nat.le_of_ble_eq_true rfl) (by decide +kernel) _ rfl ?_
                                                    refine Go.icmp_eq (off := 645) 1565 (by decide +kernel) (by decide) (fun c218 => ?_) (fun c218 => ?_)
                                                    · rw [if_pos c218] at h
                                                      exact t_j_La_law_1565 hG hE d hd b xs L hX hbl (fun z0 Pz => l_La_law_18 xs L n z0 Pz) (fun z0 Pz q => ih z0 Pz q) x3 P217 h
                                                    · rw [if_neg c218] at h
                                                      refine Go.iconst (n := 0) (0 : Int32) (by decide +kernel) rfl ?_
                                                      exact Go.iret rfl rfl hE.2 (by decide +kernel) (St.fIP h)
                                                  · rw [if_neg c209] at h
                                                    by_cases c219 : ((xs x3.toNatClampNeg) &&& (63 : Int32)) = (23 : Int32)
                                                    · rw [if_pos c219] at h
                                                      refine Go.tabIn (dflt := 1532) (lo := 0) (hi := 41) (offs := #[183, 246, 269, 292, 325, 368, 391, 414, 447, 470, 503, 526, 559, 582, 615, 648, 691, 724, 767, 790, 803, 826, 859, 892, 905, 918, 931, 974, 1018, 1071, 1114, 1157, 1200, 1223, 1246, 1290, 1313, 1356, 1430, 1463, 1486, 1509]) (len := 183) (off := 892) 925 (by decide +kernel) (by rw [c219]; decide) (by rw [c219]; decide) (by rw [c219]; rfl) (by decide) ?_
                                                      refine Go.aload_n (k := 1) (i := 1) 1 (by decide +kernel) rfl rfl ?_
                                                      obtain ⟨v220, P221, hv220, h⟩ := St.bd2 h
                                                      refine Go.cV_i (P1 := P221) (v := v220) (d - 1) 0 [] sh0 hE w_Yr_rounds (e_Yr_rounds hG hE (d - 1) (by omega) P ⟨_, hv220, rfl, rfl, rfl⟩) lk1108 rfl (by omega) (Nat.le_of_ble_eq_true rfl) (by decide +kernel) _ rfl ?_
                                                      refine Go.aload_n (k := 2) (i := 2) 2 (by decide +kernel) rfl rfl ?_
                                                      obtain ⟨v222, P223, hv222, h⟩ := St.bd2 h
                                                      refine Go.cV_i (P1 := P223) (v := v222) (d - 1) 109 [] sh109 hE w_Mo_rounds (e_Mo_rounds hG hE (d - 1) (by omega) P221 ⟨_, hv222, rfl, rfl, rfl⟩) lk1787 rfl (by omega) (Nat.le_of_ble_eq_true rfl) (by decide +kernel) _ rfl ?_
                                                      refine Go.icmp_eq (off := 632) 1565 (by decide +kernel) (by decide) (fun c224 => ?_) (fun c224 => ?_)
                                                      · rw [if_pos c224] at h
                                                        exact t_j_La_law_1565 hG hE d hd b xs L hX hbl (fun z0 Pz => l_La_law_18 xs L n z0 Pz) (fun z0 Pz q => ih z0 Pz q) x3 P223 h
                                                      · rw [if_neg c224] at h
                                                        refine Go.iconst (n := 0) (0 : Int32) (by decide +kernel) rfl ?_
                                                        exact Go.iret rfl rfl hE.2 (by decide +kernel) (St.fIP h)
                                                    · rw [if_neg c219] at h
                                                      by_cases c225 : ((xs x3.toNatClampNeg) &&& (63 : Int32)) = (24 : Int32)
                                                      · rw [if_pos c225] at h
                                                        refine Go.tabIn (dflt := 1532) (lo := 0) (hi := 41) (offs := #[183, 246, 269, 292, 325, 368, 391, 414, 447, 470, 503, 526, 559, 582, 615, 648, 691, 724, 767, 790, 803, 826, 859, 892, 905, 918, 931, 974, 1018, 1071, 1114, 1157, 1200, 1223, 1246, 1290, 1313, 1356, 1430, 1463, 1486, 1509]) (len := 183) (off := 905) 938 (by decide +kernel) (by rw [c225]; decide) (by rw [c225]; decide) (by rw [c225]; rfl) (by decide) ?_
                                                        refine Go.aload_n (k := 1) (i := 1) 1 (by decide +kernel) rfl rfl ?_
                                                        obtain ⟨v226, P227, hv226, h⟩ := St.bd2 h
                                                        refine Go.cV_i (P1 := P227) (v := v226) (d - 1) 0 [] sh0 hE w_Yr_crowd (e_Yr_crowd hG hE (d - 1) (by omega) P ⟨_, hv226, rfl, rfl, rfl⟩) lk1112 rfl (by omega) (Nat.le_of_ble_eq_true rfl) (by decide +kernel) _ rfl ?_
                                                        refine Go.aload_n (k := 2) (i := 2) 2 (by decide +kernel) rfl rfl ?_
                                                        obtain ⟨v228, P229, hv228, h⟩ := St.bd2 h
                                                        refine Go.cV_i (P1 := P229) (v := v228) (d - 1) 109 [] sh109 hE w_Mo_crowd (e_Mo_crowd hG hE (d - 1) (by omega) P227 ⟨_, hv228, rfl, rfl, rfl⟩) lk1791 rfl (by omega) (Nat.le_of_ble_eq_true rfl) (by decide +kernel) _ rfl ?_
                                                        refine Go.icmp_eq (off := 619) 1565 (by decide +kernel) (by decide) (fun c230 => ?_) (fun c230 => ?_)
                                                        · rw [if_pos c230] at h
                                                          exact t_j_La_law_1565 hG hE d hd b xs L hX hbl (fun z0 Pz => l_La_law_18 xs L n z0 Pz) (fun z0 Pz q => ih z0 Pz q) x3 P229 h
                                                        · rw [if_neg c230] at h
                                                          refine Go.iconst (n := 0) (0 : Int32) (by decide +kernel) rfl ?_
                                                          exact Go.iret rfl rfl hE.2 (by decide +kernel) (St.fIP h)
                                                      · rw [if_neg c225] at h
                                                        by_cases c231 : ((xs x3.toNatClampNeg) &&& (63 : Int32)) = (25 : Int32)
                                                        · rw [if_pos c231] at h
                                                          refine Go.tabIn (dflt := 1532) (lo := 0) (hi := 41) (offs := #[183, 246, 269, 292, 325, 368, 391, 414, 447, 470, 503, 526, 559, 582, 615, 648, 691, 724, 767, 790, 803, 826, 859, 892, 905, 918, 931, 974, 1018, 1071, 1114, 1157, 1200, 1223, 1246, 1290, 1313, 1356, 1430, 1463, 1486, 1509]) (len := 183) (off := 918) 951 (by decide +kernel) (by rw [c231]; decide) (by rw [c231]; decide) (by rw [c231]; rfl) (by decide) ?_
                                                          refine Go.aload_n (k := 1) (i := 1) 1 (by decide +kernel) rfl rfl ?_
                                                          obtain ⟨v232, P233, hv232, h⟩ := St.bd2 h
                                                          refine Go.cV_i (P1 := P233) (v := v232) (d - 1) 0 [] sh0 hE w_Yr_stopper (e_Yr_stopper hG hE (d - 1) (by omega) P ⟨_, hv232, rfl, rfl, rfl⟩) lk1120 rfl (by omega) (Nat.le_of_ble_eq_true rfl) (by decide +kernel) _ rfl ?_
                                                          refine Go.aload_n (k := 2) (i := 2) 2 (by decide +kernel) rfl rfl ?_
                                                          obtain ⟨v234, P235, hv234, h⟩ := St.bd2 h
                                                          refine Go.cV_i (P1 := P235) (v := v234) (d - 1) 109 [] sh109 hE w_Mo_stopper (e_Mo_stopper hG hE (d - 1) (by omega) P233 ⟨_, hv234, rfl, rfl, rfl⟩) lk1799 rfl (by omega) (Nat.le_of_ble_eq_true rfl) (by decide +kernel) _ rfl ?_
                                                          refine Go.icmp_eq (off := 606) 1565 (by decide +kernel) (by decide) (fun c236 => ?_) (fun c236 => ?_)
                                                          · rw [if_pos c236] at h
                                                            exact t_j_La_law_1565 hG hE d hd b xs L hX hbl (fun z0 Pz => l_La_law_18 xs L n z0 Pz) (fun z0 Pz q => ih z0 Pz q) x3 P235 h
                                                          · rw [if_neg c236] at h
                                                            refine Go.iconst (n := 0) (0 : Int32) (by decide +kernel) rfl ?_
                                                            exact Go.iret rfl rfl hE.2 (by decide +kernel) (St.fIP h)
                                                        · rw [if_neg c231] at h
                                                          by_cases c237 : ((xs x3.toNatClampNeg) &&& (63 : Int32)) = (26 : Int32)
                                                          · rw [if_pos c237] at h
                                                            refine Go.tabIn (dflt := 1532) (lo := 0) (hi := 41) (offs := #[183, 246, 269, 292, 325, 368, 391, 414, 447, 470, 503, 526, 559, 582, 615, 648, 691, 724, 767, 790, 803, 826, 859, 892, 905, 918, 931, 974, 1018, 1071, 1114, 1157, 1200, 1223, 1246, 1290, 1313, 1356, 1430, 1463, 1486, 1509]) (len := 183) (off := 931) 964 (by decide +kernel) (by rw [c237]; decide) (by rw [c237]; decide) (by rw [c237]; rfl) (by decide) ?_
                                                            refine Go.aload_n (k := 1) (i := 1) 1 (by decide +kernel) rfl rfl ?_
                                                            refine Go.aload_n (k := 0) (i := 0) 0 (by decide +kernel) rfl rfl ?_
                                                            refine Go.iload_n (k := 3) (i := 3) 3 (by decide +kernel) rfl rfl ?_
                                                            refine Go.iconst (n := 1) (1 : Int32) (by decide +kernel) rfl ?_
                                                            refine Go.iadd (by decide +kernel) ?_
                                                            obtain ⟨b238, h⟩ := St.ck h
                                                            refine Go.sld hX hbl (inb_in b238) (by decide +kernel) ?_
                                                            refine Go.aload_n (k := 0) (i := 0) 0 (by decide +kernel) rfl rfl ?_
                                                            refine Go.iload_n (k := 3) (i := 3) 3 (by decide +kernel) rfl rfl ?_
                                                            refine Go.iconst (n := 2) (2 : Int32) (by decide +kernel) rfl ?_
                                                            refine Go.iadd (by decide +kernel) ?_
                                                            obtain ⟨b239, h⟩ := St.ck h
                                                            refine Go.sld hX hbl (inb_in b239) (by decide +kernel) ?_
                                                            refine Go.aload_n (k := 0) (i := 0) 0 (by decide +kernel) rfl rfl ?_
                                                            refine Go.iload_n (k := 3) (i := 3) 3 (by decide +kernel) rfl rfl ?_
                                                            refine Go.iconst (n := 3) (3 : Int32) (by decide +kernel) rfl ?_
                                                            refine Go.iadd (by decide +kernel) ?_
                                                            obtain ⟨b240, h⟩ := St.ck h
                                                            refine Go.sld hX hbl (inb_in b240) (by decide +kernel) ?_
                                                            obtain ⟨v241, P242, hv241, h⟩ := St.bd2 h
                                                            refine Go.cV_i (P1 := P242) (v := v241) (d - 1) 0 [.int (xs (x3 + (1 : Int32)).toNatClampNeg), .int (xs (x3 + (2 : Int32)).toNatClampNeg), .int (xs (x3 + (3 : Int32)).toNatClampNeg)] sh0 hE w_Yr_meets (e_Yr_meets hG hE (d - 1) (by omega) (xs (x3 + (1 : Int32)).toNatClampNeg) (xs (x3 + (2 : Int32)).toNatClampNeg) (xs (x3 + (3 : Int32)).toNatClampNeg) P ⟨_, hv241, rfl, rfl, rfl⟩) lk1132 rfl (by omega) (Nat.le_of_ble_eq_true rfl) (by decide +kernel) _ rfl ?_
                                                            refine Go.aload_n (k := 2) (i := 2) 2 (by decide +kernel) rfl rfl ?_
                                                            refine Go.aload_n (k := 0) (i := 0) 0 (by decide +kernel) rfl rfl ?_
                                                            refine Go.iload_n (k := 3) (i := 3) 3 (by decide +kernel) rfl rfl ?_
                                                            refine Go.iconst (n := 1) (1 : Int32) (by decide +kernel) rfl ?_
                                                            refine Go.iadd (by decide +kernel) ?_
                                                            obtain ⟨b243, h⟩ := St.ck h
                                                            refine Go.sld hX hbl (inb_in b243) (by decide +kernel) ?_
                                                            refine Go.aload_n (k := 0) (i := 0) 0 (by decide +kernel) rfl rfl ?_
                                                            refine Go.iload_n (k := 3) (i := 3) 3 (by decide +kernel) rfl rfl ?_
                                                            refine Go.iconst (n := 2) (2 : Int32) (by decide +kernel) rfl ?_
                                                            refine Go.iadd (by decide +kernel) ?_
                                                            obtain ⟨b244, h⟩ := St.ck h
                                                            refine Go.sld hX hbl (inb_in b244) (by decide +kernel) ?_
                                                            refine Go.aload_n (k := 0) (i := 0) 0 (by decide +kernel) rfl rfl ?_
                                                            refine Go.iload_n (k := 3) (i := 3) 3 (by decide +kernel) rfl rfl ?_
                                                            refine Go.iconst (n := 3) (3 : Int32) (by decide +kernel) rfl ?_
                                                            refine Go.iadd (by decide +kernel) ?_
                                                            obtain ⟨b245, h⟩ := St.ck h
                                                            refine Go.sld hX hbl (inb_in b245) (by decide +kernel) ?_
                                                            obtain ⟨v246, P247, hv246, h⟩ := St.bd2 h
                                                            refine Go.cV_i (P1 := P247) (v := v246) (d - 1) 109 [.int (xs (x3 + (1 : Int32)).toNatClampNeg), .int (xs (x3 + (2 : Int32)).toNatClampNeg), .int (xs (x3 + (3 : Int32)).toNatClampNeg)] sh109 hE w_Mo_meets (e_Mo_meets hG hE (d - 1) (by omega) (xs (x3 + (1 : Int32)).toNatClampNeg) (xs (x3 + (2 : Int32)).toNatClampNeg) (xs (x3 + (3 : Int32)).toNatClampNeg) P242 ⟨_, hv246, rfl, rfl, rfl⟩) lk1803 rfl (by omega) (Nat.le_of_ble_eq_true rfl) (by decide +kernel) _ rfl ?_
                                                            refine Go.icmp_eq (off := 563) 1565 (by decide +kernel) (by decide) (fun c248 => ?_) (fun c248 => ?_)
                                                            · rw [if_pos c248] at h
                                                              exact t_j_La_law_1565 hG hE d hd b xs L hX hbl (fun z0 Pz => l_La_law_18 xs L n z0 Pz) (fun z0 Pz q => ih z0 Pz q) x3 P247 h
                                                            · rw [if_neg c248] at h
                                                              refine Go.iconst (n := 0) (0 : Int32) (by decide +kernel) rfl ?_
                                                              exact Go.iret rfl rfl hE.2 (by decide +kernel) (St.fIP h)
                                                          · rw [if_neg c237] at h
                                                            by_cases c249 : ((xs x3.toNatClampNeg) &&& (63 : Int32)) = (27 : Int32)
                                                            · rw [if_pos c249] at h
                                                              refine Go.tabIn (dflt := 1532) (lo := 0) (hi := 41) (offs := #[183, 246, 269, 292, 325, 368, 391, 414, 447, 470, 503, 526, 559, 582, 615, 648, 691, 724, 767, 790, 803, 826, 859, 892, 905, 918, 931, 974, 1018, 1071, 1114, 1157, 1200, 1223, 1246, 1290, 1313, 1356, 1430, 1463, 1486, 1509]) (len := 183) (off := 974) 1007 (by decide +kernel) (by rw [c249]; decide) (by rw [c249]; decide) (by rw [c249]; rfl) (by decide) ?_
                                                              refine Go.aload_n (k := 1) (i := 1) 1 (by decide +kernel) rfl rfl ?_
                                                              refine Go.aload_n (k := 0) (i := 0) 0 (by decide +kernel) rfl rfl ?_
                                                              refine Go.iload_n (k := 3) (i := 3) 3 (by decide +kernel) rfl rfl ?_
                                                              refine Go.iconst (n := 1) (1 : Int32) (by decide +kernel) rfl ?_
                                                              refine Go.iadd (by decide +kernel) ?_
                                                              obtain ⟨b250, h⟩ := St.ck h
                                                              refine Go.sld hX hbl (inb_in b250) (by decide +kernel) ?_
                                                              refine Go.aload_n (k := 0) (i := 0) 0 (by decide +kernel) rfl rfl ?_
                                                              refine Go.iload_n (k := 3) (i := 3) 3 (by decide +kernel) rfl rfl ?_
                                                              refine Go.iconst (n := 2) (2 : Int32) (by decide +kernel) rfl ?_
                                                              refine Go.iadd (by decide +kernel) ?_
                                                              obtain ⟨b251, h⟩ := St.ck h
                                                              refine Go.sld hX hbl (inb_in b251) (by decide +kernel) ?_
                                                              refine Go.aload_n (k := 0) (i := 0) 0 (by decide +kernel) rfl rfl ?_
                                                              refine Go.iload_n (k := 3) (i := 3) 3 (by decide +kernel) rfl rfl ?_
                                                              refine Go.iconst (n := 3) (3 : Int32) (by decide +kernel) rfl ?_
                                                              refine Go.iadd (by decide +kernel) ?_
                                                              obtain ⟨b252, h⟩ := St.ck h
                                                              refine Go.sld hX hbl (inb_in b252) (by decide +kernel) ?_
                                                              obtain ⟨v253, P254, hv253, h⟩ := St.bd2 h
                                                              refine Go.cV_l (P1 := P254) (v := v253) (d - 1) 0 [.int (xs (x3 + (1 : Int32)).toNatClampNeg), .int (xs (x3 + (2 : Int32)).toNatClampNeg), .int (xs (x3 + (3 : Int32)).toNatClampNeg)] sh0 hE w_Yr_back (e_Yr_back hG hE (d - 1) (by omega) (xs (x3 + (1 : Int32)).toNatClampNeg) (xs (x3 + (2 : Int32)).toNatClampNeg) (xs (x3 + (3 : Int32)).toNatClampNeg) P ⟨_, hv253, rfl, rfl, rfl⟩) lk1144 rfl (by omega) (Nat.le_of_ble_eq_true rfl) (by decide +kernel) _ rfl ?_
                                                              refine Go.aload_n (k := 2) (i := 2) 2 (by decide +kernel) rfl rfl ?_
                                                              refine Go.aload_n (k := 0) (i := 0) 0 (by decide +kernel) rfl rfl ?_
                                                              refine Go.iload_n (k := 3) (i := 3) 3 (by decide +kernel) rfl rfl ?_
                                                              refine Go.iconst (n := 1) (1 : Int32) (by decide +kernel) rfl ?_
                                                              refine Go.iadd (by decide +kernel) ?_
                                                              obtain ⟨b255, h⟩ := St.ck h
                                                              refine Go.sld hX hbl (inb_in b255) (by decide +kernel) ?_
                                                              refine Go.aload_n (k := 0) (i := 0) 0 (by decide +kernel) rfl rfl ?_
                                                              refine Go.iload_n (k := 3) (i := 3) 3 (by decide +kernel) rfl rfl ?_
                                                              refine Go.iconst (n := 2) (2 : Int32) (by decide +kernel) rfl ?_
                                                              refine Go.iadd (by decide +kernel) ?_
                                                              obtain ⟨b256, h⟩ := St.ck h
                                                              refine Go.sld hX hbl (inb_in b256) (by decide +kernel) ?_
                                                              refine Go.aload_n (k := 0) (i := 0) 0 (by decide +kernel) rfl rfl ?_
                                                              refine Go.iload_n (k := 3) (i := 3) 3 (by decide +kernel) rfl rfl ?_
                                                              refine Go.iconst (n := 3) (3 : Int32) (by decide +kernel) rfl ?_
                                                              refine Go.iadd (by decide +kernel) ?_
                                                              obtain ⟨b257, h⟩ := St.ck h
                                                              refine Go.sld hX hbl (inb_in b257) (by decide +kernel) ?_
                                                              obtain ⟨v258, P259, hv258, h⟩ := St.bd2 h
                                                              refine Go.cV_l (P1 := P259) (v := v258) (d - 1) 109 [.int (xs (x3 + (1 : Int32)).toNatClampNeg), .int (xs (x3 + (2 : Int32)).toNatClampNeg), .int (xs (x3 + (3 : Int32)).toNatClampNeg)] sh109 hE w_Mo_back (e_Mo_back hG hE (d - 1) (by omega) (xs (x3 + (1 : Int32)).toNatClampNeg) (xs (x3 + (2 : Int32)).toNatClampNeg) (xs (x3 + (3 : Int32)).toNatClampNeg) P254 ⟨_, hv258, rfl, rfl, rfl⟩) lk1811 rfl (by omega) (Nat.le_of_ble_eq_true rfl) (by decide +kernel) _ rfl ?_
                                                              refine Go.lcmp (by decide +kernel) ?_
                                                              refine Go.if_eq (off := 519) 1565 (by decide +kernel) (by decide) (fun c260 => ?_) (fun c260 => ?_)
                                                              · rw [if_pos c260] at h
                                                                exact t_j_La_law_1565 hG hE d hd b xs L hX hbl (fun z0 Pz => l_La_law_18 xs L n z0 Pz) (fun z0 Pz q => ih z0 Pz q) x3 P259 h
                                                              · rw [if_neg c260] at h
                                                                refine Go.iconst (n := 0) (0 : Int32) (by decide +kernel) rfl ?_
                                                                exact Go.iret rfl rfl hE.2 (by decide +kernel) (St.fIP h)
                                                            · rw [if_neg c249] at h
                                                              by_cases c261 : ((xs x3.toNatClampNeg) &&& (63 : Int32)) = (28 : Int32)
                                                              · rw [if_pos c261] at h
                                                                refine Go.tabIn (dflt := 1532) (lo := 0) (hi := 41) (offs := #[183, 246, 269, 292, 325, 368, 391, 414, 447, 470, 503, 526, 559, 582, 615, 648, 691, 724, 767, 790, 803, 826, 859, 892, 905, 918, 931, 974, 1018, 1071, 1114, 1157, 1200, 1223, 1246, 1290, 1313, 1356, 1430, 1463, 1486, 1509]) (len := 183) (off := 1018) 1051 (by decide +kernel) (by rw [c261]; decide) (by rw [c261]; decide) (by rw [c261]; rfl) (by decide) ?_
                                                                refine Go.aload_n (k := 1) (i := 1) 1 (by decide +kernel) rfl rfl ?_
                                                                refine Go.aload_n (k := 0) (i := 0) 0 (by decide +kernel) rfl rfl ?_
                                                                refine Go.iload_n (k := 3) (i := 3) 3 (by decide +kernel) rfl rfl ?_
                                                                refine Go.iconst (n := 1) (1 : Int32) (by decide +kernel) rfl ?_
                                                                refine Go.iadd (by decide +kernel) ?_
                                                                obtain ⟨b262, h⟩ := St.ck h
                                                                refine Go.sld hX hbl (inb_in b262) (by decide +kernel) ?_
                                                                refine Go.aload_n (k := 0) (i := 0) 0 (by decide +kernel) rfl rfl ?_
                                                                refine Go.iload_n (k := 3) (i := 3) 3 (by decide +kernel) rfl rfl ?_
                                                                refine Go.iconst (n := 2) (2 : Int32) (by decide +kernel) rfl ?_
                                                                refine Go.iadd (by decide +kernel) ?_
                                                                obtain ⟨b263, h⟩ := St.ck h
                                                                refine Go.sld hX hbl (inb_in b263) (by decide +kernel) ?_
                                                                refine Go.aload_n (k := 0) (i := 0) 0 (by decide +kernel) rfl rfl ?_
                                                                refine Go.iload_n (k := 3) (i := 3) 3 (by decide +kernel) rfl rfl ?_
                                                                refine Go.iconst (n := 3) (3 : Int32) (by decide +kernel) rfl ?_
                                                                refine Go.iadd (by decide +kernel) ?_
                                                                obtain ⟨b264, h⟩ := St.ck h
                                                                refine Go.sld hX hbl (inb_in b264) (by decide +kernel) ?_
                                                                refine Go.aload_n (k := 0) (i := 0) 0 (by decide +kernel) rfl rfl ?_
                                                                refine Go.iload_n (k := 3) (i := 3) 3 (by decide +kernel) rfl rfl ?_
                                                                refine Go.iconst (n := 4) (4 : Int32) (by decide +kernel) rfl ?_
                                                                refine Go.iadd (by decide +kernel) ?_
                                                                obtain ⟨b265, h⟩ := St.ck h
                                                                refine Go.sld hX hbl (inb_in b265) (by decide +kernel) ?_
                                                                obtain ⟨v266, P267, hv266, h⟩ := St.bd2 h
                                                                refine Go.cV_i (P1 := P267) (v := v266) (d - 1) 0 [.int (xs (x3 + (1 : Int32)).toNatClampNeg), .int (xs (x3 + (2 : Int32)).toNatClampNeg), .int (xs (x3 + (3 : Int32)).toNatClampNeg), .int (xs (x3 + (4 : Int32)).toNatClampNeg)] sh0 hE w_Yr_backBy (e_Yr_backBy hG hE (d - 1) (by omega) (xs (x3 + (1 : Int32)).toNatClampNeg) (xs (x3 + (2 : Int32)).toNatClampNeg) (xs (x3 + (3 : Int32)).toNatClampNeg) (xs (x3 + (4 : Int32)).toNatClampNeg) P ⟨_, hv266, rfl, rfl, rfl⟩) lk1169 rfl (by omega) (Nat.le_of_ble_eq_true rfl) (by decide +kernel) _ rfl ?_
                                                                refine Go.aload_n (k := 2) (i := 2) 2 (by decide +kernel) rfl rfl ?_
                                                                refine Go.aload_n (k := 0) (i := 0) 0 (by decide +kernel) rfl rfl ?_
                                                                refine Go.iload_n (k := 3) (i := 3) 3 (by decide +kernel) rfl rfl ?_
                                                                refine Go.iconst (n := 1) (1 : Int32) (by decide +kernel) rfl ?_
                                                                refine Go.iadd (by decide +kernel) ?_
                                                                obtain ⟨b268, h⟩ := St.ck h
                                                                refine Go.sld hX hbl (inb_in b268) (by decide +kernel) ?_
                                                                refine Go.aload_n (k := 0) (i := 0) 0 (by decide +kernel) rfl rfl ?_
                                                                refine Go.iload_n (k := 3) (i := 3) 3 (by decide +kernel) rfl rfl ?_
                                                                refine Go.iconst (n := 2) (2 : Int32) (by decide +kernel) rfl ?_
                                                                refine Go.iadd (by decide +kernel) ?_
                                                                obtain ⟨b269, h⟩ := St.ck h
                                                                refine Go.sld hX hbl (inb_in b269) (by decide +kernel) ?_
                                                                refine Go.aload_n (k := 0) (i := 0) 0 (by decide +kernel) rfl rfl ?_
                                                                refine Go.iload_n (k := 3) (i := 3) 3 (by decide +kernel) rfl rfl ?_
                                                                refine Go.iconst (n := 3) (3 : Int32) (by decide +kernel) rfl ?_
                                                                refine Go.iadd (by decide +kernel) ?_
                                                                obtain ⟨b270, h⟩ := St.ck h
                                                                refine Go.sld hX hbl (inb_in b270) (by decide +kernel) ?_
                                                                refine Go.aload_n (k := 0) (i := 0) 0 (by decide +kernel) rfl rfl ?_
                                                                refine Go.iload_n (k := 3) (i := 3) 3 (by decide +kernel) rfl rfl ?_
                                                                refine Go.iconst (n := 4) (4 : Int32) (by decide +kernel) rfl ?_
                                                                refine Go.iadd (by decide +kernel) ?_
                                                                obtain ⟨b271, h⟩ := St.ck h
                                                                refine Go.sld hX hbl (inb_in b271) (by decide +kernel) ?_
                                                                obtain ⟨v272, P273, hv272, h⟩ := St.bd2 h
                                                                refine Go.cV_i (P1 := P273) (v := v272) (d - 1) 109 [.int (xs (x3 + (1 : Int32)).toNatClampNeg), .int (xs (x3 + (2 : Int32)).toNatClampNeg), .int (xs (x3 + (3 : Int32)).toNatClampNeg), .int (xs (x3 + (4 : Int32)).toNatClampNeg)] sh109 hE w_Mo_backBy (e_Mo_backBy hG hE (d - 1) (by omega) (xs (x3 + (1 : Int32)).toNatClampNeg) (xs (x3 + (2 : Int32)).toNatClampNeg) (xs (x3 + (3 : Int32)).toNatClampNeg) (xs (x3 + (4 : Int32)).toNatClampNeg) P267 ⟨_, hv272, rfl, rfl, rfl⟩) lk1823 rfl (by omega) (Nat.le_of_ble_eq_true rfl) (by decide +kernel) _ rfl ?_
                                                                refine Go.icmp_eq (off := 466) 1565 (by decide +kernel) (by decide) (fun c274 => ?_) (fun c274 => ?_)
                                                                · rw [if_pos c274] at h
                                                                  exact t_j_La_law_1565 hG hE d hd b xs L hX hbl (fun z0 Pz => l_La_law_18 xs L n z0 Pz) (fun z0 Pz q => ih z0 Pz q) x3 P273 h
                                                                · rw [if_neg c274] at h
                                                                  refine Go.iconst (n := 0) (0 : Int32) (by decide +kernel) rfl ?_
                                                                  exact Go.iret rfl rfl hE.2 (by decide +kernel) (St.fIP h)
                                                              · rw [if_neg c261] at h
                                                                by_cases c275 : ((xs x3.toNatClampNeg) &&& (63 : Int32)) = (29 : Int32)
                                                                · rw [if_pos c275] at h
                                                                  refine Go.tabIn (dflt := 1532) (lo := 0) (hi := 41) (offs := #[183, 246, 269, 292, 325, 368, 391, 414, 447, 470, 503, 526, 559, 582, 615, 648, 691, 724, 767, 790, 803, 826, 859, 892, 905, 918, 931, 974, 1018, 1071, 1114, 1157, 1200, 1223, 1246, 1290, 1313, 1356, 1430, 1463, 1486, 1509]) (len := 183) (off := 1071) 1104 (by decide +kernel) (by rw [c275]; decide) (by rw [c275]; decide) (by rw [c275]; rfl) (by decide) ?_
                                                                  refine Go.aload_n (k := 1) (i := 1) 1 (by decide +kernel) rfl rfl ?_
                                                                  refine Go.aload_n (k := 0) (i := 0) 0 (by decide +kernel) rfl rfl ?_
                                                                  refine Go.iload_n (k := 3) (i := 3) 3 (by decide +kernel) rfl rfl ?_
                                                                  refine Go.iconst (n := 1) (1 : Int32) (by decide +kernel) rfl ?_
                                                                  refine Go.iadd (by decide +kernel) ?_
                                                                  obtain ⟨b276, h⟩ := St.ck h
                                                                  refine Go.sld hX hbl (inb_in b276) (by decide +kernel) ?_
                                                                  refine Go.aload_n (k := 0) (i := 0) 0 (by decide +kernel) rfl rfl ?_
                                                                  refine Go.iload_n (k := 3) (i := 3) 3 (by decide +kernel) rfl rfl ?_
                                                                  refine Go.iconst (n := 2) (2 : Int32) (by decide +kernel) rfl ?_
                                                                  refine Go.iadd (by decide +kernel) ?_
                                                                  obtain ⟨b277, h⟩ := St.ck h
                                                                  refine Go.sld hX hbl (inb_in b277) (by decide +kernel) ?_
                                                                  refine Go.aload_n (k := 0) (i := 0) 0 (by decide +kernel) rfl rfl ?_
                                                                  refine Go.iload_n (k := 3) (i := 3) 3 (by decide +kernel) rfl rfl ?_
                                                                  refine Go.iconst (n := 3) (3 : Int32) (by decide +kernel) rfl ?_
                                                                  refine Go.iadd (by decide +kernel) ?_
                                                                  obtain ⟨b278, h⟩ := St.ck h
                                                                  refine Go.sld hX hbl (inb_in b278) (by decide +kernel) ?_
                                                                  obtain ⟨v279, P280, hv279, h⟩ := St.bd2 h
                                                                  refine Go.cV_i (P1 := P280) (v := v279) (d - 1) 0 [.int (xs (x3 + (1 : Int32)).toNatClampNeg), .int (xs (x3 + (2 : Int32)).toNatClampNeg), .int (xs (x3 + (3 : Int32)).toNatClampNeg)] sh0 hE w_Yr_surely (e_Yr_surely hG hE (d - 1) (by omega) (xs (x3 + (1 : Int32)).toNatClampNeg) (xs (x3 + (2 : Int32)).toNatClampNeg) (xs (x3 + (3 : Int32)).toNatClampNeg) P ⟨_, hv279, rfl, rfl, rfl⟩) lk1181 rfl (by omega) (Nat.le_of_ble_eq_true rfl) (by decide +kernel) _ rfl ?_
                                                                  refine Go.aload_n (k := 2) (i := 2) 2 (by decide +kernel) rfl rfl ?_
                                                                  refine Go.aload_n (k := 0) (i := 0) 0 (by decide +kernel) rfl rfl ?_
                                                                  refine Go.iload_n (k := 3) (i := 3) 3 (by decide +kernel) rfl rfl ?_
                                                                  refine Go.iconst (n := 1) (1 : Int32) (by decide +kernel) rfl ?_
                                                                  refine Go.iadd (by decide +kernel) ?_
                                                                  obtain ⟨b281, h⟩ := St.ck h
                                                                  refine Go.sld hX hbl (inb_in b281) (by decide +kernel) ?_
                                                                  refine Go.aload_n (k := 0) (i := 0) 0 (by decide +kernel) rfl rfl ?_
                                                                  refine Go.iload_n (k := 3) (i := 3) 3 (by decide +kernel) rfl rfl ?_
                                                                  refine Go.iconst (n := 2) (2 : Int32) (by decide +kernel) rfl ?_
                                                                  refine Go.iadd (by decide +kernel) ?_
                                                                  obtain ⟨b282, h⟩ := St.ck h
                                                                  refine Go.sld hX hbl (inb_in b282) (by decide +kernel) ?_
                                                                  refine Go.aload_n (k := 0) (i := 0) 0 (by decide +kernel) rfl rfl ?_
                                                                  refine Go.iload_n (k := 3) (i := 3) 3 (by decide +kernel) rfl rfl ?_
                                                                  refine Go.iconst (n := 3) (3 : Int32) (by decide +kernel) rfl ?_
                                                                  refine Go.iadd (by decide +kernel) ?_
                                                                  obtain ⟨b283, h⟩ := St.ck h
                                                                  refine Go.sld hX hbl (inb_in b283) (by decide +kernel) ?_
                                                                  obtain ⟨v284, P285, hv284, h⟩ := St.bd2 h
                                                                  refine Go.cV_i (P1 := P285) (v := v284) (d - 1) 109 [.int (xs (x3 + (1 : Int32)).toNatClampNeg), .int (xs (x3 + (2 : Int32)).toNatClampNeg), .int (xs (x3 + (3 : Int32)).toNatClampNeg)] sh109 hE w_Mo_surely (e_Mo_surely hG hE (d - 1) (by omega) (xs (x3 + (1 : Int32)).toNatClampNeg) (xs (x3 + (2 : Int32)).toNatClampNeg) (xs (x3 + (3 : Int32)).toNatClampNeg) P280 ⟨_, hv284, rfl, rfl, rfl⟩) lk1827 rfl (by omega) (Nat.le_of_ble_eq_true rfl) (by decide +kernel) _ rfl ?_
                                                                  refine Go.icmp_eq (off := 423) 1565 (by decide +kernel) (by decide) (fun c286 => ?_) (fun c286 => ?_)
                                                                  · rw [if_pos c286] at h
                                                                    exact t_j_La_law_1565 hG hE d hd b xs L hX hbl (fun z0 Pz => l_La_law_18 xs L n z0 Pz) (fun z0 Pz q => ih z0 Pz q) x3 P285 h
                                                                  · rw [if_neg c286] at h
                                                                    refine Go.iconst (n := 0) (0 : Int32) (by decide +kernel) rfl ?_
                                                                    exact Go.iret rfl rfl hE.2 (by decide +kernel) (St.fIP h)
                                                                · rw [if_neg c275] at h
                                                                  by_cases c287 : ((xs x3.toNatClampNeg) &&& (63 : Int32)) = (30 : Int32)
                                                                  · rw [if_pos c287] at h
                                                                    refine Go.tabIn (dflt := 1532) (lo := 0) (hi := 41) (offs := #[183, 246, 269, 292, 325, 368, 391, 414, 447, 470, 503, 526, 559, 582, 615, 648, 691, 724, 767, 790, 803, 826, 859, 892, 905, 918, 931, 974, 1018, 1071, 1114, 1157, 1200, 1223, 1246, 1290, 1313, 1356, 1430, 1463, 1486, 1509]) (len := 183) (off := 1114) 1147 (by decide +kernel) (by rw [c287]; decide) (by rw [c287]; decide) (by rw [c287]; rfl) (by decide) ?_
                                                                    refine Go.aload_n (k := 1) (i := 1) 1 (by decide +kernel) rfl rfl ?_
                                                                    refine Go.aload_n (k := 0) (i := 0) 0 (by decide +kernel) rfl rfl ?_
                                                                    refine Go.iload_n (k := 3) (i := 3) 3 (by decide +kernel) rfl rfl ?_
                                                                    refine Go.iconst (n := 1) (1 : Int32) (by decide +kernel) rfl ?_
                                                                    refine Go.iadd (by decide +kernel) ?_
                                                                    obtain ⟨b288, h⟩ := St.ck h
                                                                    refine Go.sld hX hbl (inb_in b288) (by decide +kernel) ?_
                                                                    refine Go.aload_n (k := 0) (i := 0) 0 (by decide +kernel) rfl rfl ?_
                                                                    refine Go.iload_n (k := 3) (i := 3) 3 (by decide +kernel) rfl rfl ?_
                                                                    refine Go.iconst (n := 2) (2 : Int32) (by decide +kernel) rfl ?_
                                                                    refine Go.iadd (by decide +kernel) ?_
                                                                    obtain ⟨b289, h⟩ := St.ck h
                                                                    refine Go.sld hX hbl (inb_in b289) (by decide +kernel) ?_
                                                                    refine Go.aload_n (k := 0) (i := 0) 0 (by decide +kernel) rfl rfl ?_
                                                                    refine Go.iload_n (k := 3) (i := 3) 3 (by decide +kernel) rfl rfl ?_
                                                                    refine Go.iconst (n := 3) (3 : Int32) (by decide +kernel) rfl ?_
                                                                    refine Go.iadd (by decide +kernel) ?_
                                                                    obtain ⟨b290, h⟩ := St.ck h
                                                                    refine Go.sld hX hbl (inb_in b290) (by decide +kernel) ?_
                                                                    obtain ⟨v291, P292, hv291, h⟩ := St.bd2 h
                                                                    refine Go.cV_i (P1 := P292) (v := v291) (d - 1) 0 [.int (xs (x3 + (1 : Int32)).toNatClampNeg), .int (xs (x3 + (2 : Int32)).toNatClampNeg), .int (xs (x3 + (3 : Int32)).toNatClampNeg)] sh0 hE w_Yr_dulls (e_Yr_dulls hG hE (d - 1) (by omega) (xs (x3 + (1 : Int32)).toNatClampNeg) (xs (x3 + (2 : Int32)).toNatClampNeg) (xs (x3 + (3 : Int32)).toNatClampNeg) P ⟨_, hv291, rfl, rfl, rfl⟩) lk1189 rfl (by omega) (Nat.le_of_ble_eq_true rfl) (by decide +kernel) _ rfl ?_
                                                                    refine Go.aload_n (k := 2) (i := 2) 2 (by decide +kernel) rfl rfl ?_
                                                                    refine Go.aload_n (k := 0) (i := 0) 0 (by decide +kernel) rfl rfl ?_
                                                                    refine Go.iload_n (k := 3) (i := 3) 3 (by decide +kernel) rfl rfl ?_
                                                                    refine Go.iconst (n := 1) (1 : Int32) (by decide +kernel) rfl ?_
                                                                    refine Go.iadd (by decide +kernel) ?_
                                                                    obtain ⟨b293, h⟩ := St.ck h
                                                                    refine Go.sld hX hbl (inb_in b293) (by decide +kernel) ?_
                                                                    refine Go.aload_n (k := 0) (i := 0) 0 (by decide +kernel) rfl rfl ?_
                                                                    refine Go.iload_n (k := 3) (i := 3) 3 (by decide +kernel) rfl rfl ?_
                                                                    refine Go.iconst (n := 2) (2 : Int32) (by decide +kernel) rfl ?_
                                                                    refine Go.iadd (by decide +kernel) ?_
                                                                    obtain ⟨b294, h⟩ := St.ck h
                                                                    refine Go.sld hX hbl (inb_in b294) (by decide +kernel) ?_
                                                                    refine Go.aload_n (k := 0) (i := 0) 0 (by decide +kernel) rfl rfl ?_
                                                                    refine Go.iload_n (k := 3) (i := 3) 3 (by decide +kernel) rfl rfl ?_
                                                                    refine Go.iconst (n := 3) (3 : Int32) (by decide +kernel) rfl ?_
                                                                    refine Go.iadd (by decide +kernel) ?_
                                                                    obtain ⟨b295, h⟩ := St.ck h
                                                                    refine Go.sld hX hbl (inb_in b295) (by decide +kernel) ?_
                                                                    obtain ⟨v296, P297, hv296, h⟩ := St.bd2 h
                                                                    refine Go.cV_i (P1 := P297) (v := v296) (d - 1) 109 [.int (xs (x3 + (1 : Int32)).toNatClampNeg), .int (xs (x3 + (2 : Int32)).toNatClampNeg), .int (xs (x3 + (3 : Int32)).toNatClampNeg)] sh109 hE w_Mo_dulls (e_Mo_dulls hG hE (d - 1) (by omega) (xs (x3 + (1 : Int32)).toNatClampNeg) (xs (x3 + (2 : Int32)).toNatClampNeg) (xs (x3 + (3 : Int32)).toNatClampNeg) P292 ⟨_, hv296, rfl, rfl, rfl⟩) lk1831 rfl (by omega) (Nat.le_of_ble_eq_true rfl) (by decide +kernel) _ rfl ?_
                                                                    refine Go.icmp_eq (off := 380) 1565 (by decide +kernel) (by decide) (fun c298 => ?_) (fun c298 => ?_)
                                                                    · rw [if_pos c298] at h
                                                                      exact t_j_La_law_1565 hG hE d hd b xs L hX hbl (fun z0 Pz => l_La_law_18 xs L n z0 Pz) (fun z0 Pz q => ih z0 Pz q) x3 P297 h
                                                                    · rw [if_neg c298] at h
                                                                      refine Go.iconst (n := 0) (0 : Int32) (by decide +kernel) rfl ?_
                                                                      exact Go.iret rfl rfl hE.2 (by decide +kernel) (St.fIP h)
                                                                  · rw [if_neg c287] at h
                                                                    by_cases c299 : ((xs x3.toNatClampNeg) &&& (63 : Int32)) = (31 : Int32)
                                                                    · rw [if_pos c299] at h
                                                                      refine Go.tabIn (dflt := 1532) (lo := 0) (hi := 41) (offs := #[183, 246, 269, 292, 325, 368, 391, 414, 447, 470, 503, 526, 559, 582, 615, 648, 691, 724, 767, 790, 803, 826, 859, 892, 905, 918, 931, 974, 1018, 1071, 1114, 1157, 1200, 1223, 1246, 1290, 1313, 1356, 1430, 1463, 1486, 1509]) (len := 183) (off := 1157) 1190 (by decide +kernel) (by rw [c299]; decide) (by rw [c299]; decide) (by rw [c299]; rfl) (by decide) ?_
                                                                      refine Go.aload_n (k := 1) (i := 1) 1 (by decide +kernel) rfl rfl ?_
                                                                      refine Go.aload_n (k := 0) (i := 0) 0 (by decide +kernel) rfl rfl ?_
                                                                      refine Go.iload_n (k := 3) (i := 3) 3 (by decide +kernel) rfl rfl ?_
                                                                      refine Go.iconst (n := 1) (1 : Int32) (by decide +kernel) rfl ?_
                                                                      refine Go.iadd (by decide +kernel) ?_
                                                                      obtain ⟨b300, h⟩ := St.ck h
                                                                      refine Go.sld hX hbl (inb_in b300) (by decide +kernel) ?_
                                                                      refine Go.aload_n (k := 0) (i := 0) 0 (by decide +kernel) rfl rfl ?_
                                                                      refine Go.iload_n (k := 3) (i := 3) 3 (by decide +kernel) rfl rfl ?_
                                                                      refine Go.iconst (n := 2) (2 : Int32) (by decide +kernel) rfl ?_
                                                                      refine Go.iadd (by decide +kernel) ?_
                                                                      obtain ⟨b301, h⟩ := St.ck h
                                                                      refine Go.sld hX hbl (inb_in b301) (by decide +kernel) ?_
                                                                      refine Go.aload_n (k := 0) (i := 0) 0 (by decide +kernel) rfl rfl ?_
                                                                      refine Go.iload_n (k := 3) (i := 3) 3 (by decide +kernel) rfl rfl ?_
                                                                      refine Go.iconst (n := 3) (3 : Int32) (by decide +kernel) rfl ?_
                                                                      refine Go.iadd (by decide +kernel) ?_
                                                                      obtain ⟨b302, h⟩ := St.ck h
                                                                      refine Go.sld hX hbl (inb_in b302) (by decide +kernel) ?_
                                                                      obtain ⟨v303, P304, hv303, h⟩ := St.bd2 h
                                                                      refine Go.cV_i (P1 := P304) (v := v303) (d - 1) 0 [.int (xs (x3 + (1 : Int32)).toNatClampNeg), .int (xs (x3 + (2 : Int32)).toNatClampNeg), .int (xs (x3 + (3 : Int32)).toNatClampNeg)] sh0 hE w_Yr_attempt (e_Yr_attempt hG hE (d - 1) (by omega) (xs (x3 + (1 : Int32)).toNatClampNeg) (xs (x3 + (2 : Int32)).toNatClampNeg) (xs (x3 + (3 : Int32)).toNatClampNeg) P ⟨_, hv303, rfl, rfl, rfl⟩) lk1209 rfl (by omega) (Nat.le_of_ble_eq_true rfl) (by decide +kernel) _ rfl ?_
                                                                      refine Go.aload_n (k := 2) (i := 2) 2 (by decide +kernel) rfl rfl ?_
                                                                      refine Go.aload_n (k := 0) (i := 0) 0 (by decide +kernel) rfl rfl ?_
                                                                      refine Go.iload_n (k := 3) (i := 3) 3 (by decide +kernel) rfl rfl ?_
                                                                      refine Go.iconst (n := 1) (1 : Int32) (by decide +kernel) rfl ?_
                                                                      refine Go.iadd (by decide +kernel) ?_
                                                                      obtain ⟨b305, h⟩ := St.ck h
                                                                      refine Go.sld hX hbl (inb_in b305) (by decide +kernel) ?_
                                                                      refine Go.aload_n (k := 0) (i := 0) 0 (by decide +kernel) rfl rfl ?_
                                                                      refine Go.iload_n (k := 3) (i := 3) 3 (by decide +kernel) rfl rfl ?_
                                                                      refine Go.iconst (n := 2) (2 : Int32) (by decide +kernel) rfl ?_
                                                                      refine Go.iadd (by decide +kernel) ?_
                                                                      obtain ⟨b306, h⟩ := St.ck h
                                                                      refine Go.sld hX hbl (inb_in b306) (by decide +kernel) ?_
                                                                      refine Go.aload_n (k := 0) (i := 0) 0 (by decide +kernel) rfl rfl ?_
                                                                      refine Go.iload_n (k := 3) (i := 3) 3 (by decide +kernel) rfl rfl ?_
                                                                      refine Go.iconst (n := 3) (3 : Int32) (by decide +kernel) rfl ?_
                                                                      refine Go.iadd (by decide +kernel) ?_
                                                                      obtain ⟨b307, h⟩ := St.ck h
                                                                      refine Go.sld hX hbl (inb_in b307) (by decide +kernel) ?_
                                                                      obtain ⟨v308, P309, hv308, h⟩ := St.bd2 h
                                                                      refine Go.cV_i (P1 := P309) (v := v308) (d - 1) 109 [.int (xs (x3 + (1 : Int32)).toNatClampNeg), .int (xs (x3 + (2 : Int32)).toNatClampNeg), .int (xs (x3 + (3 : Int32)).toNatClampNeg)] sh109 hE w_Mo_attempt (e_Mo_attempt hG hE (d - 1) (by omega) (xs (x3 + (1 : Int32)).toNatClampNeg) (xs (x3 + (2 : Int32)).toNatClampNeg) (xs (x3 + (3 : Int32)).toNatClampNeg) P304 ⟨_, hv308, rfl, rfl, rfl⟩) lk1847 rfl (by omega) (Nat.le_of_ble_eq_true rfl) (by decide +kernel) _ rfl ?_
                                                                      refine Go.icmp_eq (off := 337) 1565 (by decide +kernel) (by decide) (fun c310 => ?_) (fun c310 => ?_)
                                                                      · rw [if_pos c310] at h
                                                                        exact t_j_La_law_1565 hG hE d hd b xs L hX hbl (fun z0 Pz => l_La_law_18 xs L n z0 Pz) (fun z0 Pz q => ih z0 Pz q) x3 P309 h
                                                                      · rw [if_neg c310] at h
                                                                        refine Go.iconst (n := 0) (0 : Int32) (by decide +kernel) rfl ?_
                                                                        exact Go.iret rfl rfl hE.2 (by decide +kernel) (St.fIP h)
                                                                    · rw [if_neg c299] at h
                                                                      by_cases c311 : ((xs x3.toNatClampNeg) &&& (63 : Int32)) = (32 : Int32)
                                                                      · rw [if_pos c311] at h
                                                                        refine Go.tabIn (dflt := 1532) (lo := 0) (hi := 41) (offs := #[183, 246, 269, 292, 325, 368, 391, 414, 447, 470, 503, 526, 559, 582, 615, 648, 691, 724, 767, 790, 803, 826, 859, 892, 905, 918, 931, 974, 1018, 1071, 1114, 1157, 1200, 1223, 1246, 1290, 1313, 1356, 1430, 1463, 1486, 1509]) (len := 183) (off := 1200) 1233 (by decide +kernel) (by rw [c311]; decide) (by rw [c311]; decide) (by rw [c311]; rfl) (by decide) ?_
                                                                        refine Go.aload_n (k := 1) (i := 1) 1 (by decide +kernel) rfl rfl ?_
                                                                        refine Go.aload_n (k := 0) (i := 0) 0 (by decide +kernel) rfl rfl ?_
                                                                        refine Go.iload_n (k := 3) (i := 3) 3 (by decide +kernel) rfl rfl ?_
                                                                        refine Go.iconst (n := 1) (1 : Int32) (by decide +kernel) rfl ?_
                                                                        refine Go.iadd (by decide +kernel) ?_
                                                                        obtain ⟨b312, h⟩ := St.ck h
                                                                        refine Go.sld hX hbl (inb_in b312) (by decide +kernel) ?_
                                                                        obtain ⟨v313, P314, hv313, h⟩ := St.bd2 h
                                                                        refine Go.cV_i (P1 := P314) (v := v313) (d - 1) 0 [.int (xs (x3 + (1 : Int32)).toNatClampNeg)] sh0 hE w_Yr_forces (e_Yr_forces hG hE (d - 1) (by omega) (xs (x3 + (1 : Int32)).toNatClampNeg) P ⟨_, hv313, rfl, rfl, rfl⟩) lk1224 rfl (by omega) (Nat.le_of_ble_eq_true rfl) (by decide +kernel) _ rfl ?_
                                                                        refine Go.aload_n (k := 2) (i := 2) 2 (by decide +kernel) rfl rfl ?_
                                                                        refine Go.aload_n (k := 0) (i := 0) 0 (by decide +kernel) rfl rfl ?_
                                                                        refine Go.iload_n (k := 3) (i := 3) 3 (by decide +kernel) rfl rfl ?_
                                                                        refine Go.iconst (n := 1) (1 : Int32) (by decide +kernel) rfl ?_
                                                                        refine Go.iadd (by decide +kernel) ?_
                                                                        obtain ⟨b315, h⟩ := St.ck h
                                                                        refine Go.sld hX hbl (inb_in b315) (by decide +kernel) ?_
                                                                        obtain ⟨v316, P317, hv316, h⟩ := St.bd2 h
                                                                        refine Go.cV_i (P1 := P317) (v := v316) (d - 1) 109 [.int (xs (x3 + (1 : Int32)).toNatClampNeg)] sh109 hE w_Mo_forces (e_Mo_forces hG hE (d - 1) (by omega) (xs (x3 + (1 : Int32)).toNatClampNeg) P314 ⟨_, hv316, rfl, rfl, rfl⟩) lk1855 rfl (by omega) (Nat.le_of_ble_eq_true rfl) (by decide +kernel) _ rfl ?_
                                                                        refine Go.icmp_eq (off := 314) 1565 (by decide +kernel) (by decide) (fun c318 => ?_) (fun c318 => ?_)
                                                                        · rw [if_pos c318] at h
                                                                          exact t_j_La_law_1565 hG hE d hd b xs L hX hbl (fun z0 Pz => l_La_law_18 xs L n z0 Pz) (fun z0 Pz q => ih z0 Pz q) x3 P317 h
                                                                        · rw [if_neg c318] at h
                                                                          refine Go.iconst (n := 0) (0 : Int32) (by decide +kernel) rfl ?_
                                                                          exact Go.iret rfl rfl hE.2 (by decide +kernel) (St.fIP h)
                                                                      · rw [if_neg c311] at h
                                                                        by_cases c319 : ((xs x3.toNatClampNeg) &&& (63 : Int32)) = (33 : Int32)
                                                                        · rw [if_pos c319] at h
                                                                          refine Go.tabIn (dflt := 1532) (lo := 0) (hi := 41) (offs := #[183, 246, 269, 292, 325, 368, 391, 414, 447, 470, 503, 526, 559, 582, 615, 648, 691, 724, 767, 790, 803, 826, 859, 892, 905, 918, 931, 974, 1018, 1071, 1114, 1157, 1200, 1223, 1246, 1290, 1313, 1356, 1430, 1463, 1486, 1509]) (len := 183) (off := 1223) 1256 (by decide +kernel) (by rw [c319]; decide) (by rw [c319]; decide) (by rw [c319]; rfl) (by decide) ?_
                                                                          refine Go.aload_n (k := 1) (i := 1) 1 (by decide +kernel) rfl rfl ?_
                                                                          refine Go.aload_n (k := 0) (i := 0) 0 (by decide +kernel) rfl rfl ?_
                                                                          refine Go.iload_n (k := 3) (i := 3) 3 (by decide +kernel) rfl rfl ?_
                                                                          refine Go.iconst (n := 1) (1 : Int32) (by decide +kernel) rfl ?_
                                                                          refine Go.iadd (by decide +kernel) ?_
                                                                          obtain ⟨b320, h⟩ := St.ck h
                                                                          refine Go.sld hX hbl (inb_in b320) (by decide +kernel) ?_
                                                                          obtain ⟨v321, P322, hv321, h⟩ := St.bd2 h
                                                                          refine Go.cV_i (P1 := P322) (v := v321) (d - 1) 0 [.int (xs (x3 + (1 : Int32)).toNatClampNeg)] sh0 hE w_Yr_best (e_Yr_best hG hE (d - 1) (by omega) (xs (x3 + (1 : Int32)).toNatClampNeg) P ⟨_, hv321, rfl, rfl, rfl⟩) lk1228 rfl (by omega) (Nat.le_of_ble_eq_true rfl) (by decide +kernel) _ rfl ?_
                                                                          refine Go.aload_n (k := 2) (i := 2) 2 (by decide +kernel) rfl rfl ?_
                                                                          refine Go.aload_n (k := 0) (i := 0) 0 (by decide +kernel) rfl rfl ?_
                                                                          refine Go.iload_n (k := 3) (i := 3) 3 (by decide +kernel) rfl rfl ?_
                                                                          refine Go.iconst (n := 1) (1 : Int32) (by decide +kernel) rfl ?_
                                                                          refine Go.iadd (by decide +kernel) ?_
                                                                          obtain ⟨b323, h⟩ := St.ck h
                                                                          refine Go.sld hX hbl (inb_in b323) (by decide +kernel) ?_
                                                                          obtain ⟨v324, P325, hv324, h⟩ := St.bd2 h
                                                                          refine Go.cV_i (P1 := P325) (v := v324) (d - 1) 109 [.int (xs (x3 + (1 : Int32)).toNatClampNeg)] sh109 hE w_Mo_best (e_Mo_best hG hE (d - 1) (by omega) (xs (x3 + (1 : Int32)).toNatClampNeg) P322 ⟨_, hv324, rfl, rfl, rfl⟩) lk1875 rfl (by omega) (Nat.le_of_ble_eq_true rfl) (by decide +kernel) _ rfl ?_
                                                                          refine Go.icmp_eq (off := 291) 1565 (by decide +kernel) (by decide) (fun c326 => ?_) (fun c326 => ?_)
                                                                          · rw [if_pos c326] at h
                                                                            exact t_j_La_law_1565 hG hE d hd b xs L hX hbl (fun z0 Pz => l_La_law_18 xs L n z0 Pz) (fun z0 Pz q => ih z0 Pz q) x3 P325 h
                                                                          · rw [if_neg c326] at h
                                                                            refine Go.iconst (n := 0) (0 : Int32) (by decide +kernel) rfl ?_
                                                                            exact Go.iret rfl rfl hE.2 (by decide +kernel) (St.fIP h)
                                                                        · rw [if_neg c319] at h
                                                                          by_cases c327 : ((xs x3.toNatClampNeg) &&& (63 : Int32)) = (34 : Int32)
                                                                          · rw [if_pos c327] at h
                                                                            refine Go.tabIn (dflt := 1532) (lo := 0) (hi := 41) (offs := #[183, 246, 269, 292, 325, 368, 391, 414, 447, 470, 503, 526, 559, 582, 615, 648, 691, 724, 767, 790, 803, 826, 859, 892, 905, 918, 931, 974, 1018, 1071, 1114, 1157, 1200, 1223, 1246, 1290, 1313, 1356, 1430, 1463, 1486, 1509]) (len := 183) (off := 1246) 1279 (by decide +kernel) (by rw [c327]; decide) (by rw [c327]; decide) (by rw [c327]; rfl) (by decide) ?_
                                                                            refine Go.aload_n (k := 1) (i := 1) 1 (by decide +kernel) rfl rfl ?_
                                                                            refine Go.aload_n (k := 0) (i := 0) 0 (by decide +kernel) rfl rfl ?_
                                                                            refine Go.iload_n (k := 3) (i := 3) 3 (by decide +kernel) rfl rfl ?_
                                                                            refine Go.iconst (n := 1) (1 : Int32) (by decide +kernel) rfl ?_
                                                                            refine Go.iadd (by decide +kernel) ?_
                                                                            obtain ⟨b328, h⟩ := St.ck h
                                                                            refine Go.sld hX hbl (inb_in b328) (by decide +kernel) ?_
                                                                            refine Go.aload_n (k := 0) (i := 0) 0 (by decide +kernel) rfl rfl ?_
                                                                            refine Go.iload_n (k := 3) (i := 3) 3 (by decide +kernel) rfl rfl ?_
                                                                            refine Go.iconst (n := 2) (2 : Int32) (by decide +kernel) rfl ?_
                                                                            refine Go.iadd (by decide +kernel) ?_
                                                                            obtain ⟨b329, h⟩ := St.ck h
                                                                            refine Go.sld hX hbl (inb_in b329) (by decide +kernel) ?_
                                                                            refine Go.aload_n (k := 0) (i := 0) 0 (by decide +kernel) rfl rfl ?_
                                                                            refine Go.iload_n (k := 3) (i := 3) 3 (by decide +kernel) rfl rfl ?_
                                                                            refine Go.iconst (n := 3) (3 : Int32) (by decide +kernel) rfl ?_
                                                                            refine Go.iadd (by decide +kernel) ?_
                                                                            obtain ⟨b330, h⟩ := St.ck h
                                                                            refine Go.sld hX hbl (inb_in b330) (by decide +kernel) ?_
                                                                            obtain ⟨v331, P332, hv331, h⟩ := St.bd2 h
                                                                            refine Go.cV_l (P1 := P332) (v := v331) (d - 1) 0 [.int (xs (x3 + (1 : Int32)).toNatClampNeg), .int (xs (x3 + (2 : Int32)).toNatClampNeg), .int (xs (x3 + (3 : Int32)).toNatClampNeg)] sh0 hE w_Yr_chance (e_Yr_chance hG hE (d - 1) (by omega) (xs (x3 + (1 : Int32)).toNatClampNeg) (xs (x3 + (2 : Int32)).toNatClampNeg) (xs (x3 + (3 : Int32)).toNatClampNeg) P ⟨_, hv331, rfl, rfl, rfl⟩) lk1233 rfl (by omega) (Nat.le_of_ble_eq_true rfl) (by decide +kernel) _ rfl ?_
                                                                            refine Go.aload_n (k := 2) (i := 2) 2 (by decide +kernel) rfl rfl ?_
                                                                            refine Go.aload_n (k := 0) (i := 0) 0 (by decide +kernel) rfl rfl ?_
                                                                            refine Go.iload_n (k := 3) (i := 3) 3 (by decide +kernel) rfl rfl ?_
                                                                            refine Go.iconst (n := 1) (1 : Int32) (by decide +kernel) rfl ?_
                                                                            refine Go.iadd (by decide +kernel) ?_
                                                                            obtain ⟨b333, h⟩ := St.ck h
                                                                            refine Go.sld hX hbl (inb_in b333) (by decide +kernel) ?_
                                                                            refine Go.aload_n (k := 0) (i := 0) 0 (by decide +kernel) rfl rfl ?_
                                                                            refine Go.iload_n (k := 3) (i := 3) 3 (by decide +kernel) rfl rfl ?_
                                                                            refine Go.iconst (n := 2) (2 : Int32) (by decide +kernel) rfl ?_
                                                                            refine Go.iadd (by decide +kernel) ?_
                                                                            obtain ⟨b334, h⟩ := St.ck h
                                                                            refine Go.sld hX hbl (inb_in b334) (by decide +kernel) ?_
                                                                            refine Go.aload_n (k := 0) (i := 0) 0 (by decide +kernel) rfl rfl ?_
                                                                            refine Go.iload_n (k := 3) (i := 3) 3 (by decide +kernel) rfl rfl ?_
                                                                            refine Go.iconst (n := 3) (3 : Int32) (by decide +kernel) rfl ?_
                                                                            refine Go.iadd (by decide +kernel) ?_
                                                                            obtain ⟨b335, h⟩ := St.ck h
                                                                            refine Go.sld hX hbl (inb_in b335) (by decide +kernel) ?_
                                                                            obtain ⟨v336, P337, hv336, h⟩ := St.bd2 h
                                                                            refine Go.cV_l (P1 := P337) (v := v336) (d - 1) 109 [.int (xs (x3 + (1 : Int32)).toNatClampNeg), .int (xs (x3 + (2 : Int32)).toNatClampNeg), .int (xs (x3 + (3 : Int32)).toNatClampNeg)] sh109 hE w_Mo_chance (e_Mo_chance hG hE (d - 1) (by omega) (xs (x3 + (1 : Int32)).toNatClampNeg) (xs (x3 + (2 : Int32)).toNatClampNeg) (xs (x3 + (3 : Int32)).toNatClampNeg) P332 ⟨_, hv336, rfl, rfl, rfl⟩) lk1879 rfl (by omega) (Nat.le_of_ble_eq_true rfl) (by decide +kernel) _ rfl ?_
                                                                            refine Go.lcmp (by decide +kernel) ?_
                                                                            refine Go.if_eq (off := 247) 1565 (by decide +kernel) (by decide) (fun c338 => ?_) (fun c338 => ?_)
                                                                            · rw [if_pos c338] at h
                                                                              exact t_j_La_law_1565 hG hE d hd b xs L hX hbl (fun z0 Pz => l_La_law_18 xs L n z0 Pz) (fun z0 Pz q => ih z0 Pz q) x3 P337 h
                                                                            · rw [if_neg c338] at h
                                                                              refine Go.iconst (n := 0) (0 : Int32) (by decide +kernel) rfl ?_
                                                                              exact Go.iret rfl rfl hE.2 (by decide +kernel) (St.fIP h)
                                                                          · rw [if_neg c327] at h
                                                                            by_cases c339 : ((xs x3.toNatClampNeg) &&& (63 : Int32)) = (35 : Int32)
                                                                            · rw [if_pos c339] at h
                                                                              refine Go.tabIn (dflt := 1532) (lo := 0) (hi := 41) (offs := #[183, 246, 269, 292, 325, 368, 391, 414, 447, 470, 503, 526, 559, 582, 615, 648, 691, 724, 767, 790, 803, 826, 859, 892, 905, 918, 931, 974, 1018, 1071, 1114, 1157, 1200, 1223, 1246, 1290, 1313, 1356, 1430, 1463, 1486, 1509]) (len := 183) (off := 1290) 1323 (by decide +kernel) (by rw [c339]; decide) (by rw [c339]; decide) (by rw [c339]; rfl) (by decide) ?_
                                                                              refine Go.aload_n (k := 1) (i := 1) 1 (by decide +kernel) rfl rfl ?_
                                                                              refine Go.aload_n (k := 0) (i := 0) 0 (by decide +kernel) rfl rfl ?_
                                                                              refine Go.iload_n (k := 3) (i := 3) 3 (by decide +kernel) rfl rfl ?_
                                                                              refine Go.iconst (n := 1) (1 : Int32) (by decide +kernel) rfl ?_
                                                                              refine Go.iadd (by decide +kernel) ?_
                                                                              obtain ⟨b340, h⟩ := St.ck h
                                                                              refine Go.sld hX hbl (inb_in b340) (by decide +kernel) ?_
                                                                              obtain ⟨v341, P342, hv341, h⟩ := St.bd2 h
                                                                              refine Go.cV_i (P1 := P342) (v := v341) (d - 1) 0 [.int (xs (x3 + (1 : Int32)).toNatClampNeg)] sh0 hE w_Yr_likeliest (e_Yr_likeliest hG hE (d - 1) (by omega) (xs (x3 + (1 : Int32)).toNatClampNeg) P ⟨_, hv341, rfl, rfl, rfl⟩) lk1265 rfl (by omega) (Nat.le_of_ble_eq_true rfl) (by decide +kernel) _ rfl ?_
                                                                              refine Go.aload_n (k := 2) (i := 2) 2 (by decide +kernel) rfl rfl ?_
                                                                              refine Go.aload_n (k := 0) (i := 0) 0 (by decide +kernel) rfl rfl ?_
                                                                              refine Go.iload_n (k := 3) (i := 3) 3 (by decide +kernel) rfl rfl ?_
                                                                              refine Go.iconst (n := 1) (1 : Int32) (by decide +kernel) rfl ?_
                                                                              refine Go.iadd (by decide +kernel) ?_
                                                                              obtain ⟨b343, h⟩ := St.ck h
                                                                              refine Go.sld hX hbl (inb_in b343) (by decide +kernel) ?_
                                                                              obtain ⟨v344, P345, hv344, h⟩ := St.bd2 h
                                                                              refine Go.cV_i (P1 := P345) (v := v344) (d - 1) 109 [.int (xs (x3 + (1 : Int32)).toNatClampNeg)] sh109 hE w_Mo_likeliest (e_Mo_likeliest hG hE (d - 1) (by omega) (xs (x3 + (1 : Int32)).toNatClampNeg) P342 ⟨_, hv344, rfl, rfl, rfl⟩) lk1905 rfl (by omega) (Nat.le_of_ble_eq_true rfl) (by decide +kernel) _ rfl ?_
                                                                              refine Go.icmp_eq (off := 224) 1565 (by decide +kernel) (by decide) (fun c346 => ?_) (fun c346 => ?_)
                                                                              · rw [if_pos c346] at h
                                                                                exact t_j_La_law_1565 hG hE d hd b xs L hX hbl (fun z0 Pz => l_La_law_18 xs L n z0 Pz) (fun z0 Pz q => ih z0 Pz q) x3 P345 h
                                                                              · rw [if_neg c346] at h
                                                                                refine Go.iconst (n := 0) (0 : Int32) (by decide +kernel) rfl ?_
                                                                                exact Go.iret rfl rfl hE.2 (by decide +kernel) (St.fIP h)
                                                                            · rw [if_neg c339] at h
                                                                              by_cases c347 : ((xs x3.toNatClampNeg) &&& (63 : Int32)) = (36 : Int32)
                                                                              · rw [if_pos c347] at h
                                                                                refine Go.tabIn (dflt := 1532) (lo := 0) (hi := 41) (offs := #[183, 246, 269, 292, 325, 368, 391, 414, 447, 470, 503, 526, 559, 582, 615, 648, 691, 724, 767, 790, 803, 826, 859, 892, 905, 918, 931, 974, 1018, 1071, 1114, 1157, 1200, 1223, 1246, 1290, 1313, 1356, 1430, 1463, 1486, 1509]) (len := 183) (off := 1313) 1346 (by decide +kernel) (by rw [c347]; decide) (by rw [c347]; decide) (by rw [c347]; rfl) (by decide) ?_
                                                                                refine Go.aload_n (k := 1) (i := 1) 1 (by decide +kernel) rfl rfl ?_
                                                                                refine Go.aload_n (k := 0) (i := 0) 0 (by decide +kernel) rfl rfl ?_
                                                                                refine Go.iload_n (k := 3) (i := 3) 3 (by decide +kernel) rfl rfl ?_
                                                                                refine Go.iconst (n := 1) (1 : Int32) (by decide +kernel) rfl ?_
                                                                                refine Go.iadd (by decide +kernel) ?_
                                                                                obtain ⟨b348, h⟩ := St.ck h
                                                                                refine Go.sld hX hbl (inb_in b348) (by decide +kernel) ?_
                                                                                refine Go.aload_n (k := 0) (i := 0) 0 (by decide +kernel) rfl rfl ?_
                                                                                refine Go.iload_n (k := 3) (i := 3) 3 (by decide +kernel) rfl rfl ?_
                                                                                refine Go.iconst (n := 2) (2 : Int32) (by decide +kernel) rfl ?_
                                                                                refine Go.iadd (by decide +kernel) ?_
                                                                                obtain ⟨b349, h⟩ := St.ck h
                                                                                refine Go.sld hX hbl (inb_in b349) (by decide +kernel) ?_
                                                                                refine Go.aload_n (k := 0) (i := 0) 0 (by decide +kernel) rfl rfl ?_
                                                                                refine Go.iload_n (k := 3) (i := 3) 3 (by decide +kernel) rfl rfl ?_
                                                                                refine Go.iconst (n := 3) (3 : Int32) (by decide +kernel) rfl ?_
                                                                                refine Go.iadd (by decide +kernel) ?_
                                                                                obtain ⟨b350, h⟩ := St.ck h
                                                                                refine Go.sld hX hbl (inb_in b350) (by decide +kernel) ?_
                                                                                obtain ⟨v351, P352, hv351, h⟩ := St.bd2 h
                                                                                refine Go.cV_i (P1 := P352) (v := v351) (d - 1) 0 [.int (xs (x3 + (1 : Int32)).toNatClampNeg), .int (xs (x3 + (2 : Int32)).toNatClampNeg), .int (xs (x3 + (3 : Int32)).toNatClampNeg)] sh0 hE w_Yr_numbers (e_Yr_numbers hG hE (d - 1) (by omega) (xs (x3 + (1 : Int32)).toNatClampNeg) (xs (x3 + (2 : Int32)).toNatClampNeg) (xs (x3 + (3 : Int32)).toNatClampNeg) P ⟨_, hv351, rfl, rfl, rfl⟩) lk1274 rfl (by omega) (Nat.le_of_ble_eq_true rfl) (by decide +kernel) _ rfl ?_
                                                                                refine Go.aload_n (k := 2) (i := 2) 2 (by decide +kernel) rfl rfl ?_
                                                                                refine Go.aload_n (k := 0) (i := 0) 0 (by decide +kernel) rfl rfl ?_
                                                                                refine Go.iload_n (k := 3) (i := 3) 3 (by decide +kernel) rfl rfl ?_
                                                                                refine Go.iconst (n := 1) (1 : Int32) (by decide +kernel) rfl ?_
                                                                                refine Go.iadd (by decide +kernel) ?_
                                                                                obtain ⟨b353, h⟩ := St.ck h
                                                                                refine Go.sld hX hbl (inb_in b353) (by decide +kernel) ?_
                                                                                refine Go.aload_n (k := 0) (i := 0) 0 (by decide +kernel) rfl rfl ?_
                                                                                refine Go.iload_n (k := 3) (i := 3) 3 (by decide +kernel) rfl rfl ?_
                                                                                refine Go.iconst (n := 2) (2 : Int32) (by decide +kernel) rfl ?_
                                                                                refine Go.iadd (by decide +kernel) ?_
                                                                                obtain ⟨b354, h⟩ := St.ck h
                                                                                refine Go.sld hX hbl (inb_in b354) (by decide +kernel) ?_
                                                                                refine Go.aload_n (k := 0) (i := 0) 0 (by decide +kernel) rfl rfl ?_
                                                                                refine Go.iload_n (k := 3) (i := 3) 3 (by decide +kernel) rfl rfl ?_
                                                                                refine Go.iconst (n := 3) (3 : Int32) (by decide +kernel) rfl ?_
                                                                                refine Go.iadd (by decide +kernel) ?_
                                                                                obtain ⟨b355, h⟩ := St.ck h
                                                                                refine Go.sld hX hbl (inb_in b355) (by decide +kernel) ?_
                                                                                obtain ⟨v356, P357, hv356, h⟩ := St.bd2 h
                                                                                refine Go.cV_i (P1 := P357) (v := v356) (d - 1) 109 [.int (xs (x3 + (1 : Int32)).toNatClampNeg), .int (xs (x3 + (2 : Int32)).toNatClampNeg), .int (xs (x3 + (3 : Int32)).toNatClampNeg)] sh109 hE w_Mo_numbers (e_Mo_numbers hG hE (d - 1) (by omega) (xs (x3 + (1 : Int32)).toNatClampNeg) (xs (x3 + (2 : Int32)).toNatClampNeg) (xs (x3 + (3 : Int32)).toNatClampNeg) P352 ⟨_, hv356, rfl, rfl, rfl⟩) lk1909 rfl (by omega) (Nat.le_of_ble_eq_true rfl) (by decide +kernel) _ rfl ?_
                                                                                refine Go.icmp_eq (off := 181) 1565 (by decide +kernel) (by decide) (fun c358 => ?_) (fun c358 => ?_)
                                                                                · rw [if_pos c358] at h
                                                                                  exact t_j_La_law_1565 hG hE d hd b xs L hX hbl (fun z0 Pz => l_La_law_18 xs L n z0 Pz) (fun z0 Pz q => ih z0 Pz q) x3 P357 h
                                                                                · rw [if_neg c358] at h
                                                                                  refine Go.iconst (n := 0) (0 : Int32) (by decide +kernel) rfl ?_
                                                                                  exact Go.iret rfl rfl hE.2 (by decide +kernel) (St.fIP h)
                                                                              · rw [if_neg c347] at h
                                                                                by_cases c359 : ((xs x3.toNatClampNeg) &&& (63 : Int32)) = (37 : Int32)
                                                                                · rw [if_pos c359] at h
                                                                                  refine Go.tabIn (dflt := 1532) (lo := 0) (hi := 41) (offs := #[183, 246, 269, 292, 325, 368, 391, 414, 447, 470, 503, 526, 559, 582, 615, 648, 691, 724, 767, 790, 803, 826, 859, 892, 905, 918, 931, 974, 1018, 1071, 1114, 1157, 1200, 1223, 1246, 1290, 1313, 1356, 1430, 1463, 1486, 1509]) (len := 183) (off := 1356) 1389 (by decide +kernel) (by rw [c359]; decide) (by rw [c359]; decide) (by rw [c359]; rfl) (by decide) ?_
                                                                                  refine Go.aload_n (k := 1) (i := 1) 1 (by decide +kernel) rfl rfl ?_
                                                                                  refine Go.aload_n (k := 0) (i := 0) 0 (by decide +kernel) rfl rfl ?_
                                                                                  refine Go.iload_n (k := 3) (i := 3) 3 (by decide +kernel) rfl rfl ?_
                                                                                  refine Go.iconst (n := 1) (1 : Int32) (by decide +kernel) rfl ?_
                                                                                  refine Go.iadd (by decide +kernel) ?_
                                                                                  obtain ⟨b360, h⟩ := St.ck h
                                                                                  refine Go.sld hX hbl (inb_in b360) (by decide +kernel) ?_
                                                                                  refine Go.aload_n (k := 0) (i := 0) 0 (by decide +kernel) rfl rfl ?_
                                                                                  refine Go.iload_n (k := 3) (i := 3) 3 (by decide +kernel) rfl rfl ?_
                                                                                  refine Go.iconst (n := 2) (2 : Int32) (by decide +kernel) rfl ?_
                                                                                  refine Go.iadd (by decide +kernel) ?_
                                                                                  obtain ⟨b361, h⟩ := St.ck h
                                                                                  refine Go.sld hX hbl (inb_in b361) (by decide +kernel) ?_
                                                                                  refine Go.aload_n (k := 0) (i := 0) 0 (by decide +kernel) rfl rfl ?_
                                                                                  refine Go.iload_n (k := 3) (i := 3) 3 (by decide +kernel) rfl rfl ?_
                                                                                  refine Go.iconst (n := 3) (3 : Int32) (by decide +kernel) rfl ?_
                                                                                  refine Go.iadd (by decide +kernel) ?_
                                                                                  obtain ⟨b362, h⟩ := St.ck h
                                                                                  refine Go.sld hX hbl (inb_in b362) (by decide +kernel) ?_
                                                                                  refine Go.i2l (by decide +kernel) ?_
                                                                                  refine Go.bipush (n := 32) (32 : Int32) (by decide +kernel) (by decide) ?_
                                                                                  refine Go.lshl (by decide +kernel) ?_
                                                                                  refine Go.aload_n (k := 0) (i := 0) 0 (by decide +kernel) rfl rfl ?_
                                                                                  refine Go.iload_n (k := 3) (i := 3) 3 (by decide +kernel) rfl rfl ?_
                                                                                  refine Go.iconst (n := 4) (4 : Int32) (by decide +kernel) rfl ?_
                                                                                  refine Go.iadd (by decide +kernel) ?_
                                                                                  obtain ⟨b363, h⟩ := St.ck h
                                                                                  refine Go.sld hX hbl (inb_in b363) (by decide +kernel) ?_
                                                                                  refine Go.i2l (by decide +kernel) ?_
                                                                                  refine Go.ldc2 (4294967295 : Int64) lk1941 (by decide +kernel) ?_
                                                                                  refine Go.land (by decide +kernel) ?_
                                                                                  refine Go.lor (by decide +kernel) ?_
                                                                                  obtain ⟨v364, P365, hv364, h⟩ := St.bd2 h
                                                                                  refine Go.cV_l (P1 := P365) (v := v364) (d - 1) 0 [.int (xs (x3 + (1 : Int32)).toNatClampNeg), .int (xs (x3 + (2 : Int32)).toNatClampNeg), .long ((((xs (x3 + (3 : Int32)).toNatClampNeg).toInt64) <<< ((32 : Int32).toInt64 &&& 63)) ||| (((xs (x3 + (4 : Int32)).toNatClampNeg).toInt64) &&& (4294967295 : Int64)))] sh0 hE w_Yr_write (e_Yr_write hG hE (d - 1) (by omega) (xs (x3 + (1 : Int32)).toNatClampNeg) (xs (x3 + (2 : Int32)).toNatClampNeg) ((((xs (x3 + (3 : Int32)).toNatClampNeg).toInt64) <<< ((32 : Int32).toInt64 &&& 63)) ||| (((xs (x3 + (4 : Int32)).toNatClampNeg).toInt64) &&& (4294967295 : Int64))) P ⟨_, hv364, rfl, rfl, rfl⟩) lk1283 rfl (by omega) (Nat.le_of_ble_eq_true rfl) (by decide +kernel) _ rfl ?_
                                                                                  refine Go.aload_n (k := 2) (i := 2) 2 (by decide +kernel) rfl rfl ?_
                                                                                  refine Go.aload_n (k := 0) (i := 0) 0 (by decide +kernel) rfl rfl ?_
                                                                                  refine Go.iload_n (k := 3) (i := 3) 3 (by decide +kernel) rfl rfl ?_
                                                                                  refine Go.iconst (n := 1) (1 : Int32) (by decide +kernel) rfl ?_
                                                                                  refine Go.iadd (by decide +kernel) ?_
                                                                                  obtain ⟨b366, h⟩ := St.ck h
                                                                                  refine Go.sld hX hbl (inb_in b366) (by decide +kernel) ?_
                                                                                  refine Go.aload_n (k := 0) (i := 0) 0 (by decide +kernel) rfl rfl ?_
                                                                                  refine Go.iload_n (k := 3) (i := 3) 3 (by decide +kernel) rfl rfl ?_
                                                                                  refine Go.iconst (n := 2) (2 : Int32) (by decide +kernel) rfl ?_
                                                                                  refine Go.iadd (by decide +kernel) ?_
                                                                                  obtain ⟨b367, h⟩ := St.ck h
                                                                                  refine Go.sld hX hbl (inb_in b367) (by decide +kernel) ?_
                                                                                  refine Go.aload_n (k := 0) (i := 0) 0 (by decide +kernel) rfl rfl ?_
                                                                                  refine Go.iload_n (k := 3) (i := 3) 3 (by decide +kernel) rfl rfl ?_
                                                                                  refine Go.iconst (n := 3) (3 : Int32) (by decide +kernel) rfl ?_
                                                                                  refine Go.iadd (by decide +kernel) ?_
                                                                                  obtain ⟨b368, h⟩ := St.ck h
                                                                                  refine Go.sld hX hbl (inb_in b368) (by decide +kernel) ?_
                                                                                  refine Go.i2l (by decide +kernel) ?_
                                                                                  refine Go.bipush (n := 32) (32 : Int32) (by decide +kernel) (by decide) ?_
                                                                                  refine Go.lshl (by decide +kernel) ?_
                                                                                  refine Go.aload_n (k := 0) (i := 0) 0 (by decide +kernel) rfl rfl ?_
                                                                                  refine Go.iload_n (k := 3) (i := 3) 3 (by decide +kernel) rfl rfl ?_
                                                                                  refine Go.iconst (n := 4) (4 : Int32) (by decide +kernel) rfl ?_
                                                                                  refine Go.iadd (by decide +kernel) ?_
                                                                                  obtain ⟨b369, h⟩ := St.ck h
                                                                                  refine Go.sld hX hbl (inb_in b369) (by decide +kernel) ?_
                                                                                  refine Go.i2l (by decide +kernel) ?_
                                                                                  refine Go.ldc2 (4294967295 : Int64) lk1941 (by decide +kernel) ?_
                                                                                  refine Go.land (by decide +kernel) ?_
                                                                                  refine Go.lor (by decide +kernel) ?_
                                                                                  obtain ⟨v370, P371, hv370, h⟩ := St.bd2 h
                                                                                  refine Go.cV_l (P1 := P371) (v := v370) (d - 1) 109 [.int (xs (x3 + (1 : Int32)).toNatClampNeg), .int (xs (x3 + (2 : Int32)).toNatClampNeg), .long ((((xs (x3 + (3 : Int32)).toNatClampNeg).toInt64) <<< ((32 : Int32).toInt64 &&& 63)) ||| (((xs (x3 + (4 : Int32)).toNatClampNeg).toInt64) &&& (4294967295 : Int64)))] sh109 hE w_Mo_write (e_Mo_write hG hE (d - 1) (by omega) (xs (x3 + (1 : Int32)).toNatClampNeg) (xs (x3 + (2 : Int32)).toNatClampNeg) ((((xs (x3 + (3 : Int32)).toNatClampNeg).toInt64) <<< ((32 : Int32).toInt64 &&& 63)) ||| (((xs (x3 + (4 : Int32)).toNatClampNeg).toInt64) &&& (4294967295 : Int64))) P365 ⟨_, hv370, rfl, rfl, rfl⟩) lk1913 rfl (by omega) (Nat.le_of_ble_eq_true rfl) (by decide +kernel) _ rfl ?_
                                                                                  refine Go.lcmp (by decide +kernel) ?_
                                                                                  refine Go.if_eq (off := 107) 1565 (by decide +kernel) (by decide) (fun c372 => ?_) (fun c372 => ?_)
                                                                                  · rw [if_pos c372] at h
                                                                                    exact t_j_La_law_1565 hG hE d hd b xs L hX hbl (fun z0 Pz => l_La_law_18 xs L n z0 Pz) (fun z0 Pz q => ih z0 Pz q) x3 P371 h
                                                                                  · rw [if_neg c372] at h
                                                                                    refine Go.iconst (n := 0) (0 : Int32) (by decide +kernel) rfl ?_
                                                                                    exact Go.iret rfl rfl hE.2 (by decide +kernel) (St.fIP h)
                                                                                · rw [if_neg c359] at h
                                                                                  by_cases c373 : ((xs x3.toNatClampNeg) &&& (63 : Int32)) = (38 : Int32)
                                                                                  · rw [if_pos c373] at h
                                                                                    refine Go.tabIn (dflt := 1532) (lo := 0) (hi := 41) (offs := #[183, 246, 269, 292, 325, 368, 391, 414, 447, 470, 503, 526, 559, 582, 615, 648, 691, 724, 767, 790, 803, 826, 859, 892, 905, 918, 931, 974, 1018, 1071, 1114, 1157, 1200, 1223, 1246, 1290, 1313, 1356, 1430, 1463, 1486, 1509]) (len := 183) (off := 1430) 1463 (by decide +kernel) (by rw [c373]; decide) (by rw [c373]; decide) (by rw [c373]; rfl) (by decide) ?_
                                                                                    refine Go.aload_n (k := 1) (i := 1) 1 (by decide +kernel) rfl rfl ?_
                                                                                    refine Go.aload_n (k := 0) (i := 0) 0 (by decide +kernel) rfl rfl ?_
                                                                                    refine Go.iload_n (k := 3) (i := 3) 3 (by decide +kernel) rfl rfl ?_
                                                                                    refine Go.iconst (n := 1) (1 : Int32) (by decide +kernel) rfl ?_
                                                                                    refine Go.iadd (by decide +kernel) ?_
                                                                                    obtain ⟨b374, h⟩ := St.ck h
                                                                                    refine Go.sld hX hbl (inb_in b374) (by decide +kernel) ?_
                                                                                    refine Go.aload_n (k := 0) (i := 0) 0 (by decide +kernel) rfl rfl ?_
                                                                                    refine Go.iload_n (k := 3) (i := 3) 3 (by decide +kernel) rfl rfl ?_
                                                                                    refine Go.iconst (n := 2) (2 : Int32) (by decide +kernel) rfl ?_
                                                                                    refine Go.iadd (by decide +kernel) ?_
                                                                                    obtain ⟨b375, h⟩ := St.ck h
                                                                                    refine Go.sld hX hbl (inb_in b375) (by decide +kernel) ?_
                                                                                    obtain ⟨v376, P377, hv376, h⟩ := St.bd2 h
                                                                                    refine Go.cV_i (P1 := P377) (v := v376) (d - 1) 0 [.int (xs (x3 + (1 : Int32)).toNatClampNeg), .int (xs (x3 + (2 : Int32)).toNatClampNeg)] sh0 hE w_Yr_lists (e_Yr_lists hG hE (d - 1) (by omega) (xs (x3 + (1 : Int32)).toNatClampNeg) (xs (x3 + (2 : Int32)).toNatClampNeg) P ⟨_, hv376, rfl, rfl, rfl⟩) lk1298 rfl (by omega) (Nat.le_of_ble_eq_true rfl) (by decide +kernel) _ rfl ?_
                                                                                    refine Go.aload_n (k := 2) (i := 2) 2 (by decide +kernel) rfl rfl ?_
                                                                                    refine Go.aload_n (k := 0) (i := 0) 0 (by decide +kernel) rfl rfl ?_
                                                                                    refine Go.iload_n (k := 3) (i := 3) 3 (by decide +kernel) rfl rfl ?_
                                                                                    refine Go.iconst (n := 1) (1 : Int32) (by decide +kernel) rfl ?_
                                                                                    refine Go.iadd (by decide +kernel) ?_
                                                                                    obtain ⟨b378, h⟩ := St.ck h
                                                                                    refine Go.sld hX hbl (inb_in b378) (by decide +kernel) ?_
                                                                                    refine Go.aload_n (k := 0) (i := 0) 0 (by decide +kernel) rfl rfl ?_
                                                                                    refine Go.iload_n (k := 3) (i := 3) 3 (by decide +kernel) rfl rfl ?_
                                                                                    refine Go.iconst (n := 2) (2 : Int32) (by decide +kernel) rfl ?_
                                                                                    refine Go.iadd (by decide +kernel) ?_
                                                                                    obtain ⟨b379, h⟩ := St.ck h
                                                                                    refine Go.sld hX hbl (inb_in b379) (by decide +kernel) ?_
                                                                                    obtain ⟨v380, P381, hv380, h⟩ := St.bd2 h
                                                                                    refine Go.cV_i (P1 := P381) (v := v380) (d - 1) 109 [.int (xs (x3 + (1 : Int32)).toNatClampNeg), .int (xs (x3 + (2 : Int32)).toNatClampNeg)] sh109 hE w_Mo_lists (e_Mo_lists hG hE (d - 1) (by omega) (xs (x3 + (1 : Int32)).toNatClampNeg) (xs (x3 + (2 : Int32)).toNatClampNeg) P377 ⟨_, hv380, rfl, rfl, rfl⟩) lk1921 rfl (by omega) (Nat.le_of_ble_eq_true rfl) (by decide +kernel) _ rfl ?_
                                                                                    refine Go.icmp_eq (off := 74) 1565 (by decide +kernel) (by decide) (fun c382 => ?_) (fun c382 => ?_)
                                                                                    · rw [if_pos c382] at h
                                                                                      exact t_j_La_law_1565 hG hE d hd b xs L hX hbl (fun z0 Pz => l_La_law_18 xs L n z0 Pz) (fun z0 Pz q => ih z0 Pz q) x3 P381 h
                                                                                    · rw [if_neg c382] at h
                                                                                      refine Go.iconst (n := 0) (0 : Int32) (by decide +kernel) rfl ?_
                                                                                      exact Go.iret rfl rfl hE.2 (by decide +kernel) (St.fIP h)
                                                                                  · rw [if_neg c373] at h
                                                                                    by_cases c383 : ((xs x3.toNatClampNeg) &&& (63 : Int32)) = (39 : Int32)
                                                                                    · rw [if_pos c383] at h
                                                                                      refine Go.tabIn (dflt := 1532) (lo := 0) (hi := 41) (offs := #[183, 246, 269, 292, 325, 368, 391, 414, 447, 470, 503, 526, 559, 582, 615, 648, 691, 724, 767, 790, 803, 826, 859, 892, 905, 918, 931, 974, 1018, 1071, 1114, 1157, 1200, 1223, 1246, 1290, 1313, 1356, 1430, 1463, 1486, 1509]) (len := 183) (off := 1463) 1496 (by decide +kernel) (by rw [c383]; decide) (by rw [c383]; decide) (by rw [c383]; rfl) (by decide) ?_
                                                                                      refine Go.aload_n (k := 1) (i := 1) 1 (by decide +kernel) rfl rfl ?_
                                                                                      refine Go.aload_n (k := 0) (i := 0) 0 (by decide +kernel) rfl rfl ?_
                                                                                      refine Go.iload_n (k := 3) (i := 3) 3 (by decide +kernel) rfl rfl ?_
                                                                                      refine Go.iconst (n := 1) (1 : Int32) (by decide +kernel) rfl ?_
                                                                                      refine Go.iadd (by decide +kernel) ?_
                                                                                      obtain ⟨b384, h⟩ := St.ck h
                                                                                      refine Go.sld hX hbl (inb_in b384) (by decide +kernel) ?_
                                                                                      obtain ⟨v385, P386, hv385, h⟩ := St.bd2 h
                                                                                      refine Go.cV_i (P1 := P386) (v := v385) (d - 1) 0 [.int (xs (x3 + (1 : Int32)).toNatClampNeg)] sh0 hE w_Yr_image (e_Yr_image hG hE (d - 1) (by omega) (xs (x3 + (1 : Int32)).toNatClampNeg) P ⟨_, hv385, rfl, rfl, rfl⟩) lk1303 rfl (by omega) (Nat.le_of_ble_eq_true rfl) (by decide +kernel) _ rfl ?_
                                                                                      refine Go.aload_n (k := 2) (i := 2) 2 (by decide +kernel) rfl rfl ?_
                                                                                      refine Go.aload_n (k := 0) (i := 0) 0 (by decide +kernel) rfl rfl ?_
                                                                                      refine Go.iload_n (k := 3) (i := 3) 3 (by decide +kernel) rfl rfl ?_
                                                                                      refine Go.iconst (n := 1) (1 : Int32) (by decide +kernel) rfl ?_
                                                                                      refine Go.iadd (by decide +kernel) ?_
                                                                                      obtain ⟨b387, h⟩ := St.ck h
                                                                                      refine Go.sld hX hbl (inb_in b387) (by decide +kernel) ?_
                                                                                      obtain ⟨v388, P389, hv388, h⟩ := St.bd2 h
                                                                                      refine Go.cV_i (P1 := P389) (v := v388) (d - 1) 109 [.int (xs (x3 + (1 : Int32)).toNatClampNeg)] sh109 hE w_Mo_image (e_Mo_image hG hE (d - 1) (by omega) (xs (x3 + (1 : Int32)).toNatClampNeg) P386 ⟨_, hv388, rfl, rfl, rfl⟩) lk1925 rfl (by omega) (Nat.le_of_ble_eq_true rfl) (by decide +kernel) _ rfl ?_
                                                                                      refine Go.icmp_eq (off := 51) 1565 (by decide +kernel) (by decide) (fun c390 => ?_) (fun c390 => ?_)
                                                                                      · rw [if_pos c390] at h
                                                                                        exact t_j_La_law_1565 hG hE d hd b xs L hX hbl (fun z0 Pz => l_La_law_18 xs L n z0 Pz) (fun z0 Pz q => ih z0 Pz q) x3 P389 h
                                                                                      · rw [if_neg c390] at h
                                                                                        refine Go.iconst (n := 0) (0 : Int32) (by decide +kernel) rfl ?_
                                                                                        exact Go.iret rfl rfl hE.2 (by decide +kernel) (St.fIP h)
                                                                                    · rw [if_neg c383] at h
                                                                                      by_cases c391 : ((xs x3.toNatClampNeg) &&& (63 : Int32)) = (40 : Int32)
                                                                                      · rw [if_pos c391] at h
                                                                                        refine Go.tabIn (dflt := 1532) (lo := 0) (hi := 41) (offs := #[183, 246, 269, 292, 325, 368, 391, 414, 447, 470, 503, 526, 559, 582, 615, 648, 691, 724, 767, 790, 803, 826, 859, 892, 905, 918, 931, 974, 1018, 1071, 1114, 1157, 1200, 1223, 1246, 1290, 1313, 1356, 1430, 1463, 1486, 1509]) (len := 183) (off := 1486) 1519 (by decide +kernel) (by rw [c391]; decide) (by rw [c391]; decide) (by rw [c391]; rfl) (by decide) ?_
                                                                                        refine Go.aload_n (k := 1) (i := 1) 1 (by decide +kernel) rfl rfl ?_
                                                                                        refine Go.aload_n (k := 0) (i := 0) 0 (by decide +kernel) rfl rfl ?_
                                                                                        refine Go.iload_n (k := 3) (i := 3) 3 (by decide +kernel) rfl rfl ?_
                                                                                        refine Go.iconst (n := 1) (1 : Int32) (by decide +kernel) rfl ?_
                                                                                        refine Go.iadd (by decide +kernel) ?_
                                                                                        obtain ⟨b392, h⟩ := St.ck h
                                                                                        refine Go.sld hX hbl (inb_in b392) (by decide +kernel) ?_
                                                                                        obtain ⟨v393, P394, hv393, h⟩ := St.bd2 h
                                                                                        refine Go.cV_i (P1 := P394) (v := v393) (d - 1) 0 [.int (xs (x3 + (1 : Int32)).toNatClampNeg)] sh0 hE w_Yr_restore (e_Yr_restore hG hE (d - 1) (by omega) (xs (x3 + (1 : Int32)).toNatClampNeg) P ⟨_, hv393, rfl, rfl, rfl⟩) lk1307 rfl (by omega) (Nat.le_of_ble_eq_true rfl) (by decide +kernel) _ rfl ?_
                                                                                        refine Go.aload_n (k := 2) (i := 2) 2 (by decide +kernel) rfl rfl ?_
                                                                                        refine Go.aload_n (k := 0) (i := 0) 0 (by decide +kernel) rfl rfl ?_
                                                                                        refine Go.iload_n (k := 3) (i := 3) 3 (by decide +kernel) rfl rfl ?_
                                                                                        refine Go.iconst (n := 1) (1 : Int32) (by decide +kernel) rfl ?_
                                                                                        refine Go.iadd (by decide +kernel) ?_
                                                                                        obtain ⟨b395, h⟩ := St.ck h
                                                                                        refine Go.sld hX hbl (inb_in b395) (by decide +kernel) ?_
                                                                                        obtain ⟨v396, P397, hv396, h⟩ := St.bd2 h
                                                                                        refine Go.cV_i (P1 := P397) (v := v396) (d - 1) 109 [.int (xs (x3 + (1 : Int32)).toNatClampNeg)] sh109 hE w_Mo_restore (e_Mo_restore hG hE (d - 1) (by omega) (xs (x3 + (1 : Int32)).toNatClampNeg) P394 ⟨_, hv396, rfl, rfl, rfl⟩) lk1929 rfl (by omega) (Nat.le_of_ble_eq_true rfl) (by decide +kernel) _ rfl ?_
                                                                                        refine Go.icmp_eq (off := 28) 1565 (by decide +kernel) (by decide) (fun c398 => ?_) (fun c398 => ?_)
                                                                                        · rw [if_pos c398] at h
                                                                                          exact t_j_La_law_1565 hG hE d hd b xs L hX hbl (fun z0 Pz => l_La_law_18 xs L n z0 Pz) (fun z0 Pz q => ih z0 Pz q) x3 P397 h
                                                                                        · rw [if_neg c398] at h
                                                                                          refine Go.iconst (n := 0) (0 : Int32) (by decide +kernel) rfl ?_
                                                                                          exact Go.iret rfl rfl hE.2 (by decide +kernel) (St.fIP h)
                                                                                      · rw [if_neg c391] at h
                                                                                        by_cases c399 : ((xs x3.toNatClampNeg) &&& (63 : Int32)) = (41 : Int32)
                                                                                        · rw [if_pos c399] at h
                                                                                          refine Go.tabIn (dflt := 1532) (lo := 0) (hi := 41) (offs := #[183, 246, 269, 292, 325, 368, 391, 414, 447, 470, 503, 526, 559, 582, 615, 648, 691, 724, 767, 790, 803, 826, 859, 892, 905, 918, 931, 974, 1018, 1071, 1114, 1157, 1200, 1223, 1246, 1290, 1313, 1356, 1430, 1463, 1486, 1509]) (len := 183) (off := 1509) 1542 (by decide +kernel) (by rw [c399]; decide) (by rw [c399]; decide) (by rw [c399]; rfl) (by decide) ?_
                                                                                          refine Go.aload_n (k := 1) (i := 1) 1 (by decide +kernel) rfl rfl ?_
                                                                                          refine Go.aload_n (k := 0) (i := 0) 0 (by decide +kernel) rfl rfl ?_
                                                                                          refine Go.iload_n (k := 3) (i := 3) 3 (by decide +kernel) rfl rfl ?_
                                                                                          refine Go.iconst (n := 1) (1 : Int32) (by decide +kernel) rfl ?_
                                                                                          refine Go.iadd (by decide +kernel) ?_
                                                                                          obtain ⟨b400, h⟩ := St.ck h
                                                                                          refine Go.sld hX hbl (inb_in b400) (by decide +kernel) ?_
                                                                                          obtain ⟨v401, hv401, h⟩ := St.bind h
                                                                                          refine Go.cV_i (P1 := P) (v := v401) (d - 1) 0 [.int (xs (x3 + (1 : Int32)).toNatClampNeg)] sh0 hE w_Yr_count (e_Yr_count hG hE (d - 1) (by omega) (xs (x3 + (1 : Int32)).toNatClampNeg) P ⟨_, hv401, rfl, rfl, rfl⟩) lk1311 rfl (by omega) (Nat.le_of_ble_eq_true rfl) (by decide +kernel) _ rfl ?_
                                                                                          refine Go.aload_n (k := 2) (i := 2) 2 (by decide +kernel) rfl rfl ?_
                                                                                          refine Go.aload_n (k := 0) (i := 0) 0 (by decide +kernel) rfl rfl ?_
                                                                                          refine Go.iload_n (k := 3) (i := 3) 3 (by decide +kernel) rfl rfl ?_
                                                                                          refine Go.iconst (n := 1) (1 : Int32) (by decide +kernel) rfl ?_
                                                                                          refine Go.iadd (by decide +kernel) ?_
                                                                                          obtain ⟨b402, h⟩ := St.ck h
                                                                                          refine Go.sld hX hbl (inb_in b402) (by decide +kernel) ?_
                                                                                          obtain ⟨v403, P404, hv403, h⟩ := St.bd2 h
                                                                                          refine Go.cV_i (P1 := P404) (v := v403) (d - 1) 109 [.int (xs (x3 + (1 : Int32)).toNatClampNeg)] sh109 hE w_Mo_count (e_Mo_count hG hE (d - 1) (by omega) (xs (x3 + (1 : Int32)).toNatClampNeg) P ⟨_, hv403, rfl, rfl, rfl⟩) lk1933 rfl (by omega) (Nat.le_of_ble_eq_true rfl) (by decide +kernel) _ rfl ?_
                                                                                          refine Go.icmp_eq (off := 5) 1565 (by decide +kernel) (by decide) (fun c405 => ?_) (fun c405 => ?_)
                                                                                          · rw [if_pos c405] at h
                                                                                            exact t_j_La_law_1565 hG hE d hd b xs L hX hbl (fun z0 Pz => l_La_law_18 xs L n z0 Pz) (fun z0 Pz q => ih z0 Pz q) x3 P404 h
                                                                                          · rw [if_neg c405] at h
                                                                                            refine Go.iconst (n := 0) (0 : Int32) (by decide +kernel) rfl ?_
                                                                                            exact Go.iret rfl rfl hE.2 (by decide +kernel) (St.fIP h)
                                                                                        · rw [if_neg c399] at h
                                                                                          have qc3 := lv_neT (k := (0 : Int32)) (a := 0) c3 (by decide)
                                                                                          have qc19 := lv_neT (k := (1 : Int32)) (a := 1) c19 (by decide)
                                                                                          have qc27 := lv_neT (k := (2 : Int32)) (a := 2) c27 (by decide)
                                                                                          have qc33 := lv_neT (k := (3 : Int32)) (a := 3) c33 (by decide)
                                                                                          have qc42 := lv_neT (k := (4 : Int32)) (a := 4) c42 (by decide)
                                                                                          have qc53 := lv_neT (k := (5 : Int32)) (a := 5) c53 (by decide)
                                                                                          have qc61 := lv_neT (k := (6 : Int32)) (a := 6) c61 (by decide)
                                                                                          have qc69 := lv_neT (k := (7 : Int32)) (a := 7) c69 (by decide)
                                                                                          have qc79 := lv_neT (k := (8 : Int32)) (a := 8) c79 (by decide)
                                                                                          have qc87 := lv_neT (k := (9 : Int32)) (a := 9) c87 (by decide)
                                                                                          have qc97 := lv_neT (k := (10 : Int32)) (a := 10) c97 (by decide)
                                                                                          have qc105 := lv_neT (k := (11 : Int32)) (a := 11) c105 (by decide)
                                                                                          have qc115 := lv_neT (k := (12 : Int32)) (a := 12) c115 (by decide)
                                                                                          have qc123 := lv_neT (k := (13 : Int32)) (a := 13) c123 (by decide)
                                                                                          have qc133 := lv_neT (k := (14 : Int32)) (a := 14) c133 (by decide)
                                                                                          have qc143 := lv_neT (k := (15 : Int32)) (a := 15) c143 (by decide)
                                                                                          have qc155 := lv_neT (k := (16 : Int32)) (a := 16) c155 (by decide)
                                                                                          have qc165 := lv_neT (k := (17 : Int32)) (a := 17) c165 (by decide)
                                                                                          have qc177 := lv_neT (k := (18 : Int32)) (a := 18) c177 (by decide)
                                                                                          have qc185 := lv_neT (k := (19 : Int32)) (a := 19) c185 (by decide)
                                                                                          have qc191 := lv_neT (k := (20 : Int32)) (a := 20) c191 (by decide)
                                                                                          have qc199 := lv_neT (k := (21 : Int32)) (a := 21) c199 (by decide)
                                                                                          have qc209 := lv_neT (k := (22 : Int32)) (a := 22) c209 (by decide)
                                                                                          have qc219 := lv_neT (k := (23 : Int32)) (a := 23) c219 (by decide)
                                                                                          have qc225 := lv_neT (k := (24 : Int32)) (a := 24) c225 (by decide)
                                                                                          have qc231 := lv_neT (k := (25 : Int32)) (a := 25) c231 (by decide)
                                                                                          have qc237 := lv_neT (k := (26 : Int32)) (a := 26) c237 (by decide)
                                                                                          have qc249 := lv_neT (k := (27 : Int32)) (a := 27) c249 (by decide)
                                                                                          have qc261 := lv_neT (k := (28 : Int32)) (a := 28) c261 (by decide)
                                                                                          have qc275 := lv_neT (k := (29 : Int32)) (a := 29) c275 (by decide)
                                                                                          have qc287 := lv_neT (k := (30 : Int32)) (a := 30) c287 (by decide)
                                                                                          have qc299 := lv_neT (k := (31 : Int32)) (a := 31) c299 (by decide)
                                                                                          have qc311 := lv_neT (k := (32 : Int32)) (a := 32) c311 (by decide)
                                                                                          have qc319 := lv_neT (k := (33 : Int32)) (a := 33) c319 (by decide)
                                                                                          have qc327 := lv_neT (k := (34 : Int32)) (a := 34) c327 (by decide)
                                                                                          have qc339 := lv_neT (k := (35 : Int32)) (a := 35) c339 (by decide)
                                                                                          have qc347 := lv_neT (k := (36 : Int32)) (a := 36) c347 (by decide)
                                                                                          have qc359 := lv_neT (k := (37 : Int32)) (a := 37) c359 (by decide)
                                                                                          have qc373 := lv_neT (k := (38 : Int32)) (a := 38) c373 (by decide)
                                                                                          have qc383 := lv_neT (k := (39 : Int32)) (a := 39) c383 (by decide)
                                                                                          have qc391 := lv_neT (k := (40 : Int32)) (a := 40) c391 (by decide)
                                                                                          have qc399 := lv_neT (k := (41 : Int32)) (a := 41) c399 (by decide)
                                                                                          refine Go.tabOut (dflt := 1532) (lo := 0) (hi := 41) (offs := #[183, 246, 269, 292, 325, 368, 391, 414, 447, 470, 503, 526, 559, 582, 615, 648, 691, 724, 767, 790, 803, 826, 859, 892, 905, 918, 931, 974, 1018, 1071, 1114, 1157, 1200, 1223, 1246, 1290, 1313, 1356, 1430, 1463, 1486, 1509]) (len := 183) 1565 (by decide +kernel) (by omega) (by decide) ?_
                                                                                          exact t_j_La_law_1565 hG hE d hd b xs L hX hbl (fun z0 Pz => l_La_law_18 xs L n z0 Pz) (fun z0 Pz q => ih z0 Pz q) x3 P h
