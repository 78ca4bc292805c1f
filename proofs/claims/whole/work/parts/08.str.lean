/-! String.length, charAt, indexOf of the constant texts: the JDK's own code, walked -/
section GO8
variable {G : GX} {cc : ByteArray} {own : String} {nL : Nat} {rt : Option FieldType} {ini : Bool} {d n0 n1 : Nat} {Q : QT} {pc : Nat} {lv : List (Nat × Value)} {st : List Value} {P P1 : PM} {E : EV}
theorem Go.getS {idx i : Nat} {n dsc : String} (v : Value) (hi : i < 4) (hF : GOK G → va_OF "java/lang/String" n dsc v (gK G i) (AG G) (gs G) (gs G).heap) (hw : Cond.fieldLink own idx "java/lang/String" n dsc ∈ lw_gd) (hd : decode cc pc = .ok (.getfield idx, 3)) (g : Go G cc own nL rt ini d n0 n1 Q (pc + 3) lv (v :: st) P E) : Go G cc own nL rt ini d n0 n1 Q pc lv (.ref (ad E (1000 + 2 * i)) :: st) P E := by
  intro p e s m a b me c H lo ls C hS hR hl hn
  obtain ⟨hx, hb, -, -, -, -, ho, hts, hKn, hG⟩ := id C
  rw [(hR.2.2.2 i hi).1]
  obtain ⟨cf, k, fi, f, cell, h1, h2, h3, h4, h5, h6⟩ := (va_OF.moved hKn.1 (hF hG)).kept (fun a ha _ => hR.2.2.1 a ha)
  exact W.getf hx hb ho (hts _ hw) h1 h2 h3 h4 (v := v) h5 rfl rfl hd (g p e s m a b me c H lo ls C hS hR hl hn)
theorem Go.sbaload {i n : Nat} {j : Int32} (hi : i < 4) (hN : sLen.getD i 0 = n) (hj : vp_in j n) (hd : decode cc pc = .ok (.baload, 1)) (g : Go G cc own nL rt ini d n0 n1 Q (pc + 1) lv (.int (sch i j) :: st) P E) : Go G cc own nL rt ini d n0 n1 Q pc lv (.int j :: .ref (ad E (1001 + 2 * i)) :: st) P E := by
  intro p e s m a b me c H lo ls C hS hR hl hn
  obtain ⟨hx, hb, -, -, -, -, ho, hts, hKn, hG⟩ := id C
  rw [(hR.2.2.2 i hi).2]
  subst hN
  obtain ⟨cell, h1, h2, h3, h4, h5, h6, h7⟩ := (va_T.moved hKn.1 (hG.2.1 i hi).2.2.2).kept (fun a ha _ => hR.2.2.1 a ha)
  have hlt : j.toNatClampNeg < sLen.getD i 0 := Nat.not_le.mp fun q => hj (Or.inr q)
  have h0 : ¬ j < 0 := fun q => hj (Or.inl q)
  exact W.bald (v := .int (sch i j)) hx hb h1 h2 h3 (fun q => q.elim h0 (fun q => by omega)) (h6 _ hlt) rfl rfl hd (g p e s m a b me c H lo ls C hS hR hl hn)
theorem Go.salen {i : Nat} (v : Int32) (hi : i < 4) (hv : Int32.ofNat (sLen.getD i 0) = v) (hd : decode cc pc = .ok (.arraylength, 1)) (g : Go G cc own nL rt ini d n0 n1 Q (pc + 1) lv (.int v :: st) P E) : Go G cc own nL rt ini d n0 n1 Q pc lv (.ref (ad E (1001 + 2 * i)) :: st) P E := by
  intro p e s m a b me c H lo ls C hS hR hl hn
  obtain ⟨hx, hb, -, -, -, -, ho, hts, hKn, hG⟩ := id C
  rw [(hR.2.2.2 i hi).2]
  obtain ⟨cell, h1, h2, h3, h4, h5, h6, h7⟩ := (va_T.moved hKn.1 (hG.2.1 i hi).2.2.2).kept (fun a ha _ => hR.2.2.1 a ha)
  exact W.alen (n := v) hx hb h1 h2 (h5.trans hv) rfl rfl hd (g p e s m a b me c H lo ls C hS hR hl hn)
theorem Go.gets {idx : Nat} {cl n dsc : String} (v : Value) (hZ : GOK G → va_Z cl n dsc v (AG G) (gs G) (gs G).heap) (hw : Cond.fieldLink own idx cl n dsc ∈ lw_gd) (hd : decode cc pc = .ok (.getstatic idx, 3)) (g : Go G cc own nL rt ini d n0 n1 Q (pc + 3) lv (v :: st) P E) : Go G cc own nL rt ini d n0 n1 Q pc lv st P E := by
  intro p e s m a b me c H lo ls C hS hR hl hn
  obtain ⟨hx, hb, -, -, -, -, ho, hts, hKn, hG⟩ := id C
  exact va_gets hx hb ((va_Z.moved hKn.1 (hZ hG)).kept (fun a ha _ => hKn.2.2.2 a ha)) hS ho (hts _ hw) (fun _ h => h) hd (g p e s m a b me c H lo ls C hS hR hl hn)
theorem Go.callVs {idx i : Nat} {y : MethodName} {bytes : ByteArray} {maxL : Nat} {ret : Option FieldType} (d' n : Nat) (As : List Value) {r : Option Value} (hi : i < 4) (hE : E.2.1 = nOb) (hM : Con G y (.code y bytes maxL ret) d' nOb nOb (.ref (ad E (1000 + 2 * i)) :: As) P E (QD r P1 E))
    (hlk : Cond.methodLink own idx y ∈ lw_gd) (hin : Cond.instanceMethod y ∈ lw_gd) (hse : Cond.selects "java/lang/String" y y ∈ lw_gd) (hini : Cond.initialized y.cls ∈ lw_gd) (hco : Cond.code y bytes maxL ret ∈ lw_gd)
    (hy : y.cls ≠ "java/lang/invoke/MethodHandle" ∧ y.cls ≠ "java/lang/invoke/VarHandle" ∧ (parseMethodDescriptor y.desc).map (fun d => d.parameters.length) = some n) (hAs : As.length = n) (hdd : d' + 1 ≤ d) (hmL : maxL ≤ 21) (hst : (st.map fun v => v.category).sum ≤ 8)
    (hd : decode cc pc = .ok (.invokevirtual idx, 3)) (st0 : List Value) (hst0 : st0 = As.reverse ++ .ref (ad E (1000 + 2 * i)) :: st) (g : Go G cc own nL rt ini d n0 nOb Q (pc + 3) lv (r.toList ++ st) P1 E) : Go G cc own nL rt ini d n0 nOb Q pc lv st0 P E := by
  intro p e s m a b me c H lo ls C hS hR hl hn
  obtain ⟨hx, hb, hml, -, -, -, ho, hts, hKn, hG⟩ := id C
  have m1 := tot_mono hn
  have hO := (va_O.moved hKn.1 (hG.2.1 i hi).1).kept (fun a ha _ => hR.2.2.1 a ha)
  rw [← (hR.2.2.2 i hi).1] at hO
  obtain ⟨cell, h1, h2, h3, -⟩ := hO
  have hM2 : Con G y (.code y bytes maxL ret) d' E.2.1 E.2.1 (.ref (ad E (1000 + 2 * i)) :: As) P E (QD r P1 E) := by rw [hE]; exact hM
  refine go_after C hS hl hn (Nat.le_refl _) (fun r P' E' q => by rw [q.2.2]) (va_runV (As := As) (rest := st) (C := "java/lang/String") (Ts := lw_gd) (nL := nL) (cc := cc) ⟨hx, hb, hml, ho, hts⟩ hM2 ⟨callB_of n hts (GoodIn.of hco) rfl rfl rfl (hts _ hini) (hts _ hlk) hy (room_ok hdd hmL), hts _ hin, hts _ hse⟩
    ⟨Kn_blind, ⟨cell, h1, h2, h3⟩, fun U hU hW => Con.pre hKn hR hU hW⟩ rfl hAs hl.1 hst0 (lv_room hst) hd ⟨?_, ?_⟩) (fun r' P' E' q => by obtain ⟨rfl, rfl, rfl⟩ := q; exact g)
  · show _ ≤ nOb - n0
    omega
  · show _ ≤ tot nOb - tot n0
    rw [hE] at m1 ⊢
    omega
end GO8
section GO9
variable {G : GX} {cc : ByteArray} {own : String} {nL : Nat} {rt : Option FieldType} {ini : Bool} {d n0 n1 : Nat} {Q : QT} {pc : Nat} {lv : List (Nat × Value)} {st : List Value} {P P1 : PM} {E : EV}
theorem Go.getSV {idx i : Nat} (hi : i < 4) (hw : Cond.fieldLink own idx "java/lang/String" "value" "[B" ∈ lw_gd) (hd : decode cc pc = .ok (.getfield idx, 3)) (g : Go G cc own nL rt ini d n0 n1 Q (pc + 3) lv (.ref (ad E (1001 + 2 * i)) :: st) P E) : Go G cc own nL rt ini d n0 n1 Q pc lv (.ref (ad E (1000 + 2 * i)) :: st) P E := by
  intro p e s m a b me c H lo ls C hS hR hl hn
  have k := g p e s m a b me c H lo ls C hS hR hl hn
  obtain ⟨hx, hb, -, -, -, -, ho, hts, hKn, hG⟩ := id C
  rw [(hR.2.2.2 i hi).2] at k
  rw [(hR.2.2.2 i hi).1]
  obtain ⟨cf, kk, fi, f, cell, h1, h2, h3, h4, h5, h6⟩ := (va_OF.moved hKn.1 (hG.2.1 i hi).2.2.1).kept (fun a ha _ => hR.2.2.1 a ha)
  exact W.getf hx hb ho (hts _ hw) h1 h2 h3 h4 (v := .ref (gV G i)) h5 rfl rfl hd k
end GO9
abbrev y_Js_coder : MethodName := ⟨"java/lang/String", "coder", "()B"⟩
abbrev y_Js_isLatin1 : MethodName := ⟨"java/lang/String", "isLatin1", "()Z"⟩
abbrev y_Js_length : MethodName := ⟨"java/lang/String", "length", "()I"⟩
theorem shr0 : ∀ i, i < 4 → (Int32.ofNat (sLen.getD i 0)) >>> ((0 : Int32) &&& 31) = Int32.ofNat (sLen.getD i 0) := by decide +kernel
theorem e_Js_coder {G : GX} (hG : GOK G) {E : EV} (hE : E.2.1 = nOb) (d i : Nat) (hi : i < 4) (P : PM) : Con G y_Js_coder (.code y_Js_coder prog_18_method_152_code 1 (some .byte)) d nOb nOb [.ref (ad E (1000 + 2 * i))] P E (QD (some (.int 0)) P E) := by
  refine Con.of hG (own := "java/lang/String") (ini := false) (by decide +kernel) rfl (fun h => by cases h) hE (Nat.le_of_ble_eq_true rfl) ?_
  refine Go.gets (.int 1) (fun g => g.2.2.2.2.2.2.1) lk504 (by decide +kernel) ?_
  refine Go.if_eq (off := 10) 13 (by decide +kernel) (by decide) (fun c => absurd c (by decide)) (fun c => ?_)
  refine Go.aload_n (k := 0) (i := 0) 0 (by decide +kernel) rfl rfl ?_
  refine Go.getS (.int 0) hi (fun g => (g.2.1 i hi).2.1) lk1943 (by decide +kernel) ?_
  refine Go.goto (off := 4) 14 (by decide +kernel) (by decide) ?_
  exact Go.iret rfl rfl hE (by decide +kernel) ⟨rfl, rfl, rfl⟩
theorem e_Js_isLatin1 {G : GX} (hG : GOK G) {E : EV} (hE : E.2.1 = nOb) (d i : Nat) (hi : i < 4) (P : PM) : Con G y_Js_isLatin1 (.code y_Js_isLatin1 prog_18_method_154_code 1 (some .boolean)) d nOb nOb [.ref (ad E (1000 + 2 * i))] P E (QD (some (.int 1)) P E) := by
  refine Con.of hG (own := "java/lang/String") (ini := false) (by decide +kernel) rfl (fun h => by cases h) hE (Nat.le_of_ble_eq_true rfl) ?_
  refine Go.gets (.int 1) (fun g => g.2.2.2.2.2.2.1) lk504 (by decide +kernel) ?_
  refine Go.if_eq (off := 14) 17 (by decide +kernel) (by decide) (fun c => absurd c (by decide)) (fun c => ?_)
  refine Go.aload_n (k := 0) (i := 0) 0 (by decide +kernel) rfl rfl ?_
  refine Go.getS (.int 0) hi (fun g => (g.2.1 i hi).2.1) lk1943 (by decide +kernel) ?_
  refine Go.if_ne (off := 7) 17 (by decide +kernel) (by decide) (fun c => absurd rfl c) (fun c => ?_)
  refine Go.iconst (n := 1) 1 (by decide +kernel) rfl ?_
  refine Go.goto (off := 4) 18 (by decide +kernel) (by decide) ?_
  exact Go.iret rfl rfl hE (by decide +kernel) ⟨rfl, rfl, rfl⟩
theorem e_Js_length {G : GX} (hG : GOK G) {E : EV} (hE : E.2.1 = nOb) (d i : Nat) (hd : 1 ≤ d) (hi : i < 4) (P : PM) : Con G y_Js_length (.code y_Js_length prog_18_method_54_code 1 (some .int)) d nOb nOb [.ref (ad E (1000 + 2 * i))] P E (QD (some (.int (Int32.ofNat (sLen.getD i 0)))) P E) := by
  refine Con.of hG (own := "java/lang/String") (ini := false) (by decide +kernel) rfl (fun h => by cases h) hE (Nat.le_of_ble_eq_true rfl) ?_
  refine Go.aload_n (k := 0) (i := 0) 0 (by decide +kernel) rfl rfl ?_
  refine Go.getSV hi lk1942 (by decide +kernel) ?_
  refine Go.salen (Int32.ofNat (sLen.getD i 0)) hi rfl (by decide +kernel) ?_
  refine Go.aload_n (k := 0) (i := 0) 0 (by decide +kernel) rfl rfl ?_
  refine Go.callVs (P1 := P) (r := some (.int 0)) (d - 1) 0 [] hi hE (e_Js_coder hG hE (d - 1) i hi P) lk500 lk501 lk502 lk16 lk503 ⟨by decide, by decide, by decide +kernel⟩ rfl (by omega) (by decide) (Nat.le_of_ble_eq_true rfl) (by decide +kernel) _ rfl ?_
  refine Go.ishr (by decide +kernel) ?_
  rw [shr0 i hi]
  exact Go.iret rfl rfl hE (by decide +kernel) ⟨rfl, rfl, rfl⟩
abbrev y_Jp_checkIndex : MethodName := ⟨"jdk/internal/util/Preconditions", "checkIndex", "(IILjava/util/function/BiFunction;)I"⟩
abbrev y_Js_checkIndex : MethodName := ⟨"java/lang/String", "checkIndex", "(II)V"⟩
abbrev y_Jl_charAt : MethodName := ⟨"java/lang/StringLatin1", "charAt", "([BI)C"⟩
abbrev y_Js_charAt : MethodName := ⟨"java/lang/String", "charAt", "(I)C"⟩
theorem sch_ok : ∀ i, i < 4 → ∀ k, k < sLen.getD i 0 → ((((sByt.getD i []).getD k 0) &&& 255).toUInt32 % 65536).toInt32 = (sByt.getD i []).getD k 0 ∧ narrow .char (.int ((sByt.getD i []).getD k 0)) = .int ((sByt.getD i []).getD k 0) := by decide +kernel
theorem e_Jp_checkIndex {G : GX} (hG : GOK G) {E : EV} (hE : E.2.1 = nOb) (d : Nat) (j n : Int32) (v : Value) (hv : v.category = 1) (h0 : ¬ j < 0) (h1 : j < n) (P : PM) : Con G y_Jp_checkIndex (.code y_Jp_checkIndex prog_23_method_11_code 3 (some .int)) d nOb nOb [.int j, .int n, v] P E (QD (some (.int j)) P E) := by
  refine Con.of hG (own := "jdk/internal/util/Preconditions") (ini := false) (by decide +kernel) rfl (fun h => by cases h) hE (by cases v <;> first | exact Nat.le_of_ble_eq_true rfl | (simp [Value.category] at hv)) ?_
  refine Go.sub [0, 1] [(0, .int j), (1, .int n)] rfl ?_
  refine Go.iload_n (k := 0) (i := 0) 0 (by decide +kernel) rfl rfl ?_
  refine Go.if_lt (off := 8) 9 (by decide +kernel) (by decide) (fun c => absurd c h0) (fun c => ?_)
  refine Go.iload_n (k := 0) (i := 0) 0 (by decide +kernel) rfl rfl ?_
  refine Go.iload_n (k := 1) (i := 1) 1 (by decide +kernel) rfl rfl ?_
  refine Go.icmp_lt (off := 10) 16 (by decide +kernel) (by decide) (fun c => ?_) (fun c => absurd h1 c)
  refine Go.iload_n (k := 0) (i := 0) 0 (by decide +kernel) rfl rfl ?_
  exact Go.iret rfl rfl hE (by decide +kernel) ⟨rfl, rfl, rfl⟩
theorem Go.cSs {G : GX} {cc : ByteArray} {own : String} {nL : Nat} {rt : Option FieldType} {ini : Bool} {d n0 : Nat} {Q : QT} {pc : Nat} {lv : List (Nat × Value)} {st : List Value} {P P1 : PM} {E : EV} {idx : Nat} {y : MethodName} {bytes : ByteArray} {maxL : Nat} {ret : Option FieldType} {r : Option Value} (d' n : Nat) (As : List Value) (hE : E.2.1 = nOb) (hM : Con G y (.code y bytes maxL ret) d' nOb nOb As P E (QD r P1 E)) (hlk : Cond.methodLink own idx y ∈ lw_gd) (hin : Cond.static y ∈ lw_gd) (hini : Cond.initialized y.cls ∈ lw_gd) (hco : Cond.code y bytes maxL ret ∈ lw_gd)
    (hy : y.cls ≠ "java/lang/invoke/MethodHandle" ∧ y.cls ≠ "java/lang/invoke/VarHandle" ∧ (parseMethodDescriptor y.desc).map (fun d => d.parameters.length) = some n) (hAs : As.length = n) (hdd : d' + 1 ≤ d) (hmL : maxL ≤ 21) (hst : (st.map fun v => v.category).sum ≤ 8) (hd : decode cc pc = .ok (.invokestatic idx, 3)) (st0 : List Value) (hst0 : st0 = As.reverse ++ st) (g : Go G cc own nL rt ini d n0 nOb Q (pc + 3) lv (r.toList ++ st) P1 E) : Go G cc own nL rt ini d n0 nOb Q pc lv st0 P E := by
  have hM2 : Con G y (.code y bytes maxL ret) d' E.2.1 nOb As P E (QD r P1 E) := by rw [hE]; exact hM
  exact Go.callS d' n As nOb hM2 ⟨by rw [hE]; exact Nat.le_refl _, Nat.le_refl _⟩ (fun r P' E' q => by rw [q.2.2]; exact hE) hlk hin hini hco hy hAs hdd hmL hst hd st0 hst0 (fun r P' E' q => by obtain ⟨rfl, rfl, rfl⟩ := q; exact g)
theorem e_Js_checkIndex {G : GX} (hG : GOK G) {E : EV} (hE : E.2.1 = nOb) (d : Nat) (hd : 1 ≤ d) (j n : Int32) (h0 : ¬ j < 0) (h1 : j < n) (P : PM) : Con G y_Js_checkIndex (.code y_Js_checkIndex prog_18_method_155_code 2 none) d nOb nOb [.int j, .int n] P E (QD none P E) := by
  obtain ⟨v, hv, hZ⟩ := hG.2.2.2.2.2.2.2
  refine Con.of hG (own := "java/lang/String") (ini := false) (by decide +kernel) rfl (fun h => by cases h) hE (Nat.le_of_ble_eq_true rfl) ?_
  refine Go.iload_n (k := 0) (i := 0) 0 (by decide +kernel) rfl rfl ?_
  refine Go.iload_n (k := 1) (i := 1) 1 (by decide +kernel) rfl rfl ?_
  refine Go.gets v (fun _ => hZ) lk520 (by decide +kernel) ?_
  refine Go.cSs (P1 := P) (r := some (.int j)) (d - 1) 3 [.int j, .int n, v] hE (e_Jp_checkIndex hG hE (d - 1) j n v hv h0 h1 P) lk522 lk523 lk18 lk524 ⟨by decide, by decide, by decide +kernel⟩ rfl (by omega) (by decide) (Nat.le_of_ble_eq_true rfl) (by decide +kernel) _ rfl ?_
  refine Go.pop (by decide +kernel) rfl ?_
  exact Go.vret rfl hE (by decide +kernel) ⟨rfl, rfl, rfl⟩
theorem inb_cmp {j : Int32} {n : Nat} (hj : inb j n = true) (hn : n < 2 ^ 31) : ¬ j < 0 ∧ j < Int32.ofNat n := by
  unfold inb at hj
  simp only [Bool.and_eq_true, decide_eq_true_eq] at hj
  refine ⟨fun h => ?_, ?_⟩
  · have h2 := Int32.lt_iff_toInt_lt.mp h
    rw [Int32.toInt_zero] at h2
    omega
  · rw [Int32.lt_iff_toInt_lt, show Int32.ofNat n = nI n from rfl, nI_toInt hn]
    exact hj.2
theorem e_Jl_charAt {G : GX} (hG : GOK G) {E : EV} (hE : E.2.1 = nOb) (d i : Nat) (hd : 2 ≤ d) (hi : i < 4) (j : Int32) (hj : inb j (sLen.getD i 0) = true) (P : PM) : Con G y_Jl_charAt (.code y_Jl_charAt prog_19_method_2_code 2 (some .char)) d nOb nOb [.ref (ad E (1001 + 2 * i)), .int j] P E (QD (some (.int (sch i j))) P E) := by
  have hlen : ∀ i, i < 4 → sLen.getD i 0 < 2 ^ 31 := by decide
  have hc := inb_cmp hj (hlen i hi)
  have hs := sch_ok i hi _ (inb_lt hj)
  refine Con.of hG (own := "java/lang/StringLatin1") (ini := false) (by decide +kernel) rfl (fun h => by cases h) hE (Nat.le_of_ble_eq_true rfl) ?_
  refine Go.iload_n (k := 1) (i := 1) 1 (by decide +kernel) rfl rfl ?_
  refine Go.aload_n (k := 0) (i := 0) 0 (by decide +kernel) rfl rfl ?_
  refine Go.salen (Int32.ofNat (sLen.getD i 0)) hi rfl (by decide +kernel) ?_
  refine Go.cSs (P1 := P) (r := none) (d - 1) 2 [.int j, .int (Int32.ofNat (sLen.getD i 0))] hE (e_Js_checkIndex hG hE (d - 1) (by omega) j _ hc.1 hc.2 P) lk517 lk518 lk16 lk519 ⟨by decide, by decide, by decide +kernel⟩ rfl (by omega) (by decide) (Nat.le_of_ble_eq_true rfl) (by decide +kernel) _ rfl ?_
  refine Go.aload_n (k := 0) (i := 0) 0 (by decide +kernel) rfl rfl ?_
  refine Go.iload_n (k := 1) (i := 1) 1 (by decide +kernel) rfl rfl ?_
  refine Go.sbaload hi rfl (inb_in hj) (by decide +kernel) ?_
  refine Go.sipush (n := 255) 255 (by decide +kernel) (by decide) ?_
  refine Go.iand (by decide +kernel) ?_
  refine Go.i2c (by decide +kernel) ?_
  refine Go.eqi (sch i j) hs.1.symm ?_
  exact Go.iret rfl hs.2 hE (by decide +kernel) ⟨rfl, rfl, rfl⟩
theorem e_Js_charAt {G : GX} (hG : GOK G) {E : EV} (hE : E.2.1 = nOb) (d i : Nat) (hd : 3 ≤ d) (hi : i < 4) (j : Int32) (hj : inb j (sLen.getD i 0) = true) (P : PM) : Con G y_Js_charAt (.code y_Js_charAt prog_18_method_56_code 2 (some .char)) d nOb nOb [.ref (ad E (1000 + 2 * i)), .int j] P E (QD (some (.int (sch i j))) P E) := by
  have hs := sch_ok i hi _ (inb_lt hj)
  refine Con.of hG (own := "java/lang/String") (ini := false) (by decide +kernel) rfl (fun h => by cases h) hE (Nat.le_of_ble_eq_true rfl) ?_
  refine Go.aload_n (k := 0) (i := 0) 0 (by decide +kernel) rfl rfl ?_
  refine Go.callVs (P1 := P) (r := some (.int 1)) (d - 1) 0 [] hi hE (e_Js_isLatin1 hG hE (d - 1) i hi P) lk510 lk511 lk512 lk16 lk513 ⟨by decide, by decide, by decide +kernel⟩ rfl (by omega) (by decide) (Nat.le_of_ble_eq_true rfl) (by decide +kernel) _ rfl ?_
  refine Go.if_eq (off := 12) 16 (by decide +kernel) (by decide) (fun c => absurd c (by decide)) (fun c => ?_)
  refine Go.aload_n (k := 0) (i := 0) 0 (by decide +kernel) rfl rfl ?_
  refine Go.getSV hi lk1942 (by decide +kernel) ?_
  refine Go.iload_n (k := 1) (i := 1) 1 (by decide +kernel) rfl rfl ?_
  refine Go.cSs (P1 := P) (r := some (.int (sch i j))) (d - 1) 2 [.ref (ad E (1001 + 2 * i)), .int j] hE (e_Jl_charAt hG hE (d - 1) i (by omega) hi j hj P) lk514 lk515 lk17 lk516 ⟨by decide, by decide, by decide +kernel⟩ rfl (by omega) (by decide) (Nat.le_of_ble_eq_true rfl) (by decide +kernel) _ rfl ?_
  exact Go.iret rfl hs.2 hE (by decide +kernel) ⟨rfl, rfl, rfl⟩
abbrev y_Jl_canEncode : MethodName := ⟨"java/lang/StringLatin1", "canEncode", "(I)Z"⟩
abbrev y_Jl_indexOfChar : MethodName := ⟨"java/lang/StringLatin1", "indexOfChar", "([BIII)I"⟩
abbrev y_Jl_indexOf : MethodName := ⟨"java/lang/StringLatin1", "indexOf", "([BIII)I"⟩
abbrev y_Js_indexOf2 : MethodName := ⟨"java/lang/String", "indexOf", "(II)I"⟩
abbrev y_Js_indexOf : MethodName := ⟨"java/lang/String", "indexOf", "(I)I"⟩
theorem getD_lt {l : List Int32} {k : Nat} (h : k < l.length) : l.getD k 0 = l[k] := by simp [List.getD_eq_getElem?_getD, h]
def sfr (i : Nat) (b : Int32) (k : Nat) : Int32 := match ((sByt.getD i []).drop k).findIdx? (fun x => x == b) with | some m => Int32.ofNat (k + m) | none => -1
theorem sLen_ok : ∀ i, i < 4 → (sByt.getD i []).length = sLen.getD i 0 ∧ sLen.getD i 0 < 2 ^ 31 := by decide +kernel
theorem sfr_hit {i : Nat} (hi : i < 4) {b : Int32} {k : Nat} (hk : k < sLen.getD i 0) (h : (sByt.getD i []).getD k 0 = b) : sfr i b k = Int32.ofNat k := by
  have hl : k < (sByt.getD i []).length := by rw [(sLen_ok i hi).1]; exact hk
  unfold sfr
  rw [List.drop_eq_getElem_cons hl, List.findIdx?_cons]
  have e : (sByt.getD i [])[k] = b := (getD_lt hl).symm.trans h
  rw [if_pos (by rw [e]; exact beq_self_eq_true b)]
  rfl
theorem sfr_miss {i : Nat} (hi : i < 4) {b : Int32} {k : Nat} (hk : k < sLen.getD i 0) (h : ¬ (sByt.getD i []).getD k 0 = b) : sfr i b k = sfr i b (k + 1) := by
  have hl : k < (sByt.getD i []).length := by rw [(sLen_ok i hi).1]; exact hk
  unfold sfr
  rw [List.drop_eq_getElem_cons hl, List.findIdx?_cons]
  have e : ¬ (sByt.getD i [])[k] = b := by
    exact fun q => h ((getD_lt hl).trans q)
  simp only [beq_iff_eq, e, if_false, Bool.false_eq_true]
  cases ((sByt.getD i []).drop (k + 1)).findIdx? (fun x => x == b) with
  | none => rfl
  | some m => show Int32.ofNat (k + (m + 1)) = Int32.ofNat (k + 1 + m); rw [show k + (m + 1) = k + 1 + m by omega]
theorem sfr_end {i : Nat} (hi : i < 4) {b : Int32} : sfr i b (sLen.getD i 0) = -1 := by
  unfold sfr
  rw [List.drop_eq_nil_of_le (by rw [(sLen_ok i hi).1]; exact Nat.le_refl _)]
  rfl
theorem go_scan {G : GX} (hG : GOK G) {E : EV} (hE : E.2.1 = nOb) (d i : Nat) (hi : i < 4) (b : Int32) (P : PM) : ∀ (m k : Nat), k ≤ sLen.getD i 0 → sLen.getD i 0 - k < m →
    Go G prog_19_method_23_code "java/lang/StringLatin1" 6 (some .int) false d nOb nOb (QD (some (.int (sfr i b k))) P E) 7 [(0, .ref (ad E (1001 + 2 * i))), (3, .int (Int32.ofNat (sLen.getD i 0))), (4, .int b), (5, .int (nI k))] [] P E := by
  intro m
  induction m with
  | zero => intro k _ h; omega
  | succ m ih =>
    intro k hk hm
    have hlen := (sLen_ok i hi).2
    refine Go.iload (i := 5) 3 (by decide +kernel) rfl ?_
    refine Go.iload_n (k := 3) (i := 3) 1 (by decide +kernel) rfl rfl ?_
    refine Go.icmp_ge (off := 21) 31 (by decide +kernel) (by decide) (fun c => ?_) (fun c => ?_)
    · have hkk : k = sLen.getD i 0 := by
        rcases Nat.lt_or_ge k (sLen.getD i 0) with q | q
        · exact absurd c (nI_ge q hlen)
        · omega
      subst hkk
      refine Go.iconst (n := -1) (-1) (by decide +kernel) rfl ?_
      exact Go.iret rfl rfl hE (by decide +kernel) ⟨by rw [sfr_end hi], rfl, rfl⟩
    · have hlt : k < sLen.getD i 0 := by
        rcases Nat.lt_or_ge k (sLen.getD i 0) with q | q
        · exact q
        · exact absurd (nI_le q (by omega)) c
      have hcl : (nI k).toNatClampNeg = k := nI_clamp (by omega)
      refine Go.aload_n (k := 0) (i := 0) 0 (by decide +kernel) rfl rfl ?_
      refine Go.iload (i := 5) 3 (by decide +kernel) rfl ?_
      refine Go.sbaload hi rfl (vp_in_nI hlt hlen) (by decide +kernel) ?_
      refine Go.iload (i := 4) 2 (by decide +kernel) rfl ?_
      refine Go.icmp_ne (off := 6) 25 (by decide +kernel) (by decide) (fun c2 => ?_) (fun c2 => ?_)
      · rw [sfr_miss hi hlt (by rw [sch, hcl] at c2; exact c2)]
        refine Go.iinc (i := 5) (n := 1) 3 (nI (k + 1)) [(5, .int (nI (k + 1))), (0, .ref (ad E (1001 + 2 * i))), (3, .int (Int32.ofNat (sLen.getD i 0))), (4, .int b)] (by decide +kernel) rfl (nI_1 k) (by decide) rfl ?_
        refine Go.goto (off := -21) 7 (by decide +kernel) (by decide) ?_
        refine Go.sub [1, 2, 3, 0] [(0, .ref (ad E (1001 + 2 * i))), (3, .int (Int32.ofNat (sLen.getD i 0))), (4, .int b), (5, .int (nI (k + 1)))] rfl ?_
        exact ih (k + 1) (by omega) (by omega)
      · rw [sch, hcl] at c2
        rw [sfr_hit hi hlt c2]
        refine Go.iload (i := 5) 3 (by decide +kernel) rfl ?_
        exact Go.iret rfl rfl hE (by decide +kernel) ⟨rfl, rfl, rfl⟩
theorem sidx_in : ∀ n, n < 256 → ∀ i, i < 4 → sfr i ((nI n).toInt8.toInt32) 0 = sidx i (nI n) := by decide +kernel
theorem sBy_ok : ∀ i, i < 4 → ∀ x ∈ sByt.getD i [], 0 ≤ x ∧ x ≤ 255 := by decide +kernel
theorem sidx_out {i : Nat} (hi : i < 4) {c : Int32} (h : c < 0 ∨ 255 < c) : sidx i c = -1 := by
  unfold sidx
  have hn : (sByt.getD i []).findIdx? (fun b => b == c) = none := by
    rw [List.findIdx?_eq_none_iff]
    intro x hx
    have := sBy_ok i hi x hx
    simp only [beq_eq_false_iff_ne]
    intro q
    subst q
    rcases h with h | h
    · exact absurd this.1 (Int32.not_le.mpr h)
    · exact absurd this.2 (Int32.not_le.mpr h)
  rw [hn]
theorem e_Jl_canEncode {G : GX} (hG : GOK G) {E : EV} (hE : E.2.1 = nOb) (d : Nat) (c : Int32) (P : PM) : Con G y_Jl_canEncode (.code y_Jl_canEncode prog_19_method_4_code 1 (some .boolean)) d nOb nOb [.int c] P E (QD (some (.int (if c < 0 ∨ 255 < c then 0 else 1))) P E) := by
  refine Con.of hG (own := "java/lang/StringLatin1") (ini := false) (by decide +kernel) rfl (fun h => by cases h) hE (Nat.le_of_ble_eq_true rfl) ?_
  refine Go.iload_n (k := 0) (i := 0) 0 (by decide +kernel) rfl rfl ?_
  refine Go.if_lt (off := 14) 15 (by decide +kernel) (by decide) (fun q => ?_) (fun q => ?_)
  · rw [if_pos (Or.inl q)]
    refine Go.iconst (n := 0) 0 (by decide +kernel) rfl ?_
    exact Go.iret rfl rfl hE (by decide +kernel) ⟨rfl, rfl, rfl⟩
  · refine Go.iload_n (k := 0) (i := 0) 0 (by decide +kernel) rfl rfl ?_
    refine Go.sipush (n := 255) 255 (by decide +kernel) (by decide) ?_
    refine Go.icmp_gt (off := 7) 15 (by decide +kernel) (by decide) (fun q2 => ?_) (fun q2 => ?_)
    · rw [if_pos (Or.inr q2)]
      refine Go.iconst (n := 0) 0 (by decide +kernel) rfl ?_
      exact Go.iret rfl rfl hE (by decide +kernel) ⟨rfl, rfl, rfl⟩
    · rw [if_neg (fun h => h.elim q q2)]
      refine Go.iconst (n := 1) 1 (by decide +kernel) rfl ?_
      refine Go.goto (off := 4) 16 (by decide +kernel) (by decide) ?_
      exact Go.iret rfl rfl hE (by decide +kernel) ⟨rfl, rfl, rfl⟩
theorem e_Jl_indexOfChar {G : GX} (hG : GOK G) {E : EV} (hE : E.2.1 = nOb) (d i : Nat) (hi : i < 4) (c : Int32) (P : PM) : Con G y_Jl_indexOfChar (.code y_Jl_indexOfChar prog_19_method_23_code 6 (some .int)) d nOb nOb [.ref (ad E (1001 + 2 * i)), .int c, .int 0, .int (Int32.ofNat (sLen.getD i 0))] P E (QD (some (.int (sfr i c.toInt8.toInt32 0))) P E) := by
  refine Con.of hG (own := "java/lang/StringLatin1") (ini := false) (by decide +kernel) rfl (fun h => by cases h) hE (Nat.le_of_ble_eq_true rfl) ?_
  refine Go.iload_n (k := 1) (i := 1) 1 (by decide +kernel) rfl rfl ?_
  refine Go.i2b (by decide +kernel) ?_
  refine Go.istore (i := 4) [(4, .int c.toInt8.toInt32), (0, .ref (ad E (1001 + 2 * i))), (1, .int c), (2, .int 0), (3, .int (Int32.ofNat (sLen.getD i 0)))] (by decide +kernel) (by decide) rfl ?_
  refine Go.iload_n (k := 2) (i := 2) 3 (by decide +kernel) rfl rfl ?_
  refine Go.istore (i := 5) [(5, .int 0), (4, .int c.toInt8.toInt32), (0, .ref (ad E (1001 + 2 * i))), (1, .int c), (2, .int 0), (3, .int (Int32.ofNat (sLen.getD i 0)))] (by decide +kernel) (by decide) rfl ?_
  refine Go.sub [2, 5, 1, 0] [(0, .ref (ad E (1001 + 2 * i))), (3, .int (Int32.ofNat (sLen.getD i 0))), (4, .int c.toInt8.toInt32), (5, .int (nI 0))] rfl ?_
  exact go_scan hG hE d i hi _ P (sLen.getD i 0 + 1) 0 (Nat.zero_le _) (by omega)
theorem e_Jl_indexOf {G : GX} (hG : GOK G) {E : EV} (hE : E.2.1 = nOb) (d i : Nat) (hd : 1 ≤ d) (hi : i < 4) (c : Int32) (P : PM) : Con G y_Jl_indexOf (.code y_Jl_indexOf prog_19_method_22_code 4 (some .int)) d nOb nOb [.ref (ad E (1001 + 2 * i)), .int c, .int 0, .int (Int32.ofNat (sLen.getD i 0))] P E (QD (some (.int (sidx i c))) P E) := by
  have hlen : ∀ i, i < 4 → ¬ Int32.ofNat (sLen.getD i 0) < Int32.ofNat (sLen.getD i 0) ∧ (0 : Int32) < Int32.ofNat (sLen.getD i 0) := by decide
  refine Con.of hG (own := "java/lang/StringLatin1") (ini := false) (by decide +kernel) rfl (fun h => by cases h) hE (Nat.le_of_ble_eq_true rfl) ?_
  refine Go.iload_n (k := 1) (i := 1) 1 (by decide +kernel) rfl rfl ?_
  refine Go.cSs (P1 := P) (r := some (.int (if c < 0 ∨ 255 < c then 0 else 1))) (d - 1) 1 [.int c] hE (e_Jl_canEncode hG hE (d - 1) c P) lk557 lk558 lk17 lk559 ⟨by decide, by decide, by decide +kernel⟩ rfl (by omega) (by decide) (Nat.le_of_ble_eq_true rfl) (by decide +kernel) _ rfl ?_
  refine Go.if_ne (off := 5) 9 (by decide +kernel) (by decide) (fun q => ?_) (fun q => ?_)
  · have hc : ¬ (c < 0 ∨ 255 < c) := fun h => q (if_pos h)
    obtain ⟨n, hn, rfl⟩ : ∃ n : Nat, n ≤ 255 ∧ c = nI n := nI_of2 (M := 255) (by decide) (fun h => hc (Or.inl h)) (Int32.not_lt.mp fun h => hc (Or.inr h))
    refine Go.iload_n (k := 2) (i := 2) 2 (by decide +kernel) rfl rfl ?_
    refine Go.iconst (n := 0) 0 (by decide +kernel) rfl ?_
    refine Go.mmax lk560 (Nat.le_of_eq hE) hd (Nat.le_of_ble_eq_true rfl) (by decide +kernel) ?_
    refine Go.istore_n (k := 2) (i := 2) [(2, .int 0), (0, .ref (ad E (1001 + 2 * i))), (1, .int (nI n)), (3, .int (Int32.ofNat (sLen.getD i 0)))] (by decide +kernel) rfl (by decide) rfl ?_
    refine Go.iload_n (k := 3) (i := 3) 3 (by decide +kernel) rfl rfl ?_
    refine Go.aload_n (k := 0) (i := 0) 1 (by decide +kernel) rfl rfl ?_
    refine Go.salen (Int32.ofNat (sLen.getD i 0)) hi rfl (by decide +kernel) ?_
    refine Go.mmin lk563 (Nat.le_of_eq hE) hd (Nat.le_of_ble_eq_true rfl) (by decide +kernel) ?_
    refine Go.eqi (Int32.ofNat (sLen.getD i 0)) (by rw [mn, if_neg (hlen i hi).1]) ?_
    refine Go.istore_n (k := 3) (i := 3) [(3, .int (Int32.ofNat (sLen.getD i 0))), (2, .int 0), (0, .ref (ad E (1001 + 2 * i))), (1, .int (nI n))] (by decide +kernel) rfl (by decide) rfl ?_
    refine Go.iload_n (k := 2) (i := 2) 1 (by decide +kernel) rfl rfl ?_
    refine Go.iload_n (k := 3) (i := 3) 0 (by decide +kernel) rfl rfl ?_
    refine Go.icmp_lt (off := 5) 29 (by decide +kernel) (by decide) (fun _ => ?_) (fun q2 => absurd (hlen i hi).2 q2)
    refine Go.aload_n (k := 0) (i := 0) 2 (by decide +kernel) rfl rfl ?_
    refine Go.iload_n (k := 1) (i := 1) 3 (by decide +kernel) rfl rfl ?_
    refine Go.iload_n (k := 2) (i := 2) 1 (by decide +kernel) rfl rfl ?_
    refine Go.iload_n (k := 3) (i := 3) 0 (by decide +kernel) rfl rfl ?_
    refine Go.cSs (P1 := P) (r := some (.int (sfr i (nI n).toInt8.toInt32 0))) (d - 1) 4 [.ref (ad E (1001 + 2 * i)), .int (nI n), .int 0, .int (Int32.ofNat (sLen.getD i 0))] hE (e_Jl_indexOfChar hG hE (d - 1) i hi (nI n) P) lk564 lk565 lk17 lk566 ⟨by decide, by decide, by decide +kernel⟩ rfl (by omega) (by decide) (Nat.le_of_ble_eq_true rfl) (by decide +kernel) _ rfl ?_
    exact Go.iret rfl rfl hE (by decide +kernel) ⟨by rw [sidx_in n (by omega) i hi], rfl, rfl⟩
  · have hc : c < 0 ∨ 255 < c := by
      by_cases h : c < 0 ∨ 255 < c
      · exact h
      · rw [if_neg h] at q
        exact absurd q (by decide)
    refine Go.iconst (n := -1) (-1) (by decide +kernel) rfl ?_
    exact Go.iret rfl rfl hE (by decide +kernel) ⟨by rw [sidx_out hi hc], rfl, rfl⟩
theorem e_Js_indexOf2 {G : GX} (hG : GOK G) {E : EV} (hE : E.2.1 = nOb) (d i : Nat) (hd : 2 ≤ d) (hi : i < 4) (c : Int32) (P : PM) : Con G y_Js_indexOf2 (.code y_Js_indexOf2 prog_18_method_80_code 3 (some .int)) d nOb nOb [.ref (ad E (1000 + 2 * i)), .int c, .int 0] P E (QD (some (.int (sidx i c))) P E) := by
  refine Con.of hG (own := "java/lang/String") (ini := false) (by decide +kernel) rfl (fun h => by cases h) hE (Nat.le_of_ble_eq_true rfl) ?_
  refine Go.aload_n (k := 0) (i := 0) 0 (by decide +kernel) rfl rfl ?_
  refine Go.callVs (P1 := P) (r := some (.int 1)) (d - 1) 0 [] hi hE (e_Js_isLatin1 hG hE (d - 1) i hi P) lk510 lk511 lk512 lk16 lk513 ⟨by decide, by decide, by decide +kernel⟩ rfl (by omega) (by decide) (Nat.le_of_ble_eq_true rfl) (by decide +kernel) _ rfl ?_
  refine Go.if_eq (off := 19) 23 (by decide +kernel) (by decide) (fun c => absurd c (by decide)) (fun _ => ?_)
  refine Go.aload_n (k := 0) (i := 0) 0 (by decide +kernel) rfl rfl ?_
  refine Go.getSV hi lk1942 (by decide +kernel) ?_
  refine Go.iload_n (k := 1) (i := 1) 1 (by decide +kernel) rfl rfl ?_
  refine Go.iload_n (k := 2) (i := 2) 2 (by decide +kernel) rfl rfl ?_
  refine Go.aload_n (k := 0) (i := 0) 0 (by decide +kernel) rfl rfl ?_
  refine Go.callVs (P1 := P) (r := some (.int (Int32.ofNat (sLen.getD i 0)))) (d - 1) 0 [] hi hE (e_Js_length hG hE (d - 1) i (by omega) hi P) lk553 lk497 lk498 lk16 lk499 ⟨by decide, by decide, by decide +kernel⟩ rfl (by omega) (by decide) (Nat.le_of_ble_eq_true rfl) (by decide +kernel) _ rfl ?_
  refine Go.cSs (P1 := P) (r := some (.int (sidx i c))) (d - 1) 4 [.ref (ad E (1001 + 2 * i)), .int c, .int 0, .int (Int32.ofNat (sLen.getD i 0))] hE (e_Jl_indexOf hG hE (d - 1) i (by omega) hi c P) lk554 lk555 lk17 lk556 ⟨by decide, by decide, by decide +kernel⟩ rfl (by omega) (by decide) (Nat.le_of_ble_eq_true rfl) (by decide +kernel) _ rfl ?_
  refine Go.goto (off := 16) 36 (by decide +kernel) (by decide) ?_
  exact Go.iret rfl rfl hE (by decide +kernel) ⟨rfl, rfl, rfl⟩
theorem e_Js_indexOf {G : GX} (hG : GOK G) {E : EV} (hE : E.2.1 = nOb) (d i : Nat) (hd : 3 ≤ d) (hi : i < 4) (c : Int32) (P : PM) : Con G y_Js_indexOf (.code y_Js_indexOf prog_18_method_79_code 2 (some .int)) d nOb nOb [.ref (ad E (1000 + 2 * i)), .int c] P E (QD (some (.int (sidx i c))) P E) := by
  refine Con.of hG (own := "java/lang/String") (ini := false) (by decide +kernel) rfl (fun h => by cases h) hE (Nat.le_of_ble_eq_true rfl) ?_
  refine Go.aload_n (k := 0) (i := 0) 0 (by decide +kernel) rfl rfl ?_
  refine Go.iload_n (k := 1) (i := 1) 1 (by decide +kernel) rfl rfl ?_
  refine Go.iconst (n := 0) 0 (by decide +kernel) rfl ?_
  refine Go.callVs (P1 := P) (r := some (.int (sidx i c))) (d - 1) 2 [.int c, .int 0] hi hE (e_Js_indexOf2 hG hE (d - 1) i (by omega) hi c P) lk549 lk550 lk551 lk16 lk552 ⟨by decide, by decide, by decide +kernel⟩ rfl (by omega) (by decide) (Nat.le_of_ble_eq_true rfl) (by decide +kernel) _ rfl ?_
  exact Go.iret rfl rfl hE (by decide +kernel) ⟨rfl, rfl, rfl⟩
section GO10
variable {G : GX} {cc : ByteArray} {own : String} {nL : Nat} {rt : Option FieldType} {ini : Bool} {d : Nat} {Q : QT} {pc : Nat} {lv : List (Nat × Value)} {st : List Value} {P P1 : PM} {E : EV}
theorem Go.strLen {idx n0 i : Nat} (v : Int32) (hi : i < 4) (hv : Int32.ofNat (sLen.getD i 0) = v) (hlk : Cond.methodLink own idx ⟨"java/lang/String", "length", "()I"⟩ ∈ lw_gd) (hE : E0 E) (hdd : 4 ≤ d) (hst : (st.map fun v => v.category).sum ≤ 8) (hd : decode cc pc = .ok (.invokevirtual idx, 3)) (g : Go G cc own nL rt ini d n0 nOb Q (pc + 3) lv (.int v :: st) P E) : Go G cc own nL rt ini d n0 nOb Q pc lv (.ref (ad E (1000 + 2 * i)) :: st) P E := by
  subst hv
  intro p e s m a b me c H lo ls C hS hR hl hn
  obtain ⟨-, -, -, -, -, -, -, -, -, hG⟩ := id C
  exact Go.callVs (P1 := P) (r := some (.int (Int32.ofNat (sLen.getD i 0)))) (d - 1) 0 [] hi hE.2 (e_Js_length hG hE.2 (d - 1) i (by omega) hi P) hlk lk497 lk498 lk16 lk499 ⟨by decide, by decide, by decide +kernel⟩ rfl (by omega) (by decide) hst hd _ rfl g p e s m a b me c H lo ls C hS hR hl hn
theorem Go.strChar {idx n0 i n : Nat} {j : Int32} (hn : sLen.getD i 0 = n) (hj : inb j n = true) (hlk : Cond.methodLink own idx ⟨"java/lang/String", "charAt", "(I)C"⟩ ∈ lw_gd) (hE : E0 E) (hdd : 4 ≤ d) (hst : (st.map fun v => v.category).sum ≤ 8) (hd : decode cc pc = .ok (.invokevirtual idx, 3)) (g : Go G cc own nL rt ini d n0 nOb Q (pc + 3) lv (.int (sch i j) :: st) P E) : Go G cc own nL rt ini d n0 nOb Q pc lv (.int j :: .ref (ad E (1000 + 2 * i)) :: st) P E := by
  subst hn
  have hi : i < 4 := by
    by_cases h : i < 4
    · exact h
    · have e : sLen.getD i 0 = 0 := by
        rw [List.getD_eq_getElem?_getD, List.getElem?_eq_none (by show 4 ≤ i; omega)]; rfl
      rw [e] at hj
      have := inb_lt hj
      omega
  intro p e s m a b me c H lo ls C hS hR hl hn
  obtain ⟨-, -, -, -, -, -, -, -, -, hG⟩ := id C
  exact Go.callVs (P1 := P) (r := some (.int (sch i j))) (d - 1) 1 [.int j] hi hE.2 (e_Js_charAt hG hE.2 (d - 1) i (by omega) hi j hj P) hlk lk507 lk508 lk16 lk509 ⟨by decide, by decide, by decide +kernel⟩ rfl (by omega) (by decide) hst hd _ rfl g p e s m a b me c H lo ls C hS hR hl hn
theorem Go.strIdx {idx n0 i : Nat} {c : Int32} (hi : i < 4) (hlk : Cond.methodLink own idx ⟨"java/lang/String", "indexOf", "(I)I"⟩ ∈ lw_gd) (hE : E0 E) (hdd : 4 ≤ d) (hst : (st.map fun v => v.category).sum ≤ 8) (hd : decode cc pc = .ok (.invokevirtual idx, 3)) (g : Go G cc own nL rt ini d n0 nOb Q (pc + 3) lv (.int (sidx i c) :: st) P E) : Go G cc own nL rt ini d n0 nOb Q pc lv (.int c :: .ref (ad E (1000 + 2 * i)) :: st) P E := by
  intro p e s m a b me k H lo ls C hS hR hl hn
  obtain ⟨-, -, -, -, -, -, -, -, -, hG⟩ := id C
  exact Go.callVs (P1 := P) (r := some (.int (sidx i c))) (d - 1) 1 [.int c] hi hE.2 (e_Js_indexOf hG hE.2 (d - 1) i (by omega) hi c P) hlk lk546 lk547 lk16 lk548 ⟨by decide, by decide, by decide +kernel⟩ rfl (by omega) (by decide) hst hd _ rfl g p e s m a b me k H lo ls C hS hR hl hn
end GO10
