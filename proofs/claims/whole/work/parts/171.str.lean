/-! String.length, charAt, indexOf of the constant texts: the JDK's own code, walked -/
section GO8
variable {G : GX} {cc : ByteArray} {own : String} {nL : Nat} {rt : Option FieldType} {ini : Bool} {d n0 n1 : Nat} {Q : QT} {pc : Nat} {lv : List (Nat × Value)} {st : List Value} {P P1 : PM} {E : EV}
theorem Go.getS {idx i : Nat} {n dsc : String} (v : Value) (hi : i < 4) (hF : GOK G → va_OF "java/lang/String" n dsc v (gK G i) (AG G) (gs G) (gs G).heap) (hw : Cond.fieldLink own idx "java/lang/String" n dsc ∈ lw_gd) (hd : decode cc pc = .ok (.getfield idx, 3)) (g : Go G cc own nL rt ini d n0 n1 Q (pc + 3) lv (v :: st) P E) : Go G cc own nL rt ini d n0 n1 Q pc lv (.ref (ad E (1000 + 2 * i)) :: st) P E := by
  intro p e s m a b me c H lo ls C hS hR hl hn
  obtain ⟨hx, hb, -, -, -, -, ho, hts, hKn, hG⟩ := id C
  rw [(hR.2.2.2 i hi).1]
  obtain ⟨cf, k, fi, f, cell, h1, h2, h3, h4, h5, h6⟩ := (va_OF.moved hKn.1 (hF hG)).kept (fun a ha _ => hR.2.2.1 a ha)
  exact W.getf hx hb ho (hts _ hw) h1 h2 h3 h4 (v := v) h5 rfl rfl hd (g p e s m a b me c H lo ls C hS hR hl hn)
theorem Go.sbaload {i n : Nat} {j : Int32} (hi : i < 4) (hN : sLen.getD i 0 = n) (hj : vp_in j n) (hd : decode cc pc = .ok (.baload, 1)) (g : Go G cc own nL rt ini d n0 n1 Q (pc + 1) lv (.int (sch i j) :: st) P E) : Go G cc own nL rt ini d n0 n1 Q pc lv (.int j :: .ref (ad E (1001 + 2 * i)) :: st) P E := by
  intro p e s m a b me c H lo ls C hS hR hl hn
  obtain ⟨hx, hb, -, -, -, -, ho, hts, hKn, hG⟩ := id C
  rw [(hR.2.2.2 i hi).2]
  subst hN
  obtain ⟨cell, h1, h2, h3, h4, h5, h6, h7⟩ := (va_T.moved hKn.1 (hG.2.1 i hi).2.2.2).kept (fun a ha _ => hR.2.2.1 a ha)
  have hlt : j.toNatClampNeg < sLen.getD i 0 := Nat.not_le.mp fun q => hj (Or.inr q)
  have h0 : ¬ j < 0 := fun q => hj (Or.inl q)
  exact W.bald (v := .int (sch i j)) hx hb h1 h2 h3 (fun q => q.elim h0 (fun q => by omega)) (h6 _ hlt) rfl rfl hd (g p e s m a b me c H lo ls C hS hR hl hn)
theorem Go.salen {i : Nat} (v : Int32) (hi : i < 4) (hv : Int32.ofNat (sLen.getD i 0) = v) (hd : decode cc pc = .ok (.arraylength, 1)) (g : Go G cc own nL rt ini d n0 n1 Q (pc + 1) lv (.int v :: st) P E) : Go G cc own nL rt ini d n0 n1 Q pc lv (.ref (ad E (1001 + 2 * i)) :: st) P E := by
  intro p e s m a b me c H lo ls C hS hR hl hn
  obtain ⟨hx, hb, -, -, -, -, ho, hts, hKn, hG⟩ := id C
  rw [(hR.2.2.2 i hi).2]
  obtain ⟨cell, h1, h2, h3, h4, h5, h6, h7⟩ := (va_T.moved hKn.1 (hG.2.1 i hi).2.2.2).kept (fun a ha _ => hR.2.2.1 a ha)
  exact W.alen (n := v) hx hb h1 h2 (h5.trans hv) rfl rfl hd (g p e s m a b me c H lo ls C hS hR hl hn)
theorem Go.gets {idx : Nat} {cl n dsc : String} (v : Value) (hZ : GOK G → va_Z cl n dsc v (AG G) (gs G) (gs G).heap) (hw : Cond.fieldLink own idx cl n dsc ∈ lw_gd) (hd : decode cc pc = .ok (.getstatic idx, 3)) (g : Go G cc own nL rt ini d n0 n1 Q (pc + 3) lv (v :: st) P E) : Go G cc own nL rt ini d n0 n1 Q pc lv st P E := by
  intro p e s m a b me c H lo ls C hS hR hl hn
  obtain ⟨hx, hb, -, -, -, -, ho, hts, hKn, hG⟩ := id C
  exact va_gets hx hb ((va_Z.moved hKn.1 (hZ hG)).kept (fun a ha _ => hKn.2.2.2 a ha)) hS ho (hts _ hw) (fun _ h => h) hd (g p e s m a b me c H lo ls C hS hR hl hn)
theorem Go.callVs {idx i : Nat} {y : MethodName} {bytes : ByteArray} {maxL : Nat} {ret : Option FieldType} (d' n : Nat) (As : List Value) {r : Option Value} (hi : i < 4) (hE : E.2.1 = nOb) (hM : Con G y (.code y bytes maxL ret) d' nOb nOb (.ref (ad E (1000 + 2 * i)) :: As) P E (QD r P1 E))
    (hlk : Cond.methodLink own idx y ∈ lw_gd) (hin : Cond.instanceMethod y ∈ lw_gd) (hse : Cond.selects "java/lang/String" y y ∈ lw_gd) (hini : Cond.initialized y.cls ∈ lw_gd) (hco : Cond.code y bytes maxL ret ∈ lw_gd)
    (hy : y.cls ≠ "java/lang/invoke/MethodHandle" ∧ y.cls ≠ "java/lang/invoke/VarHandle" ∧ (parseMethodDescriptor y.desc).map (fun d => d.parameters.length) = some n) (hAs : As.length = n) (hdd : d' + 1 ≤ d) (hmL : maxL ≤ 21) (hst : (st.map fun v => v.category).sum ≤ 8)
    (hd : decode cc pc = .ok (.invokevirtual idx, 3)) (st0 : List Value) (hst0 : st0 = As.reverse ++ .ref (ad E (1000 + 2 * i)) :: st) (g : Go G cc own nL rt ini d n0 nOb Q (pc + 3) lv (r.toList ++ st) P1 E) : Go G cc own nL rt ini d n0 nOb Q pc lv st0 P E := by
  intro p e s m a b me c H lo ls C hS hR hl hn
  obtain ⟨hx, hb, hml, -, -, -, ho, hts, hKn, hG⟩ := id C
  have m1 := tot_mono hn
  have hO := (va_O.moved hKn.1 (hG.2.1 i hi).1).kept (fun a ha _ => hR.2.2.1 a ha)
  rw [← (hR.2.2.2 i hi).1] at hO
  obtain ⟨cell, h1, h2, h3, -⟩ := hO
  have hM2 : Con G y (.code y bytes maxL ret) d' E.2.1 E.2.1 (.ref (ad E (1000 + 2 * i)) :: As) P E (QD r P1 E) := by rw [hE]; exact hM
  refine go_after C hS hl hn (Nat.le_refl _) (fun r P' E' q => by rw [q.2.2]) (va_runV (As := As) (rest := st) (C := "java/lang/String") (Ts := lw_gd) (nL := nL) (cc := cc) ⟨hx, hb, hml, ho, hts⟩ hM2 ⟨callB_of n hts (GoodIn.of hco) rfl rfl rfl (hts _ hini) (hts _ hlk) hy (room_ok hdd hmL), hts _ hin, hts _ hse⟩
    ⟨Kn_blind, ⟨cell, h1, h2, h3⟩, fun U hU hW => Con.pre hKn hR hU hW⟩ rfl hAs hl.1 hst0 (lv_room hst) hd ⟨?_, ?_⟩) (fun r' P' E' q => by obtain ⟨rfl, rfl, rfl⟩ := q; exact g)
  · show _ ≤ nOb - n0
    omega
  · show _ ≤ tot nOb - tot n0
    rw [hE] at m1 ⊢
    omega
end GO8
section GO9
variable {G : GX} {cc : ByteArray} {own : String} {nL : Nat} {rt : Option FieldType} {ini : Bool} {d n0 n1 : Nat} {Q : QT} {pc : Nat} {lv : List (Nat × Value)} {st : List Value} {P P1 : PM} {E : EV}
theorem Go.getSV {idx i : Nat} (hi : i < 4) (hw : Cond.fieldLink own idx "java/lang/String" "value" "[B" ∈ lw_gd) (hd : decode cc pc = .ok (.getfield idx, 3)) (g : Go G cc own nL rt ini d n0 n1 Q (pc + 3) lv (.ref (ad E (1001 + 2 * i)) :: st) P E) : Go G cc own nL rt ini d n0 n1 Q pc lv (.ref (ad E (1000 + 2 * i)) :: st) P E := by
  intro p e s m a b me c H lo ls C hS hR hl hn
  have k := g p e s m a b me c H lo ls C hS hR hl hn
  obtain ⟨hx, hb, -, -, -, -, ho, hts, hKn, hG⟩ := id C
  rw [(hR.2.2.2 i hi).2] at k
  rw [(hR.2.2.2 i hi).1]
  obtain ⟨cf, kk, fi, f, cell, h1, h2, h3, h4, h5, h6⟩ := (va_OF.moved hKn.1 (hG.2.1 i hi).2.2.1).kept (fun a ha _ => hR.2.2.1 a ha)
  exact W.getf hx hb ho (hts _ hw) h1 h2 h3 h4 (v := .ref (gV G i)) h5 rfl rfl hd k
end GO9
abbrev y_Js_coder : MethodName := ⟨"java/lang/String", "coder", "()B"⟩
abbrev y_Js_isLatin1 : MethodName := ⟨"java/lang/String", "isLatin1", "()Z"⟩
abbrev y_Js_length : MethodName := ⟨"java/lang/String", "length", "()I"⟩
theorem shr0 : ∀ i, i < 4 → (Int32.ofNat (sLen.getD i 0)) >>> ((0 : Int32) &&& 31) = Int32.ofNat (sLen.getD i 0) := by decide +kernel
theorem e_Js_coder {G : GX} (hG : GOK G) {E : EV} (hE : E.2.1 = nOb) (d i : Nat) (hi : i < 4) (P : PM) : Con G y_Js_coder (.code y_Js_coder prog_18_method_152_code 1 (some .byte)) d nOb nOb [.ref (ad E (1000 + 2 * i))] P E (QD (some (.int 0)) P E) := by
  refine Con.of hG (own := "java/lang/String") (ini := false) (by decide +kernel) rfl (fun h => by cases h) hE (Nat.le_of_ble_eq_true rfl) ?_
  refine Go.gets (.int 1) (fun g => g.2.2.2.2.2.2.1) lk504 (by decide +kernel) ?_
  refine Go.if_eq (off := 10) 13 (by decide +kernel) (by decide) (fun c => absurd c (by decide)) (fun c => ?_)
  refine Go.aload_n (k := 0) (i := 0) 0 (by decide +kernel) rfl rfl ?_
  refine Go.getS (.int 0) hi (fun g => (g.2.1 i hi).2.1) lk1943 (by decide +kernel) ?_
  refine Go.goto (off := 4) 14 (by decide +kernel) (by decide) ?_
  exact Go.iret rfl rfl hE (by decide +kernel) ⟨rfl, rfl, rfl⟩
theorem e_Js_isLatin1 {G : GX} (hG : GOK G) {E : EV} (hE : E.2.1 = nOb) (d i : Nat) (hi : i < 4) (P : PM) : Con G y_Js_isLatin1 (.code y_Js_isLatin1 prog_18_method_154_code 1 (some .boolean)) d nOb nOb [.ref (ad E (1000 + 2 * i))] P E (QD (some (.int 1)) P E) := by
  refine Con.of hG (own := "java/lang/String") (ini := false) (by decide +kernel) rfl (fun h => by cases h) hE (Nat.le_of_ble_eq_true rfl) ?_
  refine Go.gets (.int 1) (fun g => g.2.2.2.2.2.2.1) lk504 (by decide +kernel) ?_
  refine Go.if_eq (off := 14) 17 (by decide +kernel) (by decide) (fun c => absurd c (by decide)) (fun c => ?_)
  refine Go.aload_n (k := 0) (i := 0) 0 (by decide +kernel) rfl rfl ?_
  refine Go.getS (.int 0) hi (fun g => (g.2.1 i hi).2.1) lk1943 (by decide +kernel) ?_
  refine Go.if_ne (off := 7) 17 (by decide +kernel) (by decide) (fun c => absurd rfl c) (fun c => ?_)
  refine Go.iconst (n := 1) 1 (by decide +kernel) rfl ?_
  refine Go.goto (off := 4) 18 (by decide +kernel) (by decide) ?_
  exact Go.iret rfl rfl hE (by decide +kernel) ⟨rfl, rfl, rfl⟩
theorem e_Js_length {G : GX} (hG : GOK G) {E : EV} (hE : E.2.1 = nOb) (d i : Nat) (hd : 1 ≤ d) (hi : i < 4) (P : PM) : Con G y_Js_length (.code y_Js_length prog_18_method_54_code 1 (some .int)) d nOb nOb [.ref (ad E (1000 + 2 * i))] P E (QD (some (.int (Int32.ofNat (sLen.getD i 0)))) P E) := by
  refine Con.of hG (own := "java/lang/String") (ini := false) (by decide +kernel) rfl (fun h => by cases h) hE (Nat.le_of_ble_eq_true rfl) ?_
  refine Go.aload_n (k := 0) (i := 0) 0 (by decide +kernel) rfl rfl ?_
  refine Go.getSV hi lk1942 (by decide +kernel) ?_
  refine Go.salen (Int32.ofNat (sLen.getD i 0)) hi rfl (by decide +kernel) ?_
  refine Go.aload_n (k := 0) (i := 0) 0 (by decide +kernel) rfl rfl ?_
  refine Go.callVs (P1 := P) (r := some (.int 0)) (d - 1) 0 [] hi hE (e_Js_coder hG hE (d - 1) i hi P) lk500 lk501 lk502 lk16 lk503 ⟨by decide, by decide, by decide +kernel⟩ rfl (by omega) (by decide) (Nat.le_of_ble_eq_true rfl) (by decide +kernel) _ rfl ?_
  refine Go.ishr (by decide +kernel) ?_
  rw [shr0 i hi]
  exact Go.iret rfl rfl hE (by decide +kernel) ⟨rfl, rfl, rfl⟩
