/-! the constructors -/
def E0c (E : EV) : Prop := E.2.1 = 63 ∧ E.1 58 2 = some 59
theorem ltc {E : EV} (hE : E0c E) {k : Nat} (h : k < 63) : k < E.2.1 := by rw [hE.1]; exact h
theorem vlR2 {P : PM} {E : EV} {ty : FieldType} {k j r : Nat} (hty : refKind ty = true) (h : E.1 k j = some r) : vl P E ty k j = .ref (ad E r) := by
  cases ty <;> first | (cases hty; done) | (simp only [vl, h]; rfl)
/-- what a constructor leaves -/
def CQ (n1 : Nat) (Pf : PM) (Rf : Nat → Nat → Option Nat) (E : EV) : QT := fun r P' E' => r = none ∧ P' = Pf ∧ E'.1 = Rf ∧ E'.2.1 = n1 ∧ Zr P' E' ∧ ∀ k, (k < E.2.1 ∨ 1000 ≤ k) → ad E' k = ad E k
section GO6
variable {G : GX} {cc : ByteArray} {own : String} {nL : Nat} {rt : Option FieldType} {ini : Bool} {d n0 n1 : Nat} {Q : QT} {pc : Nat} {lv : List (Nat × Value)} {st : List Value} {P P1 : PM} {E : EV}
theorem Go.newZ {idx : Nat} (ci : Nat) (hci : ci < 13) (hs : sh E.2.1 = .inl ci) (h9 : E.2.1 < 1000) (hz : Zr P E) (hw : Cond.classLink own idx (cN ci) ∈ lw_gd) (hi : Cond.instantiable (cN ci) (cF ci) ∈ lw_gd) (hn : Cond.initialized (cN ci) ∈ lw_gd) (hc : E.2.1 + 1 ≤ n1) (hd : decode cc pc = .ok (.new idx, 3))
    (g : ∀ E' : EV, E'.1 = E.1 → E'.2.1 = E.2.1 + 1 → (∀ k, (k < E.2.1 ∨ 1000 ≤ k) → ad E' k = ad E k) → Zr P E' → Go G cc own nL rt ini d n0 n1 Q (pc + 3) lv (.ref (ad E' E.2.1) :: st) P E') : Go G cc own nL rt ini d n0 n1 Q pc lv st P E :=
  Go.new ci hci hs h9 hz hw hi hn hc hd fun E' x => g E' x.1 x.2.1 x.2.2 (hz.ex x)
theorem Go.newaZ {atype : ArrayType} (t N' : Nat) {n : Int32} (ht : t < 4) (hty : newarray.typeOf atype = ety t) (hs : sh E.2.1 = .inr (t, N')) (h9 : E.2.1 < 1000) (hz : Zr P E) (hw : Cond.arrayClass (newarray.typeOf atype) ∈ lw_gd) (hc : E.2.1 + 1 ≤ n1) (hn : ¬ n < 0) (hN : n.toNatClampNeg = N') (hbt : N' * componentBytes (ety t) ≤ 536870912) (hd : decode cc pc = .ok (.newarray atype, 2))
    (g : ∀ E' : EV, E'.1 = E.1 → E'.2.1 = E.2.1 + 1 → (∀ k, (k < E.2.1 ∨ 1000 ≤ k) → ad E' k = ad E k) → Zr P E' → Go G cc own nL rt ini d n0 n1 Q (pc + 2) lv (.ref (ad E' E.2.1) :: st) P E') : Go G cc own nL rt ini d n0 n1 Q pc lv (.int n :: st) P E :=
  Go.newa t N' ht hty hs h9 hz hw hc hn hN hbt hd fun E' x => g E' x.1 x.2.1 x.2.2 (hz.ex x)
theorem Go.newqZ {idx : Nat} (t N' : Nat) (Cn : String) {n : Int32} (ht : 4 ≤ t ∧ t < 6) (hty : ety t = .object Cn) (hs : sh E.2.1 = .inr (t, N')) (h9 : E.2.1 < 1000) (hz : Zr P E) (hw : Cond.classLink own idx Cn ∈ lw_gd) (hov : GOK G → va_AO Cn (gs G)) (hc : E.2.1 + 1 ≤ n1) (hn : ¬ n < 0) (hN : n.toNatClampNeg = N') (hbt : N' * 4 ≤ 536870912) (hd : decode cc pc = .ok (.anewarray idx, 3))
    (g : ∀ E' : EV, E'.1 = E.1 → E'.2.1 = E.2.1 + 1 → (∀ k, (k < E.2.1 ∨ 1000 ≤ k) → ad E' k = ad E k) → Zr P E' → Go G cc own nL rt ini d n0 n1 Q (pc + 3) lv (.ref (ad E' E.2.1) :: st) P E') : Go G cc own nL rt ini d n0 n1 Q pc lv (.int n :: st) P E :=
  Go.newq t N' Cn ht hty hs h9 hz hw hov hc hn hN hbt hd fun E' x => g E' x.1 x.2.1 x.2.2 (hz.ex x)
theorem Go.putRZ {idx : Nat} (k j r : Nat) {ci : Nat} (hci : ci < 13) (hj : j < cF ci) (hs : sh k = .inl ci) (hk : k < E.2.1) (hr : r < E.2.1) (hz : Zr P E) (hI : (∃ C, cY ci j = .object C) ∨ ∃ t, cY ci j = .array t) (hfin : (cT ci j).2.2.2 = true) (hini : ini = true) (hdec : (cT ci j).1 = own)
    (hw : Cond.fieldLink own idx (cT ci j).1 (cT ci j).2.1 (cT ci j).2.2.1 ∈ lw_gd) (hd : decode cc pc = .ok (.putfield idx, 3)) (g : ∀ E' : EV, E'.1 = ur E.1 k j r → E'.2.1 = E.2.1 → (∀ k, ad E' k = ad E k) → Zr P E' → Go G cc own nL rt ini d n0 n1 Q (pc + 3) lv st P E') : Go G cc own nL rt ini d n0 n1 Q pc lv (.ref (ad E r) :: .ref (ad E k) :: st) P E :=
  Go.putR k j r hci hj hs hk hI hfin hini hdec hw hd (g _ rfl rfl (fun _ => rfl) (hz.ur hk hr))
theorem Go.aastoreZ (k t nn r i0 : Nat) {i : Int32} {cr : Nat} (hs : sh k = .inr (t, nn)) (ht : 4 ≤ t ∧ t < 6) (hk : k < E.2.1) (hcr : cr < 13) (hr : sh r = .inl cr) (hrE : r < E.2.1) (hty : ety t = .object (cN cr)) (hi : vp_in i nn) (hi0 : i.toNatClampNeg = i0) (hz : Zr P E) (hd : decode cc pc = .ok (.aastore, 1))
    (g : ∀ E' : EV, E'.1 = ur E.1 k i0 r → E'.2.1 = E.2.1 → (∀ k, ad E' k = ad E k) → Zr P E' → Go G cc own nL rt ini d n0 n1 Q (pc + 1) lv st P E') : Go G cc own nL rt ini d n0 n1 Q pc lv (.ref (ad E r) :: .int i :: .ref (ad E k) :: st) P E := by
  subst hi0
  exact Go.aastore k t nn r hs ht hk hcr hr hrE hty hi hd (g _ rfl rfl (fun _ => rfl) (hz.ur hk hrE))
theorem Go.iincV {i : Nat} (q : Nat) {n : Int} {x : Int32} (v : Int32) (lv' : List (Nat × Value)) (hd : decode cc pc = .ok (.iinc i n, 3)) (hq : lv[q]? = some (i, .int x)) (hv : x + Int32.ofInt n = v) (hn' : i < nL) (hl' : (i, Value.int v) :: lv.filter (fun q => !(q.1 == i) && !(q.1 + 1 == i && q.2.category == 2)) = lv') (g : Go G cc own nL rt ini d n0 n1 Q (pc + 3) lv' st P E) : Go G cc own nL rt ini d n0 n1 Q pc lv st P E := Go.iinc q v lv' hd hq hv hn' hl' g
theorem Go.cS_vc {idx : Nat} {y : MethodName} {bytes : ByteArray} {maxL : Nat} {ret : Option FieldType} {n : Nat} (d' : Nat) (As : List Value) (hE : E0c E) (hW : SW y bytes maxL ret n) (hM : Con G y (.code y bytes maxL ret) d' 63 63 As P E (QD none P1 E)) (hlk : Cond.methodLink own idx y ∈ lw_gd) (hAs : As.length = n) (hdd : d' + 1 ≤ d) (hst : (st.map fun v => v.category).sum ≤ 8) (hd : decode cc pc = .ok (.invokestatic idx, 3)) (st0 : List Value) (hst0 : st0 = As.reverse ++ st)
    (g : Go G cc own nL rt ini d 63 63 Q (pc + 3) lv st P1 E) : Go G cc own nL rt ini d 63 63 Q pc lv st0 P E := by
  have hM2 : Con G y (.code y bytes maxL ret) d' E.2.1 63 As P E (QD none P1 E) := by rw [hE.1]; exact hM
  exact Go.callS d' n As 63 hM2 ⟨by rw [hE.1]; exact Nat.le_refl _, Nat.le_refl _⟩ (fun r P' E' q => by rw [q.2.2]; exact hE.1) hlk hW.1 hW.2.1 hW.2.2.1 hW.2.2.2.1 hAs hdd hW.2.2.2.2 hst hd st0 hst0 (fun r P' E' q => by obtain ⟨rfl, rfl, rfl⟩ := q; exact g)
theorem Go.cV_vn {idx : Nat} {y : MethodName} {bytes : ByteArray} {maxL : Nat} {ret : Option FieldType} {n : Nat} (m : Nat) (d' : Nat) (k : Nat) (As : List Value) {ci : Nat} (hs : sh k = .inl ci) (hE : E.2.1 = m) (hk : k < m) (hm : m ≤ n1) (hW : VW ci y bytes maxL ret n) (hM : Con G y (.code y bytes maxL ret) d' m m (.ref (ad E k) :: As) P E (QD none P1 E)) (hlk : Cond.methodLink own idx y ∈ lw_gd) (hAs : As.length = n) (hdd : d' + 1 ≤ d) (hst : (st.map fun v => v.category).sum ≤ 8) (hd : decode cc pc = .ok (.invokevirtual idx, 3)) (st0 : List Value) (hst0 : st0 = As.reverse ++ .ref (ad E k) :: st)
    (g : Go G cc own nL rt ini d n0 n1 Q (pc + 3) lv st P1 E) : Go G cc own nL rt ini d n0 n1 Q pc lv st0 P E := by
  subst hE
  exact Go.callV d' n k As E.2.1 hW.1 hs hk hM ⟨Nat.le_refl _, hm⟩ (fun r P' E' q => by rw [q.2.2]) hlk hW.2.1 hW.2.2.1 hW.2.2.2.1 hW.2.2.2.2.1 hW.2.2.2.2.2.1 hAs hdd hW.2.2.2.2.2.2 hst hd st0 hst0 (fun r P' E' q => by obtain ⟨rfl, rfl, rfl⟩ := q; exact g)
theorem Go.cS_vn {idx : Nat} {y : MethodName} {bytes : ByteArray} {maxL : Nat} {ret : Option FieldType} {n : Nat} (m : Nat) (d' : Nat) (As : List Value) (hE : E.2.1 = m) (hm : m ≤ n1) (hW : SW y bytes maxL ret n) (hM : Con G y (.code y bytes maxL ret) d' m m As P E (QD none P1 E)) (hlk : Cond.methodLink own idx y ∈ lw_gd) (hAs : As.length = n) (hdd : d' + 1 ≤ d) (hst : (st.map fun v => v.category).sum ≤ 8) (hd : decode cc pc = .ok (.invokestatic idx, 3)) (st0 : List Value) (hst0 : st0 = As.reverse ++ st)
    (g : Go G cc own nL rt ini d n0 n1 Q (pc + 3) lv st P1 E) : Go G cc own nL rt ini d n0 n1 Q pc lv st0 P E := by
  subst hE
  exact Go.callS d' n As E.2.1 hM ⟨Nat.le_refl _, hm⟩ (fun r P' E' q => by rw [q.2.2]) hlk hW.1 hW.2.1 hW.2.2.1 hW.2.2.2.1 hAs hdd hW.2.2.2.2 hst hd st0 hst0 (fun r P' E' q => by obtain ⟨rfl, rfl, rfl⟩ := q; exact g)
end GO6
theorem t_l_Ja_fill_ABB_5c {G : GX} (hG : GOK G) {E : EV} (hE : E0c E) (d : Nat) (hd : 1 ≤ d) {Q : QT} : ∀ (n : Nat) (x1 : Int32) (x2 : Int32) (x3 : Int32) (P : PM), St E rP (l_Ja_fill_ABB_5 59 1960 n x1 x2 x3 P) Q → Go G c_Ja_fill_ABB "java/util/Arrays" 4 none false d 63 63 Q 5 [(0, .ref (ad E 59)), (1, .int x1), (2, .int x2), (3, .int x3)] [] P E := by
  intro n
  induction n with
  | zero =>
    intro x1 x2 x3 P h
    rw [l_Ja_fill_ABB_5] at h
    exact St.none_ h
  | succ n ih =>
    intro x1 x2 x3 P h
    rw [l_Ja_fill_ABB_5] at h
    refine Go.iload_n (k := 2) (i := 2) 2 (by decide +kernel) rfl rfl ?_
    refine Go.iload_n (k := 3) (i := 3) 3 (by decide +kernel) rfl rfl ?_
    refine Go.icmp_ge (off := 13) 20 (by decide +kernel) (by decide) (fun c1 => ?_) (fun c1 => ?_)
    · rw [if_pos c1] at h
      exact Go.vret rfl hE.1 (by decide +kernel) (St.fP h)
    · rw [if_neg c1] at h
      refine Go.aload_n (k := 0) (i := 0) 0 (by decide +kernel) rfl rfl ?_
      refine Go.iload_n (k := 2) (i := 2) 2 (by decide +kernel) rfl rfl ?_
      refine Go.iload_n (k := 1) (i := 1) 1 (by decide +kernel) rfl rfl ?_
      obtain ⟨b2, h⟩ := St.ck h
      refine Go.bastore 59 1960 sh59 (ltc hE (by decide)) (inb_in b2) (by decide +kernel) ?_
      refine Go.iinc (i := 2) (n := 1) 2 (x2 + (1 : Int32)) [(2, .int (x2 + (1 : Int32))), (0, .ref (ad E 59)), (1, .int x1), (3, .int x3)] (by decide +kernel) rfl rfl (by decide) rfl ?_
      refine Go.goto (off := -12) 5 (by decide +kernel) (by decide) ?_
      refine Go.sub [1, 2, 0, 3] [(0, .ref (ad E 59)), (1, .int x1), (2, .int (x2 + (1 : Int32))), (3, .int x3)] rfl ?_
      exact ih x1 (x2 + (1 : Int32)) x3 (u1 P 59 x2.toNatClampNeg (vp_nar .byte x1)) h
theorem t_f_Ja_fill_ABBc {G : GX} (hG : GOK G) {E : EV} (hE : E0c E) (d : Nat) (hd : 1 ≤ d) {Q : QT} (a1 : Int32) (P : PM) (h : St E rP (f_Ja_fill_ABB 59 1960 a1 P) Q) : Go G c_Ja_fill_ABB "java/util/Arrays" 4 none false d 63 63 Q 0 [(0, .ref (ad E 59)), (1, .int a1)] [] P E := by
  rw [f_Ja_fill_ABB] at h
  refine Go.iconst (n := 0) (0 : Int32) (by decide +kernel) rfl ?_
  refine Go.istore_n (k := 2) (i := 2) [(2, .int (0 : Int32)), (0, .ref (ad E 59)), (1, .int a1)] (by decide +kernel) rfl (by decide) rfl ?_
  refine Go.aload_n (k := 0) (i := 0) 1 (by decide +kernel) rfl rfl ?_
  refine Go.alen 59 1 1960 (Int32.ofNat 1960) sh59 (by decide) (ltc hE (by decide)) rfl (by decide +kernel) ?_
  obtain ⟨y1, hy1, h⟩ := St.lb h
  refine Go.eqi y1 hy1 ?_
  refine Go.istore_n (k := 3) (i := 3) [(3, .int y1), (2, .int (0 : Int32)), (0, .ref (ad E 59)), (1, .int a1)] (by decide +kernel) rfl (by decide) rfl ?_
  refine Go.sub [2, 3, 1, 0] [(0, .ref (ad E 59)), (1, .int a1), (2, .int (0 : Int32)), (3, .int y1)] rfl ?_
  exact t_l_Ja_fill_ABB_5c hG hE d hd FU a1 (0 : Int32) y1 P h
theorem e_Ja_fill_ABBc {G : GX} (hG : GOK G) {E : EV} (hE : E0c E) (d : Nat) (hd : 1 ≤ d) (a1 : Int32) (P : PM) {Q : QT} (h : St E rP (f_Ja_fill_ABB 59 1960 a1 P) Q) : Con G y_Ja_fill_ABB cw_Ja_fill_ABB d 63 63 [.ref (ad E 59), .int a1] P E Q :=
  Con.of hG (by decide +kernel) rfl (fun h => by cases h) hE.1 (Nat.le_of_ble_eq_true rfl) (t_f_Ja_fill_ABBc hG hE d hd a1 P h)
theorem t_f_Pa_forgetAllc {G : GX} (hG : GOK G) {E : EV} (hE : E0c E) (d : Nat) (hd : 2 ≤ d) {Q : QT} (P : PM) (h : St E rP (f_Pa_forgetAll P) Q) : Go G c_Pa_forgetAll "YawnRoute$Passings" 1 none false d 63 63 Q 0 [(0, .ref (ad E 58))] [] P E := by
  rw [f_Pa_forgetAll] at h
  refine Go.aload_n (k := 0) (i := 0) 0 (by decide +kernel) rfl rfl ?_
  refine Go.get 58 2 (.ref (ad E 59)) (by decide) (by decide) sh58 (ltc hE (by decide)) (vlR2 rfl hE.2) lk291 (by decide +kernel) ?_
  refine Go.bipush (n := -2) (-2 : Int32) (by decide +kernel) (by decide) ?_
  obtain ⟨P1, hP1, h⟩ := St.bind h
  refine Go.cS_vc (P1 := P1) (d - 1) [.ref (ad E 59), .int (-2 : Int32)] hE w_Ja_fill_ABB (e_Ja_fill_ABBc hG hE (d - 1) (by omega) (-2 : Int32) P ⟨_, hP1, rfl, rfl, rfl⟩) lk286 rfl (by omega) (Nat.le_of_ble_eq_true rfl) (by decide +kernel) _ rfl ?_
  exact Go.vret rfl hE.1 (by decide +kernel) (St.fP h)
theorem e_Pa_forgetAllc {G : GX} (hG : GOK G) {E : EV} (hE : E0c E) (d : Nat) (hd : 2 ≤ d) (P : PM) {Q : QT} (h : St E rP (f_Pa_forgetAll P) Q) : Con G y_Pa_forgetAll cw_Pa_forgetAll d 63 63 [.ref (ad E 58)] P E Q :=
  Con.of hG (by decide +kernel) rfl (fun h => by cases h) hE.1 (Nat.le_of_ble_eq_true rfl) (t_f_Pa_forgetAllc hG hE d hd P h)
theorem Zr.row {P : PM} {E : EV} {k a b : Nat} {x : Int32} (h : Zr P E) (hk : k < E.2.1) : Zr (rowI P k a b x) E :=
  ⟨fun u hu v => ⟨by show ite _ _ _ = _; rw [if_neg (by omega)]; exact (h.1 u hu v).1, (h.1 u hu v).2⟩, h.2⟩
abbrev c_Ta_init : ByteArray := prog_11_method_1_code
abbrev y_Ta_init : MethodName := ⟨"YawnRoute$Tape", "<init>", "()V"⟩
abbrev cw_Ta_init : Cond := .code y_Ta_init c_Ta_init 1 none
def PF_Ta_init (P : PM) : PM := (u1 P 1 8 (-1 : Int32))
def RF_Ta_init (f : Nat → Nat → Option Nat) : Nat → Nat → Option Nat := ur (f) 1 0 2
theorem e_Ta_init {G : GX} (hG : GOK G) (d : Nat) (hd : 1 ≤ d) (P : PM) (E : EV) (hz : Zr P E) (hn : E.2.1 = 2) : Con G y_Ta_init cw_Ta_init d (2) (3) [.ref (ad E 1)] P E (CQ (3) (PF_Ta_init P) (RF_Ta_init E.1) E) := by
  refine Con.of hG (own := "YawnRoute$Tape") (ini := true) (by decide +kernel) rfl (fun _ => rfl) hn (Nat.le_of_ble_eq_true rfl) ?_
  show Go G c_Ta_init "YawnRoute$Tape" 1 none true d (2) (3) _ 0 [(0, .ref (ad E 1))] [] P E
  refine Go.aload_n (k := 0) (i := 0) 0 (by decide +kernel) rfl rfl ?_
  refine Go.objInit lk36 lk29 lk30 (by omega) (Nat.le_of_ble_eq_true rfl) (by decide +kernel) ?_
  refine Go.aload_n (k := 0) (i := 0) 0 (by decide +kernel) rfl rfl ?_
  refine Go.sipush (n := 900) (900 : Int32) (by decide +kernel) (by decide) ?_
  refine Go.newaZ (atype := .byte) 1 900 (by decide) rfl (by rw [hn]; exact sh2) (by rw [hn]; decide) hz lk73 (by rw [hn]; decide) (by decide) (by decide) (by decide) (by decide +kernel) (fun E1 r1 n1 a1 z1 => ?_)
  rw [hn] at n1 a1 ⊢
  have b1 : ∀ k, (k < E.2.1 ∨ 1000 ≤ k) → ad E1 k = ad E k := fun k hk => (a1 k (by rw [hn] at hk; omega)).trans ((fun k _ => rfl) k hk)
  rw [← a1 1 (Or.inl (by decide))]
  replace n1 : E1.2.1 = 3 := n1
  have s1 : E1.1 = E.1 := r1
  refine Go.putRZ 1 0 2 (by decide) (by decide) sh1 (by rw [n1]; decide) (by rw [n1]; decide) z1 (Or.inr ⟨_, rfl⟩) rfl rfl rfl lk37 (by decide +kernel) (fun E2 r2 n2 a2 z2 => ?_)
  have b2 : ∀ k, (k < E.2.1 ∨ 1000 ≤ k) → ad E2 k = ad E k := fun k hk => (a2 k).trans (b1 k hk)
  rw [← a2 1]
  rw [n1] at n2
  have s2 : E2.1 = ur (E.1) 1 0 2 := by rw [r2, s1]
  refine Go.aload_n (k := 0) (i := 0) 0 (by decide +kernel) rfl rfl ?_
  refine Go.iconst (n := -1) (-1 : Int32) (by decide +kernel) rfl ?_
  refine Go.put 1 8 (by decide) (by decide) sh1 (by rw [n2]; decide) (Or.inl rfl) rfl rfl rfl lk52 (by decide +kernel) ?_
  have y15 := Zr.u1 (j := 8) (x := (-1 : Int32)) z2 (k := 1) (by rw [n2]; decide)
  exact Go.vret rfl n2 (by decide +kernel) ⟨rfl, rfl, s2, n2, y15, b2⟩
abbrev c_Ne_init : ByteArray := prog_4_method_1_code
abbrev y_Ne_init : MethodName := ⟨"YawnRoute$Net", "<init>", "()V"⟩
abbrev cw_Ne_init : Cond := .code y_Ne_init c_Ne_init 1 none
def PF_Ne_init (this : Nat) (P : PM) : PM := P
def RF_Ne_init (this : Nat) (f : Nat → Nat → Option Nat) : Nat → Nat → Option Nat := ur (ur (ur (ur (ur (ur (f) this 2 (this + 1)) this 3 (this + 2)) this 4 (this + 3)) this 5 (this + 4)) this 11 (this + 5)) this 12 (this + 6)
theorem e_Ne_init {G : GX} (hG : GOK G) (d : Nat) (hd : 1 ≤ d) (this : Nat) (hthis : sh this = .inl 2) (P : PM) (E : EV) (hz : Zr P E) (hn : E.2.1 = this + 1) : Con G y_Ne_init cw_Ne_init d (this + 1) (this + 7) [.ref (ad E this)] P E (CQ (this + 7) (PF_Ne_init this P) (RF_Ne_init this E.1) E) := by
  refine Con.of hG (own := "YawnRoute$Net") (ini := true) (by decide +kernel) rfl (fun _ => rfl) hn (Nat.le_of_ble_eq_true rfl) ?_
  show Go G c_Ne_init "YawnRoute$Net" 1 none true d (this + 1) (this + 7) _ 0 [(0, .ref (ad E this))] [] P E
  refine Go.aload_n (k := 0) (i := 0) 0 (by decide +kernel) rfl rfl ?_
  refine Go.objInit lk85 lk29 lk30 (by omega) (Nat.le_of_ble_eq_true rfl) (by decide +kernel) ?_
  refine Go.aload_n (k := 0) (i := 0) 0 (by decide +kernel) rfl rfl ?_
  refine Go.bipush (n := 7) (7 : Int32) (by decide +kernel) (by decide) ?_
  refine Go.newaZ (atype := .int) 0 7 (by decide) rfl (by rw [hn]; exact shNe_2 hthis) (by rw [hn]; have h9 : this < 130 := ltO' hthis; omega) hz lk142 (by rw [hn]; have h9 : this < 130 := ltO' hthis; omega) (by decide) (by decide) (by decide) (by decide +kernel) (fun E1 r1 n1 a1 z1 => ?_)
  rw [hn] at n1 a1 ⊢
  have b1 : ∀ k, (k < E.2.1 ∨ 1000 ≤ k) → ad E1 k = ad E k := fun k hk => (a1 k (by rw [hn] at hk; omega)).trans ((fun k _ => rfl) k hk)
  rw [← a1 this (Or.inl (by omega))]
  replace n1 : E1.2.1 = this + 2 := n1
  have s1 : E1.1 = E.1 := r1
  refine Go.putRZ this 2 (this + 1) (by decide) (by decide) hthis (by rw [n1]; omega) (by rw [n1]; omega) z1 (Or.inr ⟨_, rfl⟩) rfl rfl rfl lk97 (by decide +kernel) (fun E2 r2 n2 a2 z2 => ?_)
  have b2 : ∀ k, (k < E.2.1 ∨ 1000 ≤ k) → ad E2 k = ad E k := fun k hk => (a2 k).trans (b1 k hk)
  rw [← a2 this]
  rw [n1] at n2
  have s2 : E2.1 = ur (E.1) this 2 (this + 1) := by rw [r2, s1]
  refine Go.aload_n (k := 0) (i := 0) 0 (by decide +kernel) rfl rfl ?_
  refine Go.bipush (n := 49) (49 : Int32) (by decide +kernel) (by decide) ?_
  refine Go.newaZ (atype := .int) 0 49 (by decide) rfl (by rw [n2]; exact shNe_3 hthis) (by rw [n2]; have h9 : this < 130 := ltO' hthis; omega) z2 lk142 (by rw [n2]; have h9 : this < 130 := ltO' hthis; omega) (by decide) (by decide) (by decide) (by decide +kernel) (fun E3 r3 n3 a3 z3 => ?_)
  rw [n2] at n3 a3 ⊢
  have b3 : ∀ k, (k < E.2.1 ∨ 1000 ≤ k) → ad E3 k = ad E k := fun k hk => (a3 k (by rw [hn] at hk; omega)).trans (b2 k hk)
  rw [← a3 this (Or.inl (by omega))]
  replace n3 : E3.2.1 = this + 3 := n3
  have s3 : E3.1 = ur (E.1) this 2 (this + 1) := by rw [r3, s2]
  refine Go.putRZ this 3 (this + 2) (by decide) (by decide) hthis (by rw [n3]; omega) (by rw [n3]; omega) z3 (Or.inr ⟨_, rfl⟩) rfl rfl rfl lk100 (by decide +kernel) (fun E4 r4 n4 a4 z4 => ?_)
  have b4 : ∀ k, (k < E.2.1 ∨ 1000 ≤ k) → ad E4 k = ad E k := fun k hk => (a4 k).trans (b3 k hk)
  rw [← a4 this]
  rw [n3] at n4
  have s4 : E4.1 = ur (ur (E.1) this 2 (this + 1)) this 3 (this + 2) := by rw [r4, s3]
  refine Go.aload_n (k := 0) (i := 0) 0 (by decide +kernel) rfl rfl ?_
  refine Go.bipush (n := 49) (49 : Int32) (by decide +kernel) (by decide) ?_
  refine Go.newaZ (atype := .int) 0 49 (by decide) rfl (by rw [n4]; exact shNe_4 hthis) (by rw [n4]; have h9 : this < 130 := ltO' hthis; omega) z4 lk142 (by rw [n4]; have h9 : this < 130 := ltO' hthis; omega) (by decide) (by decide) (by decide) (by decide +kernel) (fun E5 r5 n5 a5 z5 => ?_)
  rw [n4] at n5 a5 ⊢
  have b5 : ∀ k, (k < E.2.1 ∨ 1000 ≤ k) → ad E5 k = ad E k := fun k hk => (a5 k (by rw [hn] at hk; omega)).trans (b4 k hk)
  rw [← a5 this (Or.inl (by omega))]
  replace n5 : E5.2.1 = this + 4 := n5
  have s5 : E5.1 = ur (ur (E.1) this 2 (this + 1)) this 3 (this + 2) := by rw [r5, s4]
  refine Go.putRZ this 4 (this + 3) (by decide) (by decide) hthis (by rw [n5]; omega) (by rw [n5]; omega) z5 (Or.inr ⟨_, rfl⟩) rfl rfl rfl lk101 (by decide +kernel) (fun E6 r6 n6 a6 z6 => ?_)
  have b6 : ∀ k, (k < E.2.1 ∨ 1000 ≤ k) → ad E6 k = ad E k := fun k hk => (a6 k).trans (b5 k hk)
  rw [← a6 this]
  rw [n5] at n6
  have s6 : E6.1 = ur (ur (ur (E.1) this 2 (this + 1)) this 3 (this + 2)) this 4 (this + 3) := by rw [r6, s5]
  refine Go.aload_n (k := 0) (i := 0) 0 (by decide +kernel) rfl rfl ?_
  refine Go.sipush (n := 900) (900 : Int32) (by decide +kernel) (by decide) ?_
  refine Go.newaZ (atype := .int) 0 900 (by decide) rfl (by rw [n6]; exact shNe_5 hthis) (by rw [n6]; have h9 : this < 130 := ltO' hthis; omega) z6 lk142 (by rw [n6]; have h9 : this < 130 := ltO' hthis; omega) (by decide) (by decide) (by decide) (by decide +kernel) (fun E7 r7 n7 a7 z7 => ?_)
  rw [n6] at n7 a7 ⊢
  have b7 : ∀ k, (k < E.2.1 ∨ 1000 ≤ k) → ad E7 k = ad E k := fun k hk => (a7 k (by rw [hn] at hk; omega)).trans (b6 k hk)
  rw [← a7 this (Or.inl (by omega))]
  replace n7 : E7.2.1 = this + 5 := n7
  have s7 : E7.1 = ur (ur (ur (E.1) this 2 (this + 1)) this 3 (this + 2)) this 4 (this + 3) := by rw [r7, s6]
  refine Go.putRZ this 5 (this + 4) (by decide) (by decide) hthis (by rw [n7]; omega) (by rw [n7]; omega) z7 (Or.inr ⟨_, rfl⟩) rfl rfl rfl lk102 (by decide +kernel) (fun E8 r8 n8 a8 z8 => ?_)
  have b8 : ∀ k, (k < E.2.1 ∨ 1000 ≤ k) → ad E8 k = ad E k := fun k hk => (a8 k).trans (b7 k hk)
  rw [← a8 this]
  rw [n7] at n8
  have s8 : E8.1 = ur (ur (ur (ur (E.1) this 2 (this + 1)) this 3 (this + 2)) this 4 (this + 3)) this 5 (this + 4) := by rw [r8, s7]
  refine Go.aload_n (k := 0) (i := 0) 0 (by decide +kernel) rfl rfl ?_
  refine Go.bipush (n := 6) (6 : Int32) (by decide +kernel) (by decide) ?_
  refine Go.newaZ (atype := .int) 0 6 (by decide) rfl (by rw [n8]; exact shNe_11 hthis) (by rw [n8]; have h9 : this < 130 := ltO' hthis; omega) z8 lk142 (by rw [n8]; have h9 : this < 130 := ltO' hthis; omega) (by decide) (by decide) (by decide) (by decide +kernel) (fun E9 r9 n9 a9 z9 => ?_)
  rw [n8] at n9 a9 ⊢
  have b9 : ∀ k, (k < E.2.1 ∨ 1000 ≤ k) → ad E9 k = ad E k := fun k hk => (a9 k (by rw [hn] at hk; omega)).trans (b8 k hk)
  rw [← a9 this (Or.inl (by omega))]
  replace n9 : E9.2.1 = this + 6 := n9
  have s9 : E9.1 = ur (ur (ur (ur (E.1) this 2 (this + 1)) this 3 (this + 2)) this 4 (this + 3)) this 5 (this + 4) := by rw [r9, s8]
  refine Go.putRZ this 11 (this + 5) (by decide) (by decide) hthis (by rw [n9]; omega) (by rw [n9]; omega) z9 (Or.inr ⟨_, rfl⟩) rfl rfl rfl lk113 (by decide +kernel) (fun E10 r10 n10 a10 z10 => ?_)
  have b10 : ∀ k, (k < E.2.1 ∨ 1000 ≤ k) → ad E10 k = ad E k := fun k hk => (a10 k).trans (b9 k hk)
  rw [← a10 this]
  rw [n9] at n10
  have s10 : E10.1 = ur (ur (ur (ur (ur (E.1) this 2 (this + 1)) this 3 (this + 2)) this 4 (this + 3)) this 5 (this + 4)) this 11 (this + 5) := by rw [r10, s9]
  refine Go.aload_n (k := 0) (i := 0) 0 (by decide +kernel) rfl rfl ?_
  refine Go.bipush (n := 64) (64 : Int32) (by decide +kernel) (by decide) ?_
  refine Go.newaZ (atype := .int) 0 64 (by decide) rfl (by rw [n10]; exact shNe_12 hthis) (by rw [n10]; have h9 : this < 130 := ltO' hthis; omega) z10 lk142 (by rw [n10]; have h9 : this < 130 := ltO' hthis; omega) (by decide) (by decide) (by decide) (by decide +kernel) (fun E11 r11 n11 a11 z11 => ?_)
  rw [n10] at n11 a11 ⊢
  have b11 : ∀ k, (k < E.2.1 ∨ 1000 ≤ k) → ad E11 k = ad E k := fun k hk => (a11 k (by rw [hn] at hk; omega)).trans (b10 k hk)
  rw [← a11 this (Or.inl (by omega))]
  replace n11 : E11.2.1 = this + 7 := n11
  have s11 : E11.1 = ur (ur (ur (ur (ur (E.1) this 2 (this + 1)) this 3 (this + 2)) this 4 (this + 3)) this 5 (this + 4)) this 11 (this + 5) := by rw [r11, s10]
  refine Go.putRZ this 12 (this + 6) (by decide) (by decide) hthis (by rw [n11]; omega) (by rw [n11]; omega) z11 (Or.inr ⟨_, rfl⟩) rfl rfl rfl lk114 (by decide +kernel) (fun E12 r12 n12 a12 z12 => ?_)
  have b12 : ∀ k, (k < E.2.1 ∨ 1000 ≤ k) → ad E12 k = ad E k := fun k hk => (a12 k).trans (b11 k hk)
  rw [← a12 this]
  rw [n11] at n12
  have s12 : E12.1 = ur (ur (ur (ur (ur (ur (E.1) this 2 (this + 1)) this 3 (this + 2)) this 4 (this + 3)) this 5 (this + 4)) this 11 (this + 5)) this 12 (this + 6) := by rw [r12, s11]
  exact Go.vret rfl n12 (by decide +kernel) ⟨rfl, rfl, s12, n12, z12, b12⟩
abbrev c_Sa_init : ByteArray := prog_9_method_1_code
abbrev y_Sa_init : MethodName := ⟨"YawnRoute$State", "<init>", "()V"⟩
abbrev cw_Sa_init : Cond := .code y_Sa_init c_Sa_init 1 none
def PF_Sa_init (this : Nat) (P : PM) : PM := (u1 P this 0 (-1 : Int32))
def RF_Sa_init (this : Nat) (f : Nat → Nat → Option Nat) : Nat → Nat → Option Nat := ur (f) this 4 (this + 1)
theorem e_Sa_init {G : GX} (hG : GOK G) (d : Nat) (hd : 1 ≤ d) (this : Nat) (hthis : sh this = .inl 7) (P : PM) (E : EV) (hz : Zr P E) (hn : E.2.1 = this + 1) : Con G y_Sa_init cw_Sa_init d (this + 1) (this + 2) [.ref (ad E this)] P E (CQ (this + 2) (PF_Sa_init this P) (RF_Sa_init this E.1) E) := by
  refine Con.of hG (own := "YawnRoute$State") (ini := true) (by decide +kernel) rfl (fun _ => rfl) hn (Nat.le_of_ble_eq_true rfl) ?_
  show Go G c_Sa_init "YawnRoute$State" 1 none true d (this + 1) (this + 2) _ 0 [(0, .ref (ad E this))] [] P E
  refine Go.aload_n (k := 0) (i := 0) 0 (by decide +kernel) rfl rfl ?_
  refine Go.objInit lk148 lk29 lk30 (by omega) (Nat.le_of_ble_eq_true rfl) (by decide +kernel) ?_
  refine Go.aload_n (k := 0) (i := 0) 0 (by decide +kernel) rfl rfl ?_
  refine Go.iconst (n := -1) (-1 : Int32) (by decide +kernel) rfl ?_
  refine Go.put this 0 (by decide) (by decide) hthis (by rw [hn]; omega) (Or.inl rfl) rfl rfl rfl lk149 (by decide +kernel) ?_
  have y6 := Zr.u1 (j := 0) (x := (-1 : Int32)) hz (k := this) (by rw [hn]; omega)
  refine Go.aload_n (k := 0) (i := 0) 0 (by decide +kernel) rfl rfl ?_
  refine Go.bipush (n := 7) (7 : Int32) (by decide +kernel) (by decide) ?_
  refine Go.newaZ (atype := .int) 0 7 (by decide) rfl (by rw [hn]; exact shSa_4 hthis) (by rw [hn]; have h9 : this < 130 := ltO' hthis; omega) y6 lk142 (by rw [hn]; have h9 : this < 130 := ltO' hthis; omega) (by decide) (by decide) (by decide) (by decide +kernel) (fun E1 r1 n1 a1 z1 => ?_)
  rw [hn] at n1 a1 ⊢
  have b1 : ∀ k, (k < E.2.1 ∨ 1000 ≤ k) → ad E1 k = ad E k := fun k hk => (a1 k (by rw [hn] at hk; omega)).trans ((fun k _ => rfl) k hk)
  rw [← a1 this (Or.inl (by omega))]
  replace n1 : E1.2.1 = this + 2 := n1
  have s1 : E1.1 = E.1 := r1
  refine Go.putRZ this 4 (this + 1) (by decide) (by decide) hthis (by rw [n1]; omega) (by rw [n1]; omega) z1 (Or.inr ⟨_, rfl⟩) rfl rfl rfl lk170 (by decide +kernel) (fun E2 r2 n2 a2 z2 => ?_)
  have b2 : ∀ k, (k < E.2.1 ∨ 1000 ≤ k) → ad E2 k = ad E k := fun k hk => (a2 k).trans (b1 k hk)
  rw [← a2 this]
  rw [n1] at n2
  have s2 : E2.1 = ur (E.1) this 4 (this + 1) := by rw [r2, s1]
  exact Go.vret rfl n2 (by decide +kernel) ⟨rfl, rfl, s2, n2, z2, b2⟩
abbrev c_Lr_init : ByteArray := prog_3_method_1_code
abbrev y_Lr_init : MethodName := ⟨"YawnRoute$LawReader", "<init>", "(LYawnRoute$Tape;LYawnRoute$Net;)V"⟩
abbrev cw_Lr_init : Cond := .code y_Lr_init c_Lr_init 3 none
def PF_Lr_init (P : PM) : PM := P
def RF_Lr_init (f : Nat → Nat → Option Nat) : Nat → Nat → Option Nat := ur (ur (f) 13 0 1) 13 1 4
theorem e_Lr_init {G : GX} (hG : GOK G) (d : Nat) (hd : 1 ≤ d) (P : PM) (E : EV) (hz : Zr P E) (hn : E.2.1 = 14) : Con G y_Lr_init cw_Lr_init d (14) (14) [.ref (ad E 13), .ref (ad E 1), .ref (ad E 4)] P E (CQ (14) (PF_Lr_init P) (RF_Lr_init E.1) E) := by
  refine Con.of hG (own := "YawnRoute$LawReader") (ini := true) (by decide +kernel) rfl (fun _ => rfl) hn (Nat.le_of_ble_eq_true rfl) ?_
  show Go G c_Lr_init "YawnRoute$LawReader" 3 none true d (14) (14) _ 0 [(0, .ref (ad E 13)), (1, .ref (ad E 1)), (2, .ref (ad E 4))] [] P E
  refine Go.aload_n (k := 0) (i := 0) 0 (by decide +kernel) rfl rfl ?_
  refine Go.objInit lk187 lk29 lk30 (by omega) (Nat.le_of_ble_eq_true rfl) (by decide +kernel) ?_
  refine Go.aload_n (k := 0) (i := 0) 0 (by decide +kernel) rfl rfl ?_
  refine Go.aload_n (k := 1) (i := 1) 1 (by decide +kernel) rfl rfl ?_
  refine Go.putRZ 13 0 1 (by decide) (by decide) sh13 (by rw [hn]; decide) (by rw [hn]; decide) hz (Or.inl ⟨_, rfl⟩) rfl rfl rfl lk188 (by decide +kernel) (fun E1 r1 n1 a1 z1 => ?_)
  have b1 : ∀ k, (k < E.2.1 ∨ 1000 ≤ k) → ad E1 k = ad E k := fun k hk => (a1 k).trans ((fun k _ => rfl) k hk)
  rw [← a1 13, ← a1 1, ← a1 4]
  rw [hn] at n1
  have s1 : E1.1 = ur (E.1) 13 0 1 := r1
  refine Go.aload_n (k := 0) (i := 0) 0 (by decide +kernel) rfl rfl ?_
  refine Go.aload_n (k := 2) (i := 2) 2 (by decide +kernel) rfl rfl ?_
  refine Go.putRZ 13 1 4 (by decide) (by decide) sh13 (by rw [n1]; decide) (by rw [n1]; decide) z1 (Or.inl ⟨_, rfl⟩) rfl rfl rfl lk189 (by decide +kernel) (fun E2 r2 n2 a2 z2 => ?_)
  have b2 : ∀ k, (k < E.2.1 ∨ 1000 ≤ k) → ad E2 k = ad E k := fun k hk => (a2 k).trans (b1 k hk)
  rw [← a2 13, ← a2 1, ← a2 4]
  rw [n1] at n2
  have s2 : E2.1 = ur (ur (E.1) 13 0 1) 13 1 4 := by rw [r2, s1]
  exact Go.vret rfl n2 (by decide +kernel) ⟨rfl, rfl, s2, n2, z2, b2⟩
abbrev c_Nr_init : ByteArray := prog_5_method_1_code
abbrev y_Nr_init : MethodName := ⟨"YawnRoute$NetReader", "<init>", "(LYawnRoute$Tape;)V"⟩
abbrev cw_Nr_init : Cond := .code y_Nr_init c_Nr_init 2 none
def PF_Nr_init (P : PM) : PM := (PF_Lr_init (PF_Sa_init 11 (PF_Ne_init 4 P)))
def RF_Nr_init (f : Nat → Nat → Option Nat) : Nat → Nat → Option Nat := ur ((RF_Lr_init (ur (ur ((RF_Sa_init 11 (ur ((RF_Ne_init 4 (f))) 3 1 4))) 3 2 11) 3 0 1))) 3 3 13
theorem e_Nr_init {G : GX} (hG : GOK G) (d : Nat) (hd : 2 ≤ d) (P : PM) (E : EV) (hz : Zr P E) (hn : E.2.1 = 4) : Con G y_Nr_init cw_Nr_init d (4) (14) [.ref (ad E 3), .ref (ad E 1)] P E (CQ (14) (PF_Nr_init P) (RF_Nr_init E.1) E) := by
  refine Con.of hG (own := "YawnRoute$NetReader") (ini := true) (by decide +kernel) rfl (fun _ => rfl) hn (Nat.le_of_ble_eq_true rfl) ?_
  show Go G c_Nr_init "YawnRoute$NetReader" 2 none true d (4) (14) _ 0 [(0, .ref (ad E 3)), (1, .ref (ad E 1))] [] P E
  refine Go.aload_n (k := 0) (i := 0) 0 (by decide +kernel) rfl rfl ?_
  refine Go.objInit lk79 lk29 lk30 (by omega) (Nat.le_of_ble_eq_true rfl) (by decide +kernel) ?_
  refine Go.aload_n (k := 0) (i := 0) 0 (by decide +kernel) rfl rfl ?_
  refine Go.newZ 2 (by decide) (by rw [hn]; exact sh4) (by rw [hn]; decide) hz lk80 lk81 lk4 (by rw [hn]; decide) (by decide +kernel) (fun E1 r1 n1 a1 z1 => ?_)
  rw [hn] at n1 a1 ⊢
  have b1 : ∀ k, (k < E.2.1 ∨ 1000 ≤ k) → ad E1 k = ad E k := fun k hk => (a1 k (by rw [hn] at hk; omega)).trans ((fun k _ => rfl) k hk)
  rw [← a1 3 (Or.inl (by decide)), ← a1 1 (Or.inl (by decide))]
  replace n1 : E1.2.1 = 5 := n1
  have s1 : E1.1 = E.1 := r1
  refine Go.dup (by decide +kernel) rfl ?_
  refine Go.callIN (Qc := CQ (11) ((PF_Ne_init 4 P)) (RF_Ne_init 4 (E1.1)) E1) (d - 1) 0 _ [] (11) (by rw [n1]; exact (e_Ne_init hG (d - 1) (by omega) 4 sh4 P E1 z1 n1)) ⟨by rw [n1]; decide, by decide⟩ (fun _ _ _ q => q.2.2.2.1) nw1 lk83 lk4 lk84 rfl ⟨by decide, by decide, by decide +kernel⟩ rfl (by omega) (by decide) (Nat.le_of_ble_eq_true rfl) (by decide +kernel) _ rfl (fun _ P9 E2 q9 => ?_)
  obtain ⟨e1, e2, r2, n2, z2, a2⟩ := q9
  subst e1
  rw [e2] at z2 ⊢
  clear e2
  dsimp only [Option.toList, List.nil_append]
  rw [n1] at a2
  have b2 : ∀ k, (k < E.2.1 ∨ 1000 ≤ k) → ad E2 k = ad E k := fun k hk => (a2 k (by rw [hn] at hk; omega)).trans (b1 k hk)
  rw [← a2 3 (Or.inl (by decide)), ← a2 1 (Or.inl (by decide)), ← a2 4 (Or.inl (by decide))]
  have s2 : E2.1 = (RF_Ne_init 4 (E.1)) := by rw [r2, s1]
  refine Go.putRZ 3 1 4 (by decide) (by decide) sh3 (by rw [n2]; decide) (by rw [n2]; decide) z2 (Or.inl ⟨_, rfl⟩) rfl rfl rfl lk196 (by decide +kernel) (fun E3 r3 n3 a3 z3 => ?_)
  have b3 : ∀ k, (k < E.2.1 ∨ 1000 ≤ k) → ad E3 k = ad E k := fun k hk => (a3 k).trans (b2 k hk)
  rw [← a3 3, ← a3 1]
  rw [n2] at n3
  have s3 : E3.1 = ur ((RF_Ne_init 4 (E.1))) 3 1 4 := by rw [r3, s2]
  refine Go.aload_n (k := 0) (i := 0) 0 (by decide +kernel) rfl rfl ?_
  refine Go.newZ 7 (by decide) (by rw [n3]; exact sh11) (by rw [n3]; decide) z3 lk143 lk144 lk5 (by rw [n3]; decide) (by decide +kernel) (fun E4 r4 n4 a4 z4 => ?_)
  rw [n3] at n4 a4 ⊢
  have b4 : ∀ k, (k < E.2.1 ∨ 1000 ≤ k) → ad E4 k = ad E k := fun k hk => (a4 k (by rw [hn] at hk; omega)).trans (b3 k hk)
  rw [← a4 3 (Or.inl (by decide)), ← a4 1 (Or.inl (by decide))]
  replace n4 : E4.2.1 = 12 := n4
  have s4 : E4.1 = ur ((RF_Ne_init 4 (E.1))) 3 1 4 := by rw [r4, s3]
  refine Go.dup (by decide +kernel) rfl ?_
  refine Go.callIN (Qc := CQ (13) ((PF_Sa_init 11 (PF_Ne_init 4 P))) (RF_Sa_init 11 (E4.1)) E4) (d - 1) 0 _ [] (13) (by rw [n4]; exact (e_Sa_init hG (d - 1) (by omega) 11 sh11 (PF_Ne_init 4 P) E4 z4 n4)) ⟨by rw [n4]; decide, by decide⟩ (fun _ _ _ q => q.2.2.2.1) nw2 lk146 lk5 lk147 rfl ⟨by decide, by decide, by decide +kernel⟩ rfl (by omega) (by decide) (Nat.le_of_ble_eq_true rfl) (by decide +kernel) _ rfl (fun _ P20 E5 q20 => ?_)
  obtain ⟨e1, e2, r5, n5, z5, a5⟩ := q20
  subst e1
  rw [e2] at z5 ⊢
  clear e2
  dsimp only [Option.toList, List.nil_append]
  rw [n4] at a5
  have b5 : ∀ k, (k < E.2.1 ∨ 1000 ≤ k) → ad E5 k = ad E k := fun k hk => (a5 k (by rw [hn] at hk; omega)).trans (b4 k hk)
  rw [← a5 3 (Or.inl (by decide)), ← a5 1 (Or.inl (by decide)), ← a5 11 (Or.inl (by decide))]
  have s5 : E5.1 = (RF_Sa_init 11 (ur ((RF_Ne_init 4 (E.1))) 3 1 4)) := by rw [r5, s4]
  refine Go.putRZ 3 2 11 (by decide) (by decide) sh3 (by rw [n5]; decide) (by rw [n5]; decide) z5 (Or.inl ⟨_, rfl⟩) rfl rfl rfl lk198 (by decide +kernel) (fun E6 r6 n6 a6 z6 => ?_)
  have b6 : ∀ k, (k < E.2.1 ∨ 1000 ≤ k) → ad E6 k = ad E k := fun k hk => (a6 k).trans (b5 k hk)
  rw [← a6 3, ← a6 1]
  rw [n5] at n6
  have s6 : E6.1 = ur ((RF_Sa_init 11 (ur ((RF_Ne_init 4 (E.1))) 3 1 4))) 3 2 11 := by rw [r6, s5]
  refine Go.aload_n (k := 0) (i := 0) 0 (by decide +kernel) rfl rfl ?_
  refine Go.aload_n (k := 1) (i := 1) 1 (by decide +kernel) rfl rfl ?_
  refine Go.putRZ 3 0 1 (by decide) (by decide) sh3 (by rw [n6]; decide) (by rw [n6]; decide) z6 (Or.inl ⟨_, rfl⟩) rfl rfl rfl lk195 (by decide +kernel) (fun E7 r7 n7 a7 z7 => ?_)
  have b7 : ∀ k, (k < E.2.1 ∨ 1000 ≤ k) → ad E7 k = ad E k := fun k hk => (a7 k).trans (b6 k hk)
  rw [← a7 3, ← a7 1]
  rw [n6] at n7
  have s7 : E7.1 = ur (ur ((RF_Sa_init 11 (ur ((RF_Ne_init 4 (E.1))) 3 1 4))) 3 2 11) 3 0 1 := by rw [r7, s6]
  refine Go.aload_n (k := 0) (i := 0) 0 (by decide +kernel) rfl rfl ?_
  refine Go.newZ 1 (by decide) (by rw [n7]; exact sh13) (by rw [n7]; decide) z7 lk182 lk183 lk6 (by rw [n7]; decide) (by decide +kernel) (fun E8 r8 n8 a8 z8 => ?_)
  rw [n7] at n8 a8 ⊢
  have b8 : ∀ k, (k < E.2.1 ∨ 1000 ≤ k) → ad E8 k = ad E k := fun k hk => (a8 k (by rw [hn] at hk; omega)).trans (b7 k hk)
  rw [← a8 3 (Or.inl (by decide)), ← a8 1 (Or.inl (by decide))]
  replace n8 : E8.2.1 = 14 := n8
  have s8 : E8.1 = ur (ur ((RF_Sa_init 11 (ur ((RF_Ne_init 4 (E.1))) 3 1 4))) 3 2 11) 3 0 1 := by rw [r8, s7]
  refine Go.dup (by decide +kernel) rfl ?_
  refine Go.aload_n (k := 1) (i := 1) 1 (by decide +kernel) rfl rfl ?_
  refine Go.aload_n (k := 0) (i := 0) 0 (by decide +kernel) rfl rfl ?_
  refine Go.get 3 1 (.ref (ad E8 4)) (by decide) (by decide) sh3 (by rw [n8]; decide) (vlR2 rfl (by rw [s8]; rfl)) lk196 (by decide +kernel) ?_
  refine Go.callI (Qc := CQ (14) ((PF_Lr_init (PF_Sa_init 11 (PF_Ne_init 4 P)))) (RF_Lr_init (E8.1)) E8) (d - 1) 2 _ [.ref (ad E8 1), .ref (ad E8 4)] (14) (by rw [n8]; exact (e_Lr_init hG (d - 1) (by omega) (PF_Sa_init 11 (PF_Ne_init 4 P)) E8 z8 n8)) ⟨by rw [n8]; decide, by decide⟩ (fun _ _ _ q => q.2.2.2.1) lk184 lk185 lk6 lk186 rfl ⟨by decide, by decide, by decide +kernel⟩ rfl (by omega) (by decide) (Nat.le_of_ble_eq_true rfl) (by decide +kernel) _ rfl (fun _ P41 E9 q41 => ?_)
  obtain ⟨e1, e2, r9, n9, z9, a9⟩ := q41
  subst e1
  rw [e2] at z9 ⊢
  clear e2
  dsimp only [Option.toList, List.nil_append]
  rw [n8] at a9
  have b9 : ∀ k, (k < E.2.1 ∨ 1000 ≤ k) → ad E9 k = ad E k := fun k hk => (a9 k (by rw [hn] at hk; omega)).trans (b8 k hk)
  rw [← a9 3 (Or.inl (by decide)), ← a9 1 (Or.inl (by decide)), ← a9 13 (Or.inl (by decide))]
  have s9 : E9.1 = (RF_Lr_init (ur (ur ((RF_Sa_init 11 (ur ((RF_Ne_init 4 (E.1))) 3 1 4))) 3 2 11) 3 0 1)) := by rw [r9, s8]
  refine Go.putRZ 3 3 13 (by decide) (by decide) sh3 (by rw [n9]; decide) (by rw [n9]; decide) z9 (Or.inl ⟨_, rfl⟩) rfl rfl rfl lk200 (by decide +kernel) (fun E10 r10 n10 a10 z10 => ?_)
  have b10 : ∀ k, (k < E.2.1 ∨ 1000 ≤ k) → ad E10 k = ad E k := fun k hk => (a10 k).trans (b9 k hk)
  rw [← a10 3, ← a10 1]
  rw [n9] at n10
  have s10 : E10.1 = ur ((RF_Lr_init (ur (ur ((RF_Sa_init 11 (ur ((RF_Ne_init 4 (E.1))) 3 1 4))) 3 2 11) 3 0 1))) 3 3 13 := by rw [r10, s9]
  exact Go.vret rfl n10 (by decide +kernel) ⟨rfl, rfl, s10, n10, z10, b10⟩
abbrev c_Tr_init : ByteArray := prog_12_method_1_code
abbrev y_Tr_init : MethodName := ⟨"YawnRoute$Trays", "<init>", "()V"⟩
abbrev cw_Tr_init : Cond := .code y_Tr_init c_Tr_init 1 none
def PF_Tr_init (P : PM) : PM := (u1 (u1 (u1 (u1 P 29 (Int32.toNatClampNeg (0 : Int32)) (-1 : Int32)) 29 (Int32.toNatClampNeg (1 : Int32)) (-1 : Int32)) 29 (Int32.toNatClampNeg (2 : Int32)) (-1 : Int32)) 29 (Int32.toNatClampNeg (3 : Int32)) (-1 : Int32))
def RF_Tr_init (f : Nat → Nat → Option Nat) : Nat → Nat → Option Nat := ur (ur (ur (um (f) 24 4) 23 0 24) 23 1 29) 23 2 30
theorem e_Tr_init {G : GX} (hG : GOK G) (d : Nat) (hd : 1 ≤ d) (P : PM) (E : EV) (hz : Zr P E) (hn : E.2.1 = 24) : Con G y_Tr_init cw_Tr_init d (24) (31) [.ref (ad E 23)] P E (CQ (31) (PF_Tr_init P) (RF_Tr_init E.1) E) := by
  refine Con.of hG (own := "YawnRoute$Trays") (ini := true) (by decide +kernel) rfl (fun _ => rfl) hn (Nat.le_of_ble_eq_true rfl) ?_
  show Go G c_Tr_init "YawnRoute$Trays" 1 none true d (24) (31) _ 0 [(0, .ref (ad E 23))] [] P E
  refine Go.aload_n (k := 0) (i := 0) 0 (by decide +kernel) rfl rfl ?_
  refine Go.objInit lk219 lk29 lk30 (by omega) (Nat.le_of_ble_eq_true rfl) (by decide +kernel) ?_
  refine Go.aload_n (k := 0) (i := 0) 0 (by decide +kernel) rfl rfl ?_
  refine Go.iconst (n := 4) (4 : Int32) (by decide +kernel) rfl ?_
  refine Go.bipush (n := 40) (40 : Int32) (by decide +kernel) (by decide) ?_
  refine Go.multi 3 7 4 40 (by decide) (by decide) rfl (by rw [hn]; exact sh24) (by rw [hn]; decide) (by rw [hn]; decide +kernel) (by rw [hn]; decide) hz (by decide +kernel) lk220 (fun g => g.2.2.2.2.2.1) lk232 (by rw [hn]; decide) (by decide) (by decide) (by decide) (by decide) (by decide) (by decide) (by decide +kernel) (fun E1 r1 n1 a1 z1 => ?_)
  rw [hn] at n1 a1 ⊢
  have b1 : ∀ k, (k < E.2.1 ∨ 1000 ≤ k) → ad E1 k = ad E k := fun k hk => (a1 k (by rw [hn] at hk; omega)).trans ((fun k _ => rfl) k hk)
  rw [← a1 23 (Or.inl (by decide))]
  replace n1 : E1.2.1 = 29 := n1
  have s1 : E1.1 = um (E.1) 24 4 := by rw [r1, hn]
  refine Go.putRZ 23 0 24 (by decide) (by decide) sh23 (by rw [n1]; decide) (by rw [n1]; decide) z1 (Or.inr ⟨_, rfl⟩) rfl rfl rfl lk222 (by decide +kernel) (fun E2 r2 n2 a2 z2 => ?_)
  have b2 : ∀ k, (k < E.2.1 ∨ 1000 ≤ k) → ad E2 k = ad E k := fun k hk => (a2 k).trans (b1 k hk)
  rw [← a2 23]
  rw [n1] at n2
  have s2 : E2.1 = ur (um (E.1) 24 4) 23 0 24 := by rw [r2, s1]
  refine Go.aload_n (k := 0) (i := 0) 0 (by decide +kernel) rfl rfl ?_
  refine Go.iconst (n := 4) (4 : Int32) (by decide +kernel) rfl ?_
  refine Go.newaZ (atype := .int) 0 4 (by decide) rfl (by rw [n2]; exact sh29) (by rw [n2]; decide) z2 lk142 (by rw [n2]; decide) (by decide) (by decide) (by decide) (by decide +kernel) (fun E3 r3 n3 a3 z3 => ?_)
  rw [n2] at n3 a3 ⊢
  have b3 : ∀ k, (k < E.2.1 ∨ 1000 ≤ k) → ad E3 k = ad E k := fun k hk => (a3 k (by rw [hn] at hk; omega)).trans (b2 k hk)
  rw [← a3 23 (Or.inl (by decide))]
  replace n3 : E3.2.1 = 30 := n3
  have s3 : E3.1 = ur (um (E.1) 24 4) 23 0 24 := by rw [r3, s2]
  refine Go.dup (by decide +kernel) rfl ?_
  refine Go.iconst (n := 0) (0 : Int32) (by decide +kernel) rfl ?_
  refine Go.iconst (n := -1) (-1 : Int32) (by decide +kernel) rfl ?_
  refine Go.iastore 29 4 sh29 (by rw [n3]; decide) (vp_in_iff.mpr (by decide)) (by decide +kernel) ?_
  have y22 := Zr.u1 (j := Int32.toNatClampNeg (0 : Int32)) (x := (-1 : Int32)) z3 (k := 29) (by rw [n3]; decide)
  refine Go.dup (by decide +kernel) rfl ?_
  refine Go.iconst (n := 1) (1 : Int32) (by decide +kernel) rfl ?_
  refine Go.iconst (n := -1) (-1 : Int32) (by decide +kernel) rfl ?_
  refine Go.iastore 29 4 sh29 (by rw [n3]; decide) (vp_in_iff.mpr (by decide)) (by decide +kernel) ?_
  have y26 := Zr.u1 (j := Int32.toNatClampNeg (1 : Int32)) (x := (-1 : Int32)) y22 (k := 29) (by rw [n3]; decide)
  refine Go.dup (by decide +kernel) rfl ?_
  refine Go.iconst (n := 2) (2 : Int32) (by decide +kernel) rfl ?_
  refine Go.iconst (n := -1) (-1 : Int32) (by decide +kernel) rfl ?_
  refine Go.iastore 29 4 sh29 (by rw [n3]; decide) (vp_in_iff.mpr (by decide)) (by decide +kernel) ?_
  have y30 := Zr.u1 (j := Int32.toNatClampNeg (2 : Int32)) (x := (-1 : Int32)) y26 (k := 29) (by rw [n3]; decide)
  refine Go.dup (by decide +kernel) rfl ?_
  refine Go.iconst (n := 3) (3 : Int32) (by decide +kernel) rfl ?_
  refine Go.iconst (n := -1) (-1 : Int32) (by decide +kernel) rfl ?_
  refine Go.iastore 29 4 sh29 (by rw [n3]; decide) (vp_in_iff.mpr (by decide)) (by decide +kernel) ?_
  have y34 := Zr.u1 (j := Int32.toNatClampNeg (3 : Int32)) (x := (-1 : Int32)) y30 (k := 29) (by rw [n3]; decide)
  refine Go.putRZ 23 1 29 (by decide) (by decide) sh23 (by rw [n3]; decide) (by rw [n3]; decide) y34 (Or.inr ⟨_, rfl⟩) rfl rfl rfl lk223 (by decide +kernel) (fun E4 r4 n4 a4 z4 => ?_)
  have b4 : ∀ k, (k < E.2.1 ∨ 1000 ≤ k) → ad E4 k = ad E k := fun k hk => (a4 k).trans (b3 k hk)
  rw [← a4 23]
  rw [n3] at n4
  have s4 : E4.1 = ur (ur (um (E.1) 24 4) 23 0 24) 23 1 29 := by rw [r4, s3]
  refine Go.aload_n (k := 0) (i := 0) 0 (by decide +kernel) rfl rfl ?_
  refine Go.iconst (n := 4) (4 : Int32) (by decide +kernel) rfl ?_
  refine Go.newaZ (atype := .int) 0 4 (by decide) rfl (by rw [n4]; exact sh30) (by rw [n4]; decide) z4 lk142 (by rw [n4]; decide) (by decide) (by decide) (by decide) (by decide +kernel) (fun E5 r5 n5 a5 z5 => ?_)
  rw [n4] at n5 a5 ⊢
  have b5 : ∀ k, (k < E.2.1 ∨ 1000 ≤ k) → ad E5 k = ad E k := fun k hk => (a5 k (by rw [hn] at hk; omega)).trans (b4 k hk)
  rw [← a5 23 (Or.inl (by decide))]
  replace n5 : E5.2.1 = 31 := n5
  have s5 : E5.1 = ur (ur (um (E.1) 24 4) 23 0 24) 23 1 29 := by rw [r5, s4]
  refine Go.putRZ 23 2 30 (by decide) (by decide) sh23 (by rw [n5]; decide) (by rw [n5]; decide) z5 (Or.inr ⟨_, rfl⟩) rfl rfl rfl lk224 (by decide +kernel) (fun E6 r6 n6 a6 z6 => ?_)
  have b6 : ∀ k, (k < E.2.1 ∨ 1000 ≤ k) → ad E6 k = ad E k := fun k hk => (a6 k).trans (b5 k hk)
  rw [← a6 23]
  rw [n5] at n6
  have s6 : E6.1 = ur (ur (ur (um (E.1) 24 4) 23 0 24) 23 1 29) 23 2 30 := by rw [r6, s5]
  exact Go.vret rfl n6 (by decide +kernel) ⟨rfl, rfl, s6, n6, z6, b6⟩
abbrev c_De_init : ByteArray := prog_2_method_1_code
abbrev y_De_init : MethodName := ⟨"YawnRoute$Deeds", "<init>", "(LYawnRoute$Net;LYawnRoute$State;LYawnRoute$Trays;)V"⟩
abbrev cw_De_init : Cond := .code y_De_init c_De_init 5 none
def PF_De_init (P : PM) : PM := (PF_Sa_init 56 (PF_Sa_init 54 (PF_Sa_init 52 (PF_Sa_init 50 (PF_Sa_init 48 (PF_Sa_init 46 (PF_Sa_init 44 (PF_Sa_init 42 (PF_Sa_init 40 (PF_Sa_init 38 (PF_Sa_init 36 (PF_Sa_init 32 P))))))))))))
def RF_De_init (f : Nat → Nat → Option Nat) : Nat → Nat → Option Nat := ur ((RF_Sa_init 56 (ur ((RF_Sa_init 54 (ur ((RF_Sa_init 52 (ur ((RF_Sa_init 50 (ur ((RF_Sa_init 48 (ur ((RF_Sa_init 46 (ur ((RF_Sa_init 44 (ur ((RF_Sa_init 42 (ur ((RF_Sa_init 40 (ur ((RF_Sa_init 38 (ur ((RF_Sa_init 36 (ur (ur (ur (ur (ur (ur ((RF_Sa_init 32 (f))) 31 3 32) 31 6 34) 31 9 35) 31 0 14) 31 1 21) 31 2 23))) 34 0 36))) 34 1 38))) 34 2 40))) 34 3 42))) 34 4 44))) 34 5 46))) 34 6 48))) 34 7 50))) 34 8 52))) 34 9 54))) 34 10 56
theorem e_De_init {G : GX} (hG : GOK G) (d : Nat) (hd : 2 ≤ d) (P : PM) (E : EV) (hz : Zr P E) (hn : E.2.1 = 32) : Con G y_De_init cw_De_init d (32) (58) [.ref (ad E 31), .ref (ad E 14), .ref (ad E 21), .ref (ad E 23)] P E (CQ (58) (PF_De_init P) (RF_De_init E.1) E) := by
  refine Con.of hG (own := "YawnRoute$Deeds") (ini := true) (by decide +kernel) rfl (fun _ => rfl) hn (Nat.le_of_ble_eq_true rfl) ?_
  show Go G c_De_init "YawnRoute$Deeds" 5 none true d (32) (58) _ 0 [(0, .ref (ad E 31)), (1, .ref (ad E 14)), (2, .ref (ad E 21)), (3, .ref (ad E 23))] [] P E
  refine Go.aload_n (k := 0) (i := 0) 0 (by decide +kernel) rfl rfl ?_
  refine Go.objInit lk238 lk29 lk30 (by omega) (Nat.le_of_ble_eq_true rfl) (by decide +kernel) ?_
  refine Go.aload_n (k := 0) (i := 0) 0 (by decide +kernel) rfl rfl ?_
  refine Go.newZ 7 (by decide) (by rw [hn]; exact sh32) (by rw [hn]; decide) hz lk239 lk144 lk5 (by rw [hn]; decide) (by decide +kernel) (fun E1 r1 n1 a1 z1 => ?_)
  rw [hn] at n1 a1 ⊢
  have b1 : ∀ k, (k < E.2.1 ∨ 1000 ≤ k) → ad E1 k = ad E k := fun k hk => (a1 k (by rw [hn] at hk; omega)).trans ((fun k _ => rfl) k hk)
  rw [← a1 31 (Or.inl (by decide)), ← a1 14 (Or.inl (by decide)), ← a1 21 (Or.inl (by decide)), ← a1 23 (Or.inl (by decide))]
  replace n1 : E1.2.1 = 33 := n1
  have s1 : E1.1 = E.1 := r1
  refine Go.dup (by decide +kernel) rfl ?_
  refine Go.callIN (Qc := CQ (34) ((PF_Sa_init 32 P)) (RF_Sa_init 32 (E1.1)) E1) (d - 1) 0 _ [] (34) (by rw [n1]; exact (e_Sa_init hG (d - 1) (by omega) 32 sh32 P E1 z1 n1)) ⟨by rw [n1]; decide, by decide⟩ (fun _ _ _ q => q.2.2.2.1) nw6 lk146 lk5 lk147 rfl ⟨by decide, by decide, by decide +kernel⟩ rfl (by omega) (by decide) (Nat.le_of_ble_eq_true rfl) (by decide +kernel) _ rfl (fun _ P9 E2 q9 => ?_)
  obtain ⟨e1, e2, r2, n2, z2, a2⟩ := q9
  subst e1
  rw [e2] at z2 ⊢
  clear e2
  dsimp only [Option.toList, List.nil_append]
  rw [n1] at a2
  have b2 : ∀ k, (k < E.2.1 ∨ 1000 ≤ k) → ad E2 k = ad E k := fun k hk => (a2 k (by rw [hn] at hk; omega)).trans (b1 k hk)
  rw [← a2 31 (Or.inl (by decide)), ← a2 14 (Or.inl (by decide)), ← a2 21 (Or.inl (by decide)), ← a2 23 (Or.inl (by decide)), ← a2 32 (Or.inl (by decide))]
  have s2 : E2.1 = (RF_Sa_init 32 (E.1)) := by rw [r2, s1]
  refine Go.putRZ 31 3 32 (by decide) (by decide) sh31 (by rw [n2]; decide) (by rw [n2]; decide) z2 (Or.inl ⟨_, rfl⟩) rfl rfl rfl lk245 (by decide +kernel) (fun E3 r3 n3 a3 z3 => ?_)
  have b3 : ∀ k, (k < E.2.1 ∨ 1000 ≤ k) → ad E3 k = ad E k := fun k hk => (a3 k).trans (b2 k hk)
  rw [← a3 31, ← a3 14, ← a3 21, ← a3 23]
  rw [n2] at n3
  have s3 : E3.1 = ur ((RF_Sa_init 32 (E.1))) 31 3 32 := by rw [r3, s2]
  refine Go.aload_n (k := 0) (i := 0) 0 (by decide +kernel) rfl rfl ?_
  refine Go.bipush (n := 11) (11 : Int32) (by decide +kernel) (by decide) ?_
  refine Go.newqZ 4 11 "YawnRoute$State" (by decide) rfl (by rw [n3]; exact sh34) (by rw [n3]; decide) z3 lk239 (fun g => g.2.2.1) (by rw [n3]; decide) (by decide) (by decide) (by decide) (by decide +kernel) (fun E4 r4 n4 a4 z4 => ?_)
  rw [n3] at n4 a4 ⊢
  have b4 : ∀ k, (k < E.2.1 ∨ 1000 ≤ k) → ad E4 k = ad E k := fun k hk => (a4 k (by rw [hn] at hk; omega)).trans (b3 k hk)
  rw [← a4 31 (Or.inl (by decide)), ← a4 14 (Or.inl (by decide)), ← a4 21 (Or.inl (by decide)), ← a4 23 (Or.inl (by decide))]
  replace n4 : E4.2.1 = 35 := n4
  have s4 : E4.1 = ur ((RF_Sa_init 32 (E.1))) 31 3 32 := by rw [r4, s3]
  refine Go.putRZ 31 6 34 (by decide) (by decide) sh31 (by rw [n4]; decide) (by rw [n4]; decide) z4 (Or.inr ⟨_, rfl⟩) rfl rfl rfl lk251 (by decide +kernel) (fun E5 r5 n5 a5 z5 => ?_)
  have b5 : ∀ k, (k < E.2.1 ∨ 1000 ≤ k) → ad E5 k = ad E k := fun k hk => (a5 k).trans (b4 k hk)
  rw [← a5 31, ← a5 14, ← a5 21, ← a5 23]
  rw [n4] at n5
  have s5 : E5.1 = ur (ur ((RF_Sa_init 32 (E.1))) 31 3 32) 31 6 34 := by rw [r5, s4]
  refine Go.aload_n (k := 0) (i := 0) 0 (by decide +kernel) rfl rfl ?_
  refine Go.bipush (n := 41) (41 : Int32) (by decide +kernel) (by decide) ?_
  refine Go.newaZ (atype := .int) 0 41 (by decide) rfl (by rw [n5]; exact sh35) (by rw [n5]; decide) z5 lk142 (by rw [n5]; decide) (by decide) (by decide) (by decide) (by decide +kernel) (fun E6 r6 n6 a6 z6 => ?_)
  rw [n5] at n6 a6 ⊢
  have b6 : ∀ k, (k < E.2.1 ∨ 1000 ≤ k) → ad E6 k = ad E k := fun k hk => (a6 k (by rw [hn] at hk; omega)).trans (b5 k hk)
  rw [← a6 31 (Or.inl (by decide)), ← a6 14 (Or.inl (by decide)), ← a6 21 (Or.inl (by decide)), ← a6 23 (Or.inl (by decide))]
  replace n6 : E6.2.1 = 36 := n6
  have s6 : E6.1 = ur (ur ((RF_Sa_init 32 (E.1))) 31 3 32) 31 6 34 := by rw [r6, s5]
  refine Go.putRZ 31 9 35 (by decide) (by decide) sh31 (by rw [n6]; decide) (by rw [n6]; decide) z6 (Or.inr ⟨_, rfl⟩) rfl rfl rfl lk254 (by decide +kernel) (fun E7 r7 n7 a7 z7 => ?_)
  have b7 : ∀ k, (k < E.2.1 ∨ 1000 ≤ k) → ad E7 k = ad E k := fun k hk => (a7 k).trans (b6 k hk)
  rw [← a7 31, ← a7 14, ← a7 21, ← a7 23]
  rw [n6] at n7
  have s7 : E7.1 = ur (ur (ur ((RF_Sa_init 32 (E.1))) 31 3 32) 31 6 34) 31 9 35 := by rw [r7, s6]
  refine Go.aload_n (k := 0) (i := 0) 0 (by decide +kernel) rfl rfl ?_
  refine Go.aload_n (k := 1) (i := 1) 1 (by decide +kernel) rfl rfl ?_
  refine Go.putRZ 31 0 14 (by decide) (by decide) sh31 (by rw [n7]; decide) (by rw [n7]; decide) z7 (Or.inl ⟨_, rfl⟩) rfl rfl rfl lk242 (by decide +kernel) (fun E8 r8 n8 a8 z8 => ?_)
  have b8 : ∀ k, (k < E.2.1 ∨ 1000 ≤ k) → ad E8 k = ad E k := fun k hk => (a8 k).trans (b7 k hk)
  rw [← a8 31, ← a8 14, ← a8 21, ← a8 23]
  rw [n7] at n8
  have s8 : E8.1 = ur (ur (ur (ur ((RF_Sa_init 32 (E.1))) 31 3 32) 31 6 34) 31 9 35) 31 0 14 := by rw [r8, s7]
  refine Go.aload_n (k := 0) (i := 0) 0 (by decide +kernel) rfl rfl ?_
  refine Go.aload_n (k := 2) (i := 2) 2 (by decide +kernel) rfl rfl ?_
  refine Go.putRZ 31 1 21 (by decide) (by decide) sh31 (by rw [n8]; decide) (by rw [n8]; decide) z8 (Or.inl ⟨_, rfl⟩) rfl rfl rfl lk243 (by decide +kernel) (fun E9 r9 n9 a9 z9 => ?_)
  have b9 : ∀ k, (k < E.2.1 ∨ 1000 ≤ k) → ad E9 k = ad E k := fun k hk => (a9 k).trans (b8 k hk)
  rw [← a9 31, ← a9 14, ← a9 21, ← a9 23]
  rw [n8] at n9
  have s9 : E9.1 = ur (ur (ur (ur (ur ((RF_Sa_init 32 (E.1))) 31 3 32) 31 6 34) 31 9 35) 31 0 14) 31 1 21 := by rw [r9, s8]
  refine Go.aload_n (k := 0) (i := 0) 0 (by decide +kernel) rfl rfl ?_
  refine Go.aload_n (k := 3) (i := 3) 3 (by decide +kernel) rfl rfl ?_
  refine Go.putRZ 31 2 23 (by decide) (by decide) sh31 (by rw [n9]; decide) (by rw [n9]; decide) z9 (Or.inl ⟨_, rfl⟩) rfl rfl rfl lk244 (by decide +kernel) (fun E10 r10 n10 a10 z10 => ?_)
  have b10 : ∀ k, (k < E.2.1 ∨ 1000 ≤ k) → ad E10 k = ad E k := fun k hk => (a10 k).trans (b9 k hk)
  rw [← a10 31, ← a10 14, ← a10 21, ← a10 23]
  rw [n9] at n10
  have s10 : E10.1 = ur (ur (ur (ur (ur (ur ((RF_Sa_init 32 (E.1))) 31 3 32) 31 6 34) 31 9 35) 31 0 14) 31 1 21) 31 2 23 := by rw [r10, s9]
  refine Go.iconst (n := 0) (0 : Int32) (by decide +kernel) rfl ?_
  refine Go.istore (i := 4) [(4, .int (0 : Int32)), (0, .ref (ad E10 31)), (1, .ref (ad E10 14)), (2, .ref (ad E10 21)), (3, .ref (ad E10 23))] (by decide +kernel) (by decide) rfl ?_
  refine Go.iload (i := 4) 0 (by decide +kernel) rfl ?_
  refine Go.bipush (n := 11) (11 : Int32) (by decide +kernel) (by decide) ?_
  refine Go.icmp_ge (off := 23) 77 (by decide +kernel) (by decide) (fun c => absurd c (by decide)) (fun c => ?_)
  refine Go.aload_n (k := 0) (i := 0) 1 (by decide +kernel) rfl rfl ?_
  refine Go.get 31 6 (.ref (ad E10 34)) (by decide) (by decide) sh31 (by rw [n10]; decide) (vlR2 rfl (by rw [s10]; rfl)) lk251 (by decide +kernel) ?_
  refine Go.iload (i := 4) 0 (by decide +kernel) rfl ?_
  refine Go.newZ 7 (by decide) (by rw [n10]; exact sh36) (by rw [n10]; decide) z10 lk239 lk144 lk5 (by rw [n10]; decide) (by decide +kernel) (fun E11 r11 n11 a11 z11 => ?_)
  rw [n10] at n11 a11 ⊢
  have b11 : ∀ k, (k < E.2.1 ∨ 1000 ≤ k) → ad E11 k = ad E k := fun k hk => (a11 k (by rw [hn] at hk; omega)).trans (b10 k hk)
  rw [← a11 31 (Or.inl (by decide)), ← a11 14 (Or.inl (by decide)), ← a11 21 (Or.inl (by decide)), ← a11 23 (Or.inl (by decide)), ← a11 34 (Or.inl (by decide))]
  replace n11 : E11.2.1 = 37 := n11
  have s11 : E11.1 = ur (ur (ur (ur (ur (ur ((RF_Sa_init 32 (E.1))) 31 3 32) 31 6 34) 31 9 35) 31 0 14) 31 1 21) 31 2 23 := by rw [r11, s10]
  refine Go.dup (by decide +kernel) rfl ?_
  refine Go.callIN (Qc := CQ (38) ((PF_Sa_init 36 (PF_Sa_init 32 P))) (RF_Sa_init 36 (E11.1)) E11) (d - 1) 0 _ [] (38) (by rw [n11]; exact (e_Sa_init hG (d - 1) (by omega) 36 sh36 (PF_Sa_init 32 P) E11 z11 n11)) ⟨by rw [n11]; decide, by decide⟩ (fun _ _ _ q => q.2.2.2.1) nw6 lk146 lk5 lk147 rfl ⟨by decide, by decide, by decide +kernel⟩ rfl (by omega) (by decide) (Nat.le_of_ble_eq_true rfl) (by decide +kernel) _ rfl (fun _ P67 E12 q67 => ?_)
  obtain ⟨e1, e2, r12, n12, z12, a12⟩ := q67
  subst e1
  rw [e2] at z12 ⊢
  clear e2
  dsimp only [Option.toList, List.nil_append]
  rw [n11] at a12
  have b12 : ∀ k, (k < E.2.1 ∨ 1000 ≤ k) → ad E12 k = ad E k := fun k hk => (a12 k (by rw [hn] at hk; omega)).trans (b11 k hk)
  rw [← a12 31 (Or.inl (by decide)), ← a12 14 (Or.inl (by decide)), ← a12 21 (Or.inl (by decide)), ← a12 23 (Or.inl (by decide)), ← a12 34 (Or.inl (by decide)), ← a12 36 (Or.inl (by decide))]
  have s12 : E12.1 = (RF_Sa_init 36 (ur (ur (ur (ur (ur (ur ((RF_Sa_init 32 (E.1))) 31 3 32) 31 6 34) 31 9 35) 31 0 14) 31 1 21) 31 2 23)) := by rw [r12, s11]
  refine Go.aastoreZ 34 4 11 36 0 sh34 (by decide) (by rw [n12]; decide) (by decide) sh36 (by rw [n12]; decide) rfl (vp_in_iff.mpr (by decide)) (by decide) z12 (by decide +kernel) (fun E13 r13 n13 a13 z13 => ?_)
  have b13 : ∀ k, (k < E.2.1 ∨ 1000 ≤ k) → ad E13 k = ad E k := fun k hk => (a13 k).trans (b12 k hk)
  rw [← a13 31, ← a13 14, ← a13 21, ← a13 23]
  rw [n12] at n13
  have s13 : E13.1 = ur ((RF_Sa_init 36 (ur (ur (ur (ur (ur (ur ((RF_Sa_init 32 (E.1))) 31 3 32) 31 6 34) 31 9 35) 31 0 14) 31 1 21) 31 2 23))) 34 0 36 := by rw [r13, s12]
  refine Go.iincV (i := 4) (n := 1) 0 (1 : Int32) [(4, .int (1 : Int32)), (0, .ref (ad E13 31)), (1, .ref (ad E13 14)), (2, .ref (ad E13 21)), (3, .ref (ad E13 23))] (by decide +kernel) rfl (by decide) (by decide) rfl ?_
  refine Go.goto (off := -24) 50 (by decide +kernel) (by decide) ?_
  refine Go.iload (i := 4) 0 (by decide +kernel) rfl ?_
  refine Go.bipush (n := 11) (11 : Int32) (by decide +kernel) (by decide) ?_
  refine Go.icmp_ge (off := 23) 77 (by decide +kernel) (by decide) (fun c => absurd c (by decide)) (fun c => ?_)
  refine Go.aload_n (k := 0) (i := 0) 1 (by decide +kernel) rfl rfl ?_
  refine Go.get 31 6 (.ref (ad E13 34)) (by decide) (by decide) sh31 (by rw [n13]; decide) (vlR2 rfl (by rw [s13]; rfl)) lk251 (by decide +kernel) ?_
  refine Go.iload (i := 4) 0 (by decide +kernel) rfl ?_
  refine Go.newZ 7 (by decide) (by rw [n13]; exact sh38) (by rw [n13]; decide) z13 lk239 lk144 lk5 (by rw [n13]; decide) (by decide +kernel) (fun E14 r14 n14 a14 z14 => ?_)
  rw [n13] at n14 a14 ⊢
  have b14 : ∀ k, (k < E.2.1 ∨ 1000 ≤ k) → ad E14 k = ad E k := fun k hk => (a14 k (by rw [hn] at hk; omega)).trans (b13 k hk)
  rw [← a14 31 (Or.inl (by decide)), ← a14 14 (Or.inl (by decide)), ← a14 21 (Or.inl (by decide)), ← a14 23 (Or.inl (by decide)), ← a14 34 (Or.inl (by decide))]
  replace n14 : E14.2.1 = 39 := n14
  have s14 : E14.1 = ur ((RF_Sa_init 36 (ur (ur (ur (ur (ur (ur ((RF_Sa_init 32 (E.1))) 31 3 32) 31 6 34) 31 9 35) 31 0 14) 31 1 21) 31 2 23))) 34 0 36 := by rw [r14, s13]
  refine Go.dup (by decide +kernel) rfl ?_
  refine Go.callIN (Qc := CQ (40) ((PF_Sa_init 38 (PF_Sa_init 36 (PF_Sa_init 32 P)))) (RF_Sa_init 38 (E14.1)) E14) (d - 1) 0 _ [] (40) (by rw [n14]; exact (e_Sa_init hG (d - 1) (by omega) 38 sh38 (PF_Sa_init 36 (PF_Sa_init 32 P)) E14 z14 n14)) ⟨by rw [n14]; decide, by decide⟩ (fun _ _ _ q => q.2.2.2.1) nw6 lk146 lk5 lk147 rfl ⟨by decide, by decide, by decide +kernel⟩ rfl (by omega) (by decide) (Nat.le_of_ble_eq_true rfl) (by decide +kernel) _ rfl (fun _ P67 E15 q67 => ?_)
  obtain ⟨e1, e2, r15, n15, z15, a15⟩ := q67
  subst e1
  rw [e2] at z15 ⊢
  clear e2
  dsimp only [Option.toList, List.nil_append]
  rw [n14] at a15
  have b15 : ∀ k, (k < E.2.1 ∨ 1000 ≤ k) → ad E15 k = ad E k := fun k hk => (a15 k (by rw [hn] at hk; omega)).trans (b14 k hk)
  rw [← a15 31 (Or.inl (by decide)), ← a15 14 (Or.inl (by decide)), ← a15 21 (Or.inl (by decide)), ← a15 23 (Or.inl (by decide)), ← a15 34 (Or.inl (by decide)), ← a15 38 (Or.inl (by decide))]
  have s15 : E15.1 = (RF_Sa_init 38 (ur ((RF_Sa_init 36 (ur (ur (ur (ur (ur (ur ((RF_Sa_init 32 (E.1))) 31 3 32) 31 6 34) 31 9 35) 31 0 14) 31 1 21) 31 2 23))) 34 0 36)) := by rw [r15, s14]
  refine Go.aastoreZ 34 4 11 38 1 sh34 (by decide) (by rw [n15]; decide) (by decide) sh38 (by rw [n15]; decide) rfl (vp_in_iff.mpr (by decide)) (by decide) z15 (by decide +kernel) (fun E16 r16 n16 a16 z16 => ?_)
  have b16 : ∀ k, (k < E.2.1 ∨ 1000 ≤ k) → ad E16 k = ad E k := fun k hk => (a16 k).trans (b15 k hk)
  rw [← a16 31, ← a16 14, ← a16 21, ← a16 23]
  rw [n15] at n16
  have s16 : E16.1 = ur ((RF_Sa_init 38 (ur ((RF_Sa_init 36 (ur (ur (ur (ur (ur (ur ((RF_Sa_init 32 (E.1))) 31 3 32) 31 6 34) 31 9 35) 31 0 14) 31 1 21) 31 2 23))) 34 0 36))) 34 1 38 := by rw [r16, s15]
  refine Go.iincV (i := 4) (n := 1) 0 (2 : Int32) [(4, .int (2 : Int32)), (0, .ref (ad E16 31)), (1, .ref (ad E16 14)), (2, .ref (ad E16 21)), (3, .ref (ad E16 23))] (by decide +kernel) rfl (by decide) (by decide) rfl ?_
  refine Go.goto (off := -24) 50 (by decide +kernel) (by decide) ?_
  refine Go.iload (i := 4) 0 (by decide +kernel) rfl ?_
  refine Go.bipush (n := 11) (11 : Int32) (by decide +kernel) (by decide) ?_
  refine Go.icmp_ge (off := 23) 77 (by decide +kernel) (by decide) (fun c => absurd c (by decide)) (fun c => ?_)
  refine Go.aload_n (k := 0) (i := 0) 1 (by decide +kernel) rfl rfl ?_
  refine Go.get 31 6 (.ref (ad E16 34)) (by decide) (by decide) sh31 (by rw [n16]; decide) (vlR2 rfl (by rw [s16]; rfl)) lk251 (by decide +kernel) ?_
  refine Go.iload (i := 4) 0 (by decide +kernel) rfl ?_
  refine Go.newZ 7 (by decide) (by rw [n16]; exact sh40) (by rw [n16]; decide) z16 lk239 lk144 lk5 (by rw [n16]; decide) (by decide +kernel) (fun E17 r17 n17 a17 z17 => ?_)
  rw [n16] at n17 a17 ⊢
  have b17 : ∀ k, (k < E.2.1 ∨ 1000 ≤ k) → ad E17 k = ad E k := fun k hk => (a17 k (by rw [hn] at hk; omega)).trans (b16 k hk)
  rw [← a17 31 (Or.inl (by decide)), ← a17 14 (Or.inl (by decide)), ← a17 21 (Or.inl (by decide)), ← a17 23 (Or.inl (by decide)), ← a17 34 (Or.inl (by decide))]
  replace n17 : E17.2.1 = 41 := n17
  have s17 : E17.1 = ur ((RF_Sa_init 38 (ur ((RF_Sa_init 36 (ur (ur (ur (ur (ur (ur ((RF_Sa_init 32 (E.1))) 31 3 32) 31 6 34) 31 9 35) 31 0 14) 31 1 21) 31 2 23))) 34 0 36))) 34 1 38 := by rw [r17, s16]
  refine Go.dup (by decide +kernel) rfl ?_
  refine Go.callIN (Qc := CQ (42) ((PF_Sa_init 40 (PF_Sa_init 38 (PF_Sa_init 36 (PF_Sa_init 32 P))))) (RF_Sa_init 40 (E17.1)) E17) (d - 1) 0 _ [] (42) (by rw [n17]; exact (e_Sa_init hG (d - 1) (by omega) 40 sh40 (PF_Sa_init 38 (PF_Sa_init 36 (PF_Sa_init 32 P))) E17 z17 n17)) ⟨by rw [n17]; decide, by decide⟩ (fun _ _ _ q => q.2.2.2.1) nw6 lk146 lk5 lk147 rfl ⟨by decide, by decide, by decide +kernel⟩ rfl (by omega) (by decide) (Nat.le_of_ble_eq_true rfl) (by decide +kernel) _ rfl (fun _ P67 E18 q67 => ?_)
  obtain ⟨e1, e2, r18, n18, z18, a18⟩ := q67
  subst e1
  rw [e2] at z18 ⊢
  clear e2
  dsimp only [Option.toList, List.nil_append]
  rw [n17] at a18
  have b18 : ∀ k, (k < E.2.1 ∨ 1000 ≤ k) → ad E18 k = ad E k := fun k hk => (a18 k (by rw [hn] at hk; omega)).trans (b17 k hk)
  rw [← a18 31 (Or.inl (by decide)), ← a18 14 (Or.inl (by decide)), ← a18 21 (Or.inl (by decide)), ← a18 23 (Or.inl (by decide)), ← a18 34 (Or.inl (by decide)), ← a18 40 (Or.inl (by decide))]
  have s18 : E18.1 = (RF_Sa_init 40 (ur ((RF_Sa_init 38 (ur ((RF_Sa_init 36 (ur (ur (ur (ur (ur (ur ((RF_Sa_init 32 (E.1))) 31 3 32) 31 6 34) 31 9 35) 31 0 14) 31 1 21) 31 2 23))) 34 0 36))) 34 1 38)) := by rw [r18, s17]
  refine Go.aastoreZ 34 4 11 40 2 sh34 (by decide) (by rw [n18]; decide) (by decide) sh40 (by rw [n18]; decide) rfl (vp_in_iff.mpr (by decide)) (by decide) z18 (by decide +kernel) (fun E19 r19 n19 a19 z19 => ?_)
  have b19 : ∀ k, (k < E.2.1 ∨ 1000 ≤ k) → ad E19 k = ad E k := fun k hk => (a19 k).trans (b18 k hk)
  rw [← a19 31, ← a19 14, ← a19 21, ← a19 23]
  rw [n18] at n19
  have s19 : E19.1 = ur ((RF_Sa_init 40 (ur ((RF_Sa_init 38 (ur ((RF_Sa_init 36 (ur (ur (ur (ur (ur (ur ((RF_Sa_init 32 (E.1))) 31 3 32) 31 6 34) 31 9 35) 31 0 14) 31 1 21) 31 2 23))) 34 0 36))) 34 1 38))) 34 2 40 := by rw [r19, s18]
  refine Go.iincV (i := 4) (n := 1) 0 (3 : Int32) [(4, .int (3 : Int32)), (0, .ref (ad E19 31)), (1, .ref (ad E19 14)), (2, .ref (ad E19 21)), (3, .ref (ad E19 23))] (by decide +kernel) rfl (by decide) (by decide) rfl ?_
  refine Go.goto (off := -24) 50 (by decide +kernel) (by decide) ?_
  refine Go.iload (i := 4) 0 (by decide +kernel) rfl ?_
  refine Go.bipush (n := 11) (11 : Int32) (by decide +kernel) (by decide) ?_
  refine Go.icmp_ge (off := 23) 77 (by decide +kernel) (by decide) (fun c => absurd c (by decide)) (fun c => ?_)
  refine Go.aload_n (k := 0) (i := 0) 1 (by decide +kernel) rfl rfl ?_
  refine Go.get 31 6 (.ref (ad E19 34)) (by decide) (by decide) sh31 (by rw [n19]; decide) (vlR2 rfl (by rw [s19]; rfl)) lk251 (by decide +kernel) ?_
  refine Go.iload (i := 4) 0 (by decide +kernel) rfl ?_
  refine Go.newZ 7 (by decide) (by rw [n19]; exact sh42) (by rw [n19]; decide) z19 lk239 lk144 lk5 (by rw [n19]; decide) (by decide +kernel) (fun E20 r20 n20 a20 z20 => ?_)
  rw [n19] at n20 a20 ⊢
  have b20 : ∀ k, (k < E.2.1 ∨ 1000 ≤ k) → ad E20 k = ad E k := fun k hk => (a20 k (by rw [hn] at hk; omega)).trans (b19 k hk)
  rw [← a20 31 (Or.inl (by decide)), ← a20 14 (Or.inl (by decide)), ← a20 21 (Or.inl (by decide)), ← a20 23 (Or.inl (by decide)), ← a20 34 (Or.inl (by decide))]
  replace n20 : E20.2.1 = 43 := n20
  have s20 : E20.1 = ur ((RF_Sa_init 40 (ur ((RF_Sa_init 38 (ur ((RF_Sa_init 36 (ur (ur (ur (ur (ur (ur ((RF_Sa_init 32 (E.1))) 31 3 32) 31 6 34) 31 9 35) 31 0 14) 31 1 21) 31 2 23))) 34 0 36))) 34 1 38))) 34 2 40 := by rw [r20, s19]
  refine Go.dup (by decide +kernel) rfl ?_
  refine Go.callIN (Qc := CQ (44) ((PF_Sa_init 42 (PF_Sa_init 40 (PF_Sa_init 38 (PF_Sa_init 36 (PF_Sa_init 32 P)))))) (RF_Sa_init 42 (E20.1)) E20) (d - 1) 0 _ [] (44) (by rw [n20]; exact (e_Sa_init hG (d - 1) (by omega) 42 sh42 (PF_Sa_init 40 (PF_Sa_init 38 (PF_Sa_init 36 (PF_Sa_init 32 P)))) E20 z20 n20)) ⟨by rw [n20]; decide, by decide⟩ (fun _ _ _ q => q.2.2.2.1) nw6 lk146 lk5 lk147 rfl ⟨by decide, by decide, by decide +kernel⟩ rfl (by omega) (by decide) (Nat.le_of_ble_eq_true rfl) (by decide +kernel) _ rfl (fun _ P67 E21 q67 => ?_)
  obtain ⟨e1, e2, r21, n21, z21, a21⟩ := q67
  subst e1
  rw [e2] at z21 ⊢
  clear e2
  dsimp only [Option.toList, List.nil_append]
  rw [n20] at a21
  have b21 : ∀ k, (k < E.2.1 ∨ 1000 ≤ k) → ad E21 k = ad E k := fun k hk => (a21 k (by rw [hn] at hk; omega)).trans (b20 k hk)
  rw [← a21 31 (Or.inl (by decide)), ← a21 14 (Or.inl (by decide)), ← a21 21 (Or.inl (by decide)), ← a21 23 (Or.inl (by decide)), ← a21 34 (Or.inl (by decide)), ← a21 42 (Or.inl (by decide))]
  have s21 : E21.1 = (RF_Sa_init 42 (ur ((RF_Sa_init 40 (ur ((RF_Sa_init 38 (ur ((RF_Sa_init 36 (ur (ur (ur (ur (ur (ur ((RF_Sa_init 32 (E.1))) 31 3 32) 31 6 34) 31 9 35) 31 0 14) 31 1 21) 31 2 23))) 34 0 36))) 34 1 38))) 34 2 40)) := by rw [r21, s20]
  refine Go.aastoreZ 34 4 11 42 3 sh34 (by decide) (by rw [n21]; decide) (by decide) sh42 (by rw [n21]; decide) rfl (vp_in_iff.mpr (by decide)) (by decide) z21 (by decide +kernel) (fun E22 r22 n22 a22 z22 => ?_)
  have b22 : ∀ k, (k < E.2.1 ∨ 1000 ≤ k) → ad E22 k = ad E k := fun k hk => (a22 k).trans (b21 k hk)
  rw [← a22 31, ← a22 14, ← a22 21, ← a22 23]
  rw [n21] at n22
  have s22 : E22.1 = ur ((RF_Sa_init 42 (ur ((RF_Sa_init 40 (ur ((RF_Sa_init 38 (ur ((RF_Sa_init 36 (ur (ur (ur (ur (ur (ur ((RF_Sa_init 32 (E.1))) 31 3 32) 31 6 34) 31 9 35) 31 0 14) 31 1 21) 31 2 23))) 34 0 36))) 34 1 38))) 34 2 40))) 34 3 42 := by rw [r22, s21]
  refine Go.iincV (i := 4) (n := 1) 0 (4 : Int32) [(4, .int (4 : Int32)), (0, .ref (ad E22 31)), (1, .ref (ad E22 14)), (2, .ref (ad E22 21)), (3, .ref (ad E22 23))] (by decide +kernel) rfl (by decide) (by decide) rfl ?_
  refine Go.goto (off := -24) 50 (by decide +kernel) (by decide) ?_
  refine Go.iload (i := 4) 0 (by decide +kernel) rfl ?_
  refine Go.bipush (n := 11) (11 : Int32) (by decide +kernel) (by decide) ?_
  refine Go.icmp_ge (off := 23) 77 (by decide +kernel) (by decide) (fun c => absurd c (by decide)) (fun c => ?_)
  refine Go.aload_n (k := 0) (i := 0) 1 (by decide +kernel) rfl rfl ?_
  refine Go.get 31 6 (.ref (ad E22 34)) (by decide) (by decide) sh31 (by rw [n22]; decide) (vlR2 rfl (by rw [s22]; rfl)) lk251 (by decide +kernel) ?_
  refine Go.iload (i := 4) 0 (by decide +kernel) rfl ?_
  refine Go.newZ 7 (by decide) (by rw [n22]; exact sh44) (by rw [n22]; decide) z22 lk239 lk144 lk5 (by rw [n22]; decide) (by decide +kernel) (fun E23 r23 n23 a23 z23 => ?_)
  rw [n22] at n23 a23 ⊢
  have b23 : ∀ k, (k < E.2.1 ∨ 1000 ≤ k) → ad E23 k = ad E k := fun k hk => (a23 k (by rw [hn] at hk; omega)).trans (b22 k hk)
  rw [← a23 31 (Or.inl (by decide)), ← a23 14 (Or.inl (by decide)), ← a23 21 (Or.inl (by decide)), ← a23 23 (Or.inl (by decide)), ← a23 34 (Or.inl (by decide))]
  replace n23 : E23.2.1 = 45 := n23
  have s23 : E23.1 = ur ((RF_Sa_init 42 (ur ((RF_Sa_init 40 (ur ((RF_Sa_init 38 (ur ((RF_Sa_init 36 (ur (ur (ur (ur (ur (ur ((RF_Sa_init 32 (E.1))) 31 3 32) 31 6 34) 31 9 35) 31 0 14) 31 1 21) 31 2 23))) 34 0 36))) 34 1 38))) 34 2 40))) 34 3 42 := by rw [r23, s22]
  refine Go.dup (by decide +kernel) rfl ?_
  refine Go.callIN (Qc := CQ (46) ((PF_Sa_init 44 (PF_Sa_init 42 (PF_Sa_init 40 (PF_Sa_init 38 (PF_Sa_init 36 (PF_Sa_init 32 P))))))) (RF_Sa_init 44 (E23.1)) E23) (d - 1) 0 _ [] (46) (by rw [n23]; exact (e_Sa_init hG (d - 1) (by omega) 44 sh44 (PF_Sa_init 42 (PF_Sa_init 40 (PF_Sa_init 38 (PF_Sa_init 36 (PF_Sa_init 32 P))))) E23 z23 n23)) ⟨by rw [n23]; decide, by decide⟩ (fun _ _ _ q => q.2.2.2.1) nw6 lk146 lk5 lk147 rfl ⟨by decide, by decide, by decide +kernel⟩ rfl (by omega) (by decide) (Nat.le_of_ble_eq_true rfl) (by decide +kernel) _ rfl (fun _ P67 E24 q67 => ?_)
  obtain ⟨e1, e2, r24, n24, z24, a24⟩ := q67
  subst e1
  rw [e2] at z24 ⊢
  clear e2
  dsimp only [Option.toList, List.nil_append]
  rw [n23] at a24
  have b24 : ∀ k, (k < E.2.1 ∨ 1000 ≤ k) → ad E24 k = ad E k := fun k hk => (a24 k (by rw [hn] at hk; omega)).trans (b23 k hk)
  rw [← a24 31 (Or.inl (by decide)), ← a24 14 (Or.inl (by decide)), ← a24 21 (Or.inl (by decide)), ← a24 23 (Or.inl (by decide)), ← a24 34 (Or.inl (by decide)), ← a24 44 (Or.inl (by decide))]
  have s24 : E24.1 = (RF_Sa_init 44 (ur ((RF_Sa_init 42 (ur ((RF_Sa_init 40 (ur ((RF_Sa_init 38 (ur ((RF_Sa_init 36 (ur (ur (ur (ur (ur (ur ((RF_Sa_init 32 (E.1))) 31 3 32) 31 6 34) 31 9 35) 31 0 14) 31 1 21) 31 2 23))) 34 0 36))) 34 1 38))) 34 2 40))) 34 3 42)) := by rw [r24, s23]
  refine Go.aastoreZ 34 4 11 44 4 sh34 (by decide) (by rw [n24]; decide) (by decide) sh44 (by rw [n24]; decide) rfl (vp_in_iff.mpr (by decide)) (by decide) z24 (by decide +kernel) (fun E25 r25 n25 a25 z25 => ?_)
  have b25 : ∀ k, (k < E.2.1 ∨ 1000 ≤ k) → ad E25 k = ad E k := fun k hk => (a25 k).trans (b24 k hk)
  rw [← a25 31, ← a25 14, ← a25 21, ← a25 23]
  rw [n24] at n25
  have s25 : E25.1 = ur ((RF_Sa_init 44 (ur ((RF_Sa_init 42 (ur ((RF_Sa_init 40 (ur ((RF_Sa_init 38 (ur ((RF_Sa_init 36 (ur (ur (ur (ur (ur (ur ((RF_Sa_init 32 (E.1))) 31 3 32) 31 6 34) 31 9 35) 31 0 14) 31 1 21) 31 2 23))) 34 0 36))) 34 1 38))) 34 2 40))) 34 3 42))) 34 4 44 := by rw [r25, s24]
  refine Go.iincV (i := 4) (n := 1) 0 (5 : Int32) [(4, .int (5 : Int32)), (0, .ref (ad E25 31)), (1, .ref (ad E25 14)), (2, .ref (ad E25 21)), (3, .ref (ad E25 23))] (by decide +kernel) rfl (by decide) (by decide) rfl ?_
  refine Go.goto (off := -24) 50 (by decide +kernel) (by decide) ?_
  refine Go.iload (i := 4) 0 (by decide +kernel) rfl ?_
  refine Go.bipush (n := 11) (11 : Int32) (by decide +kernel) (by decide) ?_
  refine Go.icmp_ge (off := 23) 77 (by decide +kernel) (by decide) (fun c => absurd c (by decide)) (fun c => ?_)
  refine Go.aload_n (k := 0) (i := 0) 1 (by decide +kernel) rfl rfl ?_
  refine Go.get 31 6 (.ref (ad E25 34)) (by decide) (by decide) sh31 (by rw [n25]; decide) (vlR2 rfl (by rw [s25]; rfl)) lk251 (by decide +kernel) ?_
  refine Go.iload (i := 4) 0 (by decide +kernel) rfl ?_
  refine Go.newZ 7 (by decide) (by rw [n25]; exact sh46) (by rw [n25]; decide) z25 lk239 lk144 lk5 (by rw [n25]; decide) (by decide +kernel) (fun E26 r26 n26 a26 z26 => ?_)
  rw [n25] at n26 a26 ⊢
  have b26 : ∀ k, (k < E.2.1 ∨ 1000 ≤ k) → ad E26 k = ad E k := fun k hk => (a26 k (by rw [hn] at hk; omega)).trans (b25 k hk)
  rw [← a26 31 (Or.inl (by decide)), ← a26 14 (Or.inl (by decide)), ← a26 21 (Or.inl (by decide)), ← a26 23 (Or.inl (by decide)), ← a26 34 (Or.inl (by decide))]
  replace n26 : E26.2.1 = 47 := n26
  have s26 : E26.1 = ur ((RF_Sa_init 44 (ur ((RF_Sa_init 42 (ur ((RF_Sa_init 40 (ur ((RF_Sa_init 38 (ur ((RF_Sa_init 36 (ur (ur (ur (ur (ur (ur ((RF_Sa_init 32 (E.1))) 31 3 32) 31 6 34) 31 9 35) 31 0 14) 31 1 21) 31 2 23))) 34 0 36))) 34 1 38))) 34 2 40))) 34 3 42))) 34 4 44 := by rw [r26, s25]
  refine Go.dup (by decide +kernel) rfl ?_
  refine Go.callIN (Qc := CQ (48) ((PF_Sa_init 46 (PF_Sa_init 44 (PF_Sa_init 42 (PF_Sa_init 40 (PF_Sa_init 38 (PF_Sa_init 36 (PF_Sa_init 32 P)))))))) (RF_Sa_init 46 (E26.1)) E26) (d - 1) 0 _ [] (48) (by rw [n26]; exact (e_Sa_init hG (d - 1) (by omega) 46 sh46 (PF_Sa_init 44 (PF_Sa_init 42 (PF_Sa_init 40 (PF_Sa_init 38 (PF_Sa_init 36 (PF_Sa_init 32 P)))))) E26 z26 n26)) ⟨by rw [n26]; decide, by decide⟩ (fun _ _ _ q => q.2.2.2.1) nw6 lk146 lk5 lk147 rfl ⟨by decide, by decide, by decide +kernel⟩ rfl (by omega) (by decide) (Nat.le_of_ble_eq_true rfl) (by decide +kernel) _ rfl (fun _ P67 E27 q67 => ?_)
  obtain ⟨e1, e2, r27, n27, z27, a27⟩ := q67
  subst e1
  rw [e2] at z27 ⊢
  clear e2
  dsimp only [Option.toList, List.nil_append]
  rw [n26] at a27
  have b27 : ∀ k, (k < E.2.1 ∨ 1000 ≤ k) → ad E27 k = ad E k := fun k hk => (a27 k (by rw [hn] at hk; omega)).trans (b26 k hk)
  rw [← a27 31 (Or.inl (by decide)), ← a27 14 (Or.inl (by decide)), ← a27 21 (Or.inl (by decide)), ← a27 23 (Or.inl (by decide)), ← a27 34 (Or.inl (by decide)), ← a27 46 (Or.inl (by decide))]
  have s27 : E27.1 = (RF_Sa_init 46 (ur ((RF_Sa_init 44 (ur ((RF_Sa_init 42 (ur ((RF_Sa_init 40 (ur ((RF_Sa_init 38 (ur ((RF_Sa_init 36 (ur (ur (ur (ur (ur (ur ((RF_Sa_init 32 (E.1))) 31 3 32) 31 6 34) 31 9 35) 31 0 14) 31 1 21) 31 2 23))) 34 0 36))) 34 1 38))) 34 2 40))) 34 3 42))) 34 4 44)) := by rw [r27, s26]
  refine Go.aastoreZ 34 4 11 46 5 sh34 (by decide) (by rw [n27]; decide) (by decide) sh46 (by rw [n27]; decide) rfl (vp_in_iff.mpr (by decide)) (by decide) z27 (by decide +kernel) (fun E28 r28 n28 a28 z28 => ?_)
  have b28 : ∀ k, (k < E.2.1 ∨ 1000 ≤ k) → ad E28 k = ad E k := fun k hk => (a28 k).trans (b27 k hk)
  rw [← a28 31, ← a28 14, ← a28 21, ← a28 23]
  rw [n27] at n28
  have s28 : E28.1 = ur ((RF_Sa_init 46 (ur ((RF_Sa_init 44 (ur ((RF_Sa_init 42 (ur ((RF_Sa_init 40 (ur ((RF_Sa_init 38 (ur ((RF_Sa_init 36 (ur (ur (ur (ur (ur (ur ((RF_Sa_init 32 (E.1))) 31 3 32) 31 6 34) 31 9 35) 31 0 14) 31 1 21) 31 2 23))) 34 0 36))) 34 1 38))) 34 2 40))) 34 3 42))) 34 4 44))) 34 5 46 := by rw [r28, s27]
  refine Go.iincV (i := 4) (n := 1) 0 (6 : Int32) [(4, .int (6 : Int32)), (0, .ref (ad E28 31)), (1, .ref (ad E28 14)), (2, .ref (ad E28 21)), (3, .ref (ad E28 23))] (by decide +kernel) rfl (by decide) (by decide) rfl ?_
  refine Go.goto (off := -24) 50 (by decide +kernel) (by decide) ?_
  refine Go.iload (i := 4) 0 (by decide +kernel) rfl ?_
  refine Go.bipush (n := 11) (11 : Int32) (by decide +kernel) (by decide) ?_
  refine Go.icmp_ge (off := 23) 77 (by decide +kernel) (by decide) (fun c => absurd c (by decide)) (fun c => ?_)
  refine Go.aload_n (k := 0) (i := 0) 1 (by decide +kernel) rfl rfl ?_
  refine Go.get 31 6 (.ref (ad E28 34)) (by decide) (by decide) sh31 (by rw [n28]; decide) (vlR2 rfl (by rw [s28]; rfl)) lk251 (by decide +kernel) ?_
  refine Go.iload (i := 4) 0 (by decide +kernel) rfl ?_
  refine Go.newZ 7 (by decide) (by rw [n28]; exact sh48) (by rw [n28]; decide) z28 lk239 lk144 lk5 (by rw [n28]; decide) (by decide +kernel) (fun E29 r29 n29 a29 z29 => ?_)
  rw [n28] at n29 a29 ⊢
  have b29 : ∀ k, (k < E.2.1 ∨ 1000 ≤ k) → ad E29 k = ad E k := fun k hk => (a29 k (by rw [hn] at hk; omega)).trans (b28 k hk)
  rw [← a29 31 (Or.inl (by decide)), ← a29 14 (Or.inl (by decide)), ← a29 21 (Or.inl (by decide)), ← a29 23 (Or.inl (by decide)), ← a29 34 (Or.inl (by decide))]
  replace n29 : E29.2.1 = 49 := n29
  have s29 : E29.1 = ur ((RF_Sa_init 46 (ur ((RF_Sa_init 44 (ur ((RF_Sa_init 42 (ur ((RF_Sa_init 40 (ur ((RF_Sa_init 38 (ur ((RF_Sa_init 36 (ur (ur (ur (ur (ur (ur ((RF_Sa_init 32 (E.1))) 31 3 32) 31 6 34) 31 9 35) 31 0 14) 31 1 21) 31 2 23))) 34 0 36))) 34 1 38))) 34 2 40))) 34 3 42))) 34 4 44))) 34 5 46 := by rw [r29, s28]
  refine Go.dup (by decide +kernel) rfl ?_
  refine Go.callIN (Qc := CQ (50) ((PF_Sa_init 48 (PF_Sa_init 46 (PF_Sa_init 44 (PF_Sa_init 42 (PF_Sa_init 40 (PF_Sa_init 38 (PF_Sa_init 36 (PF_Sa_init 32 P))))))))) (RF_Sa_init 48 (E29.1)) E29) (d - 1) 0 _ [] (50) (by rw [n29]; exact (e_Sa_init hG (d - 1) (by omega) 48 sh48 (PF_Sa_init 46 (PF_Sa_init 44 (PF_Sa_init 42 (PF_Sa_init 40 (PF_Sa_init 38 (PF_Sa_init 36 (PF_Sa_init 32 P))))))) E29 z29 n29)) ⟨by rw [n29]; decide, by decide⟩ (fun _ _ _ q => q.2.2.2.1) nw6 lk146 lk5 lk147 rfl ⟨by decide, by decide, by decide +kernel⟩ rfl (by omega) (by decide) (Nat.le_of_ble_eq_true rfl) (by decide +kernel) _ rfl (fun _ P67 E30 q67 => ?_)
  obtain ⟨e1, e2, r30, n30, z30, a30⟩ := q67
  subst e1
  rw [e2] at z30 ⊢
  clear e2
  dsimp only [Option.toList, List.nil_append]
  rw [n29] at a30
  have b30 : ∀ k, (k < E.2.1 ∨ 1000 ≤ k) → ad E30 k = ad E k := fun k hk => (a30 k (by rw [hn] at hk; omega)).trans (b29 k hk)
  rw [← a30 31 (Or.inl (by decide)), ← a30 14 (Or.inl (by decide)), ← a30 21 (Or.inl (by decide)), ← a30 23 (Or.inl (by decide)), ← a30 34 (Or.inl (by decide)), ← a30 48 (Or.inl (by decide))]
  have s30 : E30.1 = (RF_Sa_init 48 (ur ((RF_Sa_init 46 (ur ((RF_Sa_init 44 (ur ((RF_Sa_init 42 (ur ((RF_Sa_init 40 (ur ((RF_Sa_init 38 (ur ((RF_Sa_init 36 (ur (ur (ur (ur (ur (ur ((RF_Sa_init 32 (E.1))) 31 3 32) 31 6 34) 31 9 35) 31 0 14) 31 1 21) 31 2 23))) 34 0 36))) 34 1 38))) 34 2 40))) 34 3 42))) 34 4 44))) 34 5 46)) := by rw [r30, s29]
  refine Go.aastoreZ 34 4 11 48 6 sh34 (by decide) (by rw [n30]; decide) (by decide) sh48 (by rw [n30]; decide) rfl (vp_in_iff.mpr (by decide)) (by decide) z30 (by decide +kernel) (fun E31 r31 n31 a31 z31 => ?_)
  have b31 : ∀ k, (k < E.2.1 ∨ 1000 ≤ k) → ad E31 k = ad E k := fun k hk => (a31 k).trans (b30 k hk)
  rw [← a31 31, ← a31 14, ← a31 21, ← a31 23]
  rw [n30] at n31
  have s31 : E31.1 = ur ((RF_Sa_init 48 (ur ((RF_Sa_init 46 (ur ((RF_Sa_init 44 (ur ((RF_Sa_init 42 (ur ((RF_Sa_init 40 (ur ((RF_Sa_init 38 (ur ((RF_Sa_init 36 (ur (ur (ur (ur (ur (ur ((RF_Sa_init 32 (E.1))) 31 3 32) 31 6 34) 31 9 35) 31 0 14) 31 1 21) 31 2 23))) 34 0 36))) 34 1 38))) 34 2 40))) 34 3 42))) 34 4 44))) 34 5 46))) 34 6 48 := by rw [r31, s30]
  refine Go.iincV (i := 4) (n := 1) 0 (7 : Int32) [(4, .int (7 : Int32)), (0, .ref (ad E31 31)), (1, .ref (ad E31 14)), (2, .ref (ad E31 21)), (3, .ref (ad E31 23))] (by decide +kernel) rfl (by decide) (by decide) rfl ?_
  refine Go.goto (off := -24) 50 (by decide +kernel) (by decide) ?_
  refine Go.iload (i := 4) 0 (by decide +kernel) rfl ?_
  refine Go.bipush (n := 11) (11 : Int32) (by decide +kernel) (by decide) ?_
  refine Go.icmp_ge (off := 23) 77 (by decide +kernel) (by decide) (fun c => absurd c (by decide)) (fun c => ?_)
  refine Go.aload_n (k := 0) (i := 0) 1 (by decide +kernel) rfl rfl ?_
  refine Go.get 31 6 (.ref (ad E31 34)) (by decide) (by decide) sh31 (by rw [n31]; decide) (vlR2 rfl (by rw [s31]; rfl)) lk251 (by decide +kernel) ?_
  refine Go.iload (i := 4) 0 (by decide +kernel) rfl ?_
  refine Go.newZ 7 (by decide) (by rw [n31]; exact sh50) (by rw [n31]; decide) z31 lk239 lk144 lk5 (by rw [n31]; decide) (by decide +kernel) (fun E32 r32 n32 a32 z32 => ?_)
  rw [n31] at n32 a32 ⊢
  have b32 : ∀ k, (k < E.2.1 ∨ 1000 ≤ k) → ad E32 k = ad E k := fun k hk => (a32 k (by rw [hn] at hk; omega)).trans (b31 k hk)
  rw [← a32 31 (Or.inl (by decide)), ← a32 14 (Or.inl (by decide)), ← a32 21 (Or.inl (by decide)), ← a32 23 (Or.inl (by decide)), ← a32 34 (Or.inl (by decide))]
  replace n32 : E32.2.1 = 51 := n32
  have s32 : E32.1 = ur ((RF_Sa_init 48 (ur ((RF_Sa_init 46 (ur ((RF_Sa_init 44 (ur ((RF_Sa_init 42 (ur ((RF_Sa_init 40 (ur ((RF_Sa_init 38 (ur ((RF_Sa_init 36 (ur (ur (ur (ur (ur (ur ((RF_Sa_init 32 (E.1))) 31 3 32) 31 6 34) 31 9 35) 31 0 14) 31 1 21) 31 2 23))) 34 0 36))) 34 1 38))) 34 2 40))) 34 3 42))) 34 4 44))) 34 5 46))) 34 6 48 := by rw [r32, s31]
  refine Go.dup (by decide +kernel) rfl ?_
  refine Go.callIN (Qc := CQ (52) ((PF_Sa_init 50 (PF_Sa_init 48 (PF_Sa_init 46 (PF_Sa_init 44 (PF_Sa_init 42 (PF_Sa_init 40 (PF_Sa_init 38 (PF_Sa_init 36 (PF_Sa_init 32 P)))))))))) (RF_Sa_init 50 (E32.1)) E32) (d - 1) 0 _ [] (52) (by rw [n32]; exact (e_Sa_init hG (d - 1) (by omega) 50 sh50 (PF_Sa_init 48 (PF_Sa_init 46 (PF_Sa_init 44 (PF_Sa_init 42 (PF_Sa_init 40 (PF_Sa_init 38 (PF_Sa_init 36 (PF_Sa_init 32 P)))))))) E32 z32 n32)) ⟨by rw [n32]; decide, by decide⟩ (fun _ _ _ q => q.2.2.2.1) nw6 lk146 lk5 lk147 rfl ⟨by decide, by decide, by decide +kernel⟩ rfl (by omega) (by decide) (Nat.le_of_ble_eq_true rfl) (by decide +kernel) _ rfl (fun _ P67 E33 q67 => ?_)
  obtain ⟨e1, e2, r33, n33, z33, a33⟩ := q67
  subst e1
  rw [e2] at z33 ⊢
  clear e2
  dsimp only [Option.toList, List.nil_append]
  rw [n32] at a33
  have b33 : ∀ k, (k < E.2.1 ∨ 1000 ≤ k) → ad E33 k = ad E k := fun k hk => (a33 k (by rw [hn] at hk; omega)).trans (b32 k hk)
  rw [← a33 31 (Or.inl (by decide)), ← a33 14 (Or.inl (by decide)), ← a33 21 (Or.inl (by decide)), ← a33 23 (Or.inl (by decide)), ← a33 34 (Or.inl (by decide)), ← a33 50 (Or.inl (by decide))]
  have s33 : E33.1 = (RF_Sa_init 50 (ur ((RF_Sa_init 48 (ur ((RF_Sa_init 46 (ur ((RF_Sa_init 44 (ur ((RF_Sa_init 42 (ur ((RF_Sa_init 40 (ur ((RF_Sa_init 38 (ur ((RF_Sa_init 36 (ur (ur (ur (ur (ur (ur ((RF_Sa_init 32 (E.1))) 31 3 32) 31 6 34) 31 9 35) 31 0 14) 31 1 21) 31 2 23))) 34 0 36))) 34 1 38))) 34 2 40))) 34 3 42))) 34 4 44))) 34 5 46))) 34 6 48)) := by rw [r33, s32]
  refine Go.aastoreZ 34 4 11 50 7 sh34 (by decide) (by rw [n33]; decide) (by decide) sh50 (by rw [n33]; decide) rfl (vp_in_iff.mpr (by decide)) (by decide) z33 (by decide +kernel) (fun E34 r34 n34 a34 z34 => ?_)
  have b34 : ∀ k, (k < E.2.1 ∨ 1000 ≤ k) → ad E34 k = ad E k := fun k hk => (a34 k).trans (b33 k hk)
  rw [← a34 31, ← a34 14, ← a34 21, ← a34 23]
  rw [n33] at n34
  have s34 : E34.1 = ur ((RF_Sa_init 50 (ur ((RF_Sa_init 48 (ur ((RF_Sa_init 46 (ur ((RF_Sa_init 44 (ur ((RF_Sa_init 42 (ur ((RF_Sa_init 40 (ur ((RF_Sa_init 38 (ur ((RF_Sa_init 36 (ur (ur (ur (ur (ur (ur ((RF_Sa_init 32 (E.1))) 31 3 32) 31 6 34) 31 9 35) 31 0 14) 31 1 21) 31 2 23))) 34 0 36))) 34 1 38))) 34 2 40))) 34 3 42))) 34 4 44))) 34 5 46))) 34 6 48))) 34 7 50 := by rw [r34, s33]
  refine Go.iincV (i := 4) (n := 1) 0 (8 : Int32) [(4, .int (8 : Int32)), (0, .ref (ad E34 31)), (1, .ref (ad E34 14)), (2, .ref (ad E34 21)), (3, .ref (ad E34 23))] (by decide +kernel) rfl (by decide) (by decide) rfl ?_
  refine Go.goto (off := -24) 50 (by decide +kernel) (by decide) ?_
  refine Go.iload (i := 4) 0 (by decide +kernel) rfl ?_
  refine Go.bipush (n := 11) (11 : Int32) (by decide +kernel) (by decide) ?_
  refine Go.icmp_ge (off := 23) 77 (by decide +kernel) (by decide) (fun c => absurd c (by decide)) (fun c => ?_)
  refine Go.aload_n (k := 0) (i := 0) 1 (by decide +kernel) rfl rfl ?_
  refine Go.get 31 6 (.ref (ad E34 34)) (by decide) (by decide) sh31 (by rw [n34]; decide) (vlR2 rfl (by rw [s34]; rfl)) lk251 (by decide +kernel) ?_
  refine Go.iload (i := 4) 0 (by decide +kernel) rfl ?_
  refine Go.newZ 7 (by decide) (by rw [n34]; exact sh52) (by rw [n34]; decide) z34 lk239 lk144 lk5 (by rw [n34]; decide) (by decide +kernel) (fun E35 r35 n35 a35 z35 => ?_)
  rw [n34] at n35 a35 ⊢
  have b35 : ∀ k, (k < E.2.1 ∨ 1000 ≤ k) → ad E35 k = ad E k := fun k hk => (a35 k (by rw [hn] at hk; omega)).trans (b34 k hk)
  rw [← a35 31 (Or.inl (by decide)), ← a35 14 (Or.inl (by decide)), ← a35 21 (Or.inl (by decide)), ← a35 23 (Or.inl (by decide)), ← a35 34 (Or.inl (by decide))]
  replace n35 : E35.2.1 = 53 := n35
  have s35 : E35.1 = ur ((RF_Sa_init 50 (ur ((RF_Sa_init 48 (ur ((RF_Sa_init 46 (ur ((RF_Sa_init 44 (ur ((RF_Sa_init 42 (ur ((RF_Sa_init 40 (ur ((RF_Sa_init 38 (ur ((RF_Sa_init 36 (ur (ur (ur (ur (ur (ur ((RF_Sa_init 32 (E.1))) 31 3 32) 31 6 34) 31 9 35) 31 0 14) 31 1 21) 31 2 23))) 34 0 36))) 34 1 38))) 34 2 40))) 34 3 42))) 34 4 44))) 34 5 46))) 34 6 48))) 34 7 50 := by rw [r35, s34]
  refine Go.dup (by decide +kernel) rfl ?_
  refine Go.callIN (Qc := CQ (54) ((PF_Sa_init 52 (PF_Sa_init 50 (PF_Sa_init 48 (PF_Sa_init 46 (PF_Sa_init 44 (PF_Sa_init 42 (PF_Sa_init 40 (PF_Sa_init 38 (PF_Sa_init 36 (PF_Sa_init 32 P))))))))))) (RF_Sa_init 52 (E35.1)) E35) (d - 1) 0 _ [] (54) (by rw [n35]; exact (e_Sa_init hG (d - 1) (by omega) 52 sh52 (PF_Sa_init 50 (PF_Sa_init 48 (PF_Sa_init 46 (PF_Sa_init 44 (PF_Sa_init 42 (PF_Sa_init 40 (PF_Sa_init 38 (PF_Sa_init 36 (PF_Sa_init 32 P))))))))) E35 z35 n35)) ⟨by rw [n35]; decide, by decide⟩ (fun _ _ _ q => q.2.2.2.1) nw6 lk146 lk5 lk147 rfl ⟨by decide, by decide, by decide +kernel⟩ rfl (by omega) (by decide) (Nat.le_of_ble_eq_true rfl) (by decide +kernel) _ rfl (fun _ P67 E36 q67 => ?_)
  obtain ⟨e1, e2, r36, n36, z36, a36⟩ := q67
  subst e1
  rw [e2] at z36 ⊢
  clear e2
  dsimp only [Option.toList, List.nil_append]
  rw [n35] at a36
  have b36 : ∀ k, (k < E.2.1 ∨ 1000 ≤ k) → ad E36 k = ad E k := fun k hk => (a36 k (by rw [hn] at hk; omega)).trans (b35 k hk)
  rw [← a36 31 (Or.inl (by decide)), ← a36 14 (Or.inl (by decide)), ← a36 21 (Or.inl (by decide)), ← a36 23 (Or.inl (by decide)), ← a36 34 (Or.inl (by decide)), ← a36 52 (Or.inl (by decide))]
  have s36 : E36.1 = (RF_Sa_init 52 (ur ((RF_Sa_init 50 (ur ((RF_Sa_init 48 (ur ((RF_Sa_init 46 (ur ((RF_Sa_init 44 (ur ((RF_Sa_init 42 (ur ((RF_Sa_init 40 (ur ((RF_Sa_init 38 (ur ((RF_Sa_init 36 (ur (ur (ur (ur (ur (ur ((RF_Sa_init 32 (E.1))) 31 3 32) 31 6 34) 31 9 35) 31 0 14) 31 1 21) 31 2 23))) 34 0 36))) 34 1 38))) 34 2 40))) 34 3 42))) 34 4 44))) 34 5 46))) 34 6 48))) 34 7 50)) := by rw [r36, s35]
  refine Go.aastoreZ 34 4 11 52 8 sh34 (by decide) (by rw [n36]; decide) (by decide) sh52 (by rw [n36]; decide) rfl (vp_in_iff.mpr (by decide)) (by decide) z36 (by decide +kernel) (fun E37 r37 n37 a37 z37 => ?_)
  have b37 : ∀ k, (k < E.2.1 ∨ 1000 ≤ k) → ad E37 k = ad E k := fun k hk => (a37 k).trans (b36 k hk)
  rw [← a37 31, ← a37 14, ← a37 21, ← a37 23]
  rw [n36] at n37
  have s37 : E37.1 = ur ((RF_Sa_init 52 (ur ((RF_Sa_init 50 (ur ((RF_Sa_init 48 (ur ((RF_Sa_init 46 (ur ((RF_Sa_init 44 (ur ((RF_Sa_init 42 (ur ((RF_Sa_init 40 (ur ((RF_Sa_init 38 (ur ((RF_Sa_init 36 (ur (ur (ur (ur (ur (ur ((RF_Sa_init 32 (E.1))) 31 3 32) 31 6 34) 31 9 35) 31 0 14) 31 1 21) 31 2 23))) 34 0 36))) 34 1 38))) 34 2 40))) 34 3 42))) 34 4 44))) 34 5 46))) 34 6 48))) 34 7 50))) 34 8 52 := by rw [r37, s36]
  refine Go.iincV (i := 4) (n := 1) 0 (9 : Int32) [(4, .int (9 : Int32)), (0, .ref (ad E37 31)), (1, .ref (ad E37 14)), (2, .ref (ad E37 21)), (3, .ref (ad E37 23))] (by decide +kernel) rfl (by decide) (by decide) rfl ?_
  refine Go.goto (off := -24) 50 (by decide +kernel) (by decide) ?_
  refine Go.iload (i := 4) 0 (by decide +kernel) rfl ?_
  refine Go.bipush (n := 11) (11 : Int32) (by decide +kernel) (by decide) ?_
  refine Go.icmp_ge (off := 23) 77 (by decide +kernel) (by decide) (fun c => absurd c (by decide)) (fun c => ?_)
  refine Go.aload_n (k := 0) (i := 0) 1 (by decide +kernel) rfl rfl ?_
  refine Go.get 31 6 (.ref (ad E37 34)) (by decide) (by decide) sh31 (by rw [n37]; decide) (vlR2 rfl (by rw [s37]; rfl)) lk251 (by decide +kernel) ?_
  refine Go.iload (i := 4) 0 (by decide +kernel) rfl ?_
  refine Go.newZ 7 (by decide) (by rw [n37]; exact sh54) (by rw [n37]; decide) z37 lk239 lk144 lk5 (by rw [n37]; decide) (by decide +kernel) (fun E38 r38 n38 a38 z38 => ?_)
  rw [n37] at n38 a38 ⊢
  have b38 : ∀ k, (k < E.2.1 ∨ 1000 ≤ k) → ad E38 k = ad E k := fun k hk => (a38 k (by rw [hn] at hk; omega)).trans (b37 k hk)
  rw [← a38 31 (Or.inl (by decide)), ← a38 14 (Or.inl (by decide)), ← a38 21 (Or.inl (by decide)), ← a38 23 (Or.inl (by decide)), ← a38 34 (Or.inl (by decide))]
  replace n38 : E38.2.1 = 55 := n38
  have s38 : E38.1 = ur ((RF_Sa_init 52 (ur ((RF_Sa_init 50 (ur ((RF_Sa_init 48 (ur ((RF_Sa_init 46 (ur ((RF_Sa_init 44 (ur ((RF_Sa_init 42 (ur ((RF_Sa_init 40 (ur ((RF_Sa_init 38 (ur ((RF_Sa_init 36 (ur (ur (ur (ur (ur (ur ((RF_Sa_init 32 (E.1))) 31 3 32) 31 6 34) 31 9 35) 31 0 14) 31 1 21) 31 2 23))) 34 0 36))) 34 1 38))) 34 2 40))) 34 3 42))) 34 4 44))) 34 5 46))) 34 6 48))) 34 7 50))) 34 8 52 := by rw [r38, s37]
  refine Go.dup (by decide +kernel) rfl ?_
  refine Go.callIN (Qc := CQ (56) ((PF_Sa_init 54 (PF_Sa_init 52 (PF_Sa_init 50 (PF_Sa_init 48 (PF_Sa_init 46 (PF_Sa_init 44 (PF_Sa_init 42 (PF_Sa_init 40 (PF_Sa_init 38 (PF_Sa_init 36 (PF_Sa_init 32 P)))))))))))) (RF_Sa_init 54 (E38.1)) E38) (d - 1) 0 _ [] (56) (by rw [n38]; exact (e_Sa_init hG (d - 1) (by omega) 54 sh54 (PF_Sa_init 52 (PF_Sa_init 50 (PF_Sa_init 48 (PF_Sa_init 46 (PF_Sa_init 44 (PF_Sa_init 42 (PF_Sa_init 40 (PF_Sa_init 38 (PF_Sa_init 36 (PF_Sa_init 32 P)))))))))) E38 z38 n38)) ⟨by rw [n38]; decide, by decide⟩ (fun _ _ _ q => q.2.2.2.1) nw6 lk146 lk5 lk147 rfl ⟨by decide, by decide, by decide +kernel⟩ rfl (by omega) (by decide) (Nat.le_of_ble_eq_true rfl) (by decide +kernel) _ rfl (fun _ P67 E39 q67 => ?_)
  obtain ⟨e1, e2, r39, n39, z39, a39⟩ := q67
  subst e1
  rw [e2] at z39 ⊢
  clear e2
  dsimp only [Option.toList, List.nil_append]
  rw [n38] at a39
  have b39 : ∀ k, (k < E.2.1 ∨ 1000 ≤ k) → ad E39 k = ad E k := fun k hk => (a39 k (by rw [hn] at hk; omega)).trans (b38 k hk)
  rw [← a39 31 (Or.inl (by decide)), ← a39 14 (Or.inl (by decide)), ← a39 21 (Or.inl (by decide)), ← a39 23 (Or.inl (by decide)), ← a39 34 (Or.inl (by decide)), ← a39 54 (Or.inl (by decide))]
  have s39 : E39.1 = (RF_Sa_init 54 (ur ((RF_Sa_init 52 (ur ((RF_Sa_init 50 (ur ((RF_Sa_init 48 (ur ((RF_Sa_init 46 (ur ((RF_Sa_init 44 (ur ((RF_Sa_init 42 (ur ((RF_Sa_init 40 (ur ((RF_Sa_init 38 (ur ((RF_Sa_init 36 (ur (ur (ur (ur (ur (ur ((RF_Sa_init 32 (E.1))) 31 3 32) 31 6 34) 31 9 35) 31 0 14) 31 1 21) 31 2 23))) 34 0 36))) 34 1 38))) 34 2 40))) 34 3 42))) 34 4 44))) 34 5 46))) 34 6 48))) 34 7 50))) 34 8 52)) := by rw [r39, s38]
  refine Go.aastoreZ 34 4 11 54 9 sh34 (by decide) (by rw [n39]; decide) (by decide) sh54 (by rw [n39]; decide) rfl (vp_in_iff.mpr (by decide)) (by decide) z39 (by decide +kernel) (fun E40 r40 n40 a40 z40 => ?_)
  have b40 : ∀ k, (k < E.2.1 ∨ 1000 ≤ k) → ad E40 k = ad E k := fun k hk => (a40 k).trans (b39 k hk)
  rw [← a40 31, ← a40 14, ← a40 21, ← a40 23]
  rw [n39] at n40
  have s40 : E40.1 = ur ((RF_Sa_init 54 (ur ((RF_Sa_init 52 (ur ((RF_Sa_init 50 (ur ((RF_Sa_init 48 (ur ((RF_Sa_init 46 (ur ((RF_Sa_init 44 (ur ((RF_Sa_init 42 (ur ((RF_Sa_init 40 (ur ((RF_Sa_init 38 (ur ((RF_Sa_init 36 (ur (ur (ur (ur (ur (ur ((RF_Sa_init 32 (E.1))) 31 3 32) 31 6 34) 31 9 35) 31 0 14) 31 1 21) 31 2 23))) 34 0 36))) 34 1 38))) 34 2 40))) 34 3 42))) 34 4 44))) 34 5 46))) 34 6 48))) 34 7 50))) 34 8 52))) 34 9 54 := by rw [r40, s39]
  refine Go.iincV (i := 4) (n := 1) 0 (10 : Int32) [(4, .int (10 : Int32)), (0, .ref (ad E40 31)), (1, .ref (ad E40 14)), (2, .ref (ad E40 21)), (3, .ref (ad E40 23))] (by decide +kernel) rfl (by decide) (by decide) rfl ?_
  refine Go.goto (off := -24) 50 (by decide +kernel) (by decide) ?_
  refine Go.iload (i := 4) 0 (by decide +kernel) rfl ?_
  refine Go.bipush (n := 11) (11 : Int32) (by decide +kernel) (by decide) ?_
  refine Go.icmp_ge (off := 23) 77 (by decide +kernel) (by decide) (fun c => absurd c (by decide)) (fun c => ?_)
  refine Go.aload_n (k := 0) (i := 0) 1 (by decide +kernel) rfl rfl ?_
  refine Go.get 31 6 (.ref (ad E40 34)) (by decide) (by decide) sh31 (by rw [n40]; decide) (vlR2 rfl (by rw [s40]; rfl)) lk251 (by decide +kernel) ?_
  refine Go.iload (i := 4) 0 (by decide +kernel) rfl ?_
  refine Go.newZ 7 (by decide) (by rw [n40]; exact sh56) (by rw [n40]; decide) z40 lk239 lk144 lk5 (by rw [n40]; decide) (by decide +kernel) (fun E41 r41 n41 a41 z41 => ?_)
  rw [n40] at n41 a41 ⊢
  have b41 : ∀ k, (k < E.2.1 ∨ 1000 ≤ k) → ad E41 k = ad E k := fun k hk => (a41 k (by rw [hn] at hk; omega)).trans (b40 k hk)
  rw [← a41 31 (Or.inl (by decide)), ← a41 14 (Or.inl (by decide)), ← a41 21 (Or.inl (by decide)), ← a41 23 (Or.inl (by decide)), ← a41 34 (Or.inl (by decide))]
  replace n41 : E41.2.1 = 57 := n41
  have s41 : E41.1 = ur ((RF_Sa_init 54 (ur ((RF_Sa_init 52 (ur ((RF_Sa_init 50 (ur ((RF_Sa_init 48 (ur ((RF_Sa_init 46 (ur ((RF_Sa_init 44 (ur ((RF_Sa_init 42 (ur ((RF_Sa_init 40 (ur ((RF_Sa_init 38 (ur ((RF_Sa_init 36 (ur (ur (ur (ur (ur (ur ((RF_Sa_init 32 (E.1))) 31 3 32) 31 6 34) 31 9 35) 31 0 14) 31 1 21) 31 2 23))) 34 0 36))) 34 1 38))) 34 2 40))) 34 3 42))) 34 4 44))) 34 5 46))) 34 6 48))) 34 7 50))) 34 8 52))) 34 9 54 := by rw [r41, s40]
  refine Go.dup (by decide +kernel) rfl ?_
  refine Go.callIN (Qc := CQ (58) ((PF_Sa_init 56 (PF_Sa_init 54 (PF_Sa_init 52 (PF_Sa_init 50 (PF_Sa_init 48 (PF_Sa_init 46 (PF_Sa_init 44 (PF_Sa_init 42 (PF_Sa_init 40 (PF_Sa_init 38 (PF_Sa_init 36 (PF_Sa_init 32 P))))))))))))) (RF_Sa_init 56 (E41.1)) E41) (d - 1) 0 _ [] (58) (by rw [n41]; exact (e_Sa_init hG (d - 1) (by omega) 56 sh56 (PF_Sa_init 54 (PF_Sa_init 52 (PF_Sa_init 50 (PF_Sa_init 48 (PF_Sa_init 46 (PF_Sa_init 44 (PF_Sa_init 42 (PF_Sa_init 40 (PF_Sa_init 38 (PF_Sa_init 36 (PF_Sa_init 32 P))))))))))) E41 z41 n41)) ⟨by rw [n41]; decide, by decide⟩ (fun _ _ _ q => q.2.2.2.1) nw6 lk146 lk5 lk147 rfl ⟨by decide, by decide, by decide +kernel⟩ rfl (by omega) (by decide) (Nat.le_of_ble_eq_true rfl) (by decide +kernel) _ rfl (fun _ P67 E42 q67 => ?_)
  obtain ⟨e1, e2, r42, n42, z42, a42⟩ := q67
  subst e1
  rw [e2] at z42 ⊢
  clear e2
  dsimp only [Option.toList, List.nil_append]
  rw [n41] at a42
  have b42 : ∀ k, (k < E.2.1 ∨ 1000 ≤ k) → ad E42 k = ad E k := fun k hk => (a42 k (by rw [hn] at hk; omega)).trans (b41 k hk)
  rw [← a42 31 (Or.inl (by decide)), ← a42 14 (Or.inl (by decide)), ← a42 21 (Or.inl (by decide)), ← a42 23 (Or.inl (by decide)), ← a42 34 (Or.inl (by decide)), ← a42 56 (Or.inl (by decide))]
  have s42 : E42.1 = (RF_Sa_init 56 (ur ((RF_Sa_init 54 (ur ((RF_Sa_init 52 (ur ((RF_Sa_init 50 (ur ((RF_Sa_init 48 (ur ((RF_Sa_init 46 (ur ((RF_Sa_init 44 (ur ((RF_Sa_init 42 (ur ((RF_Sa_init 40 (ur ((RF_Sa_init 38 (ur ((RF_Sa_init 36 (ur (ur (ur (ur (ur (ur ((RF_Sa_init 32 (E.1))) 31 3 32) 31 6 34) 31 9 35) 31 0 14) 31 1 21) 31 2 23))) 34 0 36))) 34 1 38))) 34 2 40))) 34 3 42))) 34 4 44))) 34 5 46))) 34 6 48))) 34 7 50))) 34 8 52))) 34 9 54)) := by rw [r42, s41]
  refine Go.aastoreZ 34 4 11 56 10 sh34 (by decide) (by rw [n42]; decide) (by decide) sh56 (by rw [n42]; decide) rfl (vp_in_iff.mpr (by decide)) (by decide) z42 (by decide +kernel) (fun E43 r43 n43 a43 z43 => ?_)
  have b43 : ∀ k, (k < E.2.1 ∨ 1000 ≤ k) → ad E43 k = ad E k := fun k hk => (a43 k).trans (b42 k hk)
  rw [← a43 31, ← a43 14, ← a43 21, ← a43 23]
  rw [n42] at n43
  have s43 : E43.1 = ur ((RF_Sa_init 56 (ur ((RF_Sa_init 54 (ur ((RF_Sa_init 52 (ur ((RF_Sa_init 50 (ur ((RF_Sa_init 48 (ur ((RF_Sa_init 46 (ur ((RF_Sa_init 44 (ur ((RF_Sa_init 42 (ur ((RF_Sa_init 40 (ur ((RF_Sa_init 38 (ur ((RF_Sa_init 36 (ur (ur (ur (ur (ur (ur ((RF_Sa_init 32 (E.1))) 31 3 32) 31 6 34) 31 9 35) 31 0 14) 31 1 21) 31 2 23))) 34 0 36))) 34 1 38))) 34 2 40))) 34 3 42))) 34 4 44))) 34 5 46))) 34 6 48))) 34 7 50))) 34 8 52))) 34 9 54))) 34 10 56 := by rw [r43, s42]
  refine Go.iincV (i := 4) (n := 1) 0 (11 : Int32) [(4, .int (11 : Int32)), (0, .ref (ad E43 31)), (1, .ref (ad E43 14)), (2, .ref (ad E43 21)), (3, .ref (ad E43 23))] (by decide +kernel) rfl (by decide) (by decide) rfl ?_
  refine Go.goto (off := -24) 50 (by decide +kernel) (by decide) ?_
  refine Go.iload (i := 4) 0 (by decide +kernel) rfl ?_
  refine Go.bipush (n := 11) (11 : Int32) (by decide +kernel) (by decide) ?_
  refine Go.icmp_ge (off := 23) 77 (by decide +kernel) (by decide) (fun c => ?_) (fun c => absurd (by decide) c)
  exact Go.vret rfl n43 (by decide +kernel) ⟨rfl, rfl, s43, n43, z43, b43⟩
abbrev c_Pa_init : ByteArray := prog_6_method_1_code
abbrev y_Pa_init : MethodName := ⟨"YawnRoute$Passings", "<init>", "(LYawnRoute$Net;LYawnRoute$State;)V"⟩
abbrev cw_Pa_init : Cond := .code y_Pa_init c_Pa_init 3 none
def PF_Pa_init (P : PM) : PM := (rowI P 59 0 1960 (-2))
def RF_Pa_init (f : Nat → Nat → Option Nat) : Nat → Nat → Option Nat := ur (ur (ur (ur (ur (ur (f) 58 2 59) 58 3 60) 58 4 61) 58 5 62) 58 0 14) 58 1 21
theorem e_Pa_init {G : GX} (hG : GOK G) (d : Nat) (hd : 3 ≤ d) (P : PM) (E : EV) (hz : Zr P E) (hn : E.2.1 = 59) : Con G y_Pa_init cw_Pa_init d (59) (63) [.ref (ad E 58), .ref (ad E 14), .ref (ad E 21)] P E (CQ (63) (PF_Pa_init P) (RF_Pa_init E.1) E) := by
  refine Con.of hG (own := "YawnRoute$Passings") (ini := true) (by decide +kernel) rfl (fun _ => rfl) hn (Nat.le_of_ble_eq_true rfl) ?_
  show Go G c_Pa_init "YawnRoute$Passings" 3 none true d (59) (63) _ 0 [(0, .ref (ad E 58)), (1, .ref (ad E 14)), (2, .ref (ad E 21))] [] P E
  refine Go.aload_n (k := 0) (i := 0) 0 (by decide +kernel) rfl rfl ?_
  refine Go.objInit lk281 lk29 lk30 (by omega) (Nat.le_of_ble_eq_true rfl) (by decide +kernel) ?_
  refine Go.aload_n (k := 0) (i := 0) 0 (by decide +kernel) rfl rfl ?_
  refine Go.sipush (n := 1960) (1960 : Int32) (by decide +kernel) (by decide) ?_
  refine Go.newaZ (atype := .byte) 1 1960 (by decide) rfl (by rw [hn]; exact sh59) (by rw [hn]; decide) hz lk73 (by rw [hn]; decide) (by decide) (by decide) (by decide) (by decide +kernel) (fun E1 r1 n1 a1 z1 => ?_)
  rw [hn] at n1 a1 ⊢
  have b1 : ∀ k, (k < E.2.1 ∨ 1000 ≤ k) → ad E1 k = ad E k := fun k hk => (a1 k (by rw [hn] at hk; omega)).trans ((fun k _ => rfl) k hk)
  rw [← a1 58 (Or.inl (by decide)), ← a1 14 (Or.inl (by decide)), ← a1 21 (Or.inl (by decide))]
  replace n1 : E1.2.1 = 60 := n1
  have s1 : E1.1 = E.1 := r1
  refine Go.putRZ 58 2 59 (by decide) (by decide) sh58 (by rw [n1]; decide) (by rw [n1]; decide) z1 (Or.inr ⟨_, rfl⟩) rfl rfl rfl lk291 (by decide +kernel) (fun E2 r2 n2 a2 z2 => ?_)
  have b2 : ∀ k, (k < E.2.1 ∨ 1000 ≤ k) → ad E2 k = ad E k := fun k hk => (a2 k).trans (b1 k hk)
  rw [← a2 58, ← a2 14, ← a2 21]
  rw [n1] at n2
  have s2 : E2.1 = ur (E.1) 58 2 59 := by rw [r2, s1]
  refine Go.aload_n (k := 0) (i := 0) 0 (by decide +kernel) rfl rfl ?_
  refine Go.bipush (n := 7) (7 : Int32) (by decide +kernel) (by decide) ?_
  refine Go.newaZ (atype := .int) 0 7 (by decide) rfl (by rw [n2]; exact sh60) (by rw [n2]; decide) z2 lk142 (by rw [n2]; decide) (by decide) (by decide) (by decide) (by decide +kernel) (fun E3 r3 n3 a3 z3 => ?_)
  rw [n2] at n3 a3 ⊢
  have b3 : ∀ k, (k < E.2.1 ∨ 1000 ≤ k) → ad E3 k = ad E k := fun k hk => (a3 k (by rw [hn] at hk; omega)).trans (b2 k hk)
  rw [← a3 58 (Or.inl (by decide)), ← a3 14 (Or.inl (by decide)), ← a3 21 (Or.inl (by decide))]
  replace n3 : E3.2.1 = 61 := n3
  have s3 : E3.1 = ur (E.1) 58 2 59 := by rw [r3, s2]
  refine Go.putRZ 58 3 60 (by decide) (by decide) sh58 (by rw [n3]; decide) (by rw [n3]; decide) z3 (Or.inr ⟨_, rfl⟩) rfl rfl rfl lk292 (by decide +kernel) (fun E4 r4 n4 a4 z4 => ?_)
  have b4 : ∀ k, (k < E.2.1 ∨ 1000 ≤ k) → ad E4 k = ad E k := fun k hk => (a4 k).trans (b3 k hk)
  rw [← a4 58, ← a4 14, ← a4 21]
  rw [n3] at n4
  have s4 : E4.1 = ur (ur (E.1) 58 2 59) 58 3 60 := by rw [r4, s3]
  refine Go.aload_n (k := 0) (i := 0) 0 (by decide +kernel) rfl rfl ?_
  refine Go.bipush (n := 7) (7 : Int32) (by decide +kernel) (by decide) ?_
  refine Go.newaZ (atype := .long) 3 7 (by decide) rfl (by rw [n4]; exact sh61) (by rw [n4]; decide) z4 lk232 (by rw [n4]; decide) (by decide) (by decide) (by decide) (by decide +kernel) (fun E5 r5 n5 a5 z5 => ?_)
  rw [n4] at n5 a5 ⊢
  have b5 : ∀ k, (k < E.2.1 ∨ 1000 ≤ k) → ad E5 k = ad E k := fun k hk => (a5 k (by rw [hn] at hk; omega)).trans (b4 k hk)
  rw [← a5 58 (Or.inl (by decide)), ← a5 14 (Or.inl (by decide)), ← a5 21 (Or.inl (by decide))]
  replace n5 : E5.2.1 = 62 := n5
  have s5 : E5.1 = ur (ur (E.1) 58 2 59) 58 3 60 := by rw [r5, s4]
  refine Go.putRZ 58 4 61 (by decide) (by decide) sh58 (by rw [n5]; decide) (by rw [n5]; decide) z5 (Or.inr ⟨_, rfl⟩) rfl rfl rfl lk293 (by decide +kernel) (fun E6 r6 n6 a6 z6 => ?_)
  have b6 : ∀ k, (k < E.2.1 ∨ 1000 ≤ k) → ad E6 k = ad E k := fun k hk => (a6 k).trans (b5 k hk)
  rw [← a6 58, ← a6 14, ← a6 21]
  rw [n5] at n6
  have s6 : E6.1 = ur (ur (ur (E.1) 58 2 59) 58 3 60) 58 4 61 := by rw [r6, s5]
  refine Go.aload_n (k := 0) (i := 0) 0 (by decide +kernel) rfl rfl ?_
  refine Go.sipush (n := 280) (280 : Int32) (by decide +kernel) (by decide) ?_
  refine Go.newaZ (atype := .int) 0 280 (by decide) rfl (by rw [n6]; exact sh62) (by rw [n6]; decide) z6 lk142 (by rw [n6]; decide) (by decide) (by decide) (by decide) (by decide +kernel) (fun E7 r7 n7 a7 z7 => ?_)
  rw [n6] at n7 a7 ⊢
  have b7 : ∀ k, (k < E.2.1 ∨ 1000 ≤ k) → ad E7 k = ad E k := fun k hk => (a7 k (by rw [hn] at hk; omega)).trans (b6 k hk)
  rw [← a7 58 (Or.inl (by decide)), ← a7 14 (Or.inl (by decide)), ← a7 21 (Or.inl (by decide))]
  replace n7 : E7.2.1 = 63 := n7
  have s7 : E7.1 = ur (ur (ur (E.1) 58 2 59) 58 3 60) 58 4 61 := by rw [r7, s6]
  refine Go.putRZ 58 5 62 (by decide) (by decide) sh58 (by rw [n7]; decide) (by rw [n7]; decide) z7 (Or.inr ⟨_, rfl⟩) rfl rfl rfl lk294 (by decide +kernel) (fun E8 r8 n8 a8 z8 => ?_)
  have b8 : ∀ k, (k < E.2.1 ∨ 1000 ≤ k) → ad E8 k = ad E k := fun k hk => (a8 k).trans (b7 k hk)
  rw [← a8 58, ← a8 14, ← a8 21]
  rw [n7] at n8
  have s8 : E8.1 = ur (ur (ur (ur (E.1) 58 2 59) 58 3 60) 58 4 61) 58 5 62 := by rw [r8, s7]
  refine Go.aload_n (k := 0) (i := 0) 0 (by decide +kernel) rfl rfl ?_
  refine Go.aload_n (k := 1) (i := 1) 1 (by decide +kernel) rfl rfl ?_
  refine Go.putRZ 58 0 14 (by decide) (by decide) sh58 (by rw [n8]; decide) (by rw [n8]; decide) z8 (Or.inl ⟨_, rfl⟩) rfl rfl rfl lk289 (by decide +kernel) (fun E9 r9 n9 a9 z9 => ?_)
  have b9 : ∀ k, (k < E.2.1 ∨ 1000 ≤ k) → ad E9 k = ad E k := fun k hk => (a9 k).trans (b8 k hk)
  rw [← a9 58, ← a9 14, ← a9 21]
  rw [n8] at n9
  have s9 : E9.1 = ur (ur (ur (ur (ur (E.1) 58 2 59) 58 3 60) 58 4 61) 58 5 62) 58 0 14 := by rw [r9, s8]
  refine Go.aload_n (k := 0) (i := 0) 0 (by decide +kernel) rfl rfl ?_
  refine Go.aload_n (k := 2) (i := 2) 2 (by decide +kernel) rfl rfl ?_
  refine Go.putRZ 58 1 21 (by decide) (by decide) sh58 (by rw [n9]; decide) (by rw [n9]; decide) z9 (Or.inl ⟨_, rfl⟩) rfl rfl rfl lk290 (by decide +kernel) (fun E10 r10 n10 a10 z10 => ?_)
  have b10 : ∀ k, (k < E.2.1 ∨ 1000 ≤ k) → ad E10 k = ad E k := fun k hk => (a10 k).trans (b9 k hk)
  rw [← a10 58, ← a10 14, ← a10 21]
  rw [n9] at n10
  have s10 : E10.1 = ur (ur (ur (ur (ur (ur (E.1) 58 2 59) 58 3 60) 58 4 61) 58 5 62) 58 0 14) 58 1 21 := by rw [r10, s9]
  refine Go.aload_n (k := 0) (i := 0) 0 (by decide +kernel) rfl rfl ?_
  refine Go.cV_vn (P1 := rowI P 59 0 1960 (-2)) 63 (d - 1) 58 [] sh58 n10 (by decide) (by decide) w_Pa_forgetAll (e_Pa_forgetAllc hG ⟨n10, by rw [s10]; rfl⟩ (d - 1) (by omega) _ ⟨_, fAllRow _, rfl, rfl, rfl⟩) lk282 rfl (by omega) (Nat.le_of_ble_eq_true rfl) (by decide +kernel) _ rfl ?_
  have y49 : Zr (rowI P 59 0 1960 (-2)) E10 := Zr.row z10 (by rw [n10]; decide)
  exact Go.vret rfl n10 (by decide +kernel) ⟨rfl, rfl, s10, n10, y49, b10⟩
abbrev c_Ro_init : ByteArray := prog_7_method_1_code
abbrev y_Ro_init : MethodName := ⟨"YawnRoute$Routes", "<init>", "(LYawnRoute$Net;LYawnRoute$State;LYawnRoute$Passings;)V"⟩
abbrev cw_Ro_init : Cond := .code y_Ro_init c_Ro_init 4 none
def PF_Ro_init (P : PM) : PM := P
def RF_Ro_init (f : Nat → Nat → Option Nat) : Nat → Nat → Option Nat := ur (ur (ur (ur (f) 63 3 64) 63 0 14) 63 1 21) 63 2 58
theorem e_Ro_init {G : GX} (hG : GOK G) (d : Nat) (hd : 1 ≤ d) (P : PM) (E : EV) (hz : Zr P E) (hn : E.2.1 = 64) : Con G y_Ro_init cw_Ro_init d (64) (65) [.ref (ad E 63), .ref (ad E 14), .ref (ad E 21), .ref (ad E 58)] P E (CQ (65) (PF_Ro_init P) (RF_Ro_init E.1) E) := by
  refine Con.of hG (own := "YawnRoute$Routes") (ini := true) (by decide +kernel) rfl (fun _ => rfl) hn (Nat.le_of_ble_eq_true rfl) ?_
  show Go G c_Ro_init "YawnRoute$Routes" 4 none true d (64) (65) _ 0 [(0, .ref (ad E 63)), (1, .ref (ad E 14)), (2, .ref (ad E 21)), (3, .ref (ad E 58))] [] P E
  refine Go.aload_n (k := 0) (i := 0) 0 (by decide +kernel) rfl rfl ?_
  refine Go.objInit lk320 lk29 lk30 (by omega) (Nat.le_of_ble_eq_true rfl) (by decide +kernel) ?_
  refine Go.aload_n (k := 0) (i := 0) 0 (by decide +kernel) rfl rfl ?_
  refine Go.sipush (n := 280) (280 : Int32) (by decide +kernel) (by decide) ?_
  refine Go.newaZ (atype := .int) 0 280 (by decide) rfl (by rw [hn]; exact sh64) (by rw [hn]; decide) hz lk142 (by rw [hn]; decide) (by decide) (by decide) (by decide) (by decide +kernel) (fun E1 r1 n1 a1 z1 => ?_)
  rw [hn] at n1 a1 ⊢
  have b1 : ∀ k, (k < E.2.1 ∨ 1000 ≤ k) → ad E1 k = ad E k := fun k hk => (a1 k (by rw [hn] at hk; omega)).trans ((fun k _ => rfl) k hk)
  rw [← a1 63 (Or.inl (by decide)), ← a1 14 (Or.inl (by decide)), ← a1 21 (Or.inl (by decide)), ← a1 58 (Or.inl (by decide))]
  replace n1 : E1.2.1 = 65 := n1
  have s1 : E1.1 = E.1 := r1
  refine Go.putRZ 63 3 64 (by decide) (by decide) sh63 (by rw [n1]; decide) (by rw [n1]; decide) z1 (Or.inr ⟨_, rfl⟩) rfl rfl rfl lk324 (by decide +kernel) (fun E2 r2 n2 a2 z2 => ?_)
  have b2 : ∀ k, (k < E.2.1 ∨ 1000 ≤ k) → ad E2 k = ad E k := fun k hk => (a2 k).trans (b1 k hk)
  rw [← a2 63, ← a2 14, ← a2 21, ← a2 58]
  rw [n1] at n2
  have s2 : E2.1 = ur (E.1) 63 3 64 := by rw [r2, s1]
  refine Go.aload_n (k := 0) (i := 0) 0 (by decide +kernel) rfl rfl ?_
  refine Go.aload_n (k := 1) (i := 1) 1 (by decide +kernel) rfl rfl ?_
  refine Go.putRZ 63 0 14 (by decide) (by decide) sh63 (by rw [n2]; decide) (by rw [n2]; decide) z2 (Or.inl ⟨_, rfl⟩) rfl rfl rfl lk321 (by decide +kernel) (fun E3 r3 n3 a3 z3 => ?_)
  have b3 : ∀ k, (k < E.2.1 ∨ 1000 ≤ k) → ad E3 k = ad E k := fun k hk => (a3 k).trans (b2 k hk)
  rw [← a3 63, ← a3 14, ← a3 21, ← a3 58]
  rw [n2] at n3
  have s3 : E3.1 = ur (ur (E.1) 63 3 64) 63 0 14 := by rw [r3, s2]
  refine Go.aload_n (k := 0) (i := 0) 0 (by decide +kernel) rfl rfl ?_
  refine Go.aload_n (k := 2) (i := 2) 2 (by decide +kernel) rfl rfl ?_
  refine Go.putRZ 63 1 21 (by decide) (by decide) sh63 (by rw [n3]; decide) (by rw [n3]; decide) z3 (Or.inl ⟨_, rfl⟩) rfl rfl rfl lk322 (by decide +kernel) (fun E4 r4 n4 a4 z4 => ?_)
  have b4 : ∀ k, (k < E.2.1 ∨ 1000 ≤ k) → ad E4 k = ad E k := fun k hk => (a4 k).trans (b3 k hk)
  rw [← a4 63, ← a4 14, ← a4 21, ← a4 58]
  rw [n3] at n4
  have s4 : E4.1 = ur (ur (ur (E.1) 63 3 64) 63 0 14) 63 1 21 := by rw [r4, s3]
  refine Go.aload_n (k := 0) (i := 0) 0 (by decide +kernel) rfl rfl ?_
  refine Go.aload_n (k := 3) (i := 3) 3 (by decide +kernel) rfl rfl ?_
  refine Go.putRZ 63 2 58 (by decide) (by decide) sh63 (by rw [n4]; decide) (by rw [n4]; decide) z4 (Or.inl ⟨_, rfl⟩) rfl rfl rfl lk323 (by decide +kernel) (fun E5 r5 n5 a5 z5 => ?_)
  have b5 : ∀ k, (k < E.2.1 ∨ 1000 ≤ k) → ad E5 k = ad E k := fun k hk => (a5 k).trans (b4 k hk)
  rw [← a5 63, ← a5 14, ← a5 21, ← a5 58]
  rw [n4] at n5
  have s5 : E5.1 = ur (ur (ur (ur (E.1) 63 3 64) 63 0 14) 63 1 21) 63 2 58 := by rw [r5, s4]
  exact Go.vret rfl n5 (by decide +kernel) ⟨rfl, rfl, s5, n5, z5, b5⟩
abbrev c_Sp_init : ByteArray := prog_8_method_1_code
abbrev y_Sp_init : MethodName := ⟨"YawnRoute$Spreading", "<init>", "(LYawnRoute$Net;LYawnRoute$State;LYawnRoute$Passings;)V"⟩
abbrev cw_Sp_init : Cond := .code y_Sp_init c_Sp_init 4 none
def PF_Sp_init (P : PM) : PM := P
def RF_Sp_init (f : Nat → Nat → Option Nat) : Nat → Nat → Option Nat := ur (ur (ur (ur (ur (ur (f) 65 3 66) 65 4 67) 65 5 68) 65 0 14) 65 1 21) 65 2 58
theorem e_Sp_init {G : GX} (hG : GOK G) (d : Nat) (hd : 1 ≤ d) (P : PM) (E : EV) (hz : Zr P E) (hn : E.2.1 = 66) : Con G y_Sp_init cw_Sp_init d (66) (69) [.ref (ad E 65), .ref (ad E 14), .ref (ad E 21), .ref (ad E 58)] P E (CQ (69) (PF_Sp_init P) (RF_Sp_init E.1) E) := by
  refine Con.of hG (own := "YawnRoute$Spreading") (ini := true) (by decide +kernel) rfl (fun _ => rfl) hn (Nat.le_of_ble_eq_true rfl) ?_
  show Go G c_Sp_init "YawnRoute$Spreading" 4 none true d (66) (69) _ 0 [(0, .ref (ad E 65)), (1, .ref (ad E 14)), (2, .ref (ad E 21)), (3, .ref (ad E 58))] [] P E
  refine Go.aload_n (k := 0) (i := 0) 0 (by decide +kernel) rfl rfl ?_
  refine Go.objInit lk342 lk29 lk30 (by omega) (Nat.le_of_ble_eq_true rfl) (by decide +kernel) ?_
  refine Go.aload_n (k := 0) (i := 0) 0 (by decide +kernel) rfl rfl ?_
  refine Go.bipush (n := 7) (7 : Int32) (by decide +kernel) (by decide) ?_
  refine Go.newaZ (atype := .int) 0 7 (by decide) rfl (by rw [hn]; exact sh66) (by rw [hn]; decide) hz lk142 (by rw [hn]; decide) (by decide) (by decide) (by decide) (by decide +kernel) (fun E1 r1 n1 a1 z1 => ?_)
  rw [hn] at n1 a1 ⊢
  have b1 : ∀ k, (k < E.2.1 ∨ 1000 ≤ k) → ad E1 k = ad E k := fun k hk => (a1 k (by rw [hn] at hk; omega)).trans ((fun k _ => rfl) k hk)
  rw [← a1 65 (Or.inl (by decide)), ← a1 14 (Or.inl (by decide)), ← a1 21 (Or.inl (by decide)), ← a1 58 (Or.inl (by decide))]
  replace n1 : E1.2.1 = 67 := n1
  have s1 : E1.1 = E.1 := r1
  refine Go.putRZ 65 3 66 (by decide) (by decide) sh65 (by rw [n1]; decide) (by rw [n1]; decide) z1 (Or.inr ⟨_, rfl⟩) rfl rfl rfl lk346 (by decide +kernel) (fun E2 r2 n2 a2 z2 => ?_)
  have b2 : ∀ k, (k < E.2.1 ∨ 1000 ≤ k) → ad E2 k = ad E k := fun k hk => (a2 k).trans (b1 k hk)
  rw [← a2 65, ← a2 14, ← a2 21, ← a2 58]
  rw [n1] at n2
  have s2 : E2.1 = ur (E.1) 65 3 66 := by rw [r2, s1]
  refine Go.aload_n (k := 0) (i := 0) 0 (by decide +kernel) rfl rfl ?_
  refine Go.bipush (n := 7) (7 : Int32) (by decide +kernel) (by decide) ?_
  refine Go.newaZ (atype := .int) 0 7 (by decide) rfl (by rw [n2]; exact sh67) (by rw [n2]; decide) z2 lk142 (by rw [n2]; decide) (by decide) (by decide) (by decide) (by decide +kernel) (fun E3 r3 n3 a3 z3 => ?_)
  rw [n2] at n3 a3 ⊢
  have b3 : ∀ k, (k < E.2.1 ∨ 1000 ≤ k) → ad E3 k = ad E k := fun k hk => (a3 k (by rw [hn] at hk; omega)).trans (b2 k hk)
  rw [← a3 65 (Or.inl (by decide)), ← a3 14 (Or.inl (by decide)), ← a3 21 (Or.inl (by decide)), ← a3 58 (Or.inl (by decide))]
  replace n3 : E3.2.1 = 68 := n3
  have s3 : E3.1 = ur (E.1) 65 3 66 := by rw [r3, s2]
  refine Go.putRZ 65 4 67 (by decide) (by decide) sh65 (by rw [n3]; decide) (by rw [n3]; decide) z3 (Or.inr ⟨_, rfl⟩) rfl rfl rfl lk347 (by decide +kernel) (fun E4 r4 n4 a4 z4 => ?_)
  have b4 : ∀ k, (k < E.2.1 ∨ 1000 ≤ k) → ad E4 k = ad E k := fun k hk => (a4 k).trans (b3 k hk)
  rw [← a4 65, ← a4 14, ← a4 21, ← a4 58]
  rw [n3] at n4
  have s4 : E4.1 = ur (ur (E.1) 65 3 66) 65 4 67 := by rw [r4, s3]
  refine Go.aload_n (k := 0) (i := 0) 0 (by decide +kernel) rfl rfl ?_
  refine Go.bipush (n := 7) (7 : Int32) (by decide +kernel) (by decide) ?_
  refine Go.newaZ (atype := .int) 0 7 (by decide) rfl (by rw [n4]; exact sh68) (by rw [n4]; decide) z4 lk142 (by rw [n4]; decide) (by decide) (by decide) (by decide) (by decide +kernel) (fun E5 r5 n5 a5 z5 => ?_)
  rw [n4] at n5 a5 ⊢
  have b5 : ∀ k, (k < E.2.1 ∨ 1000 ≤ k) → ad E5 k = ad E k := fun k hk => (a5 k (by rw [hn] at hk; omega)).trans (b4 k hk)
  rw [← a5 65 (Or.inl (by decide)), ← a5 14 (Or.inl (by decide)), ← a5 21 (Or.inl (by decide)), ← a5 58 (Or.inl (by decide))]
  replace n5 : E5.2.1 = 69 := n5
  have s5 : E5.1 = ur (ur (E.1) 65 3 66) 65 4 67 := by rw [r5, s4]
  refine Go.putRZ 65 5 68 (by decide) (by decide) sh65 (by rw [n5]; decide) (by rw [n5]; decide) z5 (Or.inr ⟨_, rfl⟩) rfl rfl rfl lk348 (by decide +kernel) (fun E6 r6 n6 a6 z6 => ?_)
  have b6 : ∀ k, (k < E.2.1 ∨ 1000 ≤ k) → ad E6 k = ad E k := fun k hk => (a6 k).trans (b5 k hk)
  rw [← a6 65, ← a6 14, ← a6 21, ← a6 58]
  rw [n5] at n6
  have s6 : E6.1 = ur (ur (ur (E.1) 65 3 66) 65 4 67) 65 5 68 := by rw [r6, s5]
  refine Go.aload_n (k := 0) (i := 0) 0 (by decide +kernel) rfl rfl ?_
  refine Go.aload_n (k := 1) (i := 1) 1 (by decide +kernel) rfl rfl ?_
  refine Go.putRZ 65 0 14 (by decide) (by decide) sh65 (by rw [n6]; decide) (by rw [n6]; decide) z6 (Or.inl ⟨_, rfl⟩) rfl rfl rfl lk343 (by decide +kernel) (fun E7 r7 n7 a7 z7 => ?_)
  have b7 : ∀ k, (k < E.2.1 ∨ 1000 ≤ k) → ad E7 k = ad E k := fun k hk => (a7 k).trans (b6 k hk)
  rw [← a7 65, ← a7 14, ← a7 21, ← a7 58]
  rw [n6] at n7
  have s7 : E7.1 = ur (ur (ur (ur (E.1) 65 3 66) 65 4 67) 65 5 68) 65 0 14 := by rw [r7, s6]
  refine Go.aload_n (k := 0) (i := 0) 0 (by decide +kernel) rfl rfl ?_
  refine Go.aload_n (k := 2) (i := 2) 2 (by decide +kernel) rfl rfl ?_
  refine Go.putRZ 65 1 21 (by decide) (by decide) sh65 (by rw [n7]; decide) (by rw [n7]; decide) z7 (Or.inl ⟨_, rfl⟩) rfl rfl rfl lk344 (by decide +kernel) (fun E8 r8 n8 a8 z8 => ?_)
  have b8 : ∀ k, (k < E.2.1 ∨ 1000 ≤ k) → ad E8 k = ad E k := fun k hk => (a8 k).trans (b7 k hk)
  rw [← a8 65, ← a8 14, ← a8 21, ← a8 58]
  rw [n7] at n8
  have s8 : E8.1 = ur (ur (ur (ur (ur (E.1) 65 3 66) 65 4 67) 65 5 68) 65 0 14) 65 1 21 := by rw [r8, s7]
  refine Go.aload_n (k := 0) (i := 0) 0 (by decide +kernel) rfl rfl ?_
  refine Go.aload_n (k := 3) (i := 3) 3 (by decide +kernel) rfl rfl ?_
  refine Go.putRZ 65 2 58 (by decide) (by decide) sh65 (by rw [n8]; decide) (by rw [n8]; decide) z8 (Or.inl ⟨_, rfl⟩) rfl rfl rfl lk345 (by decide +kernel) (fun E9 r9 n9 a9 z9 => ?_)
  have b9 : ∀ k, (k < E.2.1 ∨ 1000 ≤ k) → ad E9 k = ad E k := fun k hk => (a9 k).trans (b8 k hk)
  rw [← a9 65, ← a9 14, ← a9 21, ← a9 58]
  rw [n8] at n9
  have s9 : E9.1 = ur (ur (ur (ur (ur (ur (E.1) 65 3 66) 65 4 67) 65 5 68) 65 0 14) 65 1 21) 65 2 58 := by rw [r9, s8]
  exact Go.vret rfl n9 (by decide +kernel) ⟨rfl, rfl, s9, n9, z9, b9⟩
abbrev c_St_init : ByteArray := prog_10_method_1_code
abbrev y_St_init : MethodName := ⟨"YawnRoute$Steps", "<init>", "(LYawnRoute$Net;LYawnRoute$State;LYawnRoute$Passings;)V"⟩
abbrev cw_St_init : Cond := .code y_St_init c_St_init 4 none
def PF_St_init (P : PM) : PM := P
def RF_St_init (f : Nat → Nat → Option Nat) : Nat → Nat → Option Nat := ur (ur (ur (ur (um (ur (um (ur (um (f) 70 11) 69 3 70) 82 2) 69 4 82) 85 2) 69 5 85) 69 0 14) 69 1 21) 69 2 58
theorem e_St_init {G : GX} (hG : GOK G) (d : Nat) (hd : 1 ≤ d) (P : PM) (E : EV) (hz : Zr P E) (hn : E.2.1 = 70) : Con G y_St_init cw_St_init d (70) (88) [.ref (ad E 69), .ref (ad E 14), .ref (ad E 21), .ref (ad E 58)] P E (CQ (88) (PF_St_init P) (RF_St_init E.1) E) := by
  refine Con.of hG (own := "YawnRoute$Steps") (ini := true) (by decide +kernel) rfl (fun _ => rfl) hn (Nat.le_of_ble_eq_true rfl) ?_
  show Go G c_St_init "YawnRoute$Steps" 4 none true d (70) (88) _ 0 [(0, .ref (ad E 69)), (1, .ref (ad E 14)), (2, .ref (ad E 21)), (3, .ref (ad E 58))] [] P E
  refine Go.aload_n (k := 0) (i := 0) 0 (by decide +kernel) rfl rfl ?_
  refine Go.objInit lk367 lk29 lk30 (by omega) (Nat.le_of_ble_eq_true rfl) (by decide +kernel) ?_
  refine Go.aload_n (k := 0) (i := 0) 0 (by decide +kernel) rfl rfl ?_
  refine Go.bipush (n := 11) (11 : Int32) (by decide +kernel) (by decide) ?_
  refine Go.sipush (n := 280) (280 : Int32) (by decide +kernel) (by decide) ?_
  refine Go.multi 0 6 11 280 (by decide) (by decide) rfl (by rw [hn]; exact sh70) (by rw [hn]; decide) (by rw [hn]; decide +kernel) (by rw [hn]; decide) hz (by decide +kernel) lk368 (fun g => g.2.2.2.2.1) lk142 (by rw [hn]; decide) (by decide) (by decide) (by decide) (by decide) (by decide) (by decide) (by decide +kernel) (fun E1 r1 n1 a1 z1 => ?_)
  rw [hn] at n1 a1 ⊢
  have b1 : ∀ k, (k < E.2.1 ∨ 1000 ≤ k) → ad E1 k = ad E k := fun k hk => (a1 k (by rw [hn] at hk; omega)).trans ((fun k _ => rfl) k hk)
  rw [← a1 69 (Or.inl (by decide)), ← a1 14 (Or.inl (by decide)), ← a1 21 (Or.inl (by decide)), ← a1 58 (Or.inl (by decide))]
  replace n1 : E1.2.1 = 82 := n1
  have s1 : E1.1 = um (E.1) 70 11 := by rw [r1, hn]
  refine Go.putRZ 69 3 70 (by decide) (by decide) sh69 (by rw [n1]; decide) (by rw [n1]; decide) z1 (Or.inr ⟨_, rfl⟩) rfl rfl rfl lk373 (by decide +kernel) (fun E2 r2 n2 a2 z2 => ?_)
  have b2 : ∀ k, (k < E.2.1 ∨ 1000 ≤ k) → ad E2 k = ad E k := fun k hk => (a2 k).trans (b1 k hk)
  rw [← a2 69, ← a2 14, ← a2 21, ← a2 58]
  rw [n1] at n2
  have s2 : E2.1 = ur (um (E.1) 70 11) 69 3 70 := by rw [r2, s1]
  refine Go.aload_n (k := 0) (i := 0) 0 (by decide +kernel) rfl rfl ?_
  refine Go.iconst (n := 2) (2 : Int32) (by decide +kernel) rfl ?_
  refine Go.sipush (n := 280) (280 : Int32) (by decide +kernel) (by decide) ?_
  refine Go.multi 0 6 2 280 (by decide) (by decide) rfl (by rw [n2]; exact sh82) (by rw [n2]; decide) (by rw [n2]; decide +kernel) (by rw [n2]; decide) z2 (by decide +kernel) lk368 (fun g => g.2.2.2.2.1) lk142 (by rw [n2]; decide) (by decide) (by decide) (by decide) (by decide) (by decide) (by decide) (by decide +kernel) (fun E3 r3 n3 a3 z3 => ?_)
  rw [n2] at n3 a3 ⊢
  have b3 : ∀ k, (k < E.2.1 ∨ 1000 ≤ k) → ad E3 k = ad E k := fun k hk => (a3 k (by rw [hn] at hk; omega)).trans (b2 k hk)
  rw [← a3 69 (Or.inl (by decide)), ← a3 14 (Or.inl (by decide)), ← a3 21 (Or.inl (by decide)), ← a3 58 (Or.inl (by decide))]
  replace n3 : E3.2.1 = 85 := n3
  have s3 : E3.1 = um (ur (um (E.1) 70 11) 69 3 70) 82 2 := by rw [r3, n2, s2]
  refine Go.putRZ 69 4 82 (by decide) (by decide) sh69 (by rw [n3]; decide) (by rw [n3]; decide) z3 (Or.inr ⟨_, rfl⟩) rfl rfl rfl lk374 (by decide +kernel) (fun E4 r4 n4 a4 z4 => ?_)
  have b4 : ∀ k, (k < E.2.1 ∨ 1000 ≤ k) → ad E4 k = ad E k := fun k hk => (a4 k).trans (b3 k hk)
  rw [← a4 69, ← a4 14, ← a4 21, ← a4 58]
  rw [n3] at n4
  have s4 : E4.1 = ur (um (ur (um (E.1) 70 11) 69 3 70) 82 2) 69 4 82 := by rw [r4, s3]
  refine Go.aload_n (k := 0) (i := 0) 0 (by decide +kernel) rfl rfl ?_
  refine Go.iconst (n := 2) (2 : Int32) (by decide +kernel) rfl ?_
  refine Go.sipush (n := 280) (280 : Int32) (by decide +kernel) (by decide) ?_
  refine Go.multi 0 6 2 280 (by decide) (by decide) rfl (by rw [n4]; exact sh85) (by rw [n4]; decide) (by rw [n4]; decide +kernel) (by rw [n4]; decide) z4 (by decide +kernel) lk368 (fun g => g.2.2.2.2.1) lk142 (by rw [n4]; decide) (by decide) (by decide) (by decide) (by decide) (by decide) (by decide) (by decide +kernel) (fun E5 r5 n5 a5 z5 => ?_)
  rw [n4] at n5 a5 ⊢
  have b5 : ∀ k, (k < E.2.1 ∨ 1000 ≤ k) → ad E5 k = ad E k := fun k hk => (a5 k (by rw [hn] at hk; omega)).trans (b4 k hk)
  rw [← a5 69 (Or.inl (by decide)), ← a5 14 (Or.inl (by decide)), ← a5 21 (Or.inl (by decide)), ← a5 58 (Or.inl (by decide))]
  replace n5 : E5.2.1 = 88 := n5
  have s5 : E5.1 = um (ur (um (ur (um (E.1) 70 11) 69 3 70) 82 2) 69 4 82) 85 2 := by rw [r5, n4, s4]
  refine Go.putRZ 69 5 85 (by decide) (by decide) sh69 (by rw [n5]; decide) (by rw [n5]; decide) z5 (Or.inr ⟨_, rfl⟩) rfl rfl rfl lk375 (by decide +kernel) (fun E6 r6 n6 a6 z6 => ?_)
  have b6 : ∀ k, (k < E.2.1 ∨ 1000 ≤ k) → ad E6 k = ad E k := fun k hk => (a6 k).trans (b5 k hk)
  rw [← a6 69, ← a6 14, ← a6 21, ← a6 58]
  rw [n5] at n6
  have s6 : E6.1 = ur (um (ur (um (ur (um (E.1) 70 11) 69 3 70) 82 2) 69 4 82) 85 2) 69 5 85 := by rw [r6, s5]
  refine Go.aload_n (k := 0) (i := 0) 0 (by decide +kernel) rfl rfl ?_
  refine Go.aload_n (k := 1) (i := 1) 1 (by decide +kernel) rfl rfl ?_
  refine Go.putRZ 69 0 14 (by decide) (by decide) sh69 (by rw [n6]; decide) (by rw [n6]; decide) z6 (Or.inl ⟨_, rfl⟩) rfl rfl rfl lk370 (by decide +kernel) (fun E7 r7 n7 a7 z7 => ?_)
  have b7 : ∀ k, (k < E.2.1 ∨ 1000 ≤ k) → ad E7 k = ad E k := fun k hk => (a7 k).trans (b6 k hk)
  rw [← a7 69, ← a7 14, ← a7 21, ← a7 58]
  rw [n6] at n7
  have s7 : E7.1 = ur (ur (um (ur (um (ur (um (E.1) 70 11) 69 3 70) 82 2) 69 4 82) 85 2) 69 5 85) 69 0 14 := by rw [r7, s6]
  refine Go.aload_n (k := 0) (i := 0) 0 (by decide +kernel) rfl rfl ?_
  refine Go.aload_n (k := 2) (i := 2) 2 (by decide +kernel) rfl rfl ?_
  refine Go.putRZ 69 1 21 (by decide) (by decide) sh69 (by rw [n7]; decide) (by rw [n7]; decide) z7 (Or.inl ⟨_, rfl⟩) rfl rfl rfl lk371 (by decide +kernel) (fun E8 r8 n8 a8 z8 => ?_)
  have b8 : ∀ k, (k < E.2.1 ∨ 1000 ≤ k) → ad E8 k = ad E k := fun k hk => (a8 k).trans (b7 k hk)
  rw [← a8 69, ← a8 14, ← a8 21, ← a8 58]
  rw [n7] at n8
  have s8 : E8.1 = ur (ur (ur (um (ur (um (ur (um (E.1) 70 11) 69 3 70) 82 2) 69 4 82) 85 2) 69 5 85) 69 0 14) 69 1 21 := by rw [r8, s7]
  refine Go.aload_n (k := 0) (i := 0) 0 (by decide +kernel) rfl rfl ?_
  refine Go.aload_n (k := 3) (i := 3) 3 (by decide +kernel) rfl rfl ?_
  refine Go.putRZ 69 2 58 (by decide) (by decide) sh69 (by rw [n8]; decide) (by rw [n8]; decide) z8 (Or.inl ⟨_, rfl⟩) rfl rfl rfl lk372 (by decide +kernel) (fun E9 r9 n9 a9 z9 => ?_)
  have b9 : ∀ k, (k < E.2.1 ∨ 1000 ≤ k) → ad E9 k = ad E k := fun k hk => (a9 k).trans (b8 k hk)
  rw [← a9 69, ← a9 14, ← a9 21, ← a9 58]
  rw [n8] at n9
  have s9 : E9.1 = ur (ur (ur (ur (um (ur (um (ur (um (E.1) 70 11) 69 3 70) 82 2) 69 4 82) 85 2) 69 5 85) 69 0 14) 69 1 21) 69 2 58 := by rw [r9, s8]
  exact Go.vret rfl n9 (by decide +kernel) ⟨rfl, rfl, s9, n9, z9, b9⟩
abbrev c_Yr_init : ByteArray := prog_1_method_1_code
abbrev y_Yr_init : MethodName := ⟨"YawnRoute", "<init>", "()V"⟩
abbrev cw_Yr_init : Cond := .code y_Yr_init c_Yr_init 1 none
def PF_Yr_init (P : PM) : PM := (PF_Sa_init 106 (PF_Sa_init 104 (PF_Ne_init 96 (PF_Ne_init 89 (PF_St_init (PF_Sp_init (PF_Ro_init (PF_Pa_init (PF_De_init (PF_Tr_init (PF_Sa_init 21 (PF_Ne_init 14 (PF_Nr_init (PF_Ta_init P))))))))))))))
def RF_Yr_init (f : Nat → Nat → Option Nat) : Nat → Nat → Option Nat := ur (ur (ur ((RF_Sa_init 106 (ur ((RF_Sa_init 104 (ur (ur ((RF_Ne_init 96 (ur ((RF_Ne_init 89 (ur ((RF_St_init (ur ((RF_Sp_init (ur ((RF_Ro_init (ur ((RF_Pa_init (ur ((RF_De_init (ur ((RF_Tr_init (ur ((RF_Sa_init 21 (ur ((RF_Ne_init 14 (ur ((RF_Nr_init (ur ((RF_Ta_init (f))) 0 0 1))) 0 1 3))) 0 2 14))) 0 3 21))) 0 4 23))) 0 5 31))) 0 6 58))) 0 7 63))) 0 8 65))) 0 9 69))) 88 0 89))) 88 1 96) 0 10 88))) 103 0 104))) 103 1 106) 0 11 103) 0 12 108
theorem e_Yr_init {G : GX} (hG : GOK G) (d : Nat) (hd : 4 ≤ d) (P : PM) (E : EV) (hz : Zr P E) (hn : E.2.1 = 1) : Con G y_Yr_init cw_Yr_init d (1) (109) [.ref (ad E 0)] P E (CQ (109) (PF_Yr_init P) (RF_Yr_init E.1) E) := by
  refine Con.of hG (own := "YawnRoute") (ini := true) (by decide +kernel) rfl (fun _ => rfl) hn (Nat.le_of_ble_eq_true rfl) ?_
  show Go G c_Yr_init "YawnRoute" 1 none true d (1) (109) _ 0 [(0, .ref (ad E 0))] [] P E
  refine Go.aload_n (k := 0) (i := 0) 0 (by decide +kernel) rfl rfl ?_
  refine Go.objInit lk28 lk29 lk30 (by omega) (Nat.le_of_ble_eq_true rfl) (by decide +kernel) ?_
  refine Go.aload_n (k := 0) (i := 0) 0 (by decide +kernel) rfl rfl ?_
  refine Go.newZ 9 (by decide) (by rw [hn]; exact sh1) (by rw [hn]; decide) hz lk31 lk32 lk2 (by rw [hn]; decide) (by decide +kernel) (fun E1 r1 n1 a1 z1 => ?_)
  rw [hn] at n1 a1 ⊢
  have b1 : ∀ k, (k < E.2.1 ∨ 1000 ≤ k) → ad E1 k = ad E k := fun k hk => (a1 k (by rw [hn] at hk; omega)).trans ((fun k _ => rfl) k hk)
  rw [← a1 0 (Or.inl (by decide))]
  replace n1 : E1.2.1 = 2 := n1
  have s1 : E1.1 = E.1 := r1
  refine Go.dup (by decide +kernel) rfl ?_
  refine Go.callIN (Qc := CQ (3) ((PF_Ta_init P)) (RF_Ta_init (E1.1)) E1) (d - 1) 0 _ [] (3) (by rw [n1]; exact (e_Ta_init hG (d - 1) (by omega) P E1 z1 n1)) ⟨by rw [n1]; decide, by decide⟩ (fun _ _ _ q => q.2.2.2.1) nw0 lk34 lk2 lk35 rfl ⟨by decide, by decide, by decide +kernel⟩ rfl (by omega) (by decide) (Nat.le_of_ble_eq_true rfl) (by decide +kernel) _ rfl (fun _ P9 E2 q9 => ?_)
  obtain ⟨e1, e2, r2, n2, z2, a2⟩ := q9
  subst e1
  rw [e2] at z2 ⊢
  clear e2
  dsimp only [Option.toList, List.nil_append]
  rw [n1] at a2
  have b2 : ∀ k, (k < E.2.1 ∨ 1000 ≤ k) → ad E2 k = ad E k := fun k hk => (a2 k (by rw [hn] at hk; omega)).trans (b1 k hk)
  rw [← a2 0 (Or.inl (by decide)), ← a2 1 (Or.inl (by decide))]
  have s2 : E2.1 = (RF_Ta_init (E.1)) := by rw [r2, s1]
  refine Go.putRZ 0 0 1 (by decide) (by decide) sh0 (by rw [n2]; decide) (by rw [n2]; decide) z2 (Or.inl ⟨_, rfl⟩) rfl rfl rfl lk390 (by decide +kernel) (fun E3 r3 n3 a3 z3 => ?_)
  have b3 : ∀ k, (k < E.2.1 ∨ 1000 ≤ k) → ad E3 k = ad E k := fun k hk => (a3 k).trans (b2 k hk)
  rw [← a3 0]
  rw [n2] at n3
  have s3 : E3.1 = ur ((RF_Ta_init (E.1))) 0 0 1 := by rw [r3, s2]
  refine Go.aload_n (k := 0) (i := 0) 0 (by decide +kernel) rfl rfl ?_
  refine Go.newZ 3 (by decide) (by rw [n3]; exact sh3) (by rw [n3]; decide) z3 lk74 lk75 lk3 (by rw [n3]; decide) (by decide +kernel) (fun E4 r4 n4 a4 z4 => ?_)
  rw [n3] at n4 a4 ⊢
  have b4 : ∀ k, (k < E.2.1 ∨ 1000 ≤ k) → ad E4 k = ad E k := fun k hk => (a4 k (by rw [hn] at hk; omega)).trans (b3 k hk)
  rw [← a4 0 (Or.inl (by decide))]
  replace n4 : E4.2.1 = 4 := n4
  have s4 : E4.1 = ur ((RF_Ta_init (E.1))) 0 0 1 := by rw [r4, s3]
  refine Go.dup (by decide +kernel) rfl ?_
  refine Go.aload_n (k := 0) (i := 0) 0 (by decide +kernel) rfl rfl ?_
  refine Go.get 0 0 (.ref (ad E4 1)) (by decide) (by decide) sh0 (by rw [n4]; decide) (vlR2 rfl (by rw [s4]; rfl)) lk390 (by decide +kernel) ?_
  refine Go.callI (Qc := CQ (14) ((PF_Nr_init (PF_Ta_init P))) (RF_Nr_init (E4.1)) E4) (d - 1) 1 _ [.ref (ad E4 1)] (14) (by rw [n4]; exact (e_Nr_init hG (d - 1) (by omega) (PF_Ta_init P) E4 z4 n4)) ⟨by rw [n4]; decide, by decide⟩ (fun _ _ _ q => q.2.2.2.1) lk76 lk77 lk3 lk78 rfl ⟨by decide, by decide, by decide +kernel⟩ rfl (by omega) (by decide) (Nat.le_of_ble_eq_true rfl) (by decide +kernel) _ rfl (fun _ P24 E5 q24 => ?_)
  obtain ⟨e1, e2, r5, n5, z5, a5⟩ := q24
  subst e1
  rw [e2] at z5 ⊢
  clear e2
  dsimp only [Option.toList, List.nil_append]
  rw [n4] at a5
  have b5 : ∀ k, (k < E.2.1 ∨ 1000 ≤ k) → ad E5 k = ad E k := fun k hk => (a5 k (by rw [hn] at hk; omega)).trans (b4 k hk)
  rw [← a5 0 (Or.inl (by decide)), ← a5 3 (Or.inl (by decide))]
  have s5 : E5.1 = (RF_Nr_init (ur ((RF_Ta_init (E.1))) 0 0 1)) := by rw [r5, s4]
  refine Go.putRZ 0 1 3 (by decide) (by decide) sh0 (by rw [n5]; decide) (by rw [n5]; decide) z5 (Or.inl ⟨_, rfl⟩) rfl rfl rfl lk391 (by decide +kernel) (fun E6 r6 n6 a6 z6 => ?_)
  have b6 : ∀ k, (k < E.2.1 ∨ 1000 ≤ k) → ad E6 k = ad E k := fun k hk => (a6 k).trans (b5 k hk)
  rw [← a6 0]
  rw [n5] at n6
  have s6 : E6.1 = ur ((RF_Nr_init (ur ((RF_Ta_init (E.1))) 0 0 1))) 0 1 3 := by rw [r6, s5]
  refine Go.aload_n (k := 0) (i := 0) 0 (by decide +kernel) rfl rfl ?_
  refine Go.newZ 2 (by decide) (by rw [n6]; exact sh14) (by rw [n6]; decide) z6 lk210 lk81 lk4 (by rw [n6]; decide) (by decide +kernel) (fun E7 r7 n7 a7 z7 => ?_)
  rw [n6] at n7 a7 ⊢
  have b7 : ∀ k, (k < E.2.1 ∨ 1000 ≤ k) → ad E7 k = ad E k := fun k hk => (a7 k (by rw [hn] at hk; omega)).trans (b6 k hk)
  rw [← a7 0 (Or.inl (by decide))]
  replace n7 : E7.2.1 = 15 := n7
  have s7 : E7.1 = ur ((RF_Nr_init (ur ((RF_Ta_init (E.1))) 0 0 1))) 0 1 3 := by rw [r7, s6]
  refine Go.dup (by decide +kernel) rfl ?_
  refine Go.callIN (Qc := CQ (21) ((PF_Ne_init 14 (PF_Nr_init (PF_Ta_init P)))) (RF_Ne_init 14 (E7.1)) E7) (d - 1) 0 _ [] (21) (by rw [n7]; exact (e_Ne_init hG (d - 1) (by omega) 14 sh14 (PF_Nr_init (PF_Ta_init P)) E7 z7 n7)) ⟨by rw [n7]; decide, by decide⟩ (fun _ _ _ q => q.2.2.2.1) nw3 lk83 lk4 lk84 rfl ⟨by decide, by decide, by decide +kernel⟩ rfl (by omega) (by decide) (Nat.le_of_ble_eq_true rfl) (by decide +kernel) _ rfl (fun _ P35 E8 q35 => ?_)
  obtain ⟨e1, e2, r8, n8, z8, a8⟩ := q35
  subst e1
  rw [e2] at z8 ⊢
  clear e2
  dsimp only [Option.toList, List.nil_append]
  rw [n7] at a8
  have b8 : ∀ k, (k < E.2.1 ∨ 1000 ≤ k) → ad E8 k = ad E k := fun k hk => (a8 k (by rw [hn] at hk; omega)).trans (b7 k hk)
  rw [← a8 0 (Or.inl (by decide)), ← a8 14 (Or.inl (by decide))]
  have s8 : E8.1 = (RF_Ne_init 14 (ur ((RF_Nr_init (ur ((RF_Ta_init (E.1))) 0 0 1))) 0 1 3)) := by rw [r8, s7]
  refine Go.putRZ 0 2 14 (by decide) (by decide) sh0 (by rw [n8]; decide) (by rw [n8]; decide) z8 (Or.inl ⟨_, rfl⟩) rfl rfl rfl lk392 (by decide +kernel) (fun E9 r9 n9 a9 z9 => ?_)
  have b9 : ∀ k, (k < E.2.1 ∨ 1000 ≤ k) → ad E9 k = ad E k := fun k hk => (a9 k).trans (b8 k hk)
  rw [← a9 0]
  rw [n8] at n9
  have s9 : E9.1 = ur ((RF_Ne_init 14 (ur ((RF_Nr_init (ur ((RF_Ta_init (E.1))) 0 0 1))) 0 1 3))) 0 2 14 := by rw [r9, s8]
  refine Go.aload_n (k := 0) (i := 0) 0 (by decide +kernel) rfl rfl ?_
  refine Go.newZ 7 (by decide) (by rw [n9]; exact sh21) (by rw [n9]; decide) z9 lk212 lk144 lk5 (by rw [n9]; decide) (by decide +kernel) (fun E10 r10 n10 a10 z10 => ?_)
  rw [n9] at n10 a10 ⊢
  have b10 : ∀ k, (k < E.2.1 ∨ 1000 ≤ k) → ad E10 k = ad E k := fun k hk => (a10 k (by rw [hn] at hk; omega)).trans (b9 k hk)
  rw [← a10 0 (Or.inl (by decide))]
  replace n10 : E10.2.1 = 22 := n10
  have s10 : E10.1 = ur ((RF_Ne_init 14 (ur ((RF_Nr_init (ur ((RF_Ta_init (E.1))) 0 0 1))) 0 1 3))) 0 2 14 := by rw [r10, s9]
  refine Go.dup (by decide +kernel) rfl ?_
  refine Go.callIN (Qc := CQ (23) ((PF_Sa_init 21 (PF_Ne_init 14 (PF_Nr_init (PF_Ta_init P))))) (RF_Sa_init 21 (E10.1)) E10) (d - 1) 0 _ [] (23) (by rw [n10]; exact (e_Sa_init hG (d - 1) (by omega) 21 sh21 (PF_Ne_init 14 (PF_Nr_init (PF_Ta_init P))) E10 z10 n10)) ⟨by rw [n10]; decide, by decide⟩ (fun _ _ _ q => q.2.2.2.1) nw4 lk146 lk5 lk147 rfl ⟨by decide, by decide, by decide +kernel⟩ rfl (by omega) (by decide) (Nat.le_of_ble_eq_true rfl) (by decide +kernel) _ rfl (fun _ P46 E11 q46 => ?_)
  obtain ⟨e1, e2, r11, n11, z11, a11⟩ := q46
  subst e1
  rw [e2] at z11 ⊢
  clear e2
  dsimp only [Option.toList, List.nil_append]
  rw [n10] at a11
  have b11 : ∀ k, (k < E.2.1 ∨ 1000 ≤ k) → ad E11 k = ad E k := fun k hk => (a11 k (by rw [hn] at hk; omega)).trans (b10 k hk)
  rw [← a11 0 (Or.inl (by decide)), ← a11 21 (Or.inl (by decide))]
  have s11 : E11.1 = (RF_Sa_init 21 (ur ((RF_Ne_init 14 (ur ((RF_Nr_init (ur ((RF_Ta_init (E.1))) 0 0 1))) 0 1 3))) 0 2 14)) := by rw [r11, s10]
  refine Go.putRZ 0 3 21 (by decide) (by decide) sh0 (by rw [n11]; decide) (by rw [n11]; decide) z11 (Or.inl ⟨_, rfl⟩) rfl rfl rfl lk393 (by decide +kernel) (fun E12 r12 n12 a12 z12 => ?_)
  have b12 : ∀ k, (k < E.2.1 ∨ 1000 ≤ k) → ad E12 k = ad E k := fun k hk => (a12 k).trans (b11 k hk)
  rw [← a12 0]
  rw [n11] at n12
  have s12 : E12.1 = ur ((RF_Sa_init 21 (ur ((RF_Ne_init 14 (ur ((RF_Nr_init (ur ((RF_Ta_init (E.1))) 0 0 1))) 0 1 3))) 0 2 14))) 0 3 21 := by rw [r12, s11]
  refine Go.aload_n (k := 0) (i := 0) 0 (by decide +kernel) rfl rfl ?_
  refine Go.newZ 10 (by decide) (by rw [n12]; exact sh23) (by rw [n12]; decide) z12 lk214 lk215 lk7 (by rw [n12]; decide) (by decide +kernel) (fun E13 r13 n13 a13 z13 => ?_)
  rw [n12] at n13 a13 ⊢
  have b13 : ∀ k, (k < E.2.1 ∨ 1000 ≤ k) → ad E13 k = ad E k := fun k hk => (a13 k (by rw [hn] at hk; omega)).trans (b12 k hk)
  rw [← a13 0 (Or.inl (by decide))]
  replace n13 : E13.2.1 = 24 := n13
  have s13 : E13.1 = ur ((RF_Sa_init 21 (ur ((RF_Ne_init 14 (ur ((RF_Nr_init (ur ((RF_Ta_init (E.1))) 0 0 1))) 0 1 3))) 0 2 14))) 0 3 21 := by rw [r13, s12]
  refine Go.dup (by decide +kernel) rfl ?_
  refine Go.callIN (Qc := CQ (31) ((PF_Tr_init (PF_Sa_init 21 (PF_Ne_init 14 (PF_Nr_init (PF_Ta_init P)))))) (RF_Tr_init (E13.1)) E13) (d - 1) 0 _ [] (31) (by rw [n13]; exact (e_Tr_init hG (d - 1) (by omega) (PF_Sa_init 21 (PF_Ne_init 14 (PF_Nr_init (PF_Ta_init P)))) E13 z13 n13)) ⟨by rw [n13]; decide, by decide⟩ (fun _ _ _ q => q.2.2.2.1) nw5 lk217 lk7 lk218 rfl ⟨by decide, by decide, by decide +kernel⟩ rfl (by omega) (by decide) (Nat.le_of_ble_eq_true rfl) (by decide +kernel) _ rfl (fun _ P57 E14 q57 => ?_)
  obtain ⟨e1, e2, r14, n14, z14, a14⟩ := q57
  subst e1
  rw [e2] at z14 ⊢
  clear e2
  dsimp only [Option.toList, List.nil_append]
  rw [n13] at a14
  have b14 : ∀ k, (k < E.2.1 ∨ 1000 ≤ k) → ad E14 k = ad E k := fun k hk => (a14 k (by rw [hn] at hk; omega)).trans (b13 k hk)
  rw [← a14 0 (Or.inl (by decide)), ← a14 23 (Or.inl (by decide))]
  have s14 : E14.1 = (RF_Tr_init (ur ((RF_Sa_init 21 (ur ((RF_Ne_init 14 (ur ((RF_Nr_init (ur ((RF_Ta_init (E.1))) 0 0 1))) 0 1 3))) 0 2 14))) 0 3 21)) := by rw [r14, s13]
  refine Go.putRZ 0 4 23 (by decide) (by decide) sh0 (by rw [n14]; decide) (by rw [n14]; decide) z14 (Or.inl ⟨_, rfl⟩) rfl rfl rfl lk394 (by decide +kernel) (fun E15 r15 n15 a15 z15 => ?_)
  have b15 : ∀ k, (k < E.2.1 ∨ 1000 ≤ k) → ad E15 k = ad E k := fun k hk => (a15 k).trans (b14 k hk)
  rw [← a15 0]
  rw [n14] at n15
  have s15 : E15.1 = ur ((RF_Tr_init (ur ((RF_Sa_init 21 (ur ((RF_Ne_init 14 (ur ((RF_Nr_init (ur ((RF_Ta_init (E.1))) 0 0 1))) 0 1 3))) 0 2 14))) 0 3 21))) 0 4 23 := by rw [r15, s14]
  refine Go.aload_n (k := 0) (i := 0) 0 (by decide +kernel) rfl rfl ?_
  refine Go.newZ 0 (by decide) (by rw [n15]; exact sh31) (by rw [n15]; decide) z15 lk233 lk234 lk8 (by rw [n15]; decide) (by decide +kernel) (fun E16 r16 n16 a16 z16 => ?_)
  rw [n15] at n16 a16 ⊢
  have b16 : ∀ k, (k < E.2.1 ∨ 1000 ≤ k) → ad E16 k = ad E k := fun k hk => (a16 k (by rw [hn] at hk; omega)).trans (b15 k hk)
  rw [← a16 0 (Or.inl (by decide))]
  replace n16 : E16.2.1 = 32 := n16
  have s16 : E16.1 = ur ((RF_Tr_init (ur ((RF_Sa_init 21 (ur ((RF_Ne_init 14 (ur ((RF_Nr_init (ur ((RF_Ta_init (E.1))) 0 0 1))) 0 1 3))) 0 2 14))) 0 3 21))) 0 4 23 := by rw [r16, s15]
  refine Go.dup (by decide +kernel) rfl ?_
  refine Go.aload_n (k := 0) (i := 0) 0 (by decide +kernel) rfl rfl ?_
  refine Go.get 0 2 (.ref (ad E16 14)) (by decide) (by decide) sh0 (by rw [n16]; decide) (vlR2 rfl (by rw [s16]; rfl)) lk392 (by decide +kernel) ?_
  refine Go.aload_n (k := 0) (i := 0) 0 (by decide +kernel) rfl rfl ?_
  refine Go.get 0 3 (.ref (ad E16 21)) (by decide) (by decide) sh0 (by rw [n16]; decide) (vlR2 rfl (by rw [s16]; rfl)) lk393 (by decide +kernel) ?_
  refine Go.aload_n (k := 0) (i := 0) 0 (by decide +kernel) rfl rfl ?_
  refine Go.get 0 4 (.ref (ad E16 23)) (by decide) (by decide) sh0 (by rw [n16]; decide) (vlR2 rfl (by rw [s16]; rfl)) lk394 (by decide +kernel) ?_
  refine Go.callI (Qc := CQ (58) ((PF_De_init (PF_Tr_init (PF_Sa_init 21 (PF_Ne_init 14 (PF_Nr_init (PF_Ta_init P))))))) (RF_De_init (E16.1)) E16) (d - 1) 3 _ [.ref (ad E16 14), .ref (ad E16 21), .ref (ad E16 23)] (58) (by rw [n16]; exact (e_De_init hG (d - 1) (by omega) (PF_Tr_init (PF_Sa_init 21 (PF_Ne_init 14 (PF_Nr_init (PF_Ta_init P))))) E16 z16 n16)) ⟨by rw [n16]; decide, by decide⟩ (fun _ _ _ q => q.2.2.2.1) lk235 lk236 lk8 lk237 rfl ⟨by decide, by decide, by decide +kernel⟩ rfl (by omega) (by decide) (Nat.le_of_ble_eq_true rfl) (by decide +kernel) _ rfl (fun _ P80 E17 q80 => ?_)
  obtain ⟨e1, e2, r17, n17, z17, a17⟩ := q80
  subst e1
  rw [e2] at z17 ⊢
  clear e2
  dsimp only [Option.toList, List.nil_append]
  rw [n16] at a17
  have b17 : ∀ k, (k < E.2.1 ∨ 1000 ≤ k) → ad E17 k = ad E k := fun k hk => (a17 k (by rw [hn] at hk; omega)).trans (b16 k hk)
  rw [← a17 0 (Or.inl (by decide)), ← a17 31 (Or.inl (by decide))]
  have s17 : E17.1 = (RF_De_init (ur ((RF_Tr_init (ur ((RF_Sa_init 21 (ur ((RF_Ne_init 14 (ur ((RF_Nr_init (ur ((RF_Ta_init (E.1))) 0 0 1))) 0 1 3))) 0 2 14))) 0 3 21))) 0 4 23)) := by rw [r17, s16]
  refine Go.putRZ 0 5 31 (by decide) (by decide) sh0 (by rw [n17]; decide) (by rw [n17]; decide) z17 (Or.inl ⟨_, rfl⟩) rfl rfl rfl lk395 (by decide +kernel) (fun E18 r18 n18 a18 z18 => ?_)
  have b18 : ∀ k, (k < E.2.1 ∨ 1000 ≤ k) → ad E18 k = ad E k := fun k hk => (a18 k).trans (b17 k hk)
  rw [← a18 0]
  rw [n17] at n18
  have s18 : E18.1 = ur ((RF_De_init (ur ((RF_Tr_init (ur ((RF_Sa_init 21 (ur ((RF_Ne_init 14 (ur ((RF_Nr_init (ur ((RF_Ta_init (E.1))) 0 0 1))) 0 1 3))) 0 2 14))) 0 3 21))) 0 4 23))) 0 5 31 := by rw [r18, s17]
  refine Go.aload_n (k := 0) (i := 0) 0 (by decide +kernel) rfl rfl ?_
  refine Go.newZ 4 (by decide) (by rw [n18]; exact sh58) (by rw [n18]; decide) z18 lk276 lk277 lk9 (by rw [n18]; decide) (by decide +kernel) (fun E19 r19 n19 a19 z19 => ?_)
  rw [n18] at n19 a19 ⊢
  have b19 : ∀ k, (k < E.2.1 ∨ 1000 ≤ k) → ad E19 k = ad E k := fun k hk => (a19 k (by rw [hn] at hk; omega)).trans (b18 k hk)
  rw [← a19 0 (Or.inl (by decide))]
  replace n19 : E19.2.1 = 59 := n19
  have s19 : E19.1 = ur ((RF_De_init (ur ((RF_Tr_init (ur ((RF_Sa_init 21 (ur ((RF_Ne_init 14 (ur ((RF_Nr_init (ur ((RF_Ta_init (E.1))) 0 0 1))) 0 1 3))) 0 2 14))) 0 3 21))) 0 4 23))) 0 5 31 := by rw [r19, s18]
  refine Go.dup (by decide +kernel) rfl ?_
  refine Go.aload_n (k := 0) (i := 0) 0 (by decide +kernel) rfl rfl ?_
  refine Go.get 0 2 (.ref (ad E19 14)) (by decide) (by decide) sh0 (by rw [n19]; decide) (vlR2 rfl (by rw [s19]; rfl)) lk392 (by decide +kernel) ?_
  refine Go.aload_n (k := 0) (i := 0) 0 (by decide +kernel) rfl rfl ?_
  refine Go.get 0 3 (.ref (ad E19 21)) (by decide) (by decide) sh0 (by rw [n19]; decide) (vlR2 rfl (by rw [s19]; rfl)) lk393 (by decide +kernel) ?_
  refine Go.callI (Qc := CQ (63) ((PF_Pa_init (PF_De_init (PF_Tr_init (PF_Sa_init 21 (PF_Ne_init 14 (PF_Nr_init (PF_Ta_init P)))))))) (RF_Pa_init (E19.1)) E19) (d - 1) 2 _ [.ref (ad E19 14), .ref (ad E19 21)] (63) (by rw [n19]; exact (e_Pa_init hG (d - 1) (by omega) (PF_De_init (PF_Tr_init (PF_Sa_init 21 (PF_Ne_init 14 (PF_Nr_init (PF_Ta_init P)))))) E19 z19 n19)) ⟨by rw [n19]; decide, by decide⟩ (fun _ _ _ q => q.2.2.2.1) lk278 lk279 lk9 lk280 rfl ⟨by decide, by decide, by decide +kernel⟩ rfl (by omega) (by decide) (Nat.le_of_ble_eq_true rfl) (by decide +kernel) _ rfl (fun _ P99 E20 q99 => ?_)
  obtain ⟨e1, e2, r20, n20, z20, a20⟩ := q99
  subst e1
  rw [e2] at z20 ⊢
  clear e2
  dsimp only [Option.toList, List.nil_append]
  rw [n19] at a20
  have b20 : ∀ k, (k < E.2.1 ∨ 1000 ≤ k) → ad E20 k = ad E k := fun k hk => (a20 k (by rw [hn] at hk; omega)).trans (b19 k hk)
  rw [← a20 0 (Or.inl (by decide)), ← a20 58 (Or.inl (by decide))]
  have s20 : E20.1 = (RF_Pa_init (ur ((RF_De_init (ur ((RF_Tr_init (ur ((RF_Sa_init 21 (ur ((RF_Ne_init 14 (ur ((RF_Nr_init (ur ((RF_Ta_init (E.1))) 0 0 1))) 0 1 3))) 0 2 14))) 0 3 21))) 0 4 23))) 0 5 31)) := by rw [r20, s19]
  refine Go.putRZ 0 6 58 (by decide) (by decide) sh0 (by rw [n20]; decide) (by rw [n20]; decide) z20 (Or.inl ⟨_, rfl⟩) rfl rfl rfl lk396 (by decide +kernel) (fun E21 r21 n21 a21 z21 => ?_)
  have b21 : ∀ k, (k < E.2.1 ∨ 1000 ≤ k) → ad E21 k = ad E k := fun k hk => (a21 k).trans (b20 k hk)
  rw [← a21 0]
  rw [n20] at n21
  have s21 : E21.1 = ur ((RF_Pa_init (ur ((RF_De_init (ur ((RF_Tr_init (ur ((RF_Sa_init 21 (ur ((RF_Ne_init 14 (ur ((RF_Nr_init (ur ((RF_Ta_init (E.1))) 0 0 1))) 0 1 3))) 0 2 14))) 0 3 21))) 0 4 23))) 0 5 31))) 0 6 58 := by rw [r21, s20]
  refine Go.aload_n (k := 0) (i := 0) 0 (by decide +kernel) rfl rfl ?_
  refine Go.newZ 5 (by decide) (by rw [n21]; exact sh63) (by rw [n21]; decide) z21 lk315 lk316 lk11 (by rw [n21]; decide) (by decide +kernel) (fun E22 r22 n22 a22 z22 => ?_)
  rw [n21] at n22 a22 ⊢
  have b22 : ∀ k, (k < E.2.1 ∨ 1000 ≤ k) → ad E22 k = ad E k := fun k hk => (a22 k (by rw [hn] at hk; omega)).trans (b21 k hk)
  rw [← a22 0 (Or.inl (by decide))]
  replace n22 : E22.2.1 = 64 := n22
  have s22 : E22.1 = ur ((RF_Pa_init (ur ((RF_De_init (ur ((RF_Tr_init (ur ((RF_Sa_init 21 (ur ((RF_Ne_init 14 (ur ((RF_Nr_init (ur ((RF_Ta_init (E.1))) 0 0 1))) 0 1 3))) 0 2 14))) 0 3 21))) 0 4 23))) 0 5 31))) 0 6 58 := by rw [r22, s21]
  refine Go.dup (by decide +kernel) rfl ?_
  refine Go.aload_n (k := 0) (i := 0) 0 (by decide +kernel) rfl rfl ?_
  refine Go.get 0 2 (.ref (ad E22 14)) (by decide) (by decide) sh0 (by rw [n22]; decide) (vlR2 rfl (by rw [s22]; rfl)) lk392 (by decide +kernel) ?_
  refine Go.aload_n (k := 0) (i := 0) 0 (by decide +kernel) rfl rfl ?_
  refine Go.get 0 3 (.ref (ad E22 21)) (by decide) (by decide) sh0 (by rw [n22]; decide) (vlR2 rfl (by rw [s22]; rfl)) lk393 (by decide +kernel) ?_
  refine Go.aload_n (k := 0) (i := 0) 0 (by decide +kernel) rfl rfl ?_
  refine Go.get 0 6 (.ref (ad E22 58)) (by decide) (by decide) sh0 (by rw [n22]; decide) (vlR2 rfl (by rw [s22]; rfl)) lk396 (by decide +kernel) ?_
  refine Go.callI (Qc := CQ (65) ((PF_Ro_init (PF_Pa_init (PF_De_init (PF_Tr_init (PF_Sa_init 21 (PF_Ne_init 14 (PF_Nr_init (PF_Ta_init P))))))))) (RF_Ro_init (E22.1)) E22) (d - 1) 3 _ [.ref (ad E22 14), .ref (ad E22 21), .ref (ad E22 58)] (65) (by rw [n22]; exact (e_Ro_init hG (d - 1) (by omega) (PF_Pa_init (PF_De_init (PF_Tr_init (PF_Sa_init 21 (PF_Ne_init 14 (PF_Nr_init (PF_Ta_init P))))))) E22 z22 n22)) ⟨by rw [n22]; decide, by decide⟩ (fun _ _ _ q => q.2.2.2.1) lk317 lk318 lk11 lk319 rfl ⟨by decide, by decide, by decide +kernel⟩ rfl (by omega) (by decide) (Nat.le_of_ble_eq_true rfl) (by decide +kernel) _ rfl (fun _ P122 E23 q122 => ?_)
  obtain ⟨e1, e2, r23, n23, z23, a23⟩ := q122
  subst e1
  rw [e2] at z23 ⊢
  clear e2
  dsimp only [Option.toList, List.nil_append]
  rw [n22] at a23
  have b23 : ∀ k, (k < E.2.1 ∨ 1000 ≤ k) → ad E23 k = ad E k := fun k hk => (a23 k (by rw [hn] at hk; omega)).trans (b22 k hk)
  rw [← a23 0 (Or.inl (by decide)), ← a23 63 (Or.inl (by decide))]
  have s23 : E23.1 = (RF_Ro_init (ur ((RF_Pa_init (ur ((RF_De_init (ur ((RF_Tr_init (ur ((RF_Sa_init 21 (ur ((RF_Ne_init 14 (ur ((RF_Nr_init (ur ((RF_Ta_init (E.1))) 0 0 1))) 0 1 3))) 0 2 14))) 0 3 21))) 0 4 23))) 0 5 31))) 0 6 58)) := by rw [r23, s22]
  refine Go.putRZ 0 7 63 (by decide) (by decide) sh0 (by rw [n23]; decide) (by rw [n23]; decide) z23 (Or.inl ⟨_, rfl⟩) rfl rfl rfl lk397 (by decide +kernel) (fun E24 r24 n24 a24 z24 => ?_)
  have b24 : ∀ k, (k < E.2.1 ∨ 1000 ≤ k) → ad E24 k = ad E k := fun k hk => (a24 k).trans (b23 k hk)
  rw [← a24 0]
  rw [n23] at n24
  have s24 : E24.1 = ur ((RF_Ro_init (ur ((RF_Pa_init (ur ((RF_De_init (ur ((RF_Tr_init (ur ((RF_Sa_init 21 (ur ((RF_Ne_init 14 (ur ((RF_Nr_init (ur ((RF_Ta_init (E.1))) 0 0 1))) 0 1 3))) 0 2 14))) 0 3 21))) 0 4 23))) 0 5 31))) 0 6 58))) 0 7 63 := by rw [r24, s23]
  refine Go.aload_n (k := 0) (i := 0) 0 (by decide +kernel) rfl rfl ?_
  refine Go.newZ 6 (by decide) (by rw [n24]; exact sh65) (by rw [n24]; decide) z24 lk337 lk338 lk12 (by rw [n24]; decide) (by decide +kernel) (fun E25 r25 n25 a25 z25 => ?_)
  rw [n24] at n25 a25 ⊢
  have b25 : ∀ k, (k < E.2.1 ∨ 1000 ≤ k) → ad E25 k = ad E k := fun k hk => (a25 k (by rw [hn] at hk; omega)).trans (b24 k hk)
  rw [← a25 0 (Or.inl (by decide))]
  replace n25 : E25.2.1 = 66 := n25
  have s25 : E25.1 = ur ((RF_Ro_init (ur ((RF_Pa_init (ur ((RF_De_init (ur ((RF_Tr_init (ur ((RF_Sa_init 21 (ur ((RF_Ne_init 14 (ur ((RF_Nr_init (ur ((RF_Ta_init (E.1))) 0 0 1))) 0 1 3))) 0 2 14))) 0 3 21))) 0 4 23))) 0 5 31))) 0 6 58))) 0 7 63 := by rw [r25, s24]
  refine Go.dup (by decide +kernel) rfl ?_
  refine Go.aload_n (k := 0) (i := 0) 0 (by decide +kernel) rfl rfl ?_
  refine Go.get 0 2 (.ref (ad E25 14)) (by decide) (by decide) sh0 (by rw [n25]; decide) (vlR2 rfl (by rw [s25]; rfl)) lk392 (by decide +kernel) ?_
  refine Go.aload_n (k := 0) (i := 0) 0 (by decide +kernel) rfl rfl ?_
  refine Go.get 0 3 (.ref (ad E25 21)) (by decide) (by decide) sh0 (by rw [n25]; decide) (vlR2 rfl (by rw [s25]; rfl)) lk393 (by decide +kernel) ?_
  refine Go.aload_n (k := 0) (i := 0) 0 (by decide +kernel) rfl rfl ?_
  refine Go.get 0 6 (.ref (ad E25 58)) (by decide) (by decide) sh0 (by rw [n25]; decide) (vlR2 rfl (by rw [s25]; rfl)) lk396 (by decide +kernel) ?_
  refine Go.callI (Qc := CQ (69) ((PF_Sp_init (PF_Ro_init (PF_Pa_init (PF_De_init (PF_Tr_init (PF_Sa_init 21 (PF_Ne_init 14 (PF_Nr_init (PF_Ta_init P)))))))))) (RF_Sp_init (E25.1)) E25) (d - 1) 3 _ [.ref (ad E25 14), .ref (ad E25 21), .ref (ad E25 58)] (69) (by rw [n25]; exact (e_Sp_init hG (d - 1) (by omega) (PF_Ro_init (PF_Pa_init (PF_De_init (PF_Tr_init (PF_Sa_init 21 (PF_Ne_init 14 (PF_Nr_init (PF_Ta_init P)))))))) E25 z25 n25)) ⟨by rw [n25]; decide, by decide⟩ (fun _ _ _ q => q.2.2.2.1) lk339 lk340 lk12 lk341 rfl ⟨by decide, by decide, by decide +kernel⟩ rfl (by omega) (by decide) (Nat.le_of_ble_eq_true rfl) (by decide +kernel) _ rfl (fun _ P145 E26 q145 => ?_)
  obtain ⟨e1, e2, r26, n26, z26, a26⟩ := q145
  subst e1
  rw [e2] at z26 ⊢
  clear e2
  dsimp only [Option.toList, List.nil_append]
  rw [n25] at a26
  have b26 : ∀ k, (k < E.2.1 ∨ 1000 ≤ k) → ad E26 k = ad E k := fun k hk => (a26 k (by rw [hn] at hk; omega)).trans (b25 k hk)
  rw [← a26 0 (Or.inl (by decide)), ← a26 65 (Or.inl (by decide))]
  have s26 : E26.1 = (RF_Sp_init (ur ((RF_Ro_init (ur ((RF_Pa_init (ur ((RF_De_init (ur ((RF_Tr_init (ur ((RF_Sa_init 21 (ur ((RF_Ne_init 14 (ur ((RF_Nr_init (ur ((RF_Ta_init (E.1))) 0 0 1))) 0 1 3))) 0 2 14))) 0 3 21))) 0 4 23))) 0 5 31))) 0 6 58))) 0 7 63)) := by rw [r26, s25]
  refine Go.putRZ 0 8 65 (by decide) (by decide) sh0 (by rw [n26]; decide) (by rw [n26]; decide) z26 (Or.inl ⟨_, rfl⟩) rfl rfl rfl lk398 (by decide +kernel) (fun E27 r27 n27 a27 z27 => ?_)
  have b27 : ∀ k, (k < E.2.1 ∨ 1000 ≤ k) → ad E27 k = ad E k := fun k hk => (a27 k).trans (b26 k hk)
  rw [← a27 0]
  rw [n26] at n27
  have s27 : E27.1 = ur ((RF_Sp_init (ur ((RF_Ro_init (ur ((RF_Pa_init (ur ((RF_De_init (ur ((RF_Tr_init (ur ((RF_Sa_init 21 (ur ((RF_Ne_init 14 (ur ((RF_Nr_init (ur ((RF_Ta_init (E.1))) 0 0 1))) 0 1 3))) 0 2 14))) 0 3 21))) 0 4 23))) 0 5 31))) 0 6 58))) 0 7 63))) 0 8 65 := by rw [r27, s26]
  refine Go.aload_n (k := 0) (i := 0) 0 (by decide +kernel) rfl rfl ?_
  refine Go.newZ 8 (by decide) (by rw [n27]; exact sh69) (by rw [n27]; decide) z27 lk362 lk363 lk13 (by rw [n27]; decide) (by decide +kernel) (fun E28 r28 n28 a28 z28 => ?_)
  rw [n27] at n28 a28 ⊢
  have b28 : ∀ k, (k < E.2.1 ∨ 1000 ≤ k) → ad E28 k = ad E k := fun k hk => (a28 k (by rw [hn] at hk; omega)).trans (b27 k hk)
  rw [← a28 0 (Or.inl (by decide))]
  replace n28 : E28.2.1 = 70 := n28
  have s28 : E28.1 = ur ((RF_Sp_init (ur ((RF_Ro_init (ur ((RF_Pa_init (ur ((RF_De_init (ur ((RF_Tr_init (ur ((RF_Sa_init 21 (ur ((RF_Ne_init 14 (ur ((RF_Nr_init (ur ((RF_Ta_init (E.1))) 0 0 1))) 0 1 3))) 0 2 14))) 0 3 21))) 0 4 23))) 0 5 31))) 0 6 58))) 0 7 63))) 0 8 65 := by rw [r28, s27]
  refine Go.dup (by decide +kernel) rfl ?_
  refine Go.aload_n (k := 0) (i := 0) 0 (by decide +kernel) rfl rfl ?_
  refine Go.get 0 2 (.ref (ad E28 14)) (by decide) (by decide) sh0 (by rw [n28]; decide) (vlR2 rfl (by rw [s28]; rfl)) lk392 (by decide +kernel) ?_
  refine Go.aload_n (k := 0) (i := 0) 0 (by decide +kernel) rfl rfl ?_
  refine Go.get 0 3 (.ref (ad E28 21)) (by decide) (by decide) sh0 (by rw [n28]; decide) (vlR2 rfl (by rw [s28]; rfl)) lk393 (by decide +kernel) ?_
  refine Go.aload_n (k := 0) (i := 0) 0 (by decide +kernel) rfl rfl ?_
  refine Go.get 0 6 (.ref (ad E28 58)) (by decide) (by decide) sh0 (by rw [n28]; decide) (vlR2 rfl (by rw [s28]; rfl)) lk396 (by decide +kernel) ?_
  refine Go.callI (Qc := CQ (88) ((PF_St_init (PF_Sp_init (PF_Ro_init (PF_Pa_init (PF_De_init (PF_Tr_init (PF_Sa_init 21 (PF_Ne_init 14 (PF_Nr_init (PF_Ta_init P))))))))))) (RF_St_init (E28.1)) E28) (d - 1) 3 _ [.ref (ad E28 14), .ref (ad E28 21), .ref (ad E28 58)] (88) (by rw [n28]; exact (e_St_init hG (d - 1) (by omega) (PF_Sp_init (PF_Ro_init (PF_Pa_init (PF_De_init (PF_Tr_init (PF_Sa_init 21 (PF_Ne_init 14 (PF_Nr_init (PF_Ta_init P))))))))) E28 z28 n28)) ⟨by rw [n28]; decide, by decide⟩ (fun _ _ _ q => q.2.2.2.1) lk364 lk365 lk13 lk366 rfl ⟨by decide, by decide, by decide +kernel⟩ rfl (by omega) (by decide) (Nat.le_of_ble_eq_true rfl) (by decide +kernel) _ rfl (fun _ P168 E29 q168 => ?_)
  obtain ⟨e1, e2, r29, n29, z29, a29⟩ := q168
  subst e1
  rw [e2] at z29 ⊢
  clear e2
  dsimp only [Option.toList, List.nil_append]
  rw [n28] at a29
  have b29 : ∀ k, (k < E.2.1 ∨ 1000 ≤ k) → ad E29 k = ad E k := fun k hk => (a29 k (by rw [hn] at hk; omega)).trans (b28 k hk)
  rw [← a29 0 (Or.inl (by decide)), ← a29 69 (Or.inl (by decide))]
  have s29 : E29.1 = (RF_St_init (ur ((RF_Sp_init (ur ((RF_Ro_init (ur ((RF_Pa_init (ur ((RF_De_init (ur ((RF_Tr_init (ur ((RF_Sa_init 21 (ur ((RF_Ne_init 14 (ur ((RF_Nr_init (ur ((RF_Ta_init (E.1))) 0 0 1))) 0 1 3))) 0 2 14))) 0 3 21))) 0 4 23))) 0 5 31))) 0 6 58))) 0 7 63))) 0 8 65)) := by rw [r29, s28]
  refine Go.putRZ 0 9 69 (by decide) (by decide) sh0 (by rw [n29]; decide) (by rw [n29]; decide) z29 (Or.inl ⟨_, rfl⟩) rfl rfl rfl lk399 (by decide +kernel) (fun E30 r30 n30 a30 z30 => ?_)
  have b30 : ∀ k, (k < E.2.1 ∨ 1000 ≤ k) → ad E30 k = ad E k := fun k hk => (a30 k).trans (b29 k hk)
  rw [← a30 0]
  rw [n29] at n30
  have s30 : E30.1 = ur ((RF_St_init (ur ((RF_Sp_init (ur ((RF_Ro_init (ur ((RF_Pa_init (ur ((RF_De_init (ur ((RF_Tr_init (ur ((RF_Sa_init 21 (ur ((RF_Ne_init 14 (ur ((RF_Nr_init (ur ((RF_Ta_init (E.1))) 0 0 1))) 0 1 3))) 0 2 14))) 0 3 21))) 0 4 23))) 0 5 31))) 0 6 58))) 0 7 63))) 0 8 65))) 0 9 69 := by rw [r30, s29]
  refine Go.aload_n (k := 0) (i := 0) 0 (by decide +kernel) rfl rfl ?_
  refine Go.iconst (n := 2) (2 : Int32) (by decide +kernel) rfl ?_
  refine Go.newqZ 5 2 "YawnRoute$Net" (by decide) rfl (by rw [n30]; exact sh88) (by rw [n30]; decide) z30 lk210 (fun g => g.2.2.2.1) (by rw [n30]; decide) (by decide) (by decide) (by decide) (by decide +kernel) (fun E31 r31 n31 a31 z31 => ?_)
  rw [n30] at n31 a31 ⊢
  have b31 : ∀ k, (k < E.2.1 ∨ 1000 ≤ k) → ad E31 k = ad E k := fun k hk => (a31 k (by rw [hn] at hk; omega)).trans (b30 k hk)
  rw [← a31 0 (Or.inl (by decide))]
  replace n31 : E31.2.1 = 89 := n31
  have s31 : E31.1 = ur ((RF_St_init (ur ((RF_Sp_init (ur ((RF_Ro_init (ur ((RF_Pa_init (ur ((RF_De_init (ur ((RF_Tr_init (ur ((RF_Sa_init 21 (ur ((RF_Ne_init 14 (ur ((RF_Nr_init (ur ((RF_Ta_init (E.1))) 0 0 1))) 0 1 3))) 0 2 14))) 0 3 21))) 0 4 23))) 0 5 31))) 0 6 58))) 0 7 63))) 0 8 65))) 0 9 69 := by rw [r31, s30]
  refine Go.dup (by decide +kernel) rfl ?_
  refine Go.iconst (n := 0) (0 : Int32) (by decide +kernel) rfl ?_
  refine Go.newZ 2 (by decide) (by rw [n31]; exact sh89) (by rw [n31]; decide) z31 lk210 lk81 lk4 (by rw [n31]; decide) (by decide +kernel) (fun E32 r32 n32 a32 z32 => ?_)
  rw [n31] at n32 a32 ⊢
  have b32 : ∀ k, (k < E.2.1 ∨ 1000 ≤ k) → ad E32 k = ad E k := fun k hk => (a32 k (by rw [hn] at hk; omega)).trans (b31 k hk)
  rw [← a32 0 (Or.inl (by decide)), ← a32 88 (Or.inl (by decide))]
  replace n32 : E32.2.1 = 90 := n32
  have s32 : E32.1 = ur ((RF_St_init (ur ((RF_Sp_init (ur ((RF_Ro_init (ur ((RF_Pa_init (ur ((RF_De_init (ur ((RF_Tr_init (ur ((RF_Sa_init 21 (ur ((RF_Ne_init 14 (ur ((RF_Nr_init (ur ((RF_Ta_init (E.1))) 0 0 1))) 0 1 3))) 0 2 14))) 0 3 21))) 0 4 23))) 0 5 31))) 0 6 58))) 0 7 63))) 0 8 65))) 0 9 69 := by rw [r32, s31]
  refine Go.dup (by decide +kernel) rfl ?_
  refine Go.callIN (Qc := CQ (96) ((PF_Ne_init 89 (PF_St_init (PF_Sp_init (PF_Ro_init (PF_Pa_init (PF_De_init (PF_Tr_init (PF_Sa_init 21 (PF_Ne_init 14 (PF_Nr_init (PF_Ta_init P)))))))))))) (RF_Ne_init 89 (E32.1)) E32) (d - 1) 0 _ [] (96) (by rw [n32]; exact (e_Ne_init hG (d - 1) (by omega) 89 sh89 (PF_St_init (PF_Sp_init (PF_Ro_init (PF_Pa_init (PF_De_init (PF_Tr_init (PF_Sa_init 21 (PF_Ne_init 14 (PF_Nr_init (PF_Ta_init P)))))))))) E32 z32 n32)) ⟨by rw [n32]; decide, by decide⟩ (fun _ _ _ q => q.2.2.2.1) nw3 lk83 lk4 lk84 rfl ⟨by decide, by decide, by decide +kernel⟩ rfl (by omega) (by decide) (Nat.le_of_ble_eq_true rfl) (by decide +kernel) _ rfl (fun _ P185 E33 q185 => ?_)
  obtain ⟨e1, e2, r33, n33, z33, a33⟩ := q185
  subst e1
  rw [e2] at z33 ⊢
  clear e2
  dsimp only [Option.toList, List.nil_append]
  rw [n32] at a33
  have b33 : ∀ k, (k < E.2.1 ∨ 1000 ≤ k) → ad E33 k = ad E k := fun k hk => (a33 k (by rw [hn] at hk; omega)).trans (b32 k hk)
  rw [← a33 0 (Or.inl (by decide)), ← a33 88 (Or.inl (by decide)), ← a33 89 (Or.inl (by decide))]
  have s33 : E33.1 = (RF_Ne_init 89 (ur ((RF_St_init (ur ((RF_Sp_init (ur ((RF_Ro_init (ur ((RF_Pa_init (ur ((RF_De_init (ur ((RF_Tr_init (ur ((RF_Sa_init 21 (ur ((RF_Ne_init 14 (ur ((RF_Nr_init (ur ((RF_Ta_init (E.1))) 0 0 1))) 0 1 3))) 0 2 14))) 0 3 21))) 0 4 23))) 0 5 31))) 0 6 58))) 0 7 63))) 0 8 65))) 0 9 69)) := by rw [r33, s32]
  refine Go.aastoreZ 88 5 2 89 0 sh88 (by decide) (by rw [n33]; decide) (by decide) sh89 (by rw [n33]; decide) rfl (vp_in_iff.mpr (by decide)) (by decide) z33 (by decide +kernel) (fun E34 r34 n34 a34 z34 => ?_)
  have b34 : ∀ k, (k < E.2.1 ∨ 1000 ≤ k) → ad E34 k = ad E k := fun k hk => (a34 k).trans (b33 k hk)
  rw [← a34 0, ← a34 88]
  rw [n33] at n34
  have s34 : E34.1 = ur ((RF_Ne_init 89 (ur ((RF_St_init (ur ((RF_Sp_init (ur ((RF_Ro_init (ur ((RF_Pa_init (ur ((RF_De_init (ur ((RF_Tr_init (ur ((RF_Sa_init 21 (ur ((RF_Ne_init 14 (ur ((RF_Nr_init (ur ((RF_Ta_init (E.1))) 0 0 1))) 0 1 3))) 0 2 14))) 0 3 21))) 0 4 23))) 0 5 31))) 0 6 58))) 0 7 63))) 0 8 65))) 0 9 69))) 88 0 89 := by rw [r34, s33]
  refine Go.dup (by decide +kernel) rfl ?_
  refine Go.iconst (n := 1) (1 : Int32) (by decide +kernel) rfl ?_
  refine Go.newZ 2 (by decide) (by rw [n34]; exact sh96) (by rw [n34]; decide) z34 lk210 lk81 lk4 (by rw [n34]; decide) (by decide +kernel) (fun E35 r35 n35 a35 z35 => ?_)
  rw [n34] at n35 a35 ⊢
  have b35 : ∀ k, (k < E.2.1 ∨ 1000 ≤ k) → ad E35 k = ad E k := fun k hk => (a35 k (by rw [hn] at hk; omega)).trans (b34 k hk)
  rw [← a35 0 (Or.inl (by decide)), ← a35 88 (Or.inl (by decide))]
  replace n35 : E35.2.1 = 97 := n35
  have s35 : E35.1 = ur ((RF_Ne_init 89 (ur ((RF_St_init (ur ((RF_Sp_init (ur ((RF_Ro_init (ur ((RF_Pa_init (ur ((RF_De_init (ur ((RF_Tr_init (ur ((RF_Sa_init 21 (ur ((RF_Ne_init 14 (ur ((RF_Nr_init (ur ((RF_Ta_init (E.1))) 0 0 1))) 0 1 3))) 0 2 14))) 0 3 21))) 0 4 23))) 0 5 31))) 0 6 58))) 0 7 63))) 0 8 65))) 0 9 69))) 88 0 89 := by rw [r35, s34]
  refine Go.dup (by decide +kernel) rfl ?_
  refine Go.callIN (Qc := CQ (103) ((PF_Ne_init 96 (PF_Ne_init 89 (PF_St_init (PF_Sp_init (PF_Ro_init (PF_Pa_init (PF_De_init (PF_Tr_init (PF_Sa_init 21 (PF_Ne_init 14 (PF_Nr_init (PF_Ta_init P))))))))))))) (RF_Ne_init 96 (E35.1)) E35) (d - 1) 0 _ [] (103) (by rw [n35]; exact (e_Ne_init hG (d - 1) (by omega) 96 sh96 (PF_Ne_init 89 (PF_St_init (PF_Sp_init (PF_Ro_init (PF_Pa_init (PF_De_init (PF_Tr_init (PF_Sa_init 21 (PF_Ne_init 14 (PF_Nr_init (PF_Ta_init P))))))))))) E35 z35 n35)) ⟨by rw [n35]; decide, by decide⟩ (fun _ _ _ q => q.2.2.2.1) nw3 lk83 lk4 lk84 rfl ⟨by decide, by decide, by decide +kernel⟩ rfl (by omega) (by decide) (Nat.le_of_ble_eq_true rfl) (by decide +kernel) _ rfl (fun _ P195 E36 q195 => ?_)
  obtain ⟨e1, e2, r36, n36, z36, a36⟩ := q195
  subst e1
  rw [e2] at z36 ⊢
  clear e2
  dsimp only [Option.toList, List.nil_append]
  rw [n35] at a36
  have b36 : ∀ k, (k < E.2.1 ∨ 1000 ≤ k) → ad E36 k = ad E k := fun k hk => (a36 k (by rw [hn] at hk; omega)).trans (b35 k hk)
  rw [← a36 0 (Or.inl (by decide)), ← a36 88 (Or.inl (by decide)), ← a36 96 (Or.inl (by decide))]
  have s36 : E36.1 = (RF_Ne_init 96 (ur ((RF_Ne_init 89 (ur ((RF_St_init (ur ((RF_Sp_init (ur ((RF_Ro_init (ur ((RF_Pa_init (ur ((RF_De_init (ur ((RF_Tr_init (ur ((RF_Sa_init 21 (ur ((RF_Ne_init 14 (ur ((RF_Nr_init (ur ((RF_Ta_init (E.1))) 0 0 1))) 0 1 3))) 0 2 14))) 0 3 21))) 0 4 23))) 0 5 31))) 0 6 58))) 0 7 63))) 0 8 65))) 0 9 69))) 88 0 89)) := by rw [r36, s35]
  refine Go.aastoreZ 88 5 2 96 1 sh88 (by decide) (by rw [n36]; decide) (by decide) sh96 (by rw [n36]; decide) rfl (vp_in_iff.mpr (by decide)) (by decide) z36 (by decide +kernel) (fun E37 r37 n37 a37 z37 => ?_)
  have b37 : ∀ k, (k < E.2.1 ∨ 1000 ≤ k) → ad E37 k = ad E k := fun k hk => (a37 k).trans (b36 k hk)
  rw [← a37 0, ← a37 88]
  rw [n36] at n37
  have s37 : E37.1 = ur ((RF_Ne_init 96 (ur ((RF_Ne_init 89 (ur ((RF_St_init (ur ((RF_Sp_init (ur ((RF_Ro_init (ur ((RF_Pa_init (ur ((RF_De_init (ur ((RF_Tr_init (ur ((RF_Sa_init 21 (ur ((RF_Ne_init 14 (ur ((RF_Nr_init (ur ((RF_Ta_init (E.1))) 0 0 1))) 0 1 3))) 0 2 14))) 0 3 21))) 0 4 23))) 0 5 31))) 0 6 58))) 0 7 63))) 0 8 65))) 0 9 69))) 88 0 89))) 88 1 96 := by rw [r37, s36]
  refine Go.putRZ 0 10 88 (by decide) (by decide) sh0 (by rw [n37]; decide) (by rw [n37]; decide) z37 (Or.inr ⟨_, rfl⟩) rfl rfl rfl lk400 (by decide +kernel) (fun E38 r38 n38 a38 z38 => ?_)
  have b38 : ∀ k, (k < E.2.1 ∨ 1000 ≤ k) → ad E38 k = ad E k := fun k hk => (a38 k).trans (b37 k hk)
  rw [← a38 0]
  rw [n37] at n38
  have s38 : E38.1 = ur (ur ((RF_Ne_init 96 (ur ((RF_Ne_init 89 (ur ((RF_St_init (ur ((RF_Sp_init (ur ((RF_Ro_init (ur ((RF_Pa_init (ur ((RF_De_init (ur ((RF_Tr_init (ur ((RF_Sa_init 21 (ur ((RF_Ne_init 14 (ur ((RF_Nr_init (ur ((RF_Ta_init (E.1))) 0 0 1))) 0 1 3))) 0 2 14))) 0 3 21))) 0 4 23))) 0 5 31))) 0 6 58))) 0 7 63))) 0 8 65))) 0 9 69))) 88 0 89))) 88 1 96) 0 10 88 := by rw [r38, s37]
  refine Go.aload_n (k := 0) (i := 0) 0 (by decide +kernel) rfl rfl ?_
  refine Go.iconst (n := 2) (2 : Int32) (by decide +kernel) rfl ?_
  refine Go.newqZ 4 2 "YawnRoute$State" (by decide) rfl (by rw [n38]; exact sh103) (by rw [n38]; decide) z38 lk212 (fun g => g.2.2.1) (by rw [n38]; decide) (by decide) (by decide) (by decide) (by decide +kernel) (fun E39 r39 n39 a39 z39 => ?_)
  rw [n38] at n39 a39 ⊢
  have b39 : ∀ k, (k < E.2.1 ∨ 1000 ≤ k) → ad E39 k = ad E k := fun k hk => (a39 k (by rw [hn] at hk; omega)).trans (b38 k hk)
  rw [← a39 0 (Or.inl (by decide))]
  replace n39 : E39.2.1 = 104 := n39
  have s39 : E39.1 = ur (ur ((RF_Ne_init 96 (ur ((RF_Ne_init 89 (ur ((RF_St_init (ur ((RF_Sp_init (ur ((RF_Ro_init (ur ((RF_Pa_init (ur ((RF_De_init (ur ((RF_Tr_init (ur ((RF_Sa_init 21 (ur ((RF_Ne_init 14 (ur ((RF_Nr_init (ur ((RF_Ta_init (E.1))) 0 0 1))) 0 1 3))) 0 2 14))) 0 3 21))) 0 4 23))) 0 5 31))) 0 6 58))) 0 7 63))) 0 8 65))) 0 9 69))) 88 0 89))) 88 1 96) 0 10 88 := by rw [r39, s38]
  refine Go.dup (by decide +kernel) rfl ?_
  refine Go.iconst (n := 0) (0 : Int32) (by decide +kernel) rfl ?_
  refine Go.newZ 7 (by decide) (by rw [n39]; exact sh104) (by rw [n39]; decide) z39 lk212 lk144 lk5 (by rw [n39]; decide) (by decide +kernel) (fun E40 r40 n40 a40 z40 => ?_)
  rw [n39] at n40 a40 ⊢
  have b40 : ∀ k, (k < E.2.1 ∨ 1000 ≤ k) → ad E40 k = ad E k := fun k hk => (a40 k (by rw [hn] at hk; omega)).trans (b39 k hk)
  rw [← a40 0 (Or.inl (by decide)), ← a40 103 (Or.inl (by decide))]
  replace n40 : E40.2.1 = 105 := n40
  have s40 : E40.1 = ur (ur ((RF_Ne_init 96 (ur ((RF_Ne_init 89 (ur ((RF_St_init (ur ((RF_Sp_init (ur ((RF_Ro_init (ur ((RF_Pa_init (ur ((RF_De_init (ur ((RF_Tr_init (ur ((RF_Sa_init 21 (ur ((RF_Ne_init 14 (ur ((RF_Nr_init (ur ((RF_Ta_init (E.1))) 0 0 1))) 0 1 3))) 0 2 14))) 0 3 21))) 0 4 23))) 0 5 31))) 0 6 58))) 0 7 63))) 0 8 65))) 0 9 69))) 88 0 89))) 88 1 96) 0 10 88 := by rw [r40, s39]
  refine Go.dup (by decide +kernel) rfl ?_
  refine Go.callIN (Qc := CQ (106) ((PF_Sa_init 104 (PF_Ne_init 96 (PF_Ne_init 89 (PF_St_init (PF_Sp_init (PF_Ro_init (PF_Pa_init (PF_De_init (PF_Tr_init (PF_Sa_init 21 (PF_Ne_init 14 (PF_Nr_init (PF_Ta_init P)))))))))))))) (RF_Sa_init 104 (E40.1)) E40) (d - 1) 0 _ [] (106) (by rw [n40]; exact (e_Sa_init hG (d - 1) (by omega) 104 sh104 (PF_Ne_init 96 (PF_Ne_init 89 (PF_St_init (PF_Sp_init (PF_Ro_init (PF_Pa_init (PF_De_init (PF_Tr_init (PF_Sa_init 21 (PF_Ne_init 14 (PF_Nr_init (PF_Ta_init P)))))))))))) E40 z40 n40)) ⟨by rw [n40]; decide, by decide⟩ (fun _ _ _ q => q.2.2.2.1) nw4 lk146 lk5 lk147 rfl ⟨by decide, by decide, by decide +kernel⟩ rfl (by omega) (by decide) (Nat.le_of_ble_eq_true rfl) (by decide +kernel) _ rfl (fun _ P213 E41 q213 => ?_)
  obtain ⟨e1, e2, r41, n41, z41, a41⟩ := q213
  subst e1
  rw [e2] at z41 ⊢
  clear e2
  dsimp only [Option.toList, List.nil_append]
  rw [n40] at a41
  have b41 : ∀ k, (k < E.2.1 ∨ 1000 ≤ k) → ad E41 k = ad E k := fun k hk => (a41 k (by rw [hn] at hk; omega)).trans (b40 k hk)
  rw [← a41 0 (Or.inl (by decide)), ← a41 103 (Or.inl (by decide)), ← a41 104 (Or.inl (by decide))]
  have s41 : E41.1 = (RF_Sa_init 104 (ur (ur ((RF_Ne_init 96 (ur ((RF_Ne_init 89 (ur ((RF_St_init (ur ((RF_Sp_init (ur ((RF_Ro_init (ur ((RF_Pa_init (ur ((RF_De_init (ur ((RF_Tr_init (ur ((RF_Sa_init 21 (ur ((RF_Ne_init 14 (ur ((RF_Nr_init (ur ((RF_Ta_init (E.1))) 0 0 1))) 0 1 3))) 0 2 14))) 0 3 21))) 0 4 23))) 0 5 31))) 0 6 58))) 0 7 63))) 0 8 65))) 0 9 69))) 88 0 89))) 88 1 96) 0 10 88)) := by rw [r41, s40]
  refine Go.aastoreZ 103 4 2 104 0 sh103 (by decide) (by rw [n41]; decide) (by decide) sh104 (by rw [n41]; decide) rfl (vp_in_iff.mpr (by decide)) (by decide) z41 (by decide +kernel) (fun E42 r42 n42 a42 z42 => ?_)
  have b42 : ∀ k, (k < E.2.1 ∨ 1000 ≤ k) → ad E42 k = ad E k := fun k hk => (a42 k).trans (b41 k hk)
  rw [← a42 0, ← a42 103]
  rw [n41] at n42
  have s42 : E42.1 = ur ((RF_Sa_init 104 (ur (ur ((RF_Ne_init 96 (ur ((RF_Ne_init 89 (ur ((RF_St_init (ur ((RF_Sp_init (ur ((RF_Ro_init (ur ((RF_Pa_init (ur ((RF_De_init (ur ((RF_Tr_init (ur ((RF_Sa_init 21 (ur ((RF_Ne_init 14 (ur ((RF_Nr_init (ur ((RF_Ta_init (E.1))) 0 0 1))) 0 1 3))) 0 2 14))) 0 3 21))) 0 4 23))) 0 5 31))) 0 6 58))) 0 7 63))) 0 8 65))) 0 9 69))) 88 0 89))) 88 1 96) 0 10 88))) 103 0 104 := by rw [r42, s41]
  refine Go.dup (by decide +kernel) rfl ?_
  refine Go.iconst (n := 1) (1 : Int32) (by decide +kernel) rfl ?_
  refine Go.newZ 7 (by decide) (by rw [n42]; exact sh106) (by rw [n42]; decide) z42 lk212 lk144 lk5 (by rw [n42]; decide) (by decide +kernel) (fun E43 r43 n43 a43 z43 => ?_)
  rw [n42] at n43 a43 ⊢
  have b43 : ∀ k, (k < E.2.1 ∨ 1000 ≤ k) → ad E43 k = ad E k := fun k hk => (a43 k (by rw [hn] at hk; omega)).trans (b42 k hk)
  rw [← a43 0 (Or.inl (by decide)), ← a43 103 (Or.inl (by decide))]
  replace n43 : E43.2.1 = 107 := n43
  have s43 : E43.1 = ur ((RF_Sa_init 104 (ur (ur ((RF_Ne_init 96 (ur ((RF_Ne_init 89 (ur ((RF_St_init (ur ((RF_Sp_init (ur ((RF_Ro_init (ur ((RF_Pa_init (ur ((RF_De_init (ur ((RF_Tr_init (ur ((RF_Sa_init 21 (ur ((RF_Ne_init 14 (ur ((RF_Nr_init (ur ((RF_Ta_init (E.1))) 0 0 1))) 0 1 3))) 0 2 14))) 0 3 21))) 0 4 23))) 0 5 31))) 0 6 58))) 0 7 63))) 0 8 65))) 0 9 69))) 88 0 89))) 88 1 96) 0 10 88))) 103 0 104 := by rw [r43, s42]
  refine Go.dup (by decide +kernel) rfl ?_
  refine Go.callIN (Qc := CQ (108) ((PF_Sa_init 106 (PF_Sa_init 104 (PF_Ne_init 96 (PF_Ne_init 89 (PF_St_init (PF_Sp_init (PF_Ro_init (PF_Pa_init (PF_De_init (PF_Tr_init (PF_Sa_init 21 (PF_Ne_init 14 (PF_Nr_init (PF_Ta_init P))))))))))))))) (RF_Sa_init 106 (E43.1)) E43) (d - 1) 0 _ [] (108) (by rw [n43]; exact (e_Sa_init hG (d - 1) (by omega) 106 sh106 (PF_Sa_init 104 (PF_Ne_init 96 (PF_Ne_init 89 (PF_St_init (PF_Sp_init (PF_Ro_init (PF_Pa_init (PF_De_init (PF_Tr_init (PF_Sa_init 21 (PF_Ne_init 14 (PF_Nr_init (PF_Ta_init P))))))))))))) E43 z43 n43)) ⟨by rw [n43]; decide, by decide⟩ (fun _ _ _ q => q.2.2.2.1) nw4 lk146 lk5 lk147 rfl ⟨by decide, by decide, by decide +kernel⟩ rfl (by omega) (by decide) (Nat.le_of_ble_eq_true rfl) (by decide +kernel) _ rfl (fun _ P223 E44 q223 => ?_)
  obtain ⟨e1, e2, r44, n44, z44, a44⟩ := q223
  subst e1
  rw [e2] at z44 ⊢
  clear e2
  dsimp only [Option.toList, List.nil_append]
  rw [n43] at a44
  have b44 : ∀ k, (k < E.2.1 ∨ 1000 ≤ k) → ad E44 k = ad E k := fun k hk => (a44 k (by rw [hn] at hk; omega)).trans (b43 k hk)
  rw [← a44 0 (Or.inl (by decide)), ← a44 103 (Or.inl (by decide)), ← a44 106 (Or.inl (by decide))]
  have s44 : E44.1 = (RF_Sa_init 106 (ur ((RF_Sa_init 104 (ur (ur ((RF_Ne_init 96 (ur ((RF_Ne_init 89 (ur ((RF_St_init (ur ((RF_Sp_init (ur ((RF_Ro_init (ur ((RF_Pa_init (ur ((RF_De_init (ur ((RF_Tr_init (ur ((RF_Sa_init 21 (ur ((RF_Ne_init 14 (ur ((RF_Nr_init (ur ((RF_Ta_init (E.1))) 0 0 1))) 0 1 3))) 0 2 14))) 0 3 21))) 0 4 23))) 0 5 31))) 0 6 58))) 0 7 63))) 0 8 65))) 0 9 69))) 88 0 89))) 88 1 96) 0 10 88))) 103 0 104)) := by rw [r44, s43]
  refine Go.aastoreZ 103 4 2 106 1 sh103 (by decide) (by rw [n44]; decide) (by decide) sh106 (by rw [n44]; decide) rfl (vp_in_iff.mpr (by decide)) (by decide) z44 (by decide +kernel) (fun E45 r45 n45 a45 z45 => ?_)
  have b45 : ∀ k, (k < E.2.1 ∨ 1000 ≤ k) → ad E45 k = ad E k := fun k hk => (a45 k).trans (b44 k hk)
  rw [← a45 0, ← a45 103]
  rw [n44] at n45
  have s45 : E45.1 = ur ((RF_Sa_init 106 (ur ((RF_Sa_init 104 (ur (ur ((RF_Ne_init 96 (ur ((RF_Ne_init 89 (ur ((RF_St_init (ur ((RF_Sp_init (ur ((RF_Ro_init (ur ((RF_Pa_init (ur ((RF_De_init (ur ((RF_Tr_init (ur ((RF_Sa_init 21 (ur ((RF_Ne_init 14 (ur ((RF_Nr_init (ur ((RF_Ta_init (E.1))) 0 0 1))) 0 1 3))) 0 2 14))) 0 3 21))) 0 4 23))) 0 5 31))) 0 6 58))) 0 7 63))) 0 8 65))) 0 9 69))) 88 0 89))) 88 1 96) 0 10 88))) 103 0 104))) 103 1 106 := by rw [r45, s44]
  refine Go.putRZ 0 11 103 (by decide) (by decide) sh0 (by rw [n45]; decide) (by rw [n45]; decide) z45 (Or.inr ⟨_, rfl⟩) rfl rfl rfl lk401 (by decide +kernel) (fun E46 r46 n46 a46 z46 => ?_)
  have b46 : ∀ k, (k < E.2.1 ∨ 1000 ≤ k) → ad E46 k = ad E k := fun k hk => (a46 k).trans (b45 k hk)
  rw [← a46 0]
  rw [n45] at n46
  have s46 : E46.1 = ur (ur ((RF_Sa_init 106 (ur ((RF_Sa_init 104 (ur (ur ((RF_Ne_init 96 (ur ((RF_Ne_init 89 (ur ((RF_St_init (ur ((RF_Sp_init (ur ((RF_Ro_init (ur ((RF_Pa_init (ur ((RF_De_init (ur ((RF_Tr_init (ur ((RF_Sa_init 21 (ur ((RF_Ne_init 14 (ur ((RF_Nr_init (ur ((RF_Ta_init (E.1))) 0 0 1))) 0 1 3))) 0 2 14))) 0 3 21))) 0 4 23))) 0 5 31))) 0 6 58))) 0 7 63))) 0 8 65))) 0 9 69))) 88 0 89))) 88 1 96) 0 10 88))) 103 0 104))) 103 1 106) 0 11 103 := by rw [r46, s45]
  refine Go.aload_n (k := 0) (i := 0) 0 (by decide +kernel) rfl rfl ?_
  refine Go.iconst (n := 2) (2 : Int32) (by decide +kernel) rfl ?_
  refine Go.newaZ (atype := .boolean) 2 2 (by decide) rfl (by rw [n46]; exact sh108) (by rw [n46]; decide) z46 lk430 (by rw [n46]; decide) (by decide) (by decide) (by decide) (by decide +kernel) (fun E47 r47 n47 a47 z47 => ?_)
  rw [n46] at n47 a47 ⊢
  have b47 : ∀ k, (k < E.2.1 ∨ 1000 ≤ k) → ad E47 k = ad E k := fun k hk => (a47 k (by rw [hn] at hk; omega)).trans (b46 k hk)
  rw [← a47 0 (Or.inl (by decide))]
  replace n47 : E47.2.1 = 109 := n47
  have s47 : E47.1 = ur (ur ((RF_Sa_init 106 (ur ((RF_Sa_init 104 (ur (ur ((RF_Ne_init 96 (ur ((RF_Ne_init 89 (ur ((RF_St_init (ur ((RF_Sp_init (ur ((RF_Ro_init (ur ((RF_Pa_init (ur ((RF_De_init (ur ((RF_Tr_init (ur ((RF_Sa_init 21 (ur ((RF_Ne_init 14 (ur ((RF_Nr_init (ur ((RF_Ta_init (E.1))) 0 0 1))) 0 1 3))) 0 2 14))) 0 3 21))) 0 4 23))) 0 5 31))) 0 6 58))) 0 7 63))) 0 8 65))) 0 9 69))) 88 0 89))) 88 1 96) 0 10 88))) 103 0 104))) 103 1 106) 0 11 103 := by rw [r47, s46]
  refine Go.putRZ 0 12 108 (by decide) (by decide) sh0 (by rw [n47]; decide) (by rw [n47]; decide) z47 (Or.inr ⟨_, rfl⟩) rfl rfl rfl lk402 (by decide +kernel) (fun E48 r48 n48 a48 z48 => ?_)
  have b48 : ∀ k, (k < E.2.1 ∨ 1000 ≤ k) → ad E48 k = ad E k := fun k hk => (a48 k).trans (b47 k hk)
  rw [← a48 0]
  rw [n47] at n48
  have s48 : E48.1 = ur (ur (ur ((RF_Sa_init 106 (ur ((RF_Sa_init 104 (ur (ur ((RF_Ne_init 96 (ur ((RF_Ne_init 89 (ur ((RF_St_init (ur ((RF_Sp_init (ur ((RF_Ro_init (ur ((RF_Pa_init (ur ((RF_De_init (ur ((RF_Tr_init (ur ((RF_Sa_init 21 (ur ((RF_Ne_init 14 (ur ((RF_Nr_init (ur ((RF_Ta_init (E.1))) 0 0 1))) 0 1 3))) 0 2 14))) 0 3 21))) 0 4 23))) 0 5 31))) 0 6 58))) 0 7 63))) 0 8 65))) 0 9 69))) 88 0 89))) 88 1 96) 0 10 88))) 103 0 104))) 103 1 106) 0 11 103) 0 12 108 := by rw [r48, s47]
  exact Go.vret rfl n48 (by decide +kernel) ⟨rfl, rfl, s48, n48, z48, b48⟩
def RF_Mo_init (f : Nat → Nat → Option Nat) : Nat → Nat → Option Nat := ur (ur (ur (ur (ur (ur (ur (ur (ur (ur (ur (ur (ur (ur (ur (ur (ur (ur (ur (ur (f) 109 1 110) 109 2 111) 109 3 112) 109 4 113) 109 15 114) 109 16 115) 109 17 116) 109 20 117) 109 21 118) 109 22 119) 109 23 120) 109 24 121) 109 25 122) 109 26 123) 109 27 124) 109 28 125) 109 29 126) 109 30 127) 109 31 128) 109 32 129
theorem RF_bd : Bd (RF_Mo_init (RF_Yr_init (fun _ _ => none))) := by
  unfold RF_Mo_init RF_Yr_init RF_Ta_init RF_Nr_init RF_Ne_init RF_Sa_init RF_Lr_init RF_Tr_init RF_De_init RF_Pa_init RF_Ro_init RF_Sp_init RF_St_init
  repeat (first | exact Bd.no | refine Bd.ur ?_ (by decide) (by decide) | refine Bd.um ?_ (by decide) (by decide))
theorem RF_full {E : EV} (h : E.1 = RF_Yr_init (fun _ _ => none)) : RF_Mo_init E.1 = rf := by
  rw [h]
  funext k j
  by_cases hk : k < 130 ∧ j < 40
  · have h0 : ∀ k, k < 130 → ∀ j, j < 40 → RF_Mo_init (RF_Yr_init (fun _ _ => none)) k j = rf k j := by decide +kernel
    exact h0 k hk.1 j hk.2
  · rw [RF_bd k j (by omega), Bd.rf k j (by omega)]
abbrev c_Mo_init : ByteArray := prog_14_method_3_code
abbrev y_Mo_init : MethodName := ⟨"YawnRouteModel", "<init>", "()V"⟩
abbrev cw_Mo_init : Cond := .code y_Mo_init c_Mo_init 1 none
def PF_Mo_init (P : PM) : PM := (u1 (rowI (u1 (u1 (u1 (u1 (u1 P 109 14 (-1 : Int32)) 127 (Int32.toNatClampNeg (0 : Int32)) (-1 : Int32)) 127 (Int32.toNatClampNeg (1 : Int32)) (-1 : Int32)) 127 (Int32.toNatClampNeg (2 : Int32)) (-1 : Int32)) 127 (Int32.toNatClampNeg (3 : Int32)) (-1 : Int32)) 110 0 1136 0) 110 113 (-1))
theorem e_Mo_init {G : GX} (hG : GOK G) (d : Nat) (hd : 3 ≤ d) (P : PM) (E : EV) (hz : Zr P E) (hn : E.2.1 = 110) (hE9 : E.1 = RF_Yr_init (fun _ _ => none)) : Con G y_Mo_init cw_Mo_init d (110) (130) [.ref (ad E 109)] P E (CQ (130) (PF_Mo_init P) (RF_Mo_init E.1) E) := by
  refine Con.of hG (own := "YawnRouteModel") (ini := true) (by decide +kernel) rfl (fun _ => rfl) hn (Nat.le_of_ble_eq_true rfl) ?_
  show Go G c_Mo_init "YawnRouteModel" 1 none true d (110) (130) _ 0 [(0, .ref (ad E 109))] [] P E
  refine Go.aload_n (k := 0) (i := 0) 0 (by decide +kernel) rfl rfl ?_
  refine Go.objInit lk1326 lk29 lk30 (by omega) (Nat.le_of_ble_eq_true rfl) (by decide +kernel) ?_
  refine Go.aload_n (k := 0) (i := 0) 0 (by decide +kernel) rfl rfl ?_
  refine Go.sipush (n := 3408) (3408 : Int32) (by decide +kernel) (by decide) ?_
  refine Go.newaZ (atype := .int) 0 3408 (by decide) rfl (by rw [hn]; exact sh110) (by rw [hn]; decide) hz lk142 (by rw [hn]; decide) (by decide) (by decide) (by decide) (by decide +kernel) (fun E1 r1 n1 a1 z1 => ?_)
  rw [hn] at n1 a1 ⊢
  have b1 : ∀ k, (k < E.2.1 ∨ 1000 ≤ k) → ad E1 k = ad E k := fun k hk => (a1 k (by rw [hn] at hk; omega)).trans ((fun k _ => rfl) k hk)
  rw [← a1 109 (Or.inl (by decide))]
  replace n1 : E1.2.1 = 111 := n1
  have s1 : E1.1 = E.1 := r1
  refine Go.putRZ 109 1 110 (by decide) (by decide) sh109 (by rw [n1]; decide) (by rw [n1]; decide) z1 (Or.inr ⟨_, rfl⟩) rfl rfl rfl lk1331 (by decide +kernel) (fun E2 r2 n2 a2 z2 => ?_)
  have b2 : ∀ k, (k < E.2.1 ∨ 1000 ≤ k) → ad E2 k = ad E k := fun k hk => (a2 k).trans (b1 k hk)
  rw [← a2 109]
  rw [n1] at n2
  have s2 : E2.1 = ur (E.1) 109 1 110 := by rw [r2, s1]
  refine Go.aload_n (k := 0) (i := 0) 0 (by decide +kernel) rfl rfl ?_
  refine Go.iconst (n := 2) (2 : Int32) (by decide +kernel) rfl ?_
  refine Go.newaZ (atype := .boolean) 2 2 (by decide) rfl (by rw [n2]; exact sh111) (by rw [n2]; decide) z2 lk430 (by rw [n2]; decide) (by decide) (by decide) (by decide) (by decide +kernel) (fun E3 r3 n3 a3 z3 => ?_)
  rw [n2] at n3 a3 ⊢
  have b3 : ∀ k, (k < E.2.1 ∨ 1000 ≤ k) → ad E3 k = ad E k := fun k hk => (a3 k (by rw [hn] at hk; omega)).trans (b2 k hk)
  rw [← a3 109 (Or.inl (by decide))]
  replace n3 : E3.2.1 = 112 := n3
  have s3 : E3.1 = ur (E.1) 109 1 110 := by rw [r3, s2]
  refine Go.putRZ 109 2 111 (by decide) (by decide) sh109 (by rw [n3]; decide) (by rw [n3]; decide) z3 (Or.inr ⟨_, rfl⟩) rfl rfl rfl lk1332 (by decide +kernel) (fun E4 r4 n4 a4 z4 => ?_)
  have b4 : ∀ k, (k < E.2.1 ∨ 1000 ≤ k) → ad E4 k = ad E k := fun k hk => (a4 k).trans (b3 k hk)
  rw [← a4 109]
  rw [n3] at n4
  have s4 : E4.1 = ur (ur (E.1) 109 1 110) 109 2 111 := by rw [r4, s3]
  refine Go.aload_n (k := 0) (i := 0) 0 (by decide +kernel) rfl rfl ?_
  refine Go.sipush (n := 900) (900 : Int32) (by decide +kernel) (by decide) ?_
  refine Go.newaZ (atype := .int) 0 900 (by decide) rfl (by rw [n4]; exact sh112) (by rw [n4]; decide) z4 lk142 (by rw [n4]; decide) (by decide) (by decide) (by decide) (by decide +kernel) (fun E5 r5 n5 a5 z5 => ?_)
  rw [n4] at n5 a5 ⊢
  have b5 : ∀ k, (k < E.2.1 ∨ 1000 ≤ k) → ad E5 k = ad E k := fun k hk => (a5 k (by rw [hn] at hk; omega)).trans (b4 k hk)
  rw [← a5 109 (Or.inl (by decide))]
  replace n5 : E5.2.1 = 113 := n5
  have s5 : E5.1 = ur (ur (E.1) 109 1 110) 109 2 111 := by rw [r5, s4]
  refine Go.putRZ 109 3 112 (by decide) (by decide) sh109 (by rw [n5]; decide) (by rw [n5]; decide) z5 (Or.inr ⟨_, rfl⟩) rfl rfl rfl lk1333 (by decide +kernel) (fun E6 r6 n6 a6 z6 => ?_)
  have b6 : ∀ k, (k < E.2.1 ∨ 1000 ≤ k) → ad E6 k = ad E k := fun k hk => (a6 k).trans (b5 k hk)
  rw [← a6 109]
  rw [n5] at n6
  have s6 : E6.1 = ur (ur (ur (E.1) 109 1 110) 109 2 111) 109 3 112 := by rw [r6, s5]
  refine Go.aload_n (k := 0) (i := 0) 0 (by decide +kernel) rfl rfl ?_
  refine Go.sipush (n := 1136) (1136 : Int32) (by decide +kernel) (by decide) ?_
  refine Go.newaZ (atype := .int) 0 1136 (by decide) rfl (by rw [n6]; exact sh113) (by rw [n6]; decide) z6 lk142 (by rw [n6]; decide) (by decide) (by decide) (by decide) (by decide +kernel) (fun E7 r7 n7 a7 z7 => ?_)
  rw [n6] at n7 a7 ⊢
  have b7 : ∀ k, (k < E.2.1 ∨ 1000 ≤ k) → ad E7 k = ad E k := fun k hk => (a7 k (by rw [hn] at hk; omega)).trans (b6 k hk)
  rw [← a7 109 (Or.inl (by decide))]
  replace n7 : E7.2.1 = 114 := n7
  have s7 : E7.1 = ur (ur (ur (E.1) 109 1 110) 109 2 111) 109 3 112 := by rw [r7, s6]
  refine Go.putRZ 109 4 113 (by decide) (by decide) sh109 (by rw [n7]; decide) (by rw [n7]; decide) z7 (Or.inr ⟨_, rfl⟩) rfl rfl rfl lk1334 (by decide +kernel) (fun E8 r8 n8 a8 z8 => ?_)
  have b8 : ∀ k, (k < E.2.1 ∨ 1000 ≤ k) → ad E8 k = ad E k := fun k hk => (a8 k).trans (b7 k hk)
  rw [← a8 109]
  rw [n7] at n8
  have s8 : E8.1 = ur (ur (ur (ur (E.1) 109 1 110) 109 2 111) 109 3 112) 109 4 113 := by rw [r8, s7]
  refine Go.aload_n (k := 0) (i := 0) 0 (by decide +kernel) rfl rfl ?_
  refine Go.iconst (n := -1) (-1 : Int32) (by decide +kernel) rfl ?_
  refine Go.put 109 14 (by decide) (by decide) sh109 (by rw [n8]; decide) (Or.inl rfl) rfl rfl rfl lk1344 (by decide +kernel) ?_
  have y40 := Zr.u1 (j := 14) (x := (-1 : Int32)) z8 (k := 109) (by rw [n8]; decide)
  refine Go.aload_n (k := 0) (i := 0) 0 (by decide +kernel) rfl rfl ?_
  refine Go.sipush (n := 900) (900 : Int32) (by decide +kernel) (by decide) ?_
  refine Go.newaZ (atype := .int) 0 900 (by decide) rfl (by rw [n8]; exact sh114) (by rw [n8]; decide) y40 lk142 (by rw [n8]; decide) (by decide) (by decide) (by decide) (by decide +kernel) (fun E9 r9 n9 a9 z9 => ?_)
  rw [n8] at n9 a9 ⊢
  have b9 : ∀ k, (k < E.2.1 ∨ 1000 ≤ k) → ad E9 k = ad E k := fun k hk => (a9 k (by rw [hn] at hk; omega)).trans (b8 k hk)
  rw [← a9 109 (Or.inl (by decide))]
  replace n9 : E9.2.1 = 115 := n9
  have s9 : E9.1 = ur (ur (ur (ur (E.1) 109 1 110) 109 2 111) 109 3 112) 109 4 113 := by rw [r9, s8]
  refine Go.putRZ 109 15 114 (by decide) (by decide) sh109 (by rw [n9]; decide) (by rw [n9]; decide) z9 (Or.inr ⟨_, rfl⟩) rfl rfl rfl lk1345 (by decide +kernel) (fun E10 r10 n10 a10 z10 => ?_)
  have b10 : ∀ k, (k < E.2.1 ∨ 1000 ≤ k) → ad E10 k = ad E k := fun k hk => (a10 k).trans (b9 k hk)
  rw [← a10 109]
  rw [n9] at n10
  have s10 : E10.1 = ur (ur (ur (ur (ur (E.1) 109 1 110) 109 2 111) 109 3 112) 109 4 113) 109 15 114 := by rw [r10, s9]
  refine Go.aload_n (k := 0) (i := 0) 0 (by decide +kernel) rfl rfl ?_
  refine Go.bipush (n := 6) (6 : Int32) (by decide +kernel) (by decide) ?_
  refine Go.newaZ (atype := .int) 0 6 (by decide) rfl (by rw [n10]; exact sh115) (by rw [n10]; decide) z10 lk142 (by rw [n10]; decide) (by decide) (by decide) (by decide) (by decide +kernel) (fun E11 r11 n11 a11 z11 => ?_)
  rw [n10] at n11 a11 ⊢
  have b11 : ∀ k, (k < E.2.1 ∨ 1000 ≤ k) → ad E11 k = ad E k := fun k hk => (a11 k (by rw [hn] at hk; omega)).trans (b10 k hk)
  rw [← a11 109 (Or.inl (by decide))]
  replace n11 : E11.2.1 = 116 := n11
  have s11 : E11.1 = ur (ur (ur (ur (ur (E.1) 109 1 110) 109 2 111) 109 3 112) 109 4 113) 109 15 114 := by rw [r11, s10]
  refine Go.putRZ 109 16 115 (by decide) (by decide) sh109 (by rw [n11]; decide) (by rw [n11]; decide) z11 (Or.inr ⟨_, rfl⟩) rfl rfl rfl lk1346 (by decide +kernel) (fun E12 r12 n12 a12 z12 => ?_)
  have b12 : ∀ k, (k < E.2.1 ∨ 1000 ≤ k) → ad E12 k = ad E k := fun k hk => (a12 k).trans (b11 k hk)
  rw [← a12 109]
  rw [n11] at n12
  have s12 : E12.1 = ur (ur (ur (ur (ur (ur (E.1) 109 1 110) 109 2 111) 109 3 112) 109 4 113) 109 15 114) 109 16 115 := by rw [r12, s11]
  refine Go.aload_n (k := 0) (i := 0) 0 (by decide +kernel) rfl rfl ?_
  refine Go.bipush (n := 11) (11 : Int32) (by decide +kernel) (by decide) ?_
  refine Go.newaZ (atype := .int) 0 11 (by decide) rfl (by rw [n12]; exact sh116) (by rw [n12]; decide) z12 lk142 (by rw [n12]; decide) (by decide) (by decide) (by decide) (by decide +kernel) (fun E13 r13 n13 a13 z13 => ?_)
  rw [n12] at n13 a13 ⊢
  have b13 : ∀ k, (k < E.2.1 ∨ 1000 ≤ k) → ad E13 k = ad E k := fun k hk => (a13 k (by rw [hn] at hk; omega)).trans (b12 k hk)
  rw [← a13 109 (Or.inl (by decide))]
  replace n13 : E13.2.1 = 117 := n13
  have s13 : E13.1 = ur (ur (ur (ur (ur (ur (E.1) 109 1 110) 109 2 111) 109 3 112) 109 4 113) 109 15 114) 109 16 115 := by rw [r13, s12]
  refine Go.putRZ 109 17 116 (by decide) (by decide) sh109 (by rw [n13]; decide) (by rw [n13]; decide) z13 (Or.inr ⟨_, rfl⟩) rfl rfl rfl lk1347 (by decide +kernel) (fun E14 r14 n14 a14 z14 => ?_)
  have b14 : ∀ k, (k < E.2.1 ∨ 1000 ≤ k) → ad E14 k = ad E k := fun k hk => (a14 k).trans (b13 k hk)
  rw [← a14 109]
  rw [n13] at n14
  have s14 : E14.1 = ur (ur (ur (ur (ur (ur (ur (E.1) 109 1 110) 109 2 111) 109 3 112) 109 4 113) 109 15 114) 109 16 115) 109 17 116 := by rw [r14, s13]
  refine Go.aload_n (k := 0) (i := 0) 0 (by decide +kernel) rfl rfl ?_
  refine Go.sipush (n := 2009) (2009 : Int32) (by decide +kernel) (by decide) ?_
  refine Go.newaZ (atype := .int) 0 2009 (by decide) rfl (by rw [n14]; exact sh117) (by rw [n14]; decide) z14 lk142 (by rw [n14]; decide) (by decide) (by decide) (by decide) (by decide +kernel) (fun E15 r15 n15 a15 z15 => ?_)
  rw [n14] at n15 a15 ⊢
  have b15 : ∀ k, (k < E.2.1 ∨ 1000 ≤ k) → ad E15 k = ad E k := fun k hk => (a15 k (by rw [hn] at hk; omega)).trans (b14 k hk)
  rw [← a15 109 (Or.inl (by decide))]
  replace n15 : E15.2.1 = 118 := n15
  have s15 : E15.1 = ur (ur (ur (ur (ur (ur (ur (E.1) 109 1 110) 109 2 111) 109 3 112) 109 4 113) 109 15 114) 109 16 115) 109 17 116 := by rw [r15, s14]
  refine Go.putRZ 109 20 117 (by decide) (by decide) sh109 (by rw [n15]; decide) (by rw [n15]; decide) z15 (Or.inr ⟨_, rfl⟩) rfl rfl rfl lk1350 (by decide +kernel) (fun E16 r16 n16 a16 z16 => ?_)
  have b16 : ∀ k, (k < E.2.1 ∨ 1000 ≤ k) → ad E16 k = ad E k := fun k hk => (a16 k).trans (b15 k hk)
  rw [← a16 109]
  rw [n15] at n16
  have s16 : E16.1 = ur (ur (ur (ur (ur (ur (ur (ur (E.1) 109 1 110) 109 2 111) 109 3 112) 109 4 113) 109 15 114) 109 16 115) 109 17 116) 109 20 117 := by rw [r16, s15]
  refine Go.aload_n (k := 0) (i := 0) 0 (by decide +kernel) rfl rfl ?_
  refine Go.sipush (n := 287) (287 : Int32) (by decide +kernel) (by decide) ?_
  refine Go.newaZ (atype := .int) 0 287 (by decide) rfl (by rw [n16]; exact sh118) (by rw [n16]; decide) z16 lk142 (by rw [n16]; decide) (by decide) (by decide) (by decide) (by decide +kernel) (fun E17 r17 n17 a17 z17 => ?_)
  rw [n16] at n17 a17 ⊢
  have b17 : ∀ k, (k < E.2.1 ∨ 1000 ≤ k) → ad E17 k = ad E k := fun k hk => (a17 k (by rw [hn] at hk; omega)).trans (b16 k hk)
  rw [← a17 109 (Or.inl (by decide))]
  replace n17 : E17.2.1 = 119 := n17
  have s17 : E17.1 = ur (ur (ur (ur (ur (ur (ur (ur (E.1) 109 1 110) 109 2 111) 109 3 112) 109 4 113) 109 15 114) 109 16 115) 109 17 116) 109 20 117 := by rw [r17, s16]
  refine Go.putRZ 109 21 118 (by decide) (by decide) sh109 (by rw [n17]; decide) (by rw [n17]; decide) z17 (Or.inr ⟨_, rfl⟩) rfl rfl rfl lk1351 (by decide +kernel) (fun E18 r18 n18 a18 z18 => ?_)
  have b18 : ∀ k, (k < E.2.1 ∨ 1000 ≤ k) → ad E18 k = ad E k := fun k hk => (a18 k).trans (b17 k hk)
  rw [← a18 109]
  rw [n17] at n18
  have s18 : E18.1 = ur (ur (ur (ur (ur (ur (ur (ur (ur (E.1) 109 1 110) 109 2 111) 109 3 112) 109 4 113) 109 15 114) 109 16 115) 109 17 116) 109 20 117) 109 21 118 := by rw [r18, s17]
  refine Go.aload_n (k := 0) (i := 0) 0 (by decide +kernel) rfl rfl ?_
  refine Go.sipush (n := 287) (287 : Int32) (by decide +kernel) (by decide) ?_
  refine Go.newaZ (atype := .boolean) 2 287 (by decide) rfl (by rw [n18]; exact sh119) (by rw [n18]; decide) z18 lk430 (by rw [n18]; decide) (by decide) (by decide) (by decide) (by decide +kernel) (fun E19 r19 n19 a19 z19 => ?_)
  rw [n18] at n19 a19 ⊢
  have b19 : ∀ k, (k < E.2.1 ∨ 1000 ≤ k) → ad E19 k = ad E k := fun k hk => (a19 k (by rw [hn] at hk; omega)).trans (b18 k hk)
  rw [← a19 109 (Or.inl (by decide))]
  replace n19 : E19.2.1 = 120 := n19
  have s19 : E19.1 = ur (ur (ur (ur (ur (ur (ur (ur (ur (E.1) 109 1 110) 109 2 111) 109 3 112) 109 4 113) 109 15 114) 109 16 115) 109 17 116) 109 20 117) 109 21 118 := by rw [r19, s18]
  refine Go.putRZ 109 22 119 (by decide) (by decide) sh109 (by rw [n19]; decide) (by rw [n19]; decide) z19 (Or.inr ⟨_, rfl⟩) rfl rfl rfl lk1352 (by decide +kernel) (fun E20 r20 n20 a20 z20 => ?_)
  have b20 : ∀ k, (k < E.2.1 ∨ 1000 ≤ k) → ad E20 k = ad E k := fun k hk => (a20 k).trans (b19 k hk)
  rw [← a20 109]
  rw [n19] at n20
  have s20 : E20.1 = ur (ur (ur (ur (ur (ur (ur (ur (ur (ur (E.1) 109 1 110) 109 2 111) 109 3 112) 109 4 113) 109 15 114) 109 16 115) 109 17 116) 109 20 117) 109 21 118) 109 22 119 := by rw [r20, s19]
  refine Go.aload_n (k := 0) (i := 0) 0 (by decide +kernel) rfl rfl ?_
  refine Go.bipush (n := 7) (7 : Int32) (by decide +kernel) (by decide) ?_
  refine Go.newaZ (atype := .int) 0 7 (by decide) rfl (by rw [n20]; exact sh120) (by rw [n20]; decide) z20 lk142 (by rw [n20]; decide) (by decide) (by decide) (by decide) (by decide +kernel) (fun E21 r21 n21 a21 z21 => ?_)
  rw [n20] at n21 a21 ⊢
  have b21 : ∀ k, (k < E.2.1 ∨ 1000 ≤ k) → ad E21 k = ad E k := fun k hk => (a21 k (by rw [hn] at hk; omega)).trans (b20 k hk)
  rw [← a21 109 (Or.inl (by decide))]
  replace n21 : E21.2.1 = 121 := n21
  have s21 : E21.1 = ur (ur (ur (ur (ur (ur (ur (ur (ur (ur (E.1) 109 1 110) 109 2 111) 109 3 112) 109 4 113) 109 15 114) 109 16 115) 109 17 116) 109 20 117) 109 21 118) 109 22 119 := by rw [r21, s20]
  refine Go.putRZ 109 23 120 (by decide) (by decide) sh109 (by rw [n21]; decide) (by rw [n21]; decide) z21 (Or.inr ⟨_, rfl⟩) rfl rfl rfl lk1353 (by decide +kernel) (fun E22 r22 n22 a22 z22 => ?_)
  have b22 : ∀ k, (k < E.2.1 ∨ 1000 ≤ k) → ad E22 k = ad E k := fun k hk => (a22 k).trans (b21 k hk)
  rw [← a22 109]
  rw [n21] at n22
  have s22 : E22.1 = ur (ur (ur (ur (ur (ur (ur (ur (ur (ur (ur (E.1) 109 1 110) 109 2 111) 109 3 112) 109 4 113) 109 15 114) 109 16 115) 109 17 116) 109 20 117) 109 21 118) 109 22 119) 109 23 120 := by rw [r22, s21]
  refine Go.aload_n (k := 0) (i := 0) 0 (by decide +kernel) rfl rfl ?_
  refine Go.bipush (n := 7) (7 : Int32) (by decide +kernel) (by decide) ?_
  refine Go.newaZ (atype := .int) 0 7 (by decide) rfl (by rw [n22]; exact sh121) (by rw [n22]; decide) z22 lk142 (by rw [n22]; decide) (by decide) (by decide) (by decide) (by decide +kernel) (fun E23 r23 n23 a23 z23 => ?_)
  rw [n22] at n23 a23 ⊢
  have b23 : ∀ k, (k < E.2.1 ∨ 1000 ≤ k) → ad E23 k = ad E k := fun k hk => (a23 k (by rw [hn] at hk; omega)).trans (b22 k hk)
  rw [← a23 109 (Or.inl (by decide))]
  replace n23 : E23.2.1 = 122 := n23
  have s23 : E23.1 = ur (ur (ur (ur (ur (ur (ur (ur (ur (ur (ur (E.1) 109 1 110) 109 2 111) 109 3 112) 109 4 113) 109 15 114) 109 16 115) 109 17 116) 109 20 117) 109 21 118) 109 22 119) 109 23 120 := by rw [r23, s22]
  refine Go.putRZ 109 24 121 (by decide) (by decide) sh109 (by rw [n23]; decide) (by rw [n23]; decide) z23 (Or.inr ⟨_, rfl⟩) rfl rfl rfl lk1354 (by decide +kernel) (fun E24 r24 n24 a24 z24 => ?_)
  have b24 : ∀ k, (k < E.2.1 ∨ 1000 ≤ k) → ad E24 k = ad E k := fun k hk => (a24 k).trans (b23 k hk)
  rw [← a24 109]
  rw [n23] at n24
  have s24 : E24.1 = ur (ur (ur (ur (ur (ur (ur (ur (ur (ur (ur (ur (E.1) 109 1 110) 109 2 111) 109 3 112) 109 4 113) 109 15 114) 109 16 115) 109 17 116) 109 20 117) 109 21 118) 109 22 119) 109 23 120) 109 24 121 := by rw [r24, s23]
  refine Go.aload_n (k := 0) (i := 0) 0 (by decide +kernel) rfl rfl ?_
  refine Go.bipush (n := 7) (7 : Int32) (by decide +kernel) (by decide) ?_
  refine Go.newaZ (atype := .int) 0 7 (by decide) rfl (by rw [n24]; exact sh122) (by rw [n24]; decide) z24 lk142 (by rw [n24]; decide) (by decide) (by decide) (by decide) (by decide +kernel) (fun E25 r25 n25 a25 z25 => ?_)
  rw [n24] at n25 a25 ⊢
  have b25 : ∀ k, (k < E.2.1 ∨ 1000 ≤ k) → ad E25 k = ad E k := fun k hk => (a25 k (by rw [hn] at hk; omega)).trans (b24 k hk)
  rw [← a25 109 (Or.inl (by decide))]
  replace n25 : E25.2.1 = 123 := n25
  have s25 : E25.1 = ur (ur (ur (ur (ur (ur (ur (ur (ur (ur (ur (ur (E.1) 109 1 110) 109 2 111) 109 3 112) 109 4 113) 109 15 114) 109 16 115) 109 17 116) 109 20 117) 109 21 118) 109 22 119) 109 23 120) 109 24 121 := by rw [r25, s24]
  refine Go.putRZ 109 25 122 (by decide) (by decide) sh109 (by rw [n25]; decide) (by rw [n25]; decide) z25 (Or.inr ⟨_, rfl⟩) rfl rfl rfl lk1355 (by decide +kernel) (fun E26 r26 n26 a26 z26 => ?_)
  have b26 : ∀ k, (k < E.2.1 ∨ 1000 ≤ k) → ad E26 k = ad E k := fun k hk => (a26 k).trans (b25 k hk)
  rw [← a26 109]
  rw [n25] at n26
  have s26 : E26.1 = ur (ur (ur (ur (ur (ur (ur (ur (ur (ur (ur (ur (ur (E.1) 109 1 110) 109 2 111) 109 3 112) 109 4 113) 109 15 114) 109 16 115) 109 17 116) 109 20 117) 109 21 118) 109 22 119) 109 23 120) 109 24 121) 109 25 122 := by rw [r26, s25]
  refine Go.aload_n (k := 0) (i := 0) 0 (by decide +kernel) rfl rfl ?_
  refine Go.sipush (n := 3157) (3157 : Int32) (by decide +kernel) (by decide) ?_
  refine Go.newaZ (atype := .long) 3 3157 (by decide) rfl (by rw [n26]; exact sh123) (by rw [n26]; decide) z26 lk232 (by rw [n26]; decide) (by decide) (by decide) (by decide) (by decide +kernel) (fun E27 r27 n27 a27 z27 => ?_)
  rw [n26] at n27 a27 ⊢
  have b27 : ∀ k, (k < E.2.1 ∨ 1000 ≤ k) → ad E27 k = ad E k := fun k hk => (a27 k (by rw [hn] at hk; omega)).trans (b26 k hk)
  rw [← a27 109 (Or.inl (by decide))]
  replace n27 : E27.2.1 = 124 := n27
  have s27 : E27.1 = ur (ur (ur (ur (ur (ur (ur (ur (ur (ur (ur (ur (ur (E.1) 109 1 110) 109 2 111) 109 3 112) 109 4 113) 109 15 114) 109 16 115) 109 17 116) 109 20 117) 109 21 118) 109 22 119) 109 23 120) 109 24 121) 109 25 122 := by rw [r27, s26]
  refine Go.putRZ 109 26 123 (by decide) (by decide) sh109 (by rw [n27]; decide) (by rw [n27]; decide) z27 (Or.inr ⟨_, rfl⟩) rfl rfl rfl lk1356 (by decide +kernel) (fun E28 r28 n28 a28 z28 => ?_)
  have b28 : ∀ k, (k < E.2.1 ∨ 1000 ≤ k) → ad E28 k = ad E k := fun k hk => (a28 k).trans (b27 k hk)
  rw [← a28 109]
  rw [n27] at n28
  have s28 : E28.1 = ur (ur (ur (ur (ur (ur (ur (ur (ur (ur (ur (ur (ur (ur (E.1) 109 1 110) 109 2 111) 109 3 112) 109 4 113) 109 15 114) 109 16 115) 109 17 116) 109 20 117) 109 21 118) 109 22 119) 109 23 120) 109 24 121) 109 25 122) 109 26 123 := by rw [r28, s27]
  refine Go.aload_n (k := 0) (i := 0) 0 (by decide +kernel) rfl rfl ?_
  refine Go.bipush (n := 41) (41 : Int32) (by decide +kernel) (by decide) ?_
  refine Go.newaZ (atype := .int) 0 41 (by decide) rfl (by rw [n28]; exact sh124) (by rw [n28]; decide) z28 lk142 (by rw [n28]; decide) (by decide) (by decide) (by decide) (by decide +kernel) (fun E29 r29 n29 a29 z29 => ?_)
  rw [n28] at n29 a29 ⊢
  have b29 : ∀ k, (k < E.2.1 ∨ 1000 ≤ k) → ad E29 k = ad E k := fun k hk => (a29 k (by rw [hn] at hk; omega)).trans (b28 k hk)
  rw [← a29 109 (Or.inl (by decide))]
  replace n29 : E29.2.1 = 125 := n29
  have s29 : E29.1 = ur (ur (ur (ur (ur (ur (ur (ur (ur (ur (ur (ur (ur (ur (E.1) 109 1 110) 109 2 111) 109 3 112) 109 4 113) 109 15 114) 109 16 115) 109 17 116) 109 20 117) 109 21 118) 109 22 119) 109 23 120) 109 24 121) 109 25 122) 109 26 123 := by rw [r29, s28]
  refine Go.putRZ 109 27 124 (by decide) (by decide) sh109 (by rw [n29]; decide) (by rw [n29]; decide) z29 (Or.inr ⟨_, rfl⟩) rfl rfl rfl lk1357 (by decide +kernel) (fun E30 r30 n30 a30 z30 => ?_)
  have b30 : ∀ k, (k < E.2.1 ∨ 1000 ≤ k) → ad E30 k = ad E k := fun k hk => (a30 k).trans (b29 k hk)
  rw [← a30 109]
  rw [n29] at n30
  have s30 : E30.1 = ur (ur (ur (ur (ur (ur (ur (ur (ur (ur (ur (ur (ur (ur (ur (E.1) 109 1 110) 109 2 111) 109 3 112) 109 4 113) 109 15 114) 109 16 115) 109 17 116) 109 20 117) 109 21 118) 109 22 119) 109 23 120) 109 24 121) 109 25 122) 109 26 123) 109 27 124 := by rw [r30, s29]
  refine Go.aload_n (k := 0) (i := 0) 0 (by decide +kernel) rfl rfl ?_
  refine Go.sipush (n := 287) (287 : Int32) (by decide +kernel) (by decide) ?_
  refine Go.newaZ (atype := .long) 3 287 (by decide) rfl (by rw [n30]; exact sh125) (by rw [n30]; decide) z30 lk232 (by rw [n30]; decide) (by decide) (by decide) (by decide) (by decide +kernel) (fun E31 r31 n31 a31 z31 => ?_)
  rw [n30] at n31 a31 ⊢
  have b31 : ∀ k, (k < E.2.1 ∨ 1000 ≤ k) → ad E31 k = ad E k := fun k hk => (a31 k (by rw [hn] at hk; omega)).trans (b30 k hk)
  rw [← a31 109 (Or.inl (by decide))]
  replace n31 : E31.2.1 = 126 := n31
  have s31 : E31.1 = ur (ur (ur (ur (ur (ur (ur (ur (ur (ur (ur (ur (ur (ur (ur (E.1) 109 1 110) 109 2 111) 109 3 112) 109 4 113) 109 15 114) 109 16 115) 109 17 116) 109 20 117) 109 21 118) 109 22 119) 109 23 120) 109 24 121) 109 25 122) 109 26 123) 109 27 124 := by rw [r31, s30]
  refine Go.putRZ 109 28 125 (by decide) (by decide) sh109 (by rw [n31]; decide) (by rw [n31]; decide) z31 (Or.inr ⟨_, rfl⟩) rfl rfl rfl lk1358 (by decide +kernel) (fun E32 r32 n32 a32 z32 => ?_)
  have b32 : ∀ k, (k < E.2.1 ∨ 1000 ≤ k) → ad E32 k = ad E k := fun k hk => (a32 k).trans (b31 k hk)
  rw [← a32 109]
  rw [n31] at n32
  have s32 : E32.1 = ur (ur (ur (ur (ur (ur (ur (ur (ur (ur (ur (ur (ur (ur (ur (ur (E.1) 109 1 110) 109 2 111) 109 3 112) 109 4 113) 109 15 114) 109 16 115) 109 17 116) 109 20 117) 109 21 118) 109 22 119) 109 23 120) 109 24 121) 109 25 122) 109 26 123) 109 27 124) 109 28 125 := by rw [r32, s31]
  refine Go.aload_n (k := 0) (i := 0) 0 (by decide +kernel) rfl rfl ?_
  refine Go.sipush (n := 287) (287 : Int32) (by decide +kernel) (by decide) ?_
  refine Go.newaZ (atype := .long) 3 287 (by decide) rfl (by rw [n32]; exact sh126) (by rw [n32]; decide) z32 lk232 (by rw [n32]; decide) (by decide) (by decide) (by decide) (by decide +kernel) (fun E33 r33 n33 a33 z33 => ?_)
  rw [n32] at n33 a33 ⊢
  have b33 : ∀ k, (k < E.2.1 ∨ 1000 ≤ k) → ad E33 k = ad E k := fun k hk => (a33 k (by rw [hn] at hk; omega)).trans (b32 k hk)
  rw [← a33 109 (Or.inl (by decide))]
  replace n33 : E33.2.1 = 127 := n33
  have s33 : E33.1 = ur (ur (ur (ur (ur (ur (ur (ur (ur (ur (ur (ur (ur (ur (ur (ur (E.1) 109 1 110) 109 2 111) 109 3 112) 109 4 113) 109 15 114) 109 16 115) 109 17 116) 109 20 117) 109 21 118) 109 22 119) 109 23 120) 109 24 121) 109 25 122) 109 26 123) 109 27 124) 109 28 125 := by rw [r33, s32]
  refine Go.putRZ 109 29 126 (by decide) (by decide) sh109 (by rw [n33]; decide) (by rw [n33]; decide) z33 (Or.inr ⟨_, rfl⟩) rfl rfl rfl lk1359 (by decide +kernel) (fun E34 r34 n34 a34 z34 => ?_)
  have b34 : ∀ k, (k < E.2.1 ∨ 1000 ≤ k) → ad E34 k = ad E k := fun k hk => (a34 k).trans (b33 k hk)
  rw [← a34 109]
  rw [n33] at n34
  have s34 : E34.1 = ur (ur (ur (ur (ur (ur (ur (ur (ur (ur (ur (ur (ur (ur (ur (ur (ur (E.1) 109 1 110) 109 2 111) 109 3 112) 109 4 113) 109 15 114) 109 16 115) 109 17 116) 109 20 117) 109 21 118) 109 22 119) 109 23 120) 109 24 121) 109 25 122) 109 26 123) 109 27 124) 109 28 125) 109 29 126 := by rw [r34, s33]
  refine Go.aload_n (k := 0) (i := 0) 0 (by decide +kernel) rfl rfl ?_
  refine Go.iconst (n := 4) (4 : Int32) (by decide +kernel) rfl ?_
  refine Go.newaZ (atype := .int) 0 4 (by decide) rfl (by rw [n34]; exact sh127) (by rw [n34]; decide) z34 lk142 (by rw [n34]; decide) (by decide) (by decide) (by decide) (by decide +kernel) (fun E35 r35 n35 a35 z35 => ?_)
  rw [n34] at n35 a35 ⊢
  have b35 : ∀ k, (k < E.2.1 ∨ 1000 ≤ k) → ad E35 k = ad E k := fun k hk => (a35 k (by rw [hn] at hk; omega)).trans (b34 k hk)
  rw [← a35 109 (Or.inl (by decide))]
  replace n35 : E35.2.1 = 128 := n35
  have s35 : E35.1 = ur (ur (ur (ur (ur (ur (ur (ur (ur (ur (ur (ur (ur (ur (ur (ur (ur (E.1) 109 1 110) 109 2 111) 109 3 112) 109 4 113) 109 15 114) 109 16 115) 109 17 116) 109 20 117) 109 21 118) 109 22 119) 109 23 120) 109 24 121) 109 25 122) 109 26 123) 109 27 124) 109 28 125) 109 29 126 := by rw [r35, s34]
  refine Go.dup (by decide +kernel) rfl ?_
  refine Go.iconst (n := 0) (0 : Int32) (by decide +kernel) rfl ?_
  refine Go.iconst (n := -1) (-1 : Int32) (by decide +kernel) rfl ?_
  refine Go.iastore 127 4 sh127 (by rw [n35]; decide) (vp_in_iff.mpr (by decide)) (by decide +kernel) ?_
  have y161 := Zr.u1 (j := Int32.toNatClampNeg (0 : Int32)) (x := (-1 : Int32)) z35 (k := 127) (by rw [n35]; decide)
  refine Go.dup (by decide +kernel) rfl ?_
  refine Go.iconst (n := 1) (1 : Int32) (by decide +kernel) rfl ?_
  refine Go.iconst (n := -1) (-1 : Int32) (by decide +kernel) rfl ?_
  refine Go.iastore 127 4 sh127 (by rw [n35]; decide) (vp_in_iff.mpr (by decide)) (by decide +kernel) ?_
  have y165 := Zr.u1 (j := Int32.toNatClampNeg (1 : Int32)) (x := (-1 : Int32)) y161 (k := 127) (by rw [n35]; decide)
  refine Go.dup (by decide +kernel) rfl ?_
  refine Go.iconst (n := 2) (2 : Int32) (by decide +kernel) rfl ?_
  refine Go.iconst (n := -1) (-1 : Int32) (by decide +kernel) rfl ?_
  refine Go.iastore 127 4 sh127 (by rw [n35]; decide) (vp_in_iff.mpr (by decide)) (by decide +kernel) ?_
  have y169 := Zr.u1 (j := Int32.toNatClampNeg (2 : Int32)) (x := (-1 : Int32)) y165 (k := 127) (by rw [n35]; decide)
  refine Go.dup (by decide +kernel) rfl ?_
  refine Go.iconst (n := 3) (3 : Int32) (by decide +kernel) rfl ?_
  refine Go.iconst (n := -1) (-1 : Int32) (by decide +kernel) rfl ?_
  refine Go.iastore 127 4 sh127 (by rw [n35]; decide) (vp_in_iff.mpr (by decide)) (by decide +kernel) ?_
  have y173 := Zr.u1 (j := Int32.toNatClampNeg (3 : Int32)) (x := (-1 : Int32)) y169 (k := 127) (by rw [n35]; decide)
  refine Go.putRZ 109 30 127 (by decide) (by decide) sh109 (by rw [n35]; decide) (by rw [n35]; decide) y173 (Or.inr ⟨_, rfl⟩) rfl rfl rfl lk1360 (by decide +kernel) (fun E36 r36 n36 a36 z36 => ?_)
  have b36 : ∀ k, (k < E.2.1 ∨ 1000 ≤ k) → ad E36 k = ad E k := fun k hk => (a36 k).trans (b35 k hk)
  rw [← a36 109]
  rw [n35] at n36
  have s36 : E36.1 = ur (ur (ur (ur (ur (ur (ur (ur (ur (ur (ur (ur (ur (ur (ur (ur (ur (ur (E.1) 109 1 110) 109 2 111) 109 3 112) 109 4 113) 109 15 114) 109 16 115) 109 17 116) 109 20 117) 109 21 118) 109 22 119) 109 23 120) 109 24 121) 109 25 122) 109 26 123) 109 27 124) 109 28 125) 109 29 126) 109 30 127 := by rw [r36, s35]
  refine Go.aload_n (k := 0) (i := 0) 0 (by decide +kernel) rfl rfl ?_
  refine Go.iconst (n := 4) (4 : Int32) (by decide +kernel) rfl ?_
  refine Go.newaZ (atype := .int) 0 4 (by decide) rfl (by rw [n36]; exact sh128) (by rw [n36]; decide) z36 lk142 (by rw [n36]; decide) (by decide) (by decide) (by decide) (by decide +kernel) (fun E37 r37 n37 a37 z37 => ?_)
  rw [n36] at n37 a37 ⊢
  have b37 : ∀ k, (k < E.2.1 ∨ 1000 ≤ k) → ad E37 k = ad E k := fun k hk => (a37 k (by rw [hn] at hk; omega)).trans (b36 k hk)
  rw [← a37 109 (Or.inl (by decide))]
  replace n37 : E37.2.1 = 129 := n37
  have s37 : E37.1 = ur (ur (ur (ur (ur (ur (ur (ur (ur (ur (ur (ur (ur (ur (ur (ur (ur (ur (E.1) 109 1 110) 109 2 111) 109 3 112) 109 4 113) 109 15 114) 109 16 115) 109 17 116) 109 20 117) 109 21 118) 109 22 119) 109 23 120) 109 24 121) 109 25 122) 109 26 123) 109 27 124) 109 28 125) 109 29 126) 109 30 127 := by rw [r37, s36]
  refine Go.putRZ 109 31 128 (by decide) (by decide) sh109 (by rw [n37]; decide) (by rw [n37]; decide) z37 (Or.inr ⟨_, rfl⟩) rfl rfl rfl lk1361 (by decide +kernel) (fun E38 r38 n38 a38 z38 => ?_)
  have b38 : ∀ k, (k < E.2.1 ∨ 1000 ≤ k) → ad E38 k = ad E k := fun k hk => (a38 k).trans (b37 k hk)
  rw [← a38 109]
  rw [n37] at n38
  have s38 : E38.1 = ur (ur (ur (ur (ur (ur (ur (ur (ur (ur (ur (ur (ur (ur (ur (ur (ur (ur (ur (E.1) 109 1 110) 109 2 111) 109 3 112) 109 4 113) 109 15 114) 109 16 115) 109 17 116) 109 20 117) 109 21 118) 109 22 119) 109 23 120) 109 24 121) 109 25 122) 109 26 123) 109 27 124) 109 28 125) 109 29 126) 109 30 127) 109 31 128 := by rw [r38, s37]
  refine Go.aload_n (k := 0) (i := 0) 0 (by decide +kernel) rfl rfl ?_
  refine Go.sipush (n := 160) (160 : Int32) (by decide +kernel) (by decide) ?_
  refine Go.newaZ (atype := .long) 3 160 (by decide) rfl (by rw [n38]; exact sh129) (by rw [n38]; decide) z38 lk232 (by rw [n38]; decide) (by decide) (by decide) (by decide) (by decide +kernel) (fun E39 r39 n39 a39 z39 => ?_)
  rw [n38] at n39 a39 ⊢
  have b39 : ∀ k, (k < E.2.1 ∨ 1000 ≤ k) → ad E39 k = ad E k := fun k hk => (a39 k (by rw [hn] at hk; omega)).trans (b38 k hk)
  rw [← a39 109 (Or.inl (by decide))]
  replace n39 : E39.2.1 = 130 := n39
  have s39 : E39.1 = ur (ur (ur (ur (ur (ur (ur (ur (ur (ur (ur (ur (ur (ur (ur (ur (ur (ur (ur (E.1) 109 1 110) 109 2 111) 109 3 112) 109 4 113) 109 15 114) 109 16 115) 109 17 116) 109 20 117) 109 21 118) 109 22 119) 109 23 120) 109 24 121) 109 25 122) 109 26 123) 109 27 124) 109 28 125) 109 29 126) 109 30 127) 109 31 128 := by rw [r39, s38]
  refine Go.putRZ 109 32 129 (by decide) (by decide) sh109 (by rw [n39]; decide) (by rw [n39]; decide) z39 (Or.inr ⟨_, rfl⟩) rfl rfl rfl lk1362 (by decide +kernel) (fun E40 r40 n40 a40 z40 => ?_)
  have b40 : ∀ k, (k < E.2.1 ∨ 1000 ≤ k) → ad E40 k = ad E k := fun k hk => (a40 k).trans (b39 k hk)
  rw [← a40 109]
  rw [n39] at n40
  have s40 : E40.1 = ur (ur (ur (ur (ur (ur (ur (ur (ur (ur (ur (ur (ur (ur (ur (ur (ur (ur (ur (ur (E.1) 109 1 110) 109 2 111) 109 3 112) 109 4 113) 109 15 114) 109 16 115) 109 17 116) 109 20 117) 109 21 118) 109 22 119) 109 23 120) 109 24 121) 109 25 122) 109 26 123) 109 27 124) 109 28 125) 109 29 126) 109 30 127) 109 31 128) 109 32 129 := by rw [r40, s39]
  refine Go.aload_n (k := 0) (i := 0) 0 (by decide +kernel) rfl rfl ?_
  refine Go.get 109 1 (.ref (ad E40 110)) (by decide) (by decide) sh109 (by rw [n40]; decide) (vlR2 rfl (by rw [s40]; rfl)) lk1331 (by decide +kernel) ?_
  have hE0 : E0 E40 := ⟨by rw [s40]; exact RF_full hE9, n40⟩
  refine Go.cS_vn (P1 := u1 (rowI (u1 (u1 (u1 (u1 (u1 P 109 14 (-1 : Int32)) 127 (Int32.toNatClampNeg (0 : Int32)) (-1 : Int32)) 127 (Int32.toNatClampNeg (1 : Int32)) (-1 : Int32)) 127 (Int32.toNatClampNeg (2 : Int32)) (-1 : Int32)) 127 (Int32.toNatClampNeg (3 : Int32)) (-1 : Int32)) 110 0 1136 0) 110 113 (-1)) 130 (d - 1) [.ref (ad E40 110)] n40 (by decide) w_Mo_plain (e_Mo_plain hG hE0 (d - 1) (by omega) 110 3408 sh110 _ ⟨_, plainRow _ _ _ (by decide) (by decide), rfl, rfl, rfl⟩) lk1327 rfl (by omega) (Nat.le_of_ble_eq_true rfl) (by decide +kernel) _ rfl ?_
  have y197 : Zr (u1 (rowI (u1 (u1 (u1 (u1 (u1 P 109 14 (-1 : Int32)) 127 (Int32.toNatClampNeg (0 : Int32)) (-1 : Int32)) 127 (Int32.toNatClampNeg (1 : Int32)) (-1 : Int32)) 127 (Int32.toNatClampNeg (2 : Int32)) (-1 : Int32)) 127 (Int32.toNatClampNeg (3 : Int32)) (-1 : Int32)) 110 0 1136 0) 110 113 (-1)) E40 := Zr.u1 (Zr.row z40 (by rw [n40]; decide)) (by rw [n40]; decide)
  exact Go.vret rfl n40 (by decide +kernel) ⟨rfl, rfl, s40, n40, y197, b40⟩
