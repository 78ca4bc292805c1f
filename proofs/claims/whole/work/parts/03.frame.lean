/-! THE ABSTRACT MACHINE: memory as numbers by (object, place); Go: from a frame over such a memory the method comes to its end -/
abbrev PM : Type := (Nat → Nat → Int32) × (Nat → Nat → Int64)
/-- references by (object, place), how many objects there are, their addresses -/
abbrev EV : Type := (Nat → Nat → Option Nat) × Nat × (Nat → Nat)
/-- the launch, the law's start, the classes' numbers and layouts, the rows' classes, the strings' addresses -/
abbrev GX : Type := Launch × State × va_G × (Nat → ClassId) × (Nat → Nat) × (Nat → Nat)
abbrev gl (G : GX) : Launch := G.1
abbrev gs (G : GX) : State := G.2.1
abbrev gD (G : GX) : va_G := G.2.2.1
abbrev gC (G : GX) : Nat → ClassId := G.2.2.2.1
abbrev gK (G : GX) : Nat → Nat := G.2.2.2.2.1
abbrev gV (G : GX) : Nat → Nat := G.2.2.2.2.2
def AG (G : GX) : Nat → Prop := fun q => (gs G).heap.size ≤ q
abbrev ad (E : EV) (k : Nat) : Nat := E.2.2 k
def tysG (G : GX) : List (ClassId × FieldType) := (List.range 8).map (fun t => (gC G t, ety t))
def vl (P : PM) (E : EV) (ty : FieldType) (k j : Nat) : Value := match ty with
  | .long => .long (P.2 k j)
  | .object _ => va_rf ((E.1 k j).map (ad E))
  | .array _ => va_rf ((E.1 k j).map (ad E))
  | _ => .int (P.1 k j)
def arE (P : PM) (E : EV) (t k : Nat) : (Nat → Int32) ⊕ (Nat → Int64) ⊕ (Nat → UInt32) ⊕ (Nat → UInt64) ⊕ (Nat → Option Nat) :=
  if t < 3 then .inl (P.1 k) else if t = 3 then .inr (.inl (P.2 k)) else .inr (.inr (.inr (.inr (fun j => (E.1 k j).map (ad E)))))
def obE (P : PM) (E : EV) (ci k : Nat) : List Value := (List.range (cF ci)).map (fun j => vl P E (cY ci j) k j)
def ent (G : GX) (P : PM) (E : EV) (k : Nat) : va_E := match sh k with
  | .inl ci => .inr (ci, obE P E ci k)
  | .inr q => .inl (gC G q.1, q.2, arE P E q.1 k)
def wsG (G : GX) (P : PM) (E : EV) : va_W := (List.range E.2.1).map (fun k => (ad E k, ent G P E k))
theorem wsG_len (G : GX) (P : PM) (E : EV) : (wsG G P E).length = E.2.1 := by simp [wsG]
theorem wsG_at {G : GX} {P : PM} {E : EV} {k : Nat} (h : k < E.2.1) : (wsG G P E)[k]? = some (ad E k, ent G P E k) := by simp [wsG, h]
theorem wsG_set {G : GX} {P P' : PM} {E : EV} {k : Nat} {x : va_E} (h : k < E.2.1) (hx : x = ent G P' E k) (hn : ∀ j, j ≠ k → ent G P' E j = ent G P E j) : (wsG G P E).set k (ad E k, x) = wsG G P' E := by
  subst hx
  apply List.ext_getElem?
  intro i
  rw [List.getElem?_set]
  by_cases hi : k = i
  · subst hi
    rw [if_pos rfl, if_pos (by rw [wsG_len]; exact h), wsG_at h]
  · rw [if_neg hi]
    by_cases hl : i < E.2.1
    · rw [wsG_at hl, wsG_at hl, hn i (Ne.symm hi)]
    · rw [List.getElem?_eq_none (by rw [wsG_len]; omega), List.getElem?_eq_none (by rw [wsG_len]; omega)]
def u1 (P : PM) (k j : Nat) (x : Int32) : PM := (fun a b => if a = k ∧ b = j then x else P.1 a b, P.2)
def u2 (P : PM) (k j : Nat) (x : Int64) : PM := (P.1, fun a b => if a = k ∧ b = j then x else P.2 a b)
theorem u1_1 (P : PM) (k j : Nat) (x : Int32) (a b : Nat) : (u1 P k j x).1 a b = if a = k ∧ b = j then x else P.1 a b := rfl
theorem u1_2 (P : PM) (k j : Nat) (x : Int32) : (u1 P k j x).2 = P.2 := rfl
theorem u2_2 (P : PM) (k j : Nat) (x : Int64) (a b : Nat) : (u2 P k j x).2 a b = if a = k ∧ b = j then x else P.2 a b := rfl
theorem u2_1 (P : PM) (k j : Nat) (x : Int64) : (u2 P k j x).1 = P.1 := rfl
/-- a row copied: n places of k from j on are those of a from b on -/
def uc (P : PM) (a b k j n : Nat) : PM := (fun x y => if x = k ∧ j ≤ y ∧ y < j + n then P.1 a (b + (y - j)) else P.1 x y, P.2)
theorem ent_ext {G : GX} {P P' : PM} {E : EV} {k : Nat} (h1 : ∀ j, P'.1 k j = P.1 k j) (h2 : ∀ j, P'.2 k j = P.2 k j) : ent G P' E k = ent G P E k := by
  have e1 : P'.1 k = P.1 k := funext h1
  have e2 : P'.2 k = P.2 k := funext h2
  have hv : ∀ ty j, vl P' E ty k j = vl P E ty k j := fun ty j => by
    unfold vl
    cases ty <;> simp [h1 j, h2 j]
  unfold ent
  cases sh k with
  | inl c => simp only [obE, hv]
  | inr q => simp only [arE, e1, e2]
/-- the heap holds the memory -/
def Rep (G : GX) (P : PM) (E : EV) (H : Heap) : Prop :=
  va_P (gD G) classes (wsG G P E) H ∧ va_D (AG G) (wsG G P E) ∧ (∀ q : Nat, q < (gs G).heap.size → H[q]? = (gs G).heap[q]?) ∧ ∀ i : Nat, i < 4 → ad E (1000 + 2 * i) = gK G i ∧ ad E (1001 + 2 * i) = gV G i
def nestW : List (String × Nat × MethodName × String) := [("YawnRoute", 11, ⟨"YawnRoute$Tape", "<init>", "()V"⟩, "YawnRoute"), ("YawnRoute$NetReader", 11, ⟨"YawnRoute$Net", "<init>", "()V"⟩, "YawnRoute"), ("YawnRoute$NetReader", 20, ⟨"YawnRoute$State", "<init>", "()V"⟩, "YawnRoute"), ("YawnRoute", 27, ⟨"YawnRoute$Net", "<init>", "()V"⟩, "YawnRoute"), ("YawnRoute", 34, ⟨"YawnRoute$State", "<init>", "()V"⟩, "YawnRoute"), ("YawnRoute", 41, ⟨"YawnRoute$Trays", "<init>", "()V"⟩, "YawnRoute"), ("YawnRoute$Deeds", 11, ⟨"YawnRoute$State", "<init>", "()V"⟩, "YawnRoute"), ("YawnRoute$NetReader", 124, ⟨"YawnRoute$LawReader", "readTruth", "(I)V"⟩, "YawnRoute"), ("YawnRoute$NetReader", 133, ⟨"YawnRoute$LawReader", "readSum", "(I)V"⟩, "YawnRoute"), ("YawnRoute$State", 40, ⟨"YawnRoute", "has", "(II)Z"⟩, "YawnRoute"), ("YawnRoute$Deeds", 86, ⟨"YawnRoute", "isSize", "(I)Z"⟩, "YawnRoute"), ("YawnRoute$State", 44, ⟨"YawnRoute", "placeOf", "(II)I"⟩, "YawnRoute"), ("YawnRoute$Passings", 92, ⟨"YawnRoute", "isPlace", "(I)Z"⟩, "YawnRoute"), ("YawnRoute$Passings", 82, ⟨"YawnRoute", "stationIn", "(I)I"⟩, "YawnRoute"), ("YawnRoute$Passings", 85, ⟨"YawnRoute", "sizeIn", "(I)I"⟩, "YawnRoute"), ("YawnRoute$Passings", 71, ⟨"YawnRoute", "has", "(II)Z"⟩, "YawnRoute"), ("YawnRoute$Passings", 79, ⟨"YawnRoute", "placeOf", "(II)I"⟩, "YawnRoute"), ("YawnRoute$Routes", 47, ⟨"YawnRoute", "stationIn", "(I)I"⟩, "YawnRoute"), ("YawnRoute$Routes", 51, ⟨"YawnRoute", "sizeIn", "(I)I"⟩, "YawnRoute"), ("YawnRoute$Routes", 87, ⟨"YawnRoute", "isPlace", "(I)Z"⟩, "YawnRoute"), ("YawnRoute$Routes", 106, ⟨"YawnRoute", "has", "(II)Z"⟩, "YawnRoute"), ("YawnRoute$Spreading", 90, ⟨"YawnRoute", "placeOf", "(II)I"⟩, "YawnRoute"), ("YawnRoute$Steps", 56, ⟨"YawnRoute", "isPlace", "(I)Z"⟩, "YawnRoute"), ("YawnRoute$Deeds", 158, ⟨"YawnRoute", "has", "(II)Z"⟩, "YawnRoute"), ("YawnRoute$Steps", 90, ⟨"YawnRoute", "stationIn", "(I)I"⟩, "YawnRoute"), ("YawnRoute$Steps", 105, ⟨"YawnRoute", "placeOf", "(II)I"⟩, "YawnRoute")]
def sLen : List Nat := [98, 12, 99, 12]
def sByt : List (List Int32) := [[115, 116, 97, 116, 105, 111, 110, 32, 100, 117, 108, 108, 32, 107, 105, 110, 100, 32, 115, 105, 122, 101, 32, 102, 114, 111, 109, 32, 104, 111, 117, 114, 115, 32, 110, 101, 116, 32, 119, 97, 121, 32, 97, 116, 32, 116, 97, 107, 101, 115, 32, 112, 97, 115, 115, 101, 115, 32, 97, 115, 108, 101, 101, 112, 32, 111, 100, 100, 115, 32, 105, 102, 32, 116, 104, 101, 110, 32, 101, 108, 115, 101, 32, 101, 110, 100, 32, 111, 114, 32, 97, 110, 100, 32, 110, 111, 116, 32], [59, 58, 43, 45, 42, 40, 41, 91, 93, 61, 60, 62], [32, 110, 101, 116, 32, 115, 116, 97, 116, 105, 111, 110, 32, 119, 97, 121, 32, 97, 116, 32, 116, 97, 107, 101, 115, 32, 112, 97, 115, 115, 101, 115, 32, 100, 117, 108, 108, 32, 107, 105, 110, 100, 32, 97, 115, 108, 101, 101, 112, 32, 104, 111, 117, 114, 115, 32, 111, 100, 100, 115, 32, 115, 105, 122, 101, 32, 105, 102, 32, 116, 104, 101, 110, 32, 101, 108, 115, 101, 32, 101, 110, 100, 32, 102, 114, 111, 109, 32, 97, 110, 100, 32, 111, 114, 32, 110, 111, 116, 32], [59, 58, 43, 45, 42, 40, 41, 91, 93, 61, 60, 62]]
def sOwn : List (String × Nat × String) := [("YawnRoute$Tape", 80, "station dull kind size from hours net way at takes passes asleep odds if then else end or and not "), ("YawnRoute$Tape", 66, ";:+-*()[]=<>"), ("YawnRouteModel", 89, " net station way at takes passes dull kind asleep hours odds size if then else end from and or not "), ("YawnRouteModel", 127, ";:+-*()[]=<>")]
/-- what is known of a method's start -/
def Kn (G : GX) (U : State) : Prop :=
  (gs G).vm.Alike U.vm ∧ (∀ q ∈ nestW, va_Nw (.methodLinkNest q.1 q.2.1 q.2.2.1 q.2.2.2) U) ∧ (∀ i : Nat, i < 4 → ∀ o, sOwn[i]? = some o → vk_R o.1 o.2.1 o.2.2 (gK G i) U) ∧ ∀ q : Nat, q < (gs G).heap.size → U.heap[q]? = (gs G).heap[q]?
def aoA (t : FieldType) (U : State) : Prop := (Cond.arrayOver (.array t)).before #[] U = true
/-- the constant texts: their cells, that nobody writes -/
def vS4 (G : GX) : Prop := ∀ i : Nat, i < 4 → va_O "java/lang/String" (gK G i) (AG G) (gs G) (gs G).heap ∧ va_OF "java/lang/String" "coder" "B" (.int 0) (gK G i) (AG G) (gs G) (gs G).heap ∧ va_OF "java/lang/String" "value" "[B" (.ref (gV G i)) (gK G i) (AG G) (gs G) (gs G).heap ∧ va_T .byte (gV G i) (sLen.getD i 0) (fun j => .int ((sByt.getD i []).getD j 0)) (AG G) (gs G) (gs G).heap
/-- what is known of the law's start -/
def GOK (G : GX) : Prop :=
  va_K (gD G) classes (tysG G) (gs G) ∧ vS4 G ∧ va_AO "YawnRoute$State" (gs G) ∧ va_AO "YawnRoute$Net" (gs G) ∧ aoA .int (gs G) ∧ aoA .long (gs G) ∧
  va_Z "java/lang/String" "COMPACT_STRINGS" "Z" (.int 1) (AG G) (gs G) (gs G).heap ∧ (∃ v : Value, v.category = 1 ∧ va_Z "jdk/internal/util/Preconditions" "SIOOBE_FORMATTER" "Ljava/util/function/BiFunction;" v (AG G) (gs G) (gs G).heap)
def rmd (d n0 n1 : Nat) : Room := { frames := d, cells := n1 - n0, slots := tot n1 - tot n0, locals := 40 * d }
abbrev QT : Type := Option Value → PM → EV → Prop
def QC (G : GX) (Q : QT) : Array Value → State → Outcome → State → Prop := fun _ st o t => (∃ (r : Option Value) (P : PM) (E : EV), o = .returned r ∧ Q r P E ∧ Rep G P E t.heap) ∧ va_F (AG G) st t
/-- the contract of a method: from the arguments and the memory it returns, and then Q -/
def Con (G : GX) (y : MethodName) (cw : Cond) (d n0 n1 : Nat) (av : List Value) (P : PM) (E : EV) (Q : QT) : Prop :=
  Met (gl G) y (cw :: lw_gd) (rmd d n0 n1) (va_Pc av (fun U => Rep G P E U.heap ∧ Kn G U)) (QC G Q) (n1 - n0) (tot n1 - tot n0) (AG G)
/-- the fixed things of a walk -/
def Cx (G : GX) (cc : ByteArray) (own : String) (nL : Nat) (rt : Option FieldType) (ini : Bool) (p : Program) (s : State) (m : MethodId) (args : Array Value) (meth : Method) (c : Code) : Prop :=
  p.tables.exec = Jvm.exec ∧ c.code = cc ∧ c.maxLocals = nL ∧ meth.sig.returnType = rt ∧ meth.locks = false ∧ (ini = true → meth.name = "<init>") ∧ s.vm.findClass own = some m.cls ∧ (∀ w ∈ lw_gd, w.before args s = true) ∧ Kn G s ∧ GOK G
def Go (G : GX) (cc : ByteArray) (own : String) (nL : Nat) (rt : Option FieldType) (ini : Bool) (d n0 n1 : Nat) (Q : QT) (pc : Nat) (lv : List (Nat × Value)) (st : List Value) (P : PM) (E : EV) : Prop :=
  ∀ (p : Program) (e : Env) (s : State) (m : MethodId) (args : Array Value) (below : List Frame) (meth : Method) (c : Code) (H : Heap) (locs : List Loc) (ls : Array Slot),
    Cx G cc own nL rt ini p s m args meth c → va_S (AG G) s.heap H locs → Rep G P E H → lv_has ls nL lv → n0 ≤ E.2.1 →
    W p (gl G) e (rmd d n0 n1) s m args below meth c H locs (E.2.1 - n0) (tot E.2.1 - tot n0) (MQ below (QC G Q) args s (n1 - n0) (tot n1 - tot n0) (AG G)) (F0 m pc ls st)
theorem Kn_blind {G : GX} {av : List Value} {P : PM} {E : EV} : FrameBlind (va_Pc av (fun U => Rep G P E U.heap ∧ Kn G U)) := by
  intro a U g mk h
  refine ⟨h.1, h.2.1, ?_⟩
  obtain ⟨h1, h2, h3, h4⟩ := h.2.2
  exact ⟨h1, fun q hq => va_Nw.same rfl rfl (h2 q hq), fun i hi o ho => vk_R.same rfl (h3 i hi o ho), h4⟩
theorem Kn_warm {G : GX} {s U : State} (h : Kn G s) (hW : s.WarmedH U.vm) (hH : ∀ q : Nat, q < (gs G).heap.size → U.heap[q]? = (gs G).heap[q]?) : Kn G U :=
  ⟨h.1.trans hW.alike, fun q hq => va_Nw.warmM hW (h.2.1 q hq), fun i hi o ho => vk_R.warm hW (h.2.2.1 i hi o ho), hH⟩
theorem Con.of {G : GX} (hG : GOK G) {y : MethodName} {cc : ByteArray} {own : String} {nL : Nat} {rt : Option FieldType} {ini : Bool} {d n0 n1 : Nat} {av : List Value} {P : PM} {E : EV} {Q : QT}
    (hy : plainFor y = true) (ho : y.cls = own) (hini : ini = true → y.name = "<init>") (hn : E.2.1 = n0) (hlen : (lg_sl av).length ≤ nL)
    (h : Go G cc own nL rt ini d n0 n1 Q 0 (lv_args 0 av) [] P E) : Con G y (.code y cc nL rt) d n0 n1 av P E Q := by
  refine va_MetF (cc := cc) (maxL := nL) (ret := rt) hy rfl ?_
  intro p e s m args below meth c s₁ B hml hv
  obtain ⟨rfl, hR, hK⟩ := hv
  have hts := atoms_spec (ws := Cond.code y cc nL rt :: lw_gd) B.pre
  have hown : s.vm.findClass own = some m.cls := ho ▸ findClass_of_methodNamed B.named
  rw [lg_entry_eq]
  have hl := lv_entry av hlen
  have k := h p e s m av.toArray below meth c s.heap [] _ ⟨B.exec, B.bytes, hml, B.returns, B.notSynchronized, fun hi => (name_of_methodNamed B.named B.method).1.trans (hini hi), hown, fun w hw => hts w (List.mem_cons_of_mem _ hw), hK, hG⟩ va_S.rf hR hl (by omega)
  have e1 : E.2.1 - n0 = 0 := by omega
  have e2 : tot E.2.1 - tot n0 = 0 := by rw [hn]; omega
  rw [e1, e2] at k
  exact k
section GO
variable {G : GX} {cc : ByteArray} {own : String} {nL : Nat} {rt : Option FieldType} {ini : Bool} {d n0 n1 : Nat} {Q : QT} {pc : Nat} {lv : List (Nat × Value)} {st : List Value} {P : PM} {E : EV}
theorem Go.iconst {n : Int} (v : Int32) (hd : decode cc pc = .ok (.iconst n, 1)) (hv : Int32.ofInt n = v) (k : Go G cc own nL rt ini d n0 n1 Q (pc + 1) lv (.int v :: st) P E) : Go G cc own nL rt ini d n0 n1 Q pc lv st P E :=
  fun p e s m a b me c H lo ls C hS hR hl hn => lv_iconst C.1 C.2.1 hd hv (k p e s m a b me c H lo ls C hS hR hl hn)
theorem Go.bipush {n : Int} (v : Int32) (hd : decode cc pc = .ok (.bipush n, 2)) (hv : (Int8.ofInt n).toInt32 = v) (k : Go G cc own nL rt ini d n0 n1 Q (pc + 2) lv (.int v :: st) P E) : Go G cc own nL rt ini d n0 n1 Q pc lv st P E :=
  fun p e s m a b me c H lo ls C hS hR hl hn => lv_bipush C.1 C.2.1 hd hv (k p e s m a b me c H lo ls C hS hR hl hn)
theorem Go.sipush {n : Int} (v : Int32) (hd : decode cc pc = .ok (.sipush n, 3)) (hv : (Int16.ofInt n).toInt32 = v) (k : Go G cc own nL rt ini d n0 n1 Q (pc + 3) lv (.int v :: st) P E) : Go G cc own nL rt ini d n0 n1 Q pc lv st P E :=
  fun p e s m a b me c H lo ls C hS hR hl hn => lv_sipush C.1 C.2.1 hd hv (k p e s m a b me c H lo ls C hS hR hl hn)
theorem Go.lconst {n : Fin 2} (v : Int64) (hd : decode cc pc = .ok (.lconst n, 1)) (hv : Int64.ofNat (n : Nat) = v) (k : Go G cc own nL rt ini d n0 n1 Q (pc + 1) lv (.long v :: st) P E) : Go G cc own nL rt ini d n0 n1 Q pc lv st P E :=
  fun p e s m a b me c H lo ls C hS hR hl hn => lv_lconst C.1 C.2.1 hd hv (k p e s m a b me c H lo ls C hS hR hl hn)
theorem Go.ldc {idx : Nat} (v : Int32) (hw : Cond.constant own idx v ∈ lw_gd) (hd : decode cc pc = .ok (.ldc idx, 2)) (k : Go G cc own nL rt ini d n0 n1 Q (pc + 2) lv (.int v :: st) P E) : Go G cc own nL rt ini d n0 n1 Q pc lv st P E :=
  fun p e s m a b me c H lo ls C hS hR hl hn => lv_ldc C.1 C.2.1 C.2.2.2.2.2.2.1 (C.2.2.2.2.2.2.2.1 _ hw) hd (k p e s m a b me c H lo ls C hS hR hl hn)
theorem Go.ldcw {idx : Nat} (v : Int32) (hw : Cond.constant own idx v ∈ lw_gd) (hd : decode cc pc = .ok (.ldc_w idx, 3)) (k : Go G cc own nL rt ini d n0 n1 Q (pc + 3) lv (.int v :: st) P E) : Go G cc own nL rt ini d n0 n1 Q pc lv st P E :=
  fun p e s m a b me c H lo ls C hS hR hl hn => lv_ldcw C.1 C.2.1 C.2.2.2.2.2.2.1 (C.2.2.2.2.2.2.2.1 _ hw) hd (k p e s m a b me c H lo ls C hS hR hl hn)
theorem Go.ldc2 {idx : Nat} (v : Int64) (hw : Cond.constantLong own idx v ∈ lw_gd) (hd : decode cc pc = .ok (.ldc2_w idx, 3)) (k : Go G cc own nL rt ini d n0 n1 Q (pc + 3) lv (.long v :: st) P E) : Go G cc own nL rt ini d n0 n1 Q pc lv st P E :=
  fun p e s m a b me c H lo ls C hS hR hl hn => lv_ldc2 C.1 C.2.1 C.2.2.2.2.2.2.1 (C.2.2.2.2.2.2.2.1 _ hw) hd (k p e s m a b me c H lo ls C hS hR hl hn)
theorem Go.ldcS {idx : Nat} (i : Nat) {tx : String} (hi : i < 4) (ho : sOwn[i]? = some (own, idx, tx)) (hd : decode cc pc = .ok (.ldc idx, 2)) (k : Go G cc own nL rt ini d n0 n1 Q (pc + 2) lv (.ref (ad E (1000 + 2 * i)) :: st) P E) : Go G cc own nL rt ini d n0 n1 Q pc lv st P E := by
  intro p e s m a b me c H lo ls C hS hR hl hn
  have hk := k p e s m a b me c H lo ls C hS hR hl hn
  rw [(hR.2.2.2 i hi).1] at hk
  exact va_ldcS C.1 C.2.1 C.2.2.2.2.2.2.1 (C.2.2.2.2.2.2.2.2.1.2.2.1 i hi _ ho) hd hk
theorem Go.iload_n {k : Fin 4} {i : Nat} (q : Nat) {x : Int32} (hd : decode cc pc = .ok (.iload_n k, 1)) (hi : (k : Nat) = i) (hq : lv[q]? = some (i, .int x)) (g : Go G cc own nL rt ini d n0 n1 Q (pc + 1) lv (.int x :: st) P E) : Go G cc own nL rt ini d n0 n1 Q pc lv st P E :=
  fun p e s m a b me c H lo ls C hS hR hl hn => lv_iload_n C.1 C.2.1 hd hi (lv_at hl q hq) (g p e s m a b me c H lo ls C hS hR hl hn)
theorem Go.iload {i : Nat} (q : Nat) {x : Int32} (hd : decode cc pc = .ok (.iload i, 2)) (hq : lv[q]? = some (i, .int x)) (g : Go G cc own nL rt ini d n0 n1 Q (pc + 2) lv (.int x :: st) P E) : Go G cc own nL rt ini d n0 n1 Q pc lv st P E :=
  fun p e s m a b me c H lo ls C hS hR hl hn => lv_iload C.1 C.2.1 hd (lv_at hl q hq) (g p e s m a b me c H lo ls C hS hR hl hn)
theorem Go.lload_n {k : Fin 4} {i : Nat} (q : Nat) {x : Int64} (hd : decode cc pc = .ok (.lload_n k, 1)) (hi : (k : Nat) = i) (hq : lv[q]? = some (i, .long x)) (g : Go G cc own nL rt ini d n0 n1 Q (pc + 1) lv (.long x :: st) P E) : Go G cc own nL rt ini d n0 n1 Q pc lv st P E :=
  fun p e s m a b me c H lo ls C hS hR hl hn => lv_lload_n C.1 C.2.1 hd hi (lv_at hl q hq) (g p e s m a b me c H lo ls C hS hR hl hn)
theorem Go.lload {i : Nat} (q : Nat) {x : Int64} (hd : decode cc pc = .ok (.lload i, 2)) (hq : lv[q]? = some (i, .long x)) (g : Go G cc own nL rt ini d n0 n1 Q (pc + 2) lv (.long x :: st) P E) : Go G cc own nL rt ini d n0 n1 Q pc lv st P E :=
  fun p e s m a b me c H lo ls C hS hR hl hn => lv_lload C.1 C.2.1 hd (lv_at hl q hq) (g p e s m a b me c H lo ls C hS hR hl hn)
theorem Go.aload_n {k : Fin 4} {i : Nat} (q : Nat) {x : Nat} (hd : decode cc pc = .ok (.aload_n k, 1)) (hi : (k : Nat) = i) (hq : lv[q]? = some (i, .ref x)) (g : Go G cc own nL rt ini d n0 n1 Q (pc + 1) lv (.ref x :: st) P E) : Go G cc own nL rt ini d n0 n1 Q pc lv st P E :=
  fun p e s m a b me c H lo ls C hS hR hl hn => lv_aload_n C.1 C.2.1 hd hi (lv_at hl q hq) (g p e s m a b me c H lo ls C hS hR hl hn)
theorem Go.aload {i : Nat} (q : Nat) {x : Nat} (hd : decode cc pc = .ok (.aload i, 2)) (hq : lv[q]? = some (i, .ref x)) (g : Go G cc own nL rt ini d n0 n1 Q (pc + 2) lv (.ref x :: st) P E) : Go G cc own nL rt ini d n0 n1 Q pc lv st P E :=
  fun p e s m a b me c H lo ls C hS hR hl hn => lv_aload C.1 C.2.1 hd (lv_at hl q hq) (g p e s m a b me c H lo ls C hS hR hl hn)
theorem Go.istore_n {k : Fin 4} {i : Nat} {x : Int32} (lv' : List (Nat × Value)) (hd : decode cc pc = .ok (.istore_n k, 1)) (hi : (k : Nat) = i) (hn' : i < nL) (hl' : (i, Value.int x) :: lv.filter (fun q => !(q.1 == i) && !(q.1 + 1 == i && q.2.category == 2)) = lv') (g : Go G cc own nL rt ini d n0 n1 Q (pc + 1) lv' st P E) : Go G cc own nL rt ini d n0 n1 Q pc lv (.int x :: st) P E :=
  fun p e s m a b me c H lo ls C hS hR hl hn => lv_istore_n C.1 C.2.1 hd hi hl hn' hl' (fun ls hl => g p e s m a b me c H lo ls C hS hR hl hn)
theorem Go.istore {i : Nat} {x : Int32} (lv' : List (Nat × Value)) (hd : decode cc pc = .ok (.istore i, 2)) (hn' : i < nL) (hl' : (i, Value.int x) :: lv.filter (fun q => !(q.1 == i) && !(q.1 + 1 == i && q.2.category == 2)) = lv') (g : Go G cc own nL rt ini d n0 n1 Q (pc + 2) lv' st P E) : Go G cc own nL rt ini d n0 n1 Q pc lv (.int x :: st) P E :=
  fun p e s m a b me c H lo ls C hS hR hl hn => lv_istore C.1 C.2.1 hd hl hn' hl' (fun ls hl => g p e s m a b me c H lo ls C hS hR hl hn)
theorem Go.lstore_n {k : Fin 4} {i : Nat} {x : Int64} (lv' : List (Nat × Value)) (hd : decode cc pc = .ok (.lstore_n k, 1)) (hi : (k : Nat) = i) (hn' : i + 1 < nL) (hl' : (i, Value.long x) :: lv.filter (fun q => !(q.1 == i) && (!(q.1 == i + 1) && !(q.1 + 1 == i && q.2.category == 2))) = lv') (g : Go G cc own nL rt ini d n0 n1 Q (pc + 1) lv' st P E) : Go G cc own nL rt ini d n0 n1 Q pc lv (.long x :: st) P E :=
  fun p e s m a b me c H lo ls C hS hR hl hn => lv_lstore_n C.1 C.2.1 hd hi hl hn' hl' (fun ls hl => g p e s m a b me c H lo ls C hS hR hl hn)
theorem Go.lstore {i : Nat} {x : Int64} (lv' : List (Nat × Value)) (hd : decode cc pc = .ok (.lstore i, 2)) (hn' : i + 1 < nL) (hl' : (i, Value.long x) :: lv.filter (fun q => !(q.1 == i) && (!(q.1 == i + 1) && !(q.1 + 1 == i && q.2.category == 2))) = lv') (g : Go G cc own nL rt ini d n0 n1 Q (pc + 2) lv' st P E) : Go G cc own nL rt ini d n0 n1 Q pc lv (.long x :: st) P E :=
  fun p e s m a b me c H lo ls C hS hR hl hn => lv_lstore C.1 C.2.1 hd hl hn' hl' (fun ls hl => g p e s m a b me c H lo ls C hS hR hl hn)
theorem Go.astore_n {k : Fin 4} {i : Nat} {x : Nat} (lv' : List (Nat × Value)) (hd : decode cc pc = .ok (.astore_n k, 1)) (hi : (k : Nat) = i) (hn' : i < nL) (hl' : (i, Value.ref x) :: lv.filter (fun q => !(q.1 == i) && !(q.1 + 1 == i && q.2.category == 2)) = lv') (g : Go G cc own nL rt ini d n0 n1 Q (pc + 1) lv' st P E) : Go G cc own nL rt ini d n0 n1 Q pc lv (.ref x :: st) P E :=
  fun p e s m a b me c H lo ls C hS hR hl hn => lv_astore_n C.1 C.2.1 hd hi hl hn' hl' (fun ls hl => g p e s m a b me c H lo ls C hS hR hl hn)
theorem Go.iinc {i : Nat} (q : Nat) {n : Int} {x : Int32} (v : Int32) (lv' : List (Nat × Value)) (hd : decode cc pc = .ok (.iinc i n, 3)) (hq : lv[q]? = some (i, .int x)) (hv : x + Int32.ofInt n = v) (hn' : i < nL) (hl' : (i, Value.int v) :: lv.filter (fun q => !(q.1 == i) && !(q.1 + 1 == i && q.2.category == 2)) = lv') (g : Go G cc own nL rt ini d n0 n1 Q (pc + 3) lv' st P E) : Go G cc own nL rt ini d n0 n1 Q pc lv st P E :=
  fun p e s m a b me c H lo ls C hS hR hl hn => lv_iinc C.1 C.2.1 hd hl hq hv hn' hl' (fun ls hl => g p e s m a b me c H lo ls C hS hR hl hn)
theorem Go.sub (ks : List Nat) (lv' : List (Nat × Value)) (h : lv_pick lv ks = lv') (g : Go G cc own nL rt ini d n0 n1 Q pc lv' st P E) : Go G cc own nL rt ini d n0 n1 Q pc lv st P E :=
  fun p e s m a b me c H lo ls C hS hR hl hn => g p e s m a b me c H lo ls C hS hR (lv_sub hl ks h) hn
theorem Go.iadd {x y : Int32} (hd : decode cc pc = .ok (.iadd, 1)) (k : Go G cc own nL rt ini d n0 n1 Q (pc + 1) lv (.int (x + y) :: st) P E) : Go G cc own nL rt ini d n0 n1 Q pc lv (.int y :: .int x :: st) P E :=
  fun p e s m a b me c H lo ls C hS hR hl hn => lv_iadd C.1 C.2.1 hd (k p e s m a b me c H lo ls C hS hR hl hn)
theorem Go.isub {x y : Int32} (hd : decode cc pc = .ok (.isub, 1)) (k : Go G cc own nL rt ini d n0 n1 Q (pc + 1) lv (.int (x - y) :: st) P E) : Go G cc own nL rt ini d n0 n1 Q pc lv (.int y :: .int x :: st) P E :=
  fun p e s m a b me c H lo ls C hS hR hl hn => lv_isub C.1 C.2.1 hd (k p e s m a b me c H lo ls C hS hR hl hn)
theorem Go.imul {x y : Int32} (hd : decode cc pc = .ok (.imul, 1)) (k : Go G cc own nL rt ini d n0 n1 Q (pc + 1) lv (.int (x * y) :: st) P E) : Go G cc own nL rt ini d n0 n1 Q pc lv (.int y :: .int x :: st) P E :=
  fun p e s m a b me c H lo ls C hS hR hl hn => lv_imul C.1 C.2.1 hd (k p e s m a b me c H lo ls C hS hR hl hn)
theorem Go.iand {x y : Int32} (hd : decode cc pc = .ok (.iand, 1)) (k : Go G cc own nL rt ini d n0 n1 Q (pc + 1) lv (.int (x &&& y) :: st) P E) : Go G cc own nL rt ini d n0 n1 Q pc lv (.int y :: .int x :: st) P E :=
  fun p e s m a b me c H lo ls C hS hR hl hn => lv_iand C.1 C.2.1 hd (k p e s m a b me c H lo ls C hS hR hl hn)
theorem Go.ior {x y : Int32} (hd : decode cc pc = .ok (.ior, 1)) (k : Go G cc own nL rt ini d n0 n1 Q (pc + 1) lv (.int (x ||| y) :: st) P E) : Go G cc own nL rt ini d n0 n1 Q pc lv (.int y :: .int x :: st) P E :=
  fun p e s m a b me c H lo ls C hS hR hl hn => lv_ior C.1 C.2.1 hd (k p e s m a b me c H lo ls C hS hR hl hn)
theorem Go.ixor {x y : Int32} (hd : decode cc pc = .ok (.ixor, 1)) (k : Go G cc own nL rt ini d n0 n1 Q (pc + 1) lv (.int (x ^^^ y) :: st) P E) : Go G cc own nL rt ini d n0 n1 Q pc lv (.int y :: .int x :: st) P E :=
  fun p e s m a b me c H lo ls C hS hR hl hn => lv_ixor C.1 C.2.1 hd (k p e s m a b me c H lo ls C hS hR hl hn)
theorem Go.idiv {x y : Int32} (hd : decode cc pc = .ok (.idiv, 1)) (hy : ¬ y = 0) (k : Go G cc own nL rt ini d n0 n1 Q (pc + 1) lv (.int (x / y) :: st) P E) : Go G cc own nL rt ini d n0 n1 Q pc lv (.int y :: .int x :: st) P E :=
  fun p e s m a b me c H lo ls C hS hR hl hn => lv_idiv C.1 C.2.1 hd hy (k p e s m a b me c H lo ls C hS hR hl hn)
theorem Go.irem {x y : Int32} (hd : decode cc pc = .ok (.irem, 1)) (hy : ¬ y = 0) (k : Go G cc own nL rt ini d n0 n1 Q (pc + 1) lv (.int (x - x / y * y) :: st) P E) : Go G cc own nL rt ini d n0 n1 Q pc lv (.int y :: .int x :: st) P E :=
  fun p e s m a b me c H lo ls C hS hR hl hn => lv_irem C.1 C.2.1 hd hy (k p e s m a b me c H lo ls C hS hR hl hn)
theorem Go.ladd {x y : Int64} (hd : decode cc pc = .ok (.ladd, 1)) (k : Go G cc own nL rt ini d n0 n1 Q (pc + 1) lv (.long (x + y) :: st) P E) : Go G cc own nL rt ini d n0 n1 Q pc lv (.long y :: .long x :: st) P E :=
  fun p e s m a b me c H lo ls C hS hR hl hn => lv_ladd C.1 C.2.1 hd (k p e s m a b me c H lo ls C hS hR hl hn)
theorem Go.lsub {x y : Int64} (hd : decode cc pc = .ok (.lsub, 1)) (k : Go G cc own nL rt ini d n0 n1 Q (pc + 1) lv (.long (x - y) :: st) P E) : Go G cc own nL rt ini d n0 n1 Q pc lv (.long y :: .long x :: st) P E :=
  fun p e s m a b me c H lo ls C hS hR hl hn => lv_lsub C.1 C.2.1 hd (k p e s m a b me c H lo ls C hS hR hl hn)
theorem Go.lmul {x y : Int64} (hd : decode cc pc = .ok (.lmul, 1)) (k : Go G cc own nL rt ini d n0 n1 Q (pc + 1) lv (.long (x * y) :: st) P E) : Go G cc own nL rt ini d n0 n1 Q pc lv (.long y :: .long x :: st) P E :=
  fun p e s m a b me c H lo ls C hS hR hl hn => lv_lmul C.1 C.2.1 hd (k p e s m a b me c H lo ls C hS hR hl hn)
theorem Go.land {x y : Int64} (hd : decode cc pc = .ok (.land, 1)) (k : Go G cc own nL rt ini d n0 n1 Q (pc + 1) lv (.long (x &&& y) :: st) P E) : Go G cc own nL rt ini d n0 n1 Q pc lv (.long y :: .long x :: st) P E :=
  fun p e s m a b me c H lo ls C hS hR hl hn => lv_land C.1 C.2.1 hd (k p e s m a b me c H lo ls C hS hR hl hn)
theorem Go.lor {x y : Int64} (hd : decode cc pc = .ok (.lor, 1)) (k : Go G cc own nL rt ini d n0 n1 Q (pc + 1) lv (.long (x ||| y) :: st) P E) : Go G cc own nL rt ini d n0 n1 Q pc lv (.long y :: .long x :: st) P E :=
  fun p e s m a b me c H lo ls C hS hR hl hn => lv_lor C.1 C.2.1 hd (k p e s m a b me c H lo ls C hS hR hl hn)
theorem Go.lxor {x y : Int64} (hd : decode cc pc = .ok (.lxor, 1)) (k : Go G cc own nL rt ini d n0 n1 Q (pc + 1) lv (.long (x ^^^ y) :: st) P E) : Go G cc own nL rt ini d n0 n1 Q pc lv (.long y :: .long x :: st) P E :=
  fun p e s m a b me c H lo ls C hS hR hl hn => lv_lxor C.1 C.2.1 hd (k p e s m a b me c H lo ls C hS hR hl hn)
theorem Go.ldiv {x y : Int64} (hd : decode cc pc = .ok (.ldiv, 1)) (hy : ¬ y = 0) (k : Go G cc own nL rt ini d n0 n1 Q (pc + 1) lv (.long (x / y) :: st) P E) : Go G cc own nL rt ini d n0 n1 Q pc lv (.long y :: .long x :: st) P E :=
  fun p e s m a b me c H lo ls C hS hR hl hn => lv_ldiv C.1 C.2.1 hd hy (k p e s m a b me c H lo ls C hS hR hl hn)
theorem Go.lrem {x y : Int64} (hd : decode cc pc = .ok (.lrem, 1)) (hy : ¬ y = 0) (k : Go G cc own nL rt ini d n0 n1 Q (pc + 1) lv (.long (x - x / y * y) :: st) P E) : Go G cc own nL rt ini d n0 n1 Q pc lv (.long y :: .long x :: st) P E :=
  fun p e s m a b me c H lo ls C hS hR hl hn => lv_lrem C.1 C.2.1 hd hy (k p e s m a b me c H lo ls C hS hR hl hn)
theorem Go.ishl {x y : Int32} (hd : decode cc pc = .ok (.ishl, 1)) (k : Go G cc own nL rt ini d n0 n1 Q (pc + 1) lv (.int (x <<< (y &&& 31)) :: st) P E) : Go G cc own nL rt ini d n0 n1 Q pc lv (.int y :: .int x :: st) P E :=
  fun p e s m a b me c H lo ls C hS hR hl hn => lv_ishl C.1 C.2.1 hd (k p e s m a b me c H lo ls C hS hR hl hn)
theorem Go.ishr {x y : Int32} (hd : decode cc pc = .ok (.ishr, 1)) (k : Go G cc own nL rt ini d n0 n1 Q (pc + 1) lv (.int (x >>> (y &&& 31)) :: st) P E) : Go G cc own nL rt ini d n0 n1 Q pc lv (.int y :: .int x :: st) P E :=
  fun p e s m a b me c H lo ls C hS hR hl hn => lv_ishr C.1 C.2.1 hd (k p e s m a b me c H lo ls C hS hR hl hn)
theorem Go.iushr {x y : Int32} (hd : decode cc pc = .ok (.iushr, 1)) (k : Go G cc own nL rt ini d n0 n1 Q (pc + 1) lv (.int ((x.toUInt32 >>> (y.toUInt32 &&& Int32.toUInt32 31)).toInt32) :: st) P E) : Go G cc own nL rt ini d n0 n1 Q pc lv (.int y :: .int x :: st) P E :=
  fun p e s m a b me c H lo ls C hS hR hl hn => lv_iushr C.1 C.2.1 hd rfl (k p e s m a b me c H lo ls C hS hR hl hn)
theorem Go.lshl {x : Int64} {y : Int32} (hd : decode cc pc = .ok (.lshl, 1)) (k : Go G cc own nL rt ini d n0 n1 Q (pc + 1) lv (.long (x <<< (y.toInt64 &&& 63)) :: st) P E) : Go G cc own nL rt ini d n0 n1 Q pc lv (.int y :: .long x :: st) P E :=
  fun p e s m a b me c H lo ls C hS hR hl hn => lv_lshl C.1 C.2.1 hd rfl (k p e s m a b me c H lo ls C hS hR hl hn)
theorem Go.lshr {x : Int64} {y : Int32} (hd : decode cc pc = .ok (.lshr, 1)) (k : Go G cc own nL rt ini d n0 n1 Q (pc + 1) lv (.long (x >>> (y.toInt64 &&& 63)) :: st) P E) : Go G cc own nL rt ini d n0 n1 Q pc lv (.int y :: .long x :: st) P E :=
  fun p e s m a b me c H lo ls C hS hR hl hn => lv_lshr C.1 C.2.1 hd rfl (k p e s m a b me c H lo ls C hS hR hl hn)
theorem Go.lushr {x : Int64} {y : Int32} (hd : decode cc pc = .ok (.lushr, 1)) (k : Go G cc own nL rt ini d n0 n1 Q (pc + 1) lv (.long ((x.toUInt64 >>> (y.toInt64.toUInt64 &&& Int64.toUInt64 63)).toInt64) :: st) P E) : Go G cc own nL rt ini d n0 n1 Q pc lv (.int y :: .long x :: st) P E :=
  fun p e s m a b me c H lo ls C hS hR hl hn => lv_lushr C.1 C.2.1 hd rfl (k p e s m a b me c H lo ls C hS hR hl hn)
theorem Go.ineg {x : Int32} (hd : decode cc pc = .ok (.ineg, 1)) (k : Go G cc own nL rt ini d n0 n1 Q (pc + 1) lv (.int (-x) :: st) P E) : Go G cc own nL rt ini d n0 n1 Q pc lv (.int x :: st) P E :=
  fun p e s m a b me c H lo ls C hS hR hl hn => lv_ineg C.1 C.2.1 hd (k p e s m a b me c H lo ls C hS hR hl hn)
theorem Go.i2l {x : Int32} (hd : decode cc pc = .ok (.i2l, 1)) (k : Go G cc own nL rt ini d n0 n1 Q (pc + 1) lv (.long (x.toInt64) :: st) P E) : Go G cc own nL rt ini d n0 n1 Q pc lv (.int x :: st) P E :=
  fun p e s m a b me c H lo ls C hS hR hl hn => lv_i2l C.1 C.2.1 hd rfl (k p e s m a b me c H lo ls C hS hR hl hn)
theorem Go.l2i {x : Int64} (hd : decode cc pc = .ok (.l2i, 1)) (k : Go G cc own nL rt ini d n0 n1 Q (pc + 1) lv (.int (x.toInt32) :: st) P E) : Go G cc own nL rt ini d n0 n1 Q pc lv (.long x :: st) P E :=
  fun p e s m a b me c H lo ls C hS hR hl hn => lv_l2i C.1 C.2.1 hd rfl (k p e s m a b me c H lo ls C hS hR hl hn)
theorem Go.i2b {x : Int32} (hd : decode cc pc = .ok (.i2b, 1)) (k : Go G cc own nL rt ini d n0 n1 Q (pc + 1) lv (.int (x.toInt8.toInt32) :: st) P E) : Go G cc own nL rt ini d n0 n1 Q pc lv (.int x :: st) P E :=
  fun p e s m a b me c H lo ls C hS hR hl hn => lv_i2b C.1 C.2.1 hd rfl (k p e s m a b me c H lo ls C hS hR hl hn)
theorem Go.i2s {x : Int32} (hd : decode cc pc = .ok (.i2s, 1)) (k : Go G cc own nL rt ini d n0 n1 Q (pc + 1) lv (.int (x.toInt16.toInt32) :: st) P E) : Go G cc own nL rt ini d n0 n1 Q pc lv (.int x :: st) P E :=
  fun p e s m a b me c H lo ls C hS hR hl hn => lv_i2s C.1 C.2.1 hd rfl (k p e s m a b me c H lo ls C hS hR hl hn)
theorem Go.i2c {x : Int32} (hd : decode cc pc = .ok (.i2c, 1)) (k : Go G cc own nL rt ini d n0 n1 Q (pc + 1) lv (.int ((x.toUInt32 % 65536).toInt32) :: st) P E) : Go G cc own nL rt ini d n0 n1 Q pc lv (.int x :: st) P E :=
  fun p e s m a b me c H lo ls C hS hR hl hn => lv_i2c C.1 C.2.1 hd rfl (k p e s m a b me c H lo ls C hS hR hl hn)
theorem Go.lcmp {x y : Int64} (hd : decode cc pc = .ok (.lcmp, 1)) (k : Go G cc own nL rt ini d n0 n1 Q (pc + 1) lv (.int (lg_cmp x y) :: st) P E) : Go G cc own nL rt ini d n0 n1 Q pc lv (.long y :: .long x :: st) P E :=
  fun p e s m a b me c H lo ls C hS hR hl hn => W.lcmp C.1 C.2.1 hd (k p e s m a b me c H lo ls C hS hR hl hn)
theorem Go.dup {v : Value} (hd : decode cc pc = .ok (.dup, 1)) (hv : v.category = 1) (k : Go G cc own nL rt ini d n0 n1 Q (pc + 1) lv (v :: v :: st) P E) : Go G cc own nL rt ini d n0 n1 Q pc lv (v :: st) P E :=
  fun p e s m a b me c H lo ls C hS hR hl hn => lv_dup C.1 C.2.1 hd hv (k p e s m a b me c H lo ls C hS hR hl hn)
theorem Go.dup2 {v w : Value} (hd : decode cc pc = .ok (.dup2, 1)) (hv : v.category = 1) (hw : w.category = 1) (k : Go G cc own nL rt ini d n0 n1 Q (pc + 1) lv (v :: w :: v :: w :: st) P E) : Go G cc own nL rt ini d n0 n1 Q pc lv (v :: w :: st) P E :=
  fun p e s m a b me c H lo ls C hS hR hl hn => lv_dup2_11 C.1 C.2.1 hd hv hw (k p e s m a b me c H lo ls C hS hR hl hn)
theorem Go.pop {v : Value} (hd : decode cc pc = .ok (.pop, 1)) (hv : v.category = 1) (k : Go G cc own nL rt ini d n0 n1 Q (pc + 1) lv st P E) : Go G cc own nL rt ini d n0 n1 Q pc lv (v :: st) P E :=
  fun p e s m a b me c H lo ls C hS hR hl hn => lv_pop C.1 C.2.1 hd hv (k p e s m a b me c H lo ls C hS hR hl hn)
theorem Go.if_eq {x : Int32} {off : Int} (tgt : Nat) (hd : decode cc pc = .ok (.ifCond .eq off, 3)) (ht : (pc : Int) + off = (tgt : Int)) (kt : x = 0 → Go G cc own nL rt ini d n0 n1 Q tgt lv st P E) (kf : ¬ x = 0 → Go G cc own nL rt ini d n0 n1 Q (pc + 3) lv st P E) : Go G cc own nL rt ini d n0 n1 Q pc lv (.int x :: st) P E :=
  fun p e s m a b me c H lo ls C hS hR hl hn => lv_if_eq C.1 C.2.1 hd ht (fun q => kt q p e s m a b me c H lo ls C hS hR hl hn) (fun q => kf q p e s m a b me c H lo ls C hS hR hl hn)
theorem Go.icmp_eq {x y : Int32} {off : Int} (tgt : Nat) (hd : decode cc pc = .ok (.if_icmp .eq off, 3)) (ht : (pc : Int) + off = (tgt : Int)) (kt : x = y → Go G cc own nL rt ini d n0 n1 Q tgt lv st P E) (kf : ¬ x = y → Go G cc own nL rt ini d n0 n1 Q (pc + 3) lv st P E) : Go G cc own nL rt ini d n0 n1 Q pc lv (.int y :: .int x :: st) P E :=
  fun p e s m a b me c H lo ls C hS hR hl hn => lv_icmp_eq C.1 C.2.1 hd ht (fun q => kt q p e s m a b me c H lo ls C hS hR hl hn) (fun q => kf q p e s m a b me c H lo ls C hS hR hl hn)
theorem Go.if_ne {x : Int32} {off : Int} (tgt : Nat) (hd : decode cc pc = .ok (.ifCond .ne off, 3)) (ht : (pc : Int) + off = (tgt : Int)) (kt : ¬ x = 0 → Go G cc own nL rt ini d n0 n1 Q tgt lv st P E) (kf : x = 0 → Go G cc own nL rt ini d n0 n1 Q (pc + 3) lv st P E) : Go G cc own nL rt ini d n0 n1 Q pc lv (.int x :: st) P E :=
  fun p e s m a b me c H lo ls C hS hR hl hn => lv_if_ne C.1 C.2.1 hd ht (fun q => kt q p e s m a b me c H lo ls C hS hR hl hn) (fun q => kf q p e s m a b me c H lo ls C hS hR hl hn)
theorem Go.icmp_ne {x y : Int32} {off : Int} (tgt : Nat) (hd : decode cc pc = .ok (.if_icmp .ne off, 3)) (ht : (pc : Int) + off = (tgt : Int)) (kt : ¬ x = y → Go G cc own nL rt ini d n0 n1 Q tgt lv st P E) (kf : x = y → Go G cc own nL rt ini d n0 n1 Q (pc + 3) lv st P E) : Go G cc own nL rt ini d n0 n1 Q pc lv (.int y :: .int x :: st) P E :=
  fun p e s m a b me c H lo ls C hS hR hl hn => lv_icmp_ne C.1 C.2.1 hd ht (fun q => kt q p e s m a b me c H lo ls C hS hR hl hn) (fun q => kf q p e s m a b me c H lo ls C hS hR hl hn)
theorem Go.if_lt {x : Int32} {off : Int} (tgt : Nat) (hd : decode cc pc = .ok (.ifCond .lt off, 3)) (ht : (pc : Int) + off = (tgt : Int)) (kt : x < 0 → Go G cc own nL rt ini d n0 n1 Q tgt lv st P E) (kf : ¬ x < 0 → Go G cc own nL rt ini d n0 n1 Q (pc + 3) lv st P E) : Go G cc own nL rt ini d n0 n1 Q pc lv (.int x :: st) P E :=
  fun p e s m a b me c H lo ls C hS hR hl hn => lv_if_lt C.1 C.2.1 hd ht (fun q => kt q p e s m a b me c H lo ls C hS hR hl hn) (fun q => kf q p e s m a b me c H lo ls C hS hR hl hn)
theorem Go.icmp_lt {x y : Int32} {off : Int} (tgt : Nat) (hd : decode cc pc = .ok (.if_icmp .lt off, 3)) (ht : (pc : Int) + off = (tgt : Int)) (kt : x < y → Go G cc own nL rt ini d n0 n1 Q tgt lv st P E) (kf : ¬ x < y → Go G cc own nL rt ini d n0 n1 Q (pc + 3) lv st P E) : Go G cc own nL rt ini d n0 n1 Q pc lv (.int y :: .int x :: st) P E :=
  fun p e s m a b me c H lo ls C hS hR hl hn => lv_icmp_lt C.1 C.2.1 hd ht (fun q => kt q p e s m a b me c H lo ls C hS hR hl hn) (fun q => kf q p e s m a b me c H lo ls C hS hR hl hn)
theorem Go.if_ge {x : Int32} {off : Int} (tgt : Nat) (hd : decode cc pc = .ok (.ifCond .ge off, 3)) (ht : (pc : Int) + off = (tgt : Int)) (kt : 0 ≤ x → Go G cc own nL rt ini d n0 n1 Q tgt lv st P E) (kf : ¬ 0 ≤ x → Go G cc own nL rt ini d n0 n1 Q (pc + 3) lv st P E) : Go G cc own nL rt ini d n0 n1 Q pc lv (.int x :: st) P E :=
  fun p e s m a b me c H lo ls C hS hR hl hn => lv_if_ge C.1 C.2.1 hd ht (fun q => kt q p e s m a b me c H lo ls C hS hR hl hn) (fun q => kf q p e s m a b me c H lo ls C hS hR hl hn)
theorem Go.icmp_ge {x y : Int32} {off : Int} (tgt : Nat) (hd : decode cc pc = .ok (.if_icmp .ge off, 3)) (ht : (pc : Int) + off = (tgt : Int)) (kt : y ≤ x → Go G cc own nL rt ini d n0 n1 Q tgt lv st P E) (kf : ¬ y ≤ x → Go G cc own nL rt ini d n0 n1 Q (pc + 3) lv st P E) : Go G cc own nL rt ini d n0 n1 Q pc lv (.int y :: .int x :: st) P E :=
  fun p e s m a b me c H lo ls C hS hR hl hn => lv_icmp_ge C.1 C.2.1 hd ht (fun q => kt q p e s m a b me c H lo ls C hS hR hl hn) (fun q => kf q p e s m a b me c H lo ls C hS hR hl hn)
theorem Go.if_gt {x : Int32} {off : Int} (tgt : Nat) (hd : decode cc pc = .ok (.ifCond .gt off, 3)) (ht : (pc : Int) + off = (tgt : Int)) (kt : 0 < x → Go G cc own nL rt ini d n0 n1 Q tgt lv st P E) (kf : ¬ 0 < x → Go G cc own nL rt ini d n0 n1 Q (pc + 3) lv st P E) : Go G cc own nL rt ini d n0 n1 Q pc lv (.int x :: st) P E :=
  fun p e s m a b me c H lo ls C hS hR hl hn => lv_if_gt C.1 C.2.1 hd ht (fun q => kt q p e s m a b me c H lo ls C hS hR hl hn) (fun q => kf q p e s m a b me c H lo ls C hS hR hl hn)
theorem Go.icmp_gt {x y : Int32} {off : Int} (tgt : Nat) (hd : decode cc pc = .ok (.if_icmp .gt off, 3)) (ht : (pc : Int) + off = (tgt : Int)) (kt : y < x → Go G cc own nL rt ini d n0 n1 Q tgt lv st P E) (kf : ¬ y < x → Go G cc own nL rt ini d n0 n1 Q (pc + 3) lv st P E) : Go G cc own nL rt ini d n0 n1 Q pc lv (.int y :: .int x :: st) P E :=
  fun p e s m a b me c H lo ls C hS hR hl hn => lv_icmp_gt C.1 C.2.1 hd ht (fun q => kt q p e s m a b me c H lo ls C hS hR hl hn) (fun q => kf q p e s m a b me c H lo ls C hS hR hl hn)
theorem Go.if_le {x : Int32} {off : Int} (tgt : Nat) (hd : decode cc pc = .ok (.ifCond .le off, 3)) (ht : (pc : Int) + off = (tgt : Int)) (kt : x ≤ 0 → Go G cc own nL rt ini d n0 n1 Q tgt lv st P E) (kf : ¬ x ≤ 0 → Go G cc own nL rt ini d n0 n1 Q (pc + 3) lv st P E) : Go G cc own nL rt ini d n0 n1 Q pc lv (.int x :: st) P E :=
  fun p e s m a b me c H lo ls C hS hR hl hn => lv_if_le C.1 C.2.1 hd ht (fun q => kt q p e s m a b me c H lo ls C hS hR hl hn) (fun q => kf q p e s m a b me c H lo ls C hS hR hl hn)
theorem Go.icmp_le {x y : Int32} {off : Int} (tgt : Nat) (hd : decode cc pc = .ok (.if_icmp .le off, 3)) (ht : (pc : Int) + off = (tgt : Int)) (kt : x ≤ y → Go G cc own nL rt ini d n0 n1 Q tgt lv st P E) (kf : ¬ x ≤ y → Go G cc own nL rt ini d n0 n1 Q (pc + 3) lv st P E) : Go G cc own nL rt ini d n0 n1 Q pc lv (.int y :: .int x :: st) P E :=
  fun p e s m a b me c H lo ls C hS hR hl hn => lv_icmp_le C.1 C.2.1 hd ht (fun q => kt q p e s m a b me c H lo ls C hS hR hl hn) (fun q => kf q p e s m a b me c H lo ls C hS hR hl hn)
theorem Go.goto {off : Int} (tgt : Nat) (hd : decode cc pc = .ok (.goto off, 3)) (ht : (pc : Int) + off = (tgt : Int)) (k : Go G cc own nL rt ini d n0 n1 Q tgt lv st P E) : Go G cc own nL rt ini d n0 n1 Q pc lv st P E :=
  fun p e s m a b me c H lo ls C hS hR hl hn => lv_goto C.1 C.2.1 hd ht (k p e s m a b me c H lo ls C hS hR hl hn)
theorem Go.tabIn {dflt lo hi off : Int} {offs : Array Int} {len : Nat} {x : Int32} (tgt : Nat) (hd : decode cc pc = .ok (.tableswitch dflt lo hi offs, len)) (h1 : ¬ x.toInt < lo) (h2 : ¬ hi < x.toInt) (ho : offs[(x.toInt - lo).toNat]? = some off) (ht : (pc : Int) + off = (tgt : Int)) (k : Go G cc own nL rt ini d n0 n1 Q tgt lv st P E) : Go G cc own nL rt ini d n0 n1 Q pc lv (.int x :: st) P E :=
  fun p e s m a b me c H lo ls C hS hR hl hn => lv_tableIn C.1 C.2.1 hd h1 h2 ho ht (k p e s m a b me c H lo ls C hS hR hl hn)
theorem Go.tabOut {dflt lo hi : Int} {offs : Array Int} {len : Nat} {x : Int32} (tgt : Nat) (hd : decode cc pc = .ok (.tableswitch dflt lo hi offs, len)) (h : x.toInt < lo ∨ hi < x.toInt) (ht : (pc : Int) + dflt = (tgt : Int)) (k : Go G cc own nL rt ini d n0 n1 Q tgt lv st P E) : Go G cc own nL rt ini d n0 n1 Q pc lv (.int x :: st) P E :=
  fun p e s m a b me c H lo ls C hS hR hl hn => lv_tableOut C.1 C.2.1 hd h ht (k p e s m a b me c H lo ls C hS hR hl hn)
theorem Go.look {dflt off : Int} {ps : Array (Int × Int)} {len : Nat} {x : Int32} (tgt : Nat) (hd : decode cc pc = .ok (.lookupswitch dflt ps, len)) (hp : (ps.toList.zip (ps.toList.drop 1)).all (fun (a, next) => a.1 < next.1) = true) (ho : Op.lookupswitch.offset ps.toList dflt x.toInt = off) (ht : (pc : Int) + off = (tgt : Int)) (k : Go G cc own nL rt ini d n0 n1 Q tgt lv st P E) : Go G cc own nL rt ini d n0 n1 Q pc lv (.int x :: st) P E :=
  fun p e s m a b me c H lo ls C hS hR hl hn => lv_lookup C.1 C.2.1 hd hp ho ht (k p e s m a b me c H lo ls C hS hR hl hn)
end GO
