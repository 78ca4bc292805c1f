/-! programs as functions: St: what a function tells satisfies Q -/
theorem FU_ex : ∃ n : Nat, n = 1000000000000000 := ⟨_, rfl⟩
theorem FR_ex : ∃ n : Nat, n = 100 := ⟨_, rfl⟩
/-- fuel of loops and of recursions: numbers that no reduction opens -/
noncomputable def FU : Nat := Classical.choose FU_ex
noncomputable def FR : Nat := Classical.choose FR_ex
theorem FU_eq : FU = 1000000000000000 := Classical.choose_spec FU_ex
theorem FR_eq : FR = 100 := Classical.choose_spec FR_ex
def St {ρ : Type} (E : EV) (ret : ρ → Option Value × PM) (o : Option ρ) (Q : QT) : Prop := ∃ r, o = some r ∧ Q (ret r).1 (ret r).2 E
def rI (P : PM) : Int32 → Option Value × PM := fun v => (some (.int v), P)
def rL (P : PM) : Int64 → Option Value × PM := fun v => (some (.long v), P)
def rIP : Int32 × PM → Option Value × PM := fun q => (some (.int q.1), q.2)
def rLP : Int64 × PM → Option Value × PM := fun q => (some (.long q.1), q.2)
def rP : PM → Option Value × PM := fun q => (none, q)
def ck {α : Type} (b : Bool) (o : Option α) : Option α := if b = true then o else none
def inb (i : Int32) (n : Nat) : Bool := decide (0 ≤ i.toInt) && decide (i.toInt < (n : Int))
def bd2 {α β : Type} (o : Option (α × PM)) (k : α → PM → Option β) : Option β := o.bind fun q => k q.1 q.2
def isz (v : Int32) : Bool := decide (v = 0 ∨ v = 1)
def sch (i : Nat) (j : Int32) : Int32 := (sByt.getD i []).getD j.toNatClampNeg 0
/-- where a sign stands first in the i-th text, or -1 -/
def sidx (i : Nat) (c : Int32) : Int32 := match (sByt.getD i []).findIdx? (fun b => b == c) with | some k => Int32.ofNat k | none => -1
def lb {α β : Type} (a : α) (k : α → β) : β := k a
def mx (x y : Int32) : Int32 := if x < y then y else x
def mn (x y : Int32) : Int32 := if y < x then y else x
theorem St.none_ {ρ : Type} {E : EV} {ret : ρ → Option Value × PM} {Q : QT} {α : Prop} (h : St E ret none Q) : α := by
  obtain ⟨r, h, -⟩ := h
  cases h
theorem St.fin {ρ : Type} {E : EV} {ret : ρ → Option Value × PM} {Q : QT} {v : ρ} (h : St E ret (some v) Q) : Q (ret v).1 (ret v).2 E := by
  obtain ⟨r, h, q⟩ := h
  cases h
  exact q
theorem St.fI {E : EV} {P : PM} {Q : QT} {v : Int32} (h : St E (rI P) (some v) Q) : Q (some (.int v)) P E := St.fin h
theorem St.fL {E : EV} {P : PM} {Q : QT} {v : Int64} (h : St E (rL P) (some v) Q) : Q (some (.long v)) P E := St.fin h
theorem St.fIP {E : EV} {P : PM} {Q : QT} {v : Int32} (h : St E rIP (some (v, P)) Q) : Q (some (.int v)) P E := St.fin h
theorem St.fLP {E : EV} {P : PM} {Q : QT} {v : Int64} (h : St E rLP (some (v, P)) Q) : Q (some (.long v)) P E := St.fin h
theorem St.fP {E : EV} {P : PM} {Q : QT} (h : St E rP (some P) Q) : Q none P E := St.fin h
theorem St.ck {ρ : Type} {E : EV} {ret : ρ → Option Value × PM} {b : Bool} {o : Option ρ} {Q : QT} (h : St E ret (ck b o) Q) : b = true ∧ St E ret o Q := by
  unfold Jvm.Pilot.CYawnRouteLaw_law_r1974_6e82f2.ck at h
  split at h
  · rename_i hb
    exact ⟨hb, h⟩
  · exact h.none_
theorem St.lb {ρ α : Type} {E : EV} {ret : ρ → Option Value × PM} {e : α} {k : α → Option ρ} {Q : QT} (h : St E ret (lb e k) Q) : ∃ y, y = e ∧ St E ret (k y) Q := ⟨e, rfl, h⟩
theorem St.bind {ρ α : Type} {E : EV} {ret : ρ → Option Value × PM} {o : Option α} {k : α → Option ρ} {Q : QT} (h : St E ret (o.bind k) Q) : ∃ r, o = some r ∧ St E ret (k r) Q := by
  cases o with
  | none => exact h.none_
  | some r => exact ⟨r, rfl, h⟩
theorem St.bd2 {ρ α : Type} {E : EV} {ret : ρ → Option Value × PM} {o : Option (α × PM)} {k : α → PM → Option ρ} {Q : QT} (h : St E ret (bd2 o k) Q) : ∃ v P', o = some (v, P') ∧ St E ret (k v P') Q := by
  cases o with
  | none => exact h.none_
  | some r => exact ⟨r.1, r.2, rfl, h⟩
theorem inb_in {i : Int32} {n : Nat} (h : inb i n = true) : vp_in i n := by
  rw [vp_in_iff]
  unfold inb at h
  simp only [Bool.and_eq_true, decide_eq_true_eq] at h
  exact h
theorem inb_lt {i : Int32} {n : Nat} (h : inb i n = true) : i.toNatClampNeg < n := Nat.not_le.mp fun q => (inb_in h) (Or.inr q)
theorem isz_b {v : Int32} (h : isz v = true) : narrow .boolean (.int v) = .int v ∧ fits .boolean (.int v) = true := by
  unfold isz at h
  rcases of_decide_eq_true h with rfl | rfl <;> exact ⟨rfl, rfl⟩
/-- the objects stand as the constructors leave them -/
def E0 (E : EV) : Prop := E.1 = rf ∧ E.2.1 = nOb
abbrev QD (r : Option Value) (P : PM) (E : EV) : QT := fun r' P' E' => r' = r ∧ P' = P ∧ E' = E
theorem shO : ∀ k, k < nOb ∨ sh k = .inr (9, 0) := by
  intro k
  rcases Nat.lt_or_ge k nOb with h | h
  · exact Or.inl h
  · refine Or.inr ?_
    unfold sh
    rw [List.getD_eq_getElem?_getD, List.getElem?_eq_none (show shL.length ≤ k from h)]
    rfl
theorem ltO {E : EV} (hE : E0 E) {k ci : Nat} (h : sh k = .inl ci) : k < E.2.1 := by
  rw [hE.2]
  rcases shO k with q | q
  · exact q
  · rw [q] at h; cases h
theorem ltA {E : EV} (hE : E0 E) {k t n : Nat} (h : sh k = .inr (t, n)) (ht : t < 8) : k < E.2.1 := by
  rw [hE.2]
  rcases shO k with q | q
  · exact q
  · rw [q] at h; cases h; omega
theorem ltO' {k ci : Nat} (h : sh k = .inl ci) : k < nOb := by
  rcases shO k with q | q
  · exact q
  · rw [q] at h; cases h
def VW (ci : Nat) (y : MethodName) (bytes : ByteArray) (maxL : Nat) (ret : Option FieldType) (n : Nat) : Prop :=
  ci < 13 ∧ Cond.instanceMethod y ∈ lw_gd ∧ Cond.selects (cN ci) y y ∈ lw_gd ∧ Cond.initialized y.cls ∈ lw_gd ∧ Cond.code y bytes maxL ret ∈ lw_gd ∧ (y.cls ≠ "java/lang/invoke/MethodHandle" ∧ y.cls ≠ "java/lang/invoke/VarHandle" ∧ (parseMethodDescriptor y.desc).map (fun d => d.parameters.length) = some n) ∧ maxL ≤ 21
def SW (y : MethodName) (bytes : ByteArray) (maxL : Nat) (ret : Option FieldType) (n : Nat) : Prop :=
  Cond.static y ∈ lw_gd ∧ Cond.initialized y.cls ∈ lw_gd ∧ Cond.code y bytes maxL ret ∈ lw_gd ∧ (y.cls ≠ "java/lang/invoke/MethodHandle" ∧ y.cls ≠ "java/lang/invoke/VarHandle" ∧ (parseMethodDescriptor y.desc).map (fun d => d.parameters.length) = some n) ∧ maxL ≤ 21
section GO3
variable {G : GX} {cc : ByteArray} {own : String} {nL : Nat} {rt : Option FieldType} {ini : Bool} {d : Nat} {Q : QT} {pc : Nat} {lv : List (Nat × Value)} {st : List Value} {P P1 : PM} {E : EV}
theorem Go.cV_i {idx n0 : Nat} {y : MethodName} {bytes : ByteArray} {maxL : Nat} {ret : Option FieldType} {n : Nat} {v : Int32} (d' : Nat) (k : Nat) (As : List Value) {ci : Nat} (hs : sh k = .inl ci) (hE : E0 E) (hW : VW ci y bytes maxL ret n) (hM : Con G y (.code y bytes maxL ret) d' nOb nOb (.ref (ad E k) :: As) P E (QD (some (.int v)) P1 E)) (hlk : Cond.methodLink own idx y ∈ lw_gd) (hAs : As.length = n) (hdd : d' + 1 ≤ d) (hst : (st.map fun v => v.category).sum ≤ 8) (hd : decode cc pc = .ok (.invokevirtual idx, 3)) (st0 : List Value) (hst0 : st0 = As.reverse ++ .ref (ad E k) :: st)
    (g : Go G cc own nL rt ini d n0 nOb Q (pc + 3) lv (.int v :: st) P1 E) : Go G cc own nL rt ini d n0 nOb Q pc lv st0 P E := by
  have hM2 : Con G y (.code y bytes maxL ret) d' E.2.1 nOb (.ref (ad E k) :: As) P E (QD (some (.int v)) P1 E) := by rw [hE.2]; exact hM
  exact Go.callV d' n k As nOb hW.1 hs (ltO hE hs) hM2 ⟨by rw [hE.2]; exact Nat.le_refl _, Nat.le_refl _⟩ (fun r P' E' q => by rw [q.2.2]; exact hE.2) hlk hW.2.1 hW.2.2.1 hW.2.2.2.1 hW.2.2.2.2.1 hW.2.2.2.2.2.1 hAs hdd hW.2.2.2.2.2.2 hst hd st0 hst0 (fun r P' E' q => by obtain ⟨rfl, rfl, rfl⟩ := q; exact g)
theorem Go.cS_i {idx n0 : Nat} {y : MethodName} {bytes : ByteArray} {maxL : Nat} {ret : Option FieldType} {n : Nat} {v : Int32} (d' : Nat) (As : List Value) (hE : E0 E) (hW : SW y bytes maxL ret n) (hM : Con G y (.code y bytes maxL ret) d' nOb nOb As P E (QD (some (.int v)) P1 E)) (hlk : Cond.methodLink own idx y ∈ lw_gd) (hAs : As.length = n) (hdd : d' + 1 ≤ d) (hst : (st.map fun v => v.category).sum ≤ 8) (hd : decode cc pc = .ok (.invokestatic idx, 3)) (st0 : List Value) (hst0 : st0 = As.reverse ++ st)
    (g : Go G cc own nL rt ini d n0 nOb Q (pc + 3) lv (.int v :: st) P1 E) : Go G cc own nL rt ini d n0 nOb Q pc lv st0 P E := by
  have hM2 : Con G y (.code y bytes maxL ret) d' E.2.1 nOb As P E (QD (some (.int v)) P1 E) := by rw [hE.2]; exact hM
  exact Go.callS d' n As nOb hM2 ⟨by rw [hE.2]; exact Nat.le_refl _, Nat.le_refl _⟩ (fun r P' E' q => by rw [q.2.2]; exact hE.2) hlk hW.1 hW.2.1 hW.2.2.1 hW.2.2.2.1 hAs hdd hW.2.2.2.2 hst hd st0 hst0 (fun r P' E' q => by obtain ⟨rfl, rfl, rfl⟩ := q; exact g)
theorem Go.cVN_i {idx n0 : Nat} {y : MethodName} {host : String} {bytes : ByteArray} {maxL : Nat} {ret : Option FieldType} {n : Nat} {v : Int32} (d' : Nat) (k : Nat) (As : List Value) {ci : Nat} (hs : sh k = .inl ci) (hE : E0 E) (hW : VW ci y bytes maxL ret n) (hM : Con G y (.code y bytes maxL ret) d' nOb nOb (.ref (ad E k) :: As) P E (QD (some (.int v)) P1 E)) (hlk : (own, idx, y, host) ∈ nestW) (hAs : As.length = n) (hdd : d' + 1 ≤ d) (hst : (st.map fun v => v.category).sum ≤ 8) (hd : decode cc pc = .ok (.invokevirtual idx, 3)) (st0 : List Value) (hst0 : st0 = As.reverse ++ .ref (ad E k) :: st)
    (g : Go G cc own nL rt ini d n0 nOb Q (pc + 3) lv (.int v :: st) P1 E) : Go G cc own nL rt ini d n0 nOb Q pc lv st0 P E := by
  have hM2 : Con G y (.code y bytes maxL ret) d' E.2.1 nOb (.ref (ad E k) :: As) P E (QD (some (.int v)) P1 E) := by rw [hE.2]; exact hM
  exact Go.callVN d' n k As nOb hW.1 hs (ltO hE hs) hM2 ⟨by rw [hE.2]; exact Nat.le_refl _, Nat.le_refl _⟩ (fun r P' E' q => by rw [q.2.2]; exact hE.2) hlk hW.2.1 hW.2.2.1 hW.2.2.2.1 hW.2.2.2.2.1 hW.2.2.2.2.2.1 hAs hdd hW.2.2.2.2.2.2 hst hd st0 hst0 (fun r P' E' q => by obtain ⟨rfl, rfl, rfl⟩ := q; exact g)
theorem Go.cSN_i {idx n0 : Nat} {y : MethodName} {host : String} {bytes : ByteArray} {maxL : Nat} {ret : Option FieldType} {n : Nat} {v : Int32} (d' : Nat) (As : List Value) (hE : E0 E) (hW : SW y bytes maxL ret n) (hM : Con G y (.code y bytes maxL ret) d' nOb nOb As P E (QD (some (.int v)) P1 E)) (hlk : (own, idx, y, host) ∈ nestW) (hAs : As.length = n) (hdd : d' + 1 ≤ d) (hst : (st.map fun v => v.category).sum ≤ 8) (hd : decode cc pc = .ok (.invokestatic idx, 3)) (st0 : List Value) (hst0 : st0 = As.reverse ++ st)
    (g : Go G cc own nL rt ini d n0 nOb Q (pc + 3) lv (.int v :: st) P1 E) : Go G cc own nL rt ini d n0 nOb Q pc lv st0 P E := by
  have hM2 : Con G y (.code y bytes maxL ret) d' E.2.1 nOb As P E (QD (some (.int v)) P1 E) := by rw [hE.2]; exact hM
  exact Go.callSN d' n As nOb hM2 ⟨by rw [hE.2]; exact Nat.le_refl _, Nat.le_refl _⟩ (fun r P' E' q => by rw [q.2.2]; exact hE.2) hlk hW.1 hW.2.1 hW.2.2.1 hW.2.2.2.1 hAs hdd hW.2.2.2.2 hst hd st0 hst0 (fun r P' E' q => by obtain ⟨rfl, rfl, rfl⟩ := q; exact g)
theorem Go.cV_l {idx n0 : Nat} {y : MethodName} {bytes : ByteArray} {maxL : Nat} {ret : Option FieldType} {n : Nat} {v : Int64} (d' : Nat) (k : Nat) (As : List Value) {ci : Nat} (hs : sh k = .inl ci) (hE : E0 E) (hW : VW ci y bytes maxL ret n) (hM : Con G y (.code y bytes maxL ret) d' nOb nOb (.ref (ad E k) :: As) P E (QD (some (.long v)) P1 E)) (hlk : Cond.methodLink own idx y ∈ lw_gd) (hAs : As.length = n) (hdd : d' + 1 ≤ d) (hst : (st.map fun v => v.category).sum ≤ 8) (hd : decode cc pc = .ok (.invokevirtual idx, 3)) (st0 : List Value) (hst0 : st0 = As.reverse ++ .ref (ad E k) :: st)
    (g : Go G cc own nL rt ini d n0 nOb Q (pc + 3) lv (.long v :: st) P1 E) : Go G cc own nL rt ini d n0 nOb Q pc lv st0 P E := by
  have hM2 : Con G y (.code y bytes maxL ret) d' E.2.1 nOb (.ref (ad E k) :: As) P E (QD (some (.long v)) P1 E) := by rw [hE.2]; exact hM
  exact Go.callV d' n k As nOb hW.1 hs (ltO hE hs) hM2 ⟨by rw [hE.2]; exact Nat.le_refl _, Nat.le_refl _⟩ (fun r P' E' q => by rw [q.2.2]; exact hE.2) hlk hW.2.1 hW.2.2.1 hW.2.2.2.1 hW.2.2.2.2.1 hW.2.2.2.2.2.1 hAs hdd hW.2.2.2.2.2.2 hst hd st0 hst0 (fun r P' E' q => by obtain ⟨rfl, rfl, rfl⟩ := q; exact g)
theorem Go.cS_l {idx n0 : Nat} {y : MethodName} {bytes : ByteArray} {maxL : Nat} {ret : Option FieldType} {n : Nat} {v : Int64} (d' : Nat) (As : List Value) (hE : E0 E) (hW : SW y bytes maxL ret n) (hM : Con G y (.code y bytes maxL ret) d' nOb nOb As P E (QD (some (.long v)) P1 E)) (hlk : Cond.methodLink own idx y ∈ lw_gd) (hAs : As.length = n) (hdd : d' + 1 ≤ d) (hst : (st.map fun v => v.category).sum ≤ 8) (hd : decode cc pc = .ok (.invokestatic idx, 3)) (st0 : List Value) (hst0 : st0 = As.reverse ++ st)
    (g : Go G cc own nL rt ini d n0 nOb Q (pc + 3) lv (.long v :: st) P1 E) : Go G cc own nL rt ini d n0 nOb Q pc lv st0 P E := by
  have hM2 : Con G y (.code y bytes maxL ret) d' E.2.1 nOb As P E (QD (some (.long v)) P1 E) := by rw [hE.2]; exact hM
  exact Go.callS d' n As nOb hM2 ⟨by rw [hE.2]; exact Nat.le_refl _, Nat.le_refl _⟩ (fun r P' E' q => by rw [q.2.2]; exact hE.2) hlk hW.1 hW.2.1 hW.2.2.1 hW.2.2.2.1 hAs hdd hW.2.2.2.2 hst hd st0 hst0 (fun r P' E' q => by obtain ⟨rfl, rfl, rfl⟩ := q; exact g)
theorem Go.cVN_l {idx n0 : Nat} {y : MethodName} {host : String} {bytes : ByteArray} {maxL : Nat} {ret : Option FieldType} {n : Nat} {v : Int64} (d' : Nat) (k : Nat) (As : List Value) {ci : Nat} (hs : sh k = .inl ci) (hE : E0 E) (hW : VW ci y bytes maxL ret n) (hM : Con G y (.code y bytes maxL ret) d' nOb nOb (.ref (ad E k) :: As) P E (QD (some (.long v)) P1 E)) (hlk : (own, idx, y, host) ∈ nestW) (hAs : As.length = n) (hdd : d' + 1 ≤ d) (hst : (st.map fun v => v.category).sum ≤ 8) (hd : decode cc pc = .ok (.invokevirtual idx, 3)) (st0 : List Value) (hst0 : st0 = As.reverse ++ .ref (ad E k) :: st)
    (g : Go G cc own nL rt ini d n0 nOb Q (pc + 3) lv (.long v :: st) P1 E) : Go G cc own nL rt ini d n0 nOb Q pc lv st0 P E := by
  have hM2 : Con G y (.code y bytes maxL ret) d' E.2.1 nOb (.ref (ad E k) :: As) P E (QD (some (.long v)) P1 E) := by rw [hE.2]; exact hM
  exact Go.callVN d' n k As nOb hW.1 hs (ltO hE hs) hM2 ⟨by rw [hE.2]; exact Nat.le_refl _, Nat.le_refl _⟩ (fun r P' E' q => by rw [q.2.2]; exact hE.2) hlk hW.2.1 hW.2.2.1 hW.2.2.2.1 hW.2.2.2.2.1 hW.2.2.2.2.2.1 hAs hdd hW.2.2.2.2.2.2 hst hd st0 hst0 (fun r P' E' q => by obtain ⟨rfl, rfl, rfl⟩ := q; exact g)
theorem Go.cSN_l {idx n0 : Nat} {y : MethodName} {host : String} {bytes : ByteArray} {maxL : Nat} {ret : Option FieldType} {n : Nat} {v : Int64} (d' : Nat) (As : List Value) (hE : E0 E) (hW : SW y bytes maxL ret n) (hM : Con G y (.code y bytes maxL ret) d' nOb nOb As P E (QD (some (.long v)) P1 E)) (hlk : (own, idx, y, host) ∈ nestW) (hAs : As.length = n) (hdd : d' + 1 ≤ d) (hst : (st.map fun v => v.category).sum ≤ 8) (hd : decode cc pc = .ok (.invokestatic idx, 3)) (st0 : List Value) (hst0 : st0 = As.reverse ++ st)
    (g : Go G cc own nL rt ini d n0 nOb Q (pc + 3) lv (.long v :: st) P1 E) : Go G cc own nL rt ini d n0 nOb Q pc lv st0 P E := by
  have hM2 : Con G y (.code y bytes maxL ret) d' E.2.1 nOb As P E (QD (some (.long v)) P1 E) := by rw [hE.2]; exact hM
  exact Go.callSN d' n As nOb hM2 ⟨by rw [hE.2]; exact Nat.le_refl _, Nat.le_refl _⟩ (fun r P' E' q => by rw [q.2.2]; exact hE.2) hlk hW.1 hW.2.1 hW.2.2.1 hW.2.2.2.1 hAs hdd hW.2.2.2.2 hst hd st0 hst0 (fun r P' E' q => by obtain ⟨rfl, rfl, rfl⟩ := q; exact g)
theorem Go.cV_v {idx n0 : Nat} {y : MethodName} {bytes : ByteArray} {maxL : Nat} {ret : Option FieldType} {n : Nat} (d' : Nat) (k : Nat) (As : List Value) {ci : Nat} (hs : sh k = .inl ci) (hE : E0 E) (hW : VW ci y bytes maxL ret n) (hM : Con G y (.code y bytes maxL ret) d' nOb nOb (.ref (ad E k) :: As) P E (QD (none) P1 E)) (hlk : Cond.methodLink own idx y ∈ lw_gd) (hAs : As.length = n) (hdd : d' + 1 ≤ d) (hst : (st.map fun v => v.category).sum ≤ 8) (hd : decode cc pc = .ok (.invokevirtual idx, 3)) (st0 : List Value) (hst0 : st0 = As.reverse ++ .ref (ad E k) :: st)
    (g : Go G cc own nL rt ini d n0 nOb Q (pc + 3) lv (st) P1 E) : Go G cc own nL rt ini d n0 nOb Q pc lv st0 P E := by
  have hM2 : Con G y (.code y bytes maxL ret) d' E.2.1 nOb (.ref (ad E k) :: As) P E (QD (none) P1 E) := by rw [hE.2]; exact hM
  exact Go.callV d' n k As nOb hW.1 hs (ltO hE hs) hM2 ⟨by rw [hE.2]; exact Nat.le_refl _, Nat.le_refl _⟩ (fun r P' E' q => by rw [q.2.2]; exact hE.2) hlk hW.2.1 hW.2.2.1 hW.2.2.2.1 hW.2.2.2.2.1 hW.2.2.2.2.2.1 hAs hdd hW.2.2.2.2.2.2 hst hd st0 hst0 (fun r P' E' q => by obtain ⟨rfl, rfl, rfl⟩ := q; exact g)
theorem Go.cS_v {idx n0 : Nat} {y : MethodName} {bytes : ByteArray} {maxL : Nat} {ret : Option FieldType} {n : Nat} (d' : Nat) (As : List Value) (hE : E0 E) (hW : SW y bytes maxL ret n) (hM : Con G y (.code y bytes maxL ret) d' nOb nOb As P E (QD (none) P1 E)) (hlk : Cond.methodLink own idx y ∈ lw_gd) (hAs : As.length = n) (hdd : d' + 1 ≤ d) (hst : (st.map fun v => v.category).sum ≤ 8) (hd : decode cc pc = .ok (.invokestatic idx, 3)) (st0 : List Value) (hst0 : st0 = As.reverse ++ st)
    (g : Go G cc own nL rt ini d n0 nOb Q (pc + 3) lv (st) P1 E) : Go G cc own nL rt ini d n0 nOb Q pc lv st0 P E := by
  have hM2 : Con G y (.code y bytes maxL ret) d' E.2.1 nOb As P E (QD (none) P1 E) := by rw [hE.2]; exact hM
  exact Go.callS d' n As nOb hM2 ⟨by rw [hE.2]; exact Nat.le_refl _, Nat.le_refl _⟩ (fun r P' E' q => by rw [q.2.2]; exact hE.2) hlk hW.1 hW.2.1 hW.2.2.1 hW.2.2.2.1 hAs hdd hW.2.2.2.2 hst hd st0 hst0 (fun r P' E' q => by obtain ⟨rfl, rfl, rfl⟩ := q; exact g)
theorem Go.cVN_v {idx n0 : Nat} {y : MethodName} {host : String} {bytes : ByteArray} {maxL : Nat} {ret : Option FieldType} {n : Nat} (d' : Nat) (k : Nat) (As : List Value) {ci : Nat} (hs : sh k = .inl ci) (hE : E0 E) (hW : VW ci y bytes maxL ret n) (hM : Con G y (.code y bytes maxL ret) d' nOb nOb (.ref (ad E k) :: As) P E (QD (none) P1 E)) (hlk : (own, idx, y, host) ∈ nestW) (hAs : As.length = n) (hdd : d' + 1 ≤ d) (hst : (st.map fun v => v.category).sum ≤ 8) (hd : decode cc pc = .ok (.invokevirtual idx, 3)) (st0 : List Value) (hst0 : st0 = As.reverse ++ .ref (ad E k) :: st)
    (g : Go G cc own nL rt ini d n0 nOb Q (pc + 3) lv (st) P1 E) : Go G cc own nL rt ini d n0 nOb Q pc lv st0 P E := by
  have hM2 : Con G y (.code y bytes maxL ret) d' E.2.1 nOb (.ref (ad E k) :: As) P E (QD (none) P1 E) := by rw [hE.2]; exact hM
  exact Go.callVN d' n k As nOb hW.1 hs (ltO hE hs) hM2 ⟨by rw [hE.2]; exact Nat.le_refl _, Nat.le_refl _⟩ (fun r P' E' q => by rw [q.2.2]; exact hE.2) hlk hW.2.1 hW.2.2.1 hW.2.2.2.1 hW.2.2.2.2.1 hW.2.2.2.2.2.1 hAs hdd hW.2.2.2.2.2.2 hst hd st0 hst0 (fun r P' E' q => by obtain ⟨rfl, rfl, rfl⟩ := q; exact g)
theorem Go.cSN_v {idx n0 : Nat} {y : MethodName} {host : String} {bytes : ByteArray} {maxL : Nat} {ret : Option FieldType} {n : Nat} (d' : Nat) (As : List Value) (hE : E0 E) (hW : SW y bytes maxL ret n) (hM : Con G y (.code y bytes maxL ret) d' nOb nOb As P E (QD (none) P1 E)) (hlk : (own, idx, y, host) ∈ nestW) (hAs : As.length = n) (hdd : d' + 1 ≤ d) (hst : (st.map fun v => v.category).sum ≤ 8) (hd : decode cc pc = .ok (.invokestatic idx, 3)) (st0 : List Value) (hst0 : st0 = As.reverse ++ st)
    (g : Go G cc own nL rt ini d n0 nOb Q (pc + 3) lv (st) P1 E) : Go G cc own nL rt ini d n0 nOb Q pc lv st0 P E := by
  have hM2 : Con G y (.code y bytes maxL ret) d' E.2.1 nOb As P E (QD (none) P1 E) := by rw [hE.2]; exact hM
  exact Go.callSN d' n As nOb hM2 ⟨by rw [hE.2]; exact Nat.le_refl _, Nat.le_refl _⟩ (fun r P' E' q => by rw [q.2.2]; exact hE.2) hlk hW.1 hW.2.1 hW.2.2.1 hW.2.2.2.1 hAs hdd hW.2.2.2.2 hst hd st0 hst0 (fun r P' E' q => by obtain ⟨rfl, rfl, rfl⟩ := q; exact g)
theorem Go.mmax {idx : Nat} {n0 n1 : Nat} {x y : Int32} (hlk : Cond.methodLink own idx Lib.Math.max.name ∈ lw_gd) (hE : E.2.1 ≤ n1) (hfr : 1 ≤ d) (hst : (st.map fun v => v.category).sum ≤ 8) (hd : decode cc pc = .ok (.invokestatic idx, 3)) (g : Go G cc own nL rt ini d n0 n1 Q (pc + 3) lv (.int (mx x y) :: st) P E) : Go G cc own nL rt ini d n0 n1 Q pc lv (.int y :: .int x :: st) P E := by
  intro p e s m a b me c H lo ls C hS hR hl hn
  obtain ⟨hx, hb, hml, -, -, -, ho, hts, hKn, hG⟩ := id C
  have m2 := tot_mono hE
  refine va_mmax hx hb (hml.trans hl.1.symm) ho (hts _ hlk) (hts _ lk561) (hts _ lk15) (hts _ lk562) hfr ?_ ?_ ?_ hd (g p e s m a b me c H lo ls C hS hR hl hn)
  · show _ ≤ 40 * d
    omega
  · show _ ≤ n1 - n0
    omega
  · show _ ≤ tot n1 - tot n0
    omega
theorem Go.mmin {idx : Nat} {n0 n1 : Nat} {x y : Int32} (hlk : Cond.methodLink own idx Lib.Math.min.name ∈ lw_gd) (hE : E.2.1 ≤ n1) (hfr : 1 ≤ d) (hst : (st.map fun v => v.category).sum ≤ 8) (hd : decode cc pc = .ok (.invokestatic idx, 3)) (g : Go G cc own nL rt ini d n0 n1 Q (pc + 3) lv (.int (mn x y) :: st) P E) : Go G cc own nL rt ini d n0 n1 Q pc lv (.int y :: .int x :: st) P E := by
  intro p e s m a b me c H lo ls C hS hR hl hn
  obtain ⟨hx, hb, hml, -, -, -, ho, hts, hKn, hG⟩ := id C
  have m2 := tot_mono hE
  refine va_mmin hx hb (hml.trans hl.1.symm) ho (hts _ hlk) (hts _ lk464) (hts _ lk15) (hts _ lk465) hfr ?_ ?_ ?_ hd (g p e s m a b me c H lo ls C hS hR hl hn)
  · show _ ≤ 40 * d
    omega
  · show _ ≤ n1 - n0
    omega
  · show _ ≤ tot n1 - tot n0
    omega
theorem Go.copy {idx : Nat} {n0 n1 : Nat} (k0 k1 m0 m1 : Nat) {sp dp n : Int32} (hs0 : sh k0 = .inr (0, m0)) (hs1 : sh k1 = .inr (0, m1)) (hk0 : k0 < E.2.1) (hk1 : k1 < E.2.1) (hlk : Cond.methodLink own idx arraycopyName ∈ lw_gd) (h1 : ¬ sp < 0) (h2 : ¬ dp < 0) (h3 : ¬ n < 0) (h4 : sp.toNatClampNeg + n.toNatClampNeg ≤ m0) (h5 : dp.toNatClampNeg + n.toNatClampNeg ≤ m1) (hfr : 1 ≤ d) (hst : (st.map fun v => v.category).sum ≤ 8) (hd : decode cc pc = .ok (.invokestatic idx, 3))
    (g : Go G cc own nL rt ini d n0 n1 Q (pc + 3) lv st (uc P k0 sp.toNatClampNeg k1 dp.toNatClampNeg n.toNatClampNeg) E) : Go G cc own nL rt ini d n0 n1 Q pc lv (.int n :: .int dp :: .ref (ad E k1) :: .int sp :: .ref (ad E k0) :: st) P E := by
  intro p e s m a b me c H lo ls C hS hR hl hn
  obtain ⟨hx, hb, hml, -, -, -, ho, hts, hKn, hG⟩ := id C
  refine va_copyi hx hb (hml.trans hl.1.symm) ho (hts _ hlk) (hts _ lk707) (hts _ lk706) (hts _ lk21) (hKn.K hG) hR.1 hR.2.1 hS k0 k1 0 0 (ty := .int) (f := P.1 k0) (g := P.1 k1) (n0 := m0) (n1 := m1) (c0 := gC G 0) (c1 := gC G 0) (by rw [wsG_at hk0, ent_ar hs0]; rfl) (by rw [wsG_at hk1, ent_ar hs1]; rfl) (tysG_at (by omega)) (tysG_at (by omega)) rfl h1 h2 h3 h4 h5 (fun i _ => rfl) hfr ?_ hd (fun H1 lo1 hP1 hD1 hS1 => ?_)
  · have h9 : nativeFrameWords "java/lang/System" "arraycopy" 5 + 11 ≤ 32 := by decide +kernel
    show _ ≤ 40 * d
    omega
  have e1 := wsG_set (G := G) (P := P) (P' := uc P k0 sp.toNatClampNeg k1 dp.toNatClampNeg n.toNatClampNeg) (E := E) (k := k1) (x := .inl (gC G 0, m1, .inl (va_cpy (P.1 k0) (P.1 k1) sp.toNatClampNeg dp.toNatClampNeg n.toNatClampNeg))) hk1 (by
    rw [ent_ar hs1]
    refine congrArg (fun z => Sum.inl (gC G 0, m1, Sum.inl z)) (funext fun j => ?_)
    simp [va_cpy, uc]) (fun i hi => ent_ext (fun z => by simp [uc, hi]) (fun z => rfl))
  rw [e1] at hP1 hD1
  exact g p e s m a b me c H1 lo1 ls C hS1 ⟨hP1, hD1, hKn.low hS1, hR.2.2.2⟩ hl hn
theorem Go.eqi {n0 n1 : Nat} (y : Int32) {x : Int32} (hy : y = x) (g : Go G cc own nL rt ini d n0 n1 Q pc lv (.int y :: st) P E) : Go G cc own nL rt ini d n0 n1 Q pc lv (.int x :: st) P E := hy ▸ g
theorem Go.eql {n0 n1 : Nat} (y : Int64) {x : Int64} (hy : y = x) (g : Go G cc own nL rt ini d n0 n1 Q pc lv (.long y :: st) P E) : Go G cc own nL rt ini d n0 n1 Q pc lv (.long x :: st) P E := hy ▸ g
theorem vlR {ty : FieldType} {k j r : Nat} (hE : E0 E) (hty : refKind ty = true) (h : rf k j = some r) : vl P E ty k j = .ref (ad E r) := by
  have h2 : E.1 k j = some r := by rw [hE.1]; exact h
  cases ty <;> first | (cases hty; done) | (simp only [vl, h2]; rfl)
end GO3
theorem nw0 : ("YawnRoute", 11, (⟨"YawnRoute$Tape", "<init>", "()V"⟩ : MethodName), "YawnRoute") ∈ nestW := List.mem_of_getElem? (i := 0) rfl
theorem nw1 : ("YawnRoute$NetReader", 11, (⟨"YawnRoute$Net", "<init>", "()V"⟩ : MethodName), "YawnRoute") ∈ nestW := List.mem_of_getElem? (i := 1) rfl
theorem nw2 : ("YawnRoute$NetReader", 20, (⟨"YawnRoute$State", "<init>", "()V"⟩ : MethodName), "YawnRoute") ∈ nestW := List.mem_of_getElem? (i := 2) rfl
theorem nw3 : ("YawnRoute", 27, (⟨"YawnRoute$Net", "<init>", "()V"⟩ : MethodName), "YawnRoute") ∈ nestW := List.mem_of_getElem? (i := 3) rfl
theorem nw4 : ("YawnRoute", 34, (⟨"YawnRoute$State", "<init>", "()V"⟩ : MethodName), "YawnRoute") ∈ nestW := List.mem_of_getElem? (i := 4) rfl
theorem nw5 : ("YawnRoute", 41, (⟨"YawnRoute$Trays", "<init>", "()V"⟩ : MethodName), "YawnRoute") ∈ nestW := List.mem_of_getElem? (i := 5) rfl
theorem nw6 : ("YawnRoute$Deeds", 11, (⟨"YawnRoute$State", "<init>", "()V"⟩ : MethodName), "YawnRoute") ∈ nestW := List.mem_of_getElem? (i := 6) rfl
theorem nw7 : ("YawnRoute$NetReader", 124, (⟨"YawnRoute$LawReader", "readTruth", "(I)V"⟩ : MethodName), "YawnRoute") ∈ nestW := List.mem_of_getElem? (i := 7) rfl
theorem nw8 : ("YawnRoute$NetReader", 133, (⟨"YawnRoute$LawReader", "readSum", "(I)V"⟩ : MethodName), "YawnRoute") ∈ nestW := List.mem_of_getElem? (i := 8) rfl
theorem nw9 : ("YawnRoute$State", 40, (⟨"YawnRoute", "has", "(II)Z"⟩ : MethodName), "YawnRoute") ∈ nestW := List.mem_of_getElem? (i := 9) rfl
theorem nw10 : ("YawnRoute$Deeds", 86, (⟨"YawnRoute", "isSize", "(I)Z"⟩ : MethodName), "YawnRoute") ∈ nestW := List.mem_of_getElem? (i := 10) rfl
theorem nw11 : ("YawnRoute$State", 44, (⟨"YawnRoute", "placeOf", "(II)I"⟩ : MethodName), "YawnRoute") ∈ nestW := List.mem_of_getElem? (i := 11) rfl
theorem nw12 : ("YawnRoute$Passings", 92, (⟨"YawnRoute", "isPlace", "(I)Z"⟩ : MethodName), "YawnRoute") ∈ nestW := List.mem_of_getElem? (i := 12) rfl
theorem nw13 : ("YawnRoute$Passings", 82, (⟨"YawnRoute", "stationIn", "(I)I"⟩ : MethodName), "YawnRoute") ∈ nestW := List.mem_of_getElem? (i := 13) rfl
theorem nw14 : ("YawnRoute$Passings", 85, (⟨"YawnRoute", "sizeIn", "(I)I"⟩ : MethodName), "YawnRoute") ∈ nestW := List.mem_of_getElem? (i := 14) rfl
theorem nw15 : ("YawnRoute$Passings", 71, (⟨"YawnRoute", "has", "(II)Z"⟩ : MethodName), "YawnRoute") ∈ nestW := List.mem_of_getElem? (i := 15) rfl
theorem nw16 : ("YawnRoute$Passings", 79, (⟨"YawnRoute", "placeOf", "(II)I"⟩ : MethodName), "YawnRoute") ∈ nestW := List.mem_of_getElem? (i := 16) rfl
theorem nw17 : ("YawnRoute$Routes", 47, (⟨"YawnRoute", "stationIn", "(I)I"⟩ : MethodName), "YawnRoute") ∈ nestW := List.mem_of_getElem? (i := 17) rfl
theorem nw18 : ("YawnRoute$Routes", 51, (⟨"YawnRoute", "sizeIn", "(I)I"⟩ : MethodName), "YawnRoute") ∈ nestW := List.mem_of_getElem? (i := 18) rfl
theorem nw19 : ("YawnRoute$Routes", 87, (⟨"YawnRoute", "isPlace", "(I)Z"⟩ : MethodName), "YawnRoute") ∈ nestW := List.mem_of_getElem? (i := 19) rfl
theorem nw20 : ("YawnRoute$Routes", 106, (⟨"YawnRoute", "has", "(II)Z"⟩ : MethodName), "YawnRoute") ∈ nestW := List.mem_of_getElem? (i := 20) rfl
theorem nw21 : ("YawnRoute$Spreading", 90, (⟨"YawnRoute", "placeOf", "(II)I"⟩ : MethodName), "YawnRoute") ∈ nestW := List.mem_of_getElem? (i := 21) rfl
theorem nw22 : ("YawnRoute$Steps", 56, (⟨"YawnRoute", "isPlace", "(I)Z"⟩ : MethodName), "YawnRoute") ∈ nestW := List.mem_of_getElem? (i := 22) rfl
theorem nw23 : ("YawnRoute$Deeds", 158, (⟨"YawnRoute", "has", "(II)Z"⟩ : MethodName), "YawnRoute") ∈ nestW := List.mem_of_getElem? (i := 23) rfl
theorem nw24 : ("YawnRoute$Steps", 90, (⟨"YawnRoute", "stationIn", "(I)I"⟩ : MethodName), "YawnRoute") ∈ nestW := List.mem_of_getElem? (i := 24) rfl
theorem nw25 : ("YawnRoute$Steps", 105, (⟨"YawnRoute", "placeOf", "(II)I"⟩ : MethodName), "YawnRoute") ∈ nestW := List.mem_of_getElem? (i := 25) rfl
theorem sh0 : sh 0 = .inl 11 := rfl
theorem sh1 : sh 1 = .inl 9 := rfl
theorem sh2 : sh 2 = .inr (1, 900) := rfl
theorem sh3 : sh 3 = .inl 3 := rfl
theorem sh4 : sh 4 = .inl 2 := rfl
theorem sh5 : sh 5 = .inr (0, 7) := rfl
theorem sh6 : sh 6 = .inr (0, 49) := rfl
theorem sh7 : sh 7 = .inr (0, 49) := rfl
theorem sh8 : sh 8 = .inr (0, 900) := rfl
theorem sh9 : sh 9 = .inr (0, 6) := rfl
theorem sh10 : sh 10 = .inr (0, 64) := rfl
theorem sh11 : sh 11 = .inl 7 := rfl
theorem sh12 : sh 12 = .inr (0, 7) := rfl
theorem sh13 : sh 13 = .inl 1 := rfl
theorem sh14 : sh 14 = .inl 2 := rfl
theorem sh15 : sh 15 = .inr (0, 7) := rfl
theorem sh16 : sh 16 = .inr (0, 49) := rfl
theorem sh17 : sh 17 = .inr (0, 49) := rfl
theorem sh18 : sh 18 = .inr (0, 900) := rfl
theorem sh19 : sh 19 = .inr (0, 6) := rfl
theorem sh20 : sh 20 = .inr (0, 64) := rfl
theorem sh21 : sh 21 = .inl 7 := rfl
theorem sh22 : sh 22 = .inr (0, 7) := rfl
theorem sh23 : sh 23 = .inl 10 := rfl
theorem sh24 : sh 24 = .inr (7, 4) := rfl
theorem sh25 : sh 25 = .inr (3, 40) := rfl
theorem sh26 : sh 26 = .inr (3, 40) := rfl
theorem sh27 : sh 27 = .inr (3, 40) := rfl
theorem sh28 : sh 28 = .inr (3, 40) := rfl
theorem sh29 : sh 29 = .inr (0, 4) := rfl
theorem sh30 : sh 30 = .inr (0, 4) := rfl
theorem sh31 : sh 31 = .inl 0 := rfl
theorem sh32 : sh 32 = .inl 7 := rfl
theorem sh33 : sh 33 = .inr (0, 7) := rfl
theorem sh34 : sh 34 = .inr (4, 11) := rfl
theorem sh35 : sh 35 = .inr (0, 41) := rfl
theorem sh36 : sh 36 = .inl 7 := rfl
theorem sh37 : sh 37 = .inr (0, 7) := rfl
theorem sh38 : sh 38 = .inl 7 := rfl
theorem sh39 : sh 39 = .inr (0, 7) := rfl
theorem sh40 : sh 40 = .inl 7 := rfl
theorem sh41 : sh 41 = .inr (0, 7) := rfl
theorem sh42 : sh 42 = .inl 7 := rfl
theorem sh43 : sh 43 = .inr (0, 7) := rfl
theorem sh44 : sh 44 = .inl 7 := rfl
theorem sh45 : sh 45 = .inr (0, 7) := rfl
theorem sh46 : sh 46 = .inl 7 := rfl
theorem sh47 : sh 47 = .inr (0, 7) := rfl
theorem sh48 : sh 48 = .inl 7 := rfl
theorem sh49 : sh 49 = .inr (0, 7) := rfl
theorem sh50 : sh 50 = .inl 7 := rfl
theorem sh51 : sh 51 = .inr (0, 7) := rfl
theorem sh52 : sh 52 = .inl 7 := rfl
theorem sh53 : sh 53 = .inr (0, 7) := rfl
theorem sh54 : sh 54 = .inl 7 := rfl
theorem sh55 : sh 55 = .inr (0, 7) := rfl
theorem sh56 : sh 56 = .inl 7 := rfl
theorem sh57 : sh 57 = .inr (0, 7) := rfl
theorem sh58 : sh 58 = .inl 4 := rfl
theorem sh59 : sh 59 = .inr (1, 1960) := rfl
theorem sh60 : sh 60 = .inr (0, 7) := rfl
theorem sh61 : sh 61 = .inr (3, 7) := rfl
theorem sh62 : sh 62 = .inr (0, 280) := rfl
theorem sh63 : sh 63 = .inl 5 := rfl
theorem sh64 : sh 64 = .inr (0, 280) := rfl
theorem sh65 : sh 65 = .inl 6 := rfl
theorem sh66 : sh 66 = .inr (0, 7) := rfl
theorem sh67 : sh 67 = .inr (0, 7) := rfl
theorem sh68 : sh 68 = .inr (0, 7) := rfl
theorem sh69 : sh 69 = .inl 8 := rfl
theorem sh70 : sh 70 = .inr (6, 11) := rfl
theorem sh71 : sh 71 = .inr (0, 280) := rfl
theorem sh72 : sh 72 = .inr (0, 280) := rfl
theorem sh73 : sh 73 = .inr (0, 280) := rfl
theorem sh74 : sh 74 = .inr (0, 280) := rfl
theorem sh75 : sh 75 = .inr (0, 280) := rfl
theorem sh76 : sh 76 = .inr (0, 280) := rfl
theorem sh77 : sh 77 = .inr (0, 280) := rfl
theorem sh78 : sh 78 = .inr (0, 280) := rfl
theorem sh79 : sh 79 = .inr (0, 280) := rfl
theorem sh80 : sh 80 = .inr (0, 280) := rfl
theorem sh81 : sh 81 = .inr (0, 280) := rfl
theorem sh82 : sh 82 = .inr (6, 2) := rfl
theorem sh83 : sh 83 = .inr (0, 280) := rfl
theorem sh84 : sh 84 = .inr (0, 280) := rfl
theorem sh85 : sh 85 = .inr (6, 2) := rfl
theorem sh86 : sh 86 = .inr (0, 280) := rfl
theorem sh87 : sh 87 = .inr (0, 280) := rfl
theorem sh88 : sh 88 = .inr (5, 2) := rfl
theorem sh89 : sh 89 = .inl 2 := rfl
theorem sh90 : sh 90 = .inr (0, 7) := rfl
theorem sh91 : sh 91 = .inr (0, 49) := rfl
theorem sh92 : sh 92 = .inr (0, 49) := rfl
theorem sh93 : sh 93 = .inr (0, 900) := rfl
theorem sh94 : sh 94 = .inr (0, 6) := rfl
theorem sh95 : sh 95 = .inr (0, 64) := rfl
theorem sh96 : sh 96 = .inl 2 := rfl
theorem sh97 : sh 97 = .inr (0, 7) := rfl
theorem sh98 : sh 98 = .inr (0, 49) := rfl
theorem sh99 : sh 99 = .inr (0, 49) := rfl
theorem sh100 : sh 100 = .inr (0, 900) := rfl
theorem sh101 : sh 101 = .inr (0, 6) := rfl
theorem sh102 : sh 102 = .inr (0, 64) := rfl
theorem sh103 : sh 103 = .inr (4, 2) := rfl
theorem sh104 : sh 104 = .inl 7 := rfl
theorem sh105 : sh 105 = .inr (0, 7) := rfl
theorem sh106 : sh 106 = .inl 7 := rfl
theorem sh107 : sh 107 = .inr (0, 7) := rfl
theorem sh108 : sh 108 = .inr (2, 2) := rfl
theorem sh109 : sh 109 = .inl 12 := rfl
theorem sh110 : sh 110 = .inr (0, 3408) := rfl
theorem sh111 : sh 111 = .inr (2, 2) := rfl
theorem sh112 : sh 112 = .inr (0, 900) := rfl
theorem sh113 : sh 113 = .inr (0, 1136) := rfl
theorem sh114 : sh 114 = .inr (0, 900) := rfl
theorem sh115 : sh 115 = .inr (0, 6) := rfl
theorem sh116 : sh 116 = .inr (0, 11) := rfl
theorem sh117 : sh 117 = .inr (0, 2009) := rfl
theorem sh118 : sh 118 = .inr (0, 287) := rfl
theorem sh119 : sh 119 = .inr (2, 287) := rfl
theorem sh120 : sh 120 = .inr (0, 7) := rfl
theorem sh121 : sh 121 = .inr (0, 7) := rfl
theorem sh122 : sh 122 = .inr (0, 7) := rfl
theorem sh123 : sh 123 = .inr (3, 3157) := rfl
theorem sh124 : sh 124 = .inr (0, 41) := rfl
theorem sh125 : sh 125 = .inr (3, 287) := rfl
theorem sh126 : sh 126 = .inr (3, 287) := rfl
theorem sh127 : sh 127 = .inr (0, 4) := rfl
theorem sh128 : sh 128 = .inr (0, 4) := rfl
theorem sh129 : sh 129 = .inr (3, 160) := rfl
theorem shSa0 : ∀ k, k < nOb → sh k = .inl 7 → sh (k + 1) = .inr (0, 7) ∧ rf k 4 = some (k + 1) := by decide +kernel
theorem shNe0_2 : ∀ k, k < nOb → sh k = .inl 2 → (sh (k + 1) = .inr (0, 7) ∧ rf k 2 = some (k + 1)) := by decide +kernel
theorem shNe_2 {k : Nat} (h : sh k = .inl 2) : sh (k + 1) = .inr (0, 7) := (shNe0_2 k (ltO' h) h).1
theorem rfNe_2 {k : Nat} (h : sh k = .inl 2) : rf k 2 = some (k + 1) := (shNe0_2 k (ltO' h) h).2
theorem shNe0_3 : ∀ k, k < nOb → sh k = .inl 2 → (sh (k + 2) = .inr (0, 49) ∧ rf k 3 = some (k + 2)) := by decide +kernel
theorem shNe_3 {k : Nat} (h : sh k = .inl 2) : sh (k + 2) = .inr (0, 49) := (shNe0_3 k (ltO' h) h).1
theorem rfNe_3 {k : Nat} (h : sh k = .inl 2) : rf k 3 = some (k + 2) := (shNe0_3 k (ltO' h) h).2
theorem shNe0_4 : ∀ k, k < nOb → sh k = .inl 2 → (sh (k + 3) = .inr (0, 49) ∧ rf k 4 = some (k + 3)) := by decide +kernel
theorem shNe_4 {k : Nat} (h : sh k = .inl 2) : sh (k + 3) = .inr (0, 49) := (shNe0_4 k (ltO' h) h).1
theorem rfNe_4 {k : Nat} (h : sh k = .inl 2) : rf k 4 = some (k + 3) := (shNe0_4 k (ltO' h) h).2
theorem shNe0_5 : ∀ k, k < nOb → sh k = .inl 2 → (sh (k + 4) = .inr (0, 900) ∧ rf k 5 = some (k + 4)) := by decide +kernel
theorem shNe_5 {k : Nat} (h : sh k = .inl 2) : sh (k + 4) = .inr (0, 900) := (shNe0_5 k (ltO' h) h).1
theorem rfNe_5 {k : Nat} (h : sh k = .inl 2) : rf k 5 = some (k + 4) := (shNe0_5 k (ltO' h) h).2
theorem shNe0_11 : ∀ k, k < nOb → sh k = .inl 2 → (sh (k + 5) = .inr (0, 6) ∧ rf k 11 = some (k + 5)) := by decide +kernel
theorem shNe_11 {k : Nat} (h : sh k = .inl 2) : sh (k + 5) = .inr (0, 6) := (shNe0_11 k (ltO' h) h).1
theorem rfNe_11 {k : Nat} (h : sh k = .inl 2) : rf k 11 = some (k + 5) := (shNe0_11 k (ltO' h) h).2
theorem shNe0_12 : ∀ k, k < nOb → sh k = .inl 2 → (sh (k + 6) = .inr (0, 64) ∧ rf k 12 = some (k + 6)) := by decide +kernel
theorem shNe_12 {k : Nat} (h : sh k = .inl 2) : sh (k + 6) = .inr (0, 64) := (shNe0_12 k (ltO' h) h).1
theorem rfNe_12 {k : Nat} (h : sh k = .inl 2) : rf k 12 = some (k + 6) := (shNe0_12 k (ltO' h) h).2
theorem shSa_4 {k : Nat} (h : sh k = .inl 7) : sh (k + 1) = .inr (0, 7) := (shSa0 k (ltO' h) h).1
theorem rfSa_4 {k : Nat} (h : sh k = .inl 7) : rf k 4 = some (k + 1) := (shSa0 k (ltO' h) h).2
theorem ra24_0 : ∀ i, i < 4 → sh (25 + i) = .inr (3, 40) ∧ rf 24 i = some (25 + i) := by decide +kernel
theorem raS24 {i : Int32} (h : inb i 4 = true) : sh (25 + i.toNatClampNeg) = .inr (3, 40) := (ra24_0 _ (inb_lt h)).1
theorem raR24 {i : Int32} (h : inb i 4 = true) : rf 24 i.toNatClampNeg = some (25 + i.toNatClampNeg) := (ra24_0 _ (inb_lt h)).2
theorem ra34_0 : ∀ i, i < 11 → sh (36 + 2 * i) = .inl 7 ∧ rf 34 i = some (36 + 2 * i) := by decide +kernel
theorem raS34 {i : Int32} (h : inb i 11 = true) : sh (36 + 2 * i.toNatClampNeg) = .inl 7 := (ra34_0 _ (inb_lt h)).1
theorem raR34 {i : Int32} (h : inb i 11 = true) : rf 34 i.toNatClampNeg = some (36 + 2 * i.toNatClampNeg) := (ra34_0 _ (inb_lt h)).2
theorem ra70_0 : ∀ i, i < 11 → sh (71 + i) = .inr (0, 280) ∧ rf 70 i = some (71 + i) := by decide +kernel
theorem raS70 {i : Int32} (h : inb i 11 = true) : sh (71 + i.toNatClampNeg) = .inr (0, 280) := (ra70_0 _ (inb_lt h)).1
theorem raR70 {i : Int32} (h : inb i 11 = true) : rf 70 i.toNatClampNeg = some (71 + i.toNatClampNeg) := (ra70_0 _ (inb_lt h)).2
theorem ra82_0 : ∀ i, i < 2 → sh (83 + i) = .inr (0, 280) ∧ rf 82 i = some (83 + i) := by decide +kernel
theorem raS82 {i : Int32} (h : inb i 2 = true) : sh (83 + i.toNatClampNeg) = .inr (0, 280) := (ra82_0 _ (inb_lt h)).1
theorem raR82 {i : Int32} (h : inb i 2 = true) : rf 82 i.toNatClampNeg = some (83 + i.toNatClampNeg) := (ra82_0 _ (inb_lt h)).2
theorem ra85_0 : ∀ i, i < 2 → sh (86 + i) = .inr (0, 280) ∧ rf 85 i = some (86 + i) := by decide +kernel
theorem raS85 {i : Int32} (h : inb i 2 = true) : sh (86 + i.toNatClampNeg) = .inr (0, 280) := (ra85_0 _ (inb_lt h)).1
theorem raR85 {i : Int32} (h : inb i 2 = true) : rf 85 i.toNatClampNeg = some (86 + i.toNatClampNeg) := (ra85_0 _ (inb_lt h)).2
theorem ra88_0 : ∀ i, i < 2 → sh (89 + 7 * i) = .inl 2 ∧ rf 88 i = some (89 + 7 * i) := by decide +kernel
theorem raS88 {i : Int32} (h : inb i 2 = true) : sh (89 + 7 * i.toNatClampNeg) = .inl 2 := (ra88_0 _ (inb_lt h)).1
theorem raR88 {i : Int32} (h : inb i 2 = true) : rf 88 i.toNatClampNeg = some (89 + 7 * i.toNatClampNeg) := (ra88_0 _ (inb_lt h)).2
theorem ra103_0 : ∀ i, i < 2 → sh (104 + 2 * i) = .inl 7 ∧ rf 103 i = some (104 + 2 * i) := by decide +kernel
theorem raS103 {i : Int32} (h : inb i 2 = true) : sh (104 + 2 * i.toNatClampNeg) = .inl 7 := (ra103_0 _ (inb_lt h)).1
theorem raR103 {i : Int32} (h : inb i 2 = true) : rf 103 i.toNatClampNeg = some (104 + 2 * i.toNatClampNeg) := (ra103_0 _ (inb_lt h)).2
