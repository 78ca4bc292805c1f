/-! making objects -/
def va_AOA (t : FieldType) (U : State) : Prop := (Cond.arrayOver (.array t)).before #[] U = true
theorem va_AOA.use {t : FieldType} {A : Array Value} {U : State} (h : va_AOA t U) : (Cond.arrayOver (.array t)).before A U = true := h
def isAr (comp : ClassId) (x : Class) : Bool := match x.kind with | .array component _ => component == comp | _ => false
theorem isAr_bare (vm : Vm) (comp : ClassId) : vm.bare.classes.findIdx? (isAr comp) = vm.classes.findIdx? (isAr comp) := by
  simp only [Vm.bare, Array.findIdx?_map]
  rfl
theorem aoA.moved {t : FieldType} {u U : State} (hvm : u.vm.Alike U.vm) (h : aoA t u) : va_AOA t U := by
  obtain ⟨comp, c, k, h1, h2, h3, h4, h5⟩ := arrayOverA_spec h
  obtain ⟨k', hk', he⟩ := hvm.2.2 _ _ h3
  have h2' : u.vm.classes.findIdx? (isAr comp) = some c := h2
  have hi : U.vm.classes.findIdx? (isAr comp) = some c := by
    rw [← isAr_bare]
    first | rw [hvm.bare_eq] | rw [← hvm.bare_eq]
    rw [isAr_bare]
    exact h2'
  have hkind : k'.kind = .array comp (.array t) := by rw [he]; exact h4
  have f1 : U.vm.findClass (FieldType.array t).toString = some comp := by rw [hvm.findClass]; exact h1
  have f2 : U.vm.findClass ("[" ++ (FieldType.array t).toString) = some c := by rw [hvm.findClass]; exact h5
  unfold va_AOA Cond.before Cond.holds
  simp only [Cond.value]
  rw [f1, Option.bind_some]
  refine (congrArg (fun o : Option Nat => (o.bind (fun c => (U.vm.classes[c]?).map fun (k : Class) => match k.kind with | .array _ ty => decide (ty = FieldType.array t) && decide (U.vm.findClass ("[" ++ (FieldType.array t).toString) = some c) | _ => false) == some true)) hi).trans ?_
  simp [hk', hkind, f2]
def ur (f : Nat → Nat → Option Nat) (k j r : Nat) : Nat → Nat → Option Nat := fun a b => if a = k ∧ b = j then some r else f a b
/-- behind the last object there is nothing, and nothing points there -/
def Zr (P : PM) (E : EV) : Prop := (∀ k, E.2.1 ≤ k → ∀ j, P.1 k j = 0 ∧ P.2 k j = 0 ∧ E.1 k j = none) ∧ ∀ k j r, E.1 k j = some r → r < E.2.1
/-- n objects more -/
def Ex (E E' : EV) (n : Nat) : Prop := E'.1 = E.1 ∧ E'.2.1 = E.2.1 + n ∧ ∀ k, (k < E.2.1 ∨ 1000 ≤ k) → ad E' k = ad E k
theorem Zr.u1 {P : PM} {E : EV} {k j : Nat} {x : Int32} (h : Zr P E) (hk : k < E.2.1) : Zr (u1 P k j x) E :=
  ⟨fun a ha b => ⟨by rw [u1_1, if_neg (by omega)]; exact (h.1 a ha b).1, (h.1 a ha b).2⟩, h.2⟩
theorem Zr.ur {P : PM} {E : EV} {k j r : Nat} (h : Zr P E) (hk : k < E.2.1) (hr : r < E.2.1) : Zr P (ur E.1 k j r, E.2) :=
  ⟨fun a ha b => ⟨(h.1 a ha b).1, (h.1 a ha b).2.1, by show ite _ _ _ = _; rw [if_neg (by have : E.2.1 ≤ a := ha; omega)]; exact (h.1 a ha b).2.2⟩, fun a b q hq => by
    have hq : (if a = k ∧ b = j then some r else E.1 a b) = some q := hq
    split at hq
    · cases hq; exact hr
    · exact h.2 a b q hq⟩
theorem Zr.ex {P : PM} {E E' : EV} {n : Nat} (h : Zr P E) (x : Ex E E' n) : Zr P E' :=
  ⟨fun a ha b => by rw [x.1]; exact h.1 a (by rw [x.2.1] at ha; omega) b, fun a b r hr => by rw [x.1] at hr; rw [x.2.1]; have := h.2 a b r hr; omega⟩
theorem ent_ad {G : GX} {P : PM} {E E' : EV} {k : Nat} (h1 : E'.1 = E.1) (h : ∀ j r, E.1 k j = some r → ad E' r = ad E r) : ent G P E' k = ent G P E k := by
  have hm : ∀ j, (E'.1 k j).map (ad E') = (E.1 k j).map (ad E) := fun j => by
    rw [h1]
    cases hj : E.1 k j with
    | none => rfl
    | some r => exact congrArg some (h j r hj)
  have hv : ∀ ty j, vl P E' ty k j = vl P E ty k j := fun ty j => by
    unfold vl
    cases ty <;> simp [hm j]
  unfold ent
  cases sh k with
  | inl c => simp only [obE, hv]
  | inr q => simp only [arE, hm]
theorem wsG_push {G : GX} {P : PM} {E : EV} {q : Nat} (hz : Zr P E) : wsG G P E ++ [(q, ent G P (E.1, E.2.1 + 1, fun k => if k = E.2.1 then q else ad E k) E.2.1)] = wsG G P (E.1, E.2.1 + 1, fun k => if k = E.2.1 then q else ad E k) := by
  unfold wsG
  simp only [List.range_succ, List.map_append, List.map_cons, List.map_nil]
  congr 1
  · apply List.map_congr_left
    intro k hk
    have hk := List.mem_range.mp hk
    rw [ent_ad (E := E) (E' := (E.1, E.2.1 + 1, fun k => if k = E.2.1 then q else ad E k)) (k := k) rfl (fun j r hr => if_neg (by have := hz.2 _ _ _ hr; omega))]
    show (ad E k, _) = (if k = E.2.1 then q else ad E k, _)
    rw [if_neg (by omega)]
  · show [(q, _)] = [(if E.2.1 = E.2.1 then q else ad E E.2.1, _)]
    rw [if_pos rfl]
theorem ra_uniq {U : State} {a b : ClassId} {ty : FieldType} (h1 : va_RA U a ty) (h2 : va_RA U b ty) : a = b := by
  cases ty
  case object C =>
    obtain ⟨-, -, -, -, -, h1⟩ := h1
    obtain ⟨-, -, -, -, -, h2⟩ := h2
    exact Option.some.inj (h1.symm.trans h2)
  all_goals exact Option.some.inj (h1.symm.trans h2)
theorem Kn.le {G : GX} {s : State} (h : Kn G s) : (gs G).heap.size ≤ s.heap.size := by
  rcases Nat.lt_or_ge s.heap.size (gs G).heap.size with q | q
  · have h1 := h.2.2.2 s.heap.size q
    rw [Array.getElem?_eq_none (Nat.le_refl _), Array.getElem?_eq_getElem q] at h1
    cases h1
  · exact q
theorem Kn.A {G : GX} {s : State} (h : Kn G s) : ∀ q, s.heap.size ≤ q → AG G q := fun q hq => Nat.le_trans h.le hq
def okT : FieldType → Bool
  | .float => false
  | .double => false
  | _ => true
theorem okC : ∀ ci, ci < 13 → ∀ j, j < cF ci → okT (cY ci j) = true := by decide +kernel
theorem vl_0 {P : PM} {E : EV} {ty : FieldType} {k j : Nat} (hok : okT ty = true) (h : P.1 k j = 0 ∧ P.2 k j = 0 ∧ E.1 k j = none) : vl P E ty k j = defaultValue ty := by
  unfold vl
  cases ty <;> first | (cases hok; done) | (simp only [h.1, h.2.1, h.2.2]; rfl)
section GO4
variable {G : GX} {cc : ByteArray} {own : String} {nL : Nat} {rt : Option FieldType} {ini : Bool} {d n0 n1 : Nat} {Q : QT} {pc : Nat} {lv : List (Nat × Value)} {st : List Value} {P : PM} {E : EV}
theorem ext_str {q : Nat} (h9 : E.2.1 < 1000) {H : Heap} (hR : Rep G P E H) : ∀ i : Nat, i < 4 → ad (E.1, E.2.1 + 1, fun k => if k = E.2.1 then q else ad E k) (1000 + 2 * i) = gK G i ∧ ad (E.1, E.2.1 + 1, fun k => if k = E.2.1 then q else ad E k) (1001 + 2 * i) = gV G i := fun i hi =>
  ⟨(if_neg (by omega)).trans (hR.2.2.2 i hi).1, (if_neg (by omega)).trans (hR.2.2.2 i hi).2⟩
theorem Go.new {idx : Nat} (ci : Nat) (hci : ci < 13) (hs : sh E.2.1 = .inl ci) (h9 : E.2.1 < 1000) (hz : Zr P E) (hw : Cond.classLink own idx (cN ci) ∈ lw_gd) (hi : Cond.instantiable (cN ci) (cF ci) ∈ lw_gd) (hn : Cond.initialized (cN ci) ∈ lw_gd) (hc : E.2.1 + 1 ≤ n1) (hd : decode cc pc = .ok (.new idx, 3))
    (g : ∀ E', Ex E E' 1 → Go G cc own nL rt ini d n0 n1 Q (pc + 3) lv (.ref (ad E' E.2.1) :: st) P E') : Go G cc own nL rt ini d n0 n1 Q pc lv st P E := by
  intro p e s m a b me c H lo ls C hS hR hl hn0
  obtain ⟨hx, hb, -, -, -, -, ho, hts, hKn, hG⟩ := id C
  have m1 := tot_mono hc
  have m2 : tot (E.2.1 + 1) = tot E.2.1 + cF ci := by show tot E.2.1 + szOf E.2.1 = _; rw [szOf, hs]
  have m3 := tot_mono hn0
  refine va_new hx hb hts (inW ci hci) (cY ci) (cY_ok ci hci) ho (hts _ hw) (hts _ hi) (hts _ hn) (hKn.K hG) hR.1 hR.2.1 hS hKn.A (cls_ok ci hci) (fs := obE P E ci E.2.1) (fun j hj => ?_) ?_ ?_ hd (fun q H1 hP1 hD1 hS1 => ?_)
  · show _ = (obE P E ci E.2.1).getD j .null
    rw [List.getD_eq_getElem?_getD, obE_at hj]
    exact (vl_0 (okC ci hci j hj) (hz.1 _ (Nat.le_refl _) j)).symm
  · show _ ≤ n1 - n0
    omega
  · show _ ≤ tot n1 - tot n0
    omega
  · have he : (.inr (ci, obE P E ci E.2.1) : va_E) = ent G P (E.1, E.2.1 + 1, fun k => if k = E.2.1 then q else ad E k) E.2.1 := by
      rw [ent_ad (E := E) (E' := (E.1, E.2.1 + 1, fun k => if k = E.2.1 then q else ad E k)) (k := E.2.1) rfl (fun j r hr => by rw [(hz.1 _ (Nat.le_refl _) j).2.2] at hr; cases hr), ent_ob hs]
    rw [he, wsG_push hz] at hP1 hD1
    have k := g (E.1, E.2.1 + 1, fun k => if k = E.2.1 then q else ad E k) ⟨rfl, rfl, fun k hk => if_neg (by omega)⟩ p e s m a b me c H1 lo ls C hS1 ⟨hP1, hD1, hKn.low hS1, ext_str h9 hR⟩ hl (Nat.le_succ_of_le hn0)
    have e1 : ad (E.1, E.2.1 + 1, fun k => if k = E.2.1 then q else ad E k) E.2.1 = q := if_pos rfl
    rw [e1] at k
    have e2 : E.2.1 - n0 + 1 = E.2.1 + 1 - n0 := by omega
    have e3 : tot E.2.1 - tot n0 + cF ci = tot (E.2.1 + 1) - tot n0 := by omega
    rw [e2, e3]
    exact k
theorem Go.newa {atype : ArrayType} (t N' : Nat) {n : Int32} (ht : t < 4) (hty : newarray.typeOf atype = ety t) (hs : sh E.2.1 = .inr (t, N')) (h9 : E.2.1 < 1000) (hz : Zr P E) (hw : Cond.arrayClass (newarray.typeOf atype) ∈ lw_gd) (hc : E.2.1 + 1 ≤ n1) (hn : ¬ n < 0) (hN : n.toNatClampNeg = N') (hbt : N' * componentBytes (ety t) ≤ 536870912) (hd : decode cc pc = .ok (.newarray atype, 2))
    (g : ∀ E', Ex E E' 1 → Go G cc own nL rt ini d n0 n1 Q (pc + 2) lv (.ref (ad E' E.2.1) :: st) P E') : Go G cc own nL rt ini d n0 n1 Q pc lv (.int n :: st) P E := by
  intro p e s m a b me c H lo ls C hS hR hl hn0
  obtain ⟨hx, hb, -, -, -, -, ho, hts, hKn, hG⟩ := id C
  have m1 := tot_mono hc
  have m2 : tot (E.2.1 + 1) = tot E.2.1 + N' := by show tot E.2.1 + szOf E.2.1 = _; rw [szOf, hs]
  have m3 := tot_mono hn0
  have z1 : P.1 E.2.1 = fun _ => 0 := funext fun j => (hz.1 _ (Nat.le_refl _) j).1
  have z2 : P.2 E.2.1 = fun _ => 0 := funext fun j => (hz.1 _ (Nat.le_refl _) j).2.1
  refine va_newa hx hb (hts _ hw) hty (hKn.K hG) hR.1 hR.2.1 hS hKn.A (a0 := (N', arE P E t E.2.1)) (fun cA => ?_) hn hN hbt ?_ ?_ hd (fun q cA H1 hK1 hP1 hD1 hS1 => ?_)
  · rcases (show t = 0 ∨ t = 1 ∨ t = 2 ∨ t = 3 by omega) with rfl | rfl | rfl | rfl
    · show vp_cell cA (N', .inl (P.1 E.2.1)) = _
      rw [z1]; rfl
    · show vp_cell cA (N', .inl (P.1 E.2.1)) = _
      rw [z1]; rfl
    · show vp_cell cA (N', .inl (P.1 E.2.1)) = _
      rw [z1]; rfl
    · show vp_cell cA (N', .inr (.inl (P.2 E.2.1))) = _
      rw [z2]; rfl
  · show _ ≤ n1 - n0
    omega
  · show _ ≤ tot n1 - tot n0
    omega
  · have hcA : cA = gC G t := by
      have h1 := (hK1.2 (tysG G).length (cA, ety t) (by simp)).2
      exact ra_uniq h1 ((hKn.K hG).2 t _ (tysG_at (by omega))).2
    subst hcA
    have he : (.inl (gC G t, N', arE P E t E.2.1) : va_E) = ent G P (E.1, E.2.1 + 1, fun k => if k = E.2.1 then q else ad E k) E.2.1 := by
      rw [ent_ad (E := E) (E' := (E.1, E.2.1 + 1, fun k => if k = E.2.1 then q else ad E k)) (k := E.2.1) rfl (fun j r hr => by rw [(hz.1 _ (Nat.le_refl _) j).2.2] at hr; cases hr), ent_ar hs]
    rw [he, wsG_push hz] at hP1 hD1
    have k := g (E.1, E.2.1 + 1, fun k => if k = E.2.1 then q else ad E k) ⟨rfl, rfl, fun k hk => if_neg (by omega)⟩ p e s m a b me c H1 lo ls C hS1 ⟨hP1, hD1, hKn.low hS1, ext_str h9 hR⟩ hl (Nat.le_succ_of_le hn0)
    have e1 : ad (E.1, E.2.1 + 1, fun k => if k = E.2.1 then q else ad E k) E.2.1 = q := if_pos rfl
    rw [e1] at k
    have e2 : E.2.1 - n0 + 1 = E.2.1 + 1 - n0 := by omega
    have e3 : tot E.2.1 - tot n0 + N' = tot (E.2.1 + 1) - tot n0 := by omega
    rw [e2, e3]
    exact k
theorem Go.newq {idx : Nat} (t N' : Nat) (Cn : String) {n : Int32} (ht : 4 ≤ t ∧ t < 6) (hty : ety t = .object Cn) (hs : sh E.2.1 = .inr (t, N')) (h9 : E.2.1 < 1000) (hz : Zr P E) (hw : Cond.classLink own idx Cn ∈ lw_gd) (hov : GOK G → va_AO Cn (gs G)) (hc : E.2.1 + 1 ≤ n1) (hn : ¬ n < 0) (hN : n.toNatClampNeg = N') (hbt : N' * 4 ≤ 536870912) (hd : decode cc pc = .ok (.anewarray idx, 3))
    (g : ∀ E', Ex E E' 1 → Go G cc own nL rt ini d n0 n1 Q (pc + 3) lv (.ref (ad E' E.2.1) :: st) P E') : Go G cc own nL rt ini d n0 n1 Q pc lv (.int n :: st) P E := by
  intro p e s m a b me c H lo ls C hS hR hl hn0
  obtain ⟨hx, hb, -, -, -, -, ho, hts, hKn, hG⟩ := id C
  have m1 := tot_mono hc
  have m2 : tot (E.2.1 + 1) = tot E.2.1 + N' := by show tot E.2.1 + szOf E.2.1 = _; rw [szOf, hs]
  have m3 := tot_mono hn0
  refine va_newq hx hb ho (hts _ hw) (va_AO.moved hKn.1 (hov hG)) (hKn.K hG) hR.1 hR.2.1 hS hKn.A hn hN hbt ?_ ?_ hd (fun q cA H1 hK1 hP1 hD1 hS1 => ?_)
  · show _ ≤ n1 - n0
    omega
  · show _ ≤ tot n1 - tot n0
    omega
  · have hcA : cA = gC G t := by
      have h1 := (hK1.2 (tysG G).length (cA, .object Cn) (by simp)).2
      have h2 := ((hKn.K hG).2 t _ (tysG_at (by omega))).2
      simp only at h2
      rw [hty] at h2
      exact ra_uniq h1 h2
    subst hcA
    have he : (.inl (gC G t, N', .inr (.inr (.inr (.inr (fun _ => none))))) : va_E) = ent G P (E.1, E.2.1 + 1, fun k => if k = E.2.1 then q else ad E k) E.2.1 := by
      rw [ent_ad (E := E) (E' := (E.1, E.2.1 + 1, fun k => if k = E.2.1 then q else ad E k)) (k := E.2.1) rfl (fun j r hr => by rw [(hz.1 _ (Nat.le_refl _) j).2.2] at hr; cases hr), ent_ar hs]
      simp only [arE]
      rw [if_neg (by omega), if_neg (by omega)]
      refine congrArg (fun z => Sum.inl (gC G t, N', Sum.inr (Sum.inr (Sum.inr (Sum.inr z))))) (funext fun j => ?_)
      rw [(hz.1 _ (Nat.le_refl _) j).2.2]; rfl
    rw [he, wsG_push hz] at hP1 hD1
    have k := g (E.1, E.2.1 + 1, fun k => if k = E.2.1 then q else ad E k) ⟨rfl, rfl, fun k hk => if_neg (by omega)⟩ p e s m a b me c H1 lo ls C hS1 ⟨hP1, hD1, hKn.low hS1, ext_str h9 hR⟩ hl (Nat.le_succ_of_le hn0)
    have e1 : ad (E.1, E.2.1 + 1, fun k => if k = E.2.1 then q else ad E k) E.2.1 = q := if_pos rfl
    rw [e1] at k
    have e2 : E.2.1 - n0 + 1 = E.2.1 + 1 - n0 := by omega
    have e3 : tot E.2.1 - tot n0 + N' = tot (E.2.1 + 1) - tot n0 := by omega
    rw [e2, e3]
    exact k
theorem Go.putR {idx : Nat} (k j r : Nat) {ci : Nat} (hci : ci < 13) (hj : j < cF ci) (hs : sh k = .inl ci) (hk : k < E.2.1) (hI : (∃ C, cY ci j = .object C) ∨ ∃ t, cY ci j = .array t) (hfin : (cT ci j).2.2.2 = true) (hini : ini = true) (hdec : (cT ci j).1 = own)
    (hw : Cond.fieldLink own idx (cT ci j).1 (cT ci j).2.1 (cT ci j).2.2.1 ∈ lw_gd) (hd : decode cc pc = .ok (.putfield idx, 3)) (g : Go G cc own nL rt ini d n0 n1 Q (pc + 3) lv st P (ur E.1 k j r, E.2)) : Go G cc own nL rt ini d n0 n1 Q pc lv (.ref (ad E r) :: .ref (ad E k) :: st) P E := by
  intro p e s m a b me c H lo ls C hS hR hl hn
  obtain ⟨hx, hb, -, -, -, hin, ho, hts, hKn, hG⟩ := id C
  have hnf : narrow (cY ci j) (.ref (ad E r)) = .ref (ad E r) ∧ fits (cY ci j) (.ref (ad E r)) = true := by
    rcases hI with ⟨C, h⟩ | ⟨t, h⟩ <;> rw [h] <;> exact ⟨rfl, rfl⟩
  refine va_putF hx hb hts (inW ci hci) (cY ci) (cY_ok ci hci) (cNm_ok ci hci) ho (hKn.K hG) hR.1 hR.2.1 hS k (fs := obE P E ci k) (by rw [wsG_at hk, ent_ob hs]) (cls_ok ci hci) j hj (hts _ hw) (fun _ h => h) hfin (hin hini) hdec (cY_ok ci hci j hj) hnf.1 hnf.2 (by rw [obE_len]; exact hj) hd (fun H1 lo1 hP1 hD1 hS1 => ?_)
  have e1 : (wsG G P E).set k (ad E k, .inr (ci, (obE P E ci k).set j (.ref (ad E r)))) = wsG G P (ur E.1 k j r, E.2) := by
    apply List.ext_getElem?
    intro i
    rw [List.getElem?_set]
    by_cases hi : k = i
    · subst hi
      rw [if_pos rfl, if_pos (by rw [wsG_len]; exact hk), wsG_at (E := (ur E.1 k j r, E.2)) hk, ent_ob hs, obE_setR hj hI]
      rfl
    · rw [if_neg hi]
      by_cases hl : i < E.2.1
      · rw [wsG_at hl, wsG_at (E := (ur E.1 k j r, E.2)) hl]
        refine congrArg (fun z => some (ad E i, z)) ?_
        have hm : ∀ z, ur E.1 k j r i z = E.1 i z := fun z => if_neg (by omega)
        have hv : ∀ ty z, vl P (ur E.1 k j r, E.2) ty i z = vl P E ty i z := fun ty z => by
          unfold vl
          cases ty <;> simp [hm z]
        unfold ent
        cases sh i with
        | inl c => simp only [obE, hv]
        | inr q => simp only [arE, hm]
      · rw [List.getElem?_eq_none (by rw [wsG_len]; omega), List.getElem?_eq_none (by rw [wsG_len]; show E.2.1 ≤ _; omega)]
  rw [e1] at hP1 hD1
  exact g p e s m a b me c H1 lo1 ls C hS1 ⟨hP1, hD1, hKn.low hS1, hR.2.2.2⟩ hl hn
theorem Go.aastore (k t nn r : Nat) {i : Int32} {cr : Nat} (hs : sh k = .inr (t, nn)) (ht : 4 ≤ t ∧ t < 6) (hk : k < E.2.1) (hcr : cr < 13) (hr : sh r = .inl cr) (hrE : r < E.2.1) (hty : ety t = .object (cN cr)) (hi : vp_in i nn) (hd : decode cc pc = .ok (.aastore, 1))
    (g : Go G cc own nL rt ini d n0 n1 Q (pc + 1) lv st P (ur E.1 k i.toNatClampNeg r, E.2)) : Go G cc own nL rt ini d n0 n1 Q pc lv (.ref (ad E r) :: .int i :: .ref (ad E k) :: st) P E := by
  intro p e s m a b me c H lo ls C hS hR hl hn
  obtain ⟨hx, hb, -, -, -, hin, ho, hts, hKn, hG⟩ := id C
  have hent : ∀ E2 : EV, ent G P E2 k = .inl (gC G t, nn, .inr (.inr (.inr (.inr (fun j => (E2.1 k j).map (ad E2)))))) := fun E2 => by
    rw [ent_ar hs]
    simp only [arE]
    rw [if_neg (by omega), if_neg (by omega)]
  refine va_astq hx hb (hKn.K hG) hR.1 hR.2.1 hS k t r cr (cA := gC G t) (r := (cN cr, cT cr, cF cr)) (n := nn) (f := fun j => (E.1 k j).map (ad E)) (vs := obE P E cr r) (by rw [wsG_at hk, hent]) (by rw [tysG_at (by omega), hty]) (by rw [wsG_at hrE, ent_ob hr]) (cls_ok cr hcr) hi hd (fun H1 lo1 hP1 hD1 hS1 => ?_)
  have e1 : (wsG G P E).set k (ad E k, .inl (gC G t, nn, .inr (.inr (.inr (.inr (va_up (fun j => (E.1 k j).map (ad E)) i.toNatClampNeg (some (ad E r)))))))) = wsG G P (ur E.1 k i.toNatClampNeg r, E.2) := by
    apply List.ext_getElem?
    intro z
    rw [List.getElem?_set]
    by_cases hz : k = z
    · subst hz
      rw [if_pos rfl, if_pos (by rw [wsG_len]; exact hk), wsG_at (E := (ur E.1 k i.toNatClampNeg r, E.2)) hk, hent]
      refine congrArg (fun w => some (ad E k, Sum.inl (gC G t, nn, Sum.inr (Sum.inr (Sum.inr (Sum.inr w)))))) (funext fun j => ?_)
      by_cases hj : j = i.toNatClampNeg
      · subst hj
        simp [va_up, ur]
      · simp [va_up, ur, hj]
    · rw [if_neg hz]
      by_cases hl : z < E.2.1
      · rw [wsG_at hl, wsG_at (E := (ur E.1 k i.toNatClampNeg r, E.2)) hl]
        refine congrArg (fun w => some (ad E z, w)) ?_
        have hm : ∀ w, ur E.1 k i.toNatClampNeg r z w = E.1 z w := fun w => if_neg (by omega)
        have hv : ∀ ty w, vl P (ur E.1 k i.toNatClampNeg r, E.2) ty z w = vl P E ty z w := fun ty w => by
          unfold vl
          cases ty <;> simp [hm w]
        unfold ent
        cases sh z with
        | inl c => simp only [obE, hv]
        | inr q => simp only [arE, hm]
      · rw [List.getElem?_eq_none (by rw [wsG_len]; omega), List.getElem?_eq_none (by rw [wsG_len]; show E.2.1 ≤ _; omega)]
  rw [e1] at hP1 hD1
  exact g p e s m a b me c H1 lo1 ls C hS1 ⟨hP1, hD1, hKn.low hS1, hR.2.2.2⟩ hl hn
theorem Go.objInit {idx : Nat} {x : Nat} (hl1 : Cond.methodLink own idx Lib.objectInit ∈ lw_gd) (hl2 : Cond.instanceMethod Lib.objectInit ∈ lw_gd) (hl3 : Cond.code Lib.objectInit ⟨#[0xb1]⟩ 1 none ∈ lw_gd) (hfr : 1 ≤ d) (hst : (st.map fun v => v.category).sum ≤ 8) (hd : decode cc pc = .ok (.invokespecial idx, 3)) (g : Go G cc own nL rt ini d n0 n1 Q (pc + 3) lv st P E) : Go G cc own nL rt ini d n0 n1 Q pc lv (.ref x :: st) P E := by
  intro p e s m a b me c H lo ls C hS hR hl hn
  obtain ⟨hx, hb, hml, -, -, -, ho, hts, hKn, hG⟩ := id C
  refine W.objInit hx hb ho (hts _ hl1) (hts _ hl2) (hts _ hl3) rfl (hl.1.trans hml.symm) rfl hd hfr ?_ (g p e s m a b me c H lo ls C hS hR hl hn)
  show 2 * 0 + _ + 12 ≤ 40 * d
  omega
theorem Go.callI {idx : Nat} {y : MethodName} {bytes : ByteArray} {maxL : Nat} (d' n : Nat) (x : Nat) (As : List Value) {Qc : QT} (b1 : Nat) (hM : Con G y (.code y bytes maxL none) d' E.2.1 b1 (.ref x :: As) P E Qc)
    (hb1 : E.2.1 ≤ b1 ∧ b1 ≤ n1) (hQ : ∀ r P' E', Qc r P' E' → E'.2.1 = b1) (hlk : Cond.methodLink own idx y ∈ lw_gd) (hin : Cond.instanceMethod y ∈ lw_gd) (hini : Cond.initialized y.cls ∈ lw_gd) (hco : Cond.code y bytes maxL none ∈ lw_gd) (hnm : y.name = "<init>")
    (hy : y.cls ≠ "java/lang/invoke/MethodHandle" ∧ y.cls ≠ "java/lang/invoke/VarHandle" ∧ (parseMethodDescriptor y.desc).map (fun d => d.parameters.length) = some n) (hAs : As.length = n) (hdd : d' + 1 ≤ d) (hmL : maxL ≤ 21) (hst : (st.map fun v => v.category).sum ≤ 8)
    (hd : decode cc pc = .ok (.invokespecial idx, 3)) (st0 : List Value) (hst0 : st0 = As.reverse ++ .ref x :: st) (g : ∀ r P' E', Qc r P' E' → Go G cc own nL rt ini d n0 n1 Q (pc + 3) lv (r.toList ++ st) P' E') : Go G cc own nL rt ini d n0 n1 Q pc lv st0 P E := by
  intro p e s m a b me c H lo ls C hS hR hl hn
  obtain ⟨hx, hb, hml, -, -, -, ho, hts, hKn, hG⟩ := id C
  have m1 := tot_mono hn
  have m2 := tot_mono hb1.1
  have m3 := tot_mono hb1.2
  refine go_after C hS hl hn hb1.1 hQ (va_runI (As := As) (rest := st) (Ts := lw_gd) (nL := nL) (cc := cc) ⟨hx, hb, hml, ho, hts⟩ hM ⟨callB_of n hts (GoodIn.of hco) rfl rfl rfl (hts _ hini) (hts _ hlk) hy (room_ok hdd hmL), hnm, hts _ hin⟩
    ⟨Kn_blind, fun U hU hW => Con.pre hKn hR hU hW⟩ rfl hAs hl.1 hst0 (lv_room hst) hd ⟨?_, ?_⟩) g
  · show _ ≤ n1 - n0
    omega
  · show _ ≤ tot n1 - tot n0
    omega
theorem Go.callIN {idx : Nat} {y : MethodName} {host : String} {bytes : ByteArray} {maxL : Nat} (d' n : Nat) (x : Nat) (As : List Value) {Qc : QT} (b1 : Nat) (hM : Con G y (.code y bytes maxL none) d' E.2.1 b1 (.ref x :: As) P E Qc)
    (hb1 : E.2.1 ≤ b1 ∧ b1 ≤ n1) (hQ : ∀ r P' E', Qc r P' E' → E'.2.1 = b1) (hlk : (own, idx, y, host) ∈ nestW) (hin : Cond.instanceMethod y ∈ lw_gd) (hini : Cond.initialized y.cls ∈ lw_gd) (hco : Cond.code y bytes maxL none ∈ lw_gd) (hnm : y.name = "<init>")
    (hy : y.cls ≠ "java/lang/invoke/MethodHandle" ∧ y.cls ≠ "java/lang/invoke/VarHandle" ∧ (parseMethodDescriptor y.desc).map (fun d => d.parameters.length) = some n) (hAs : As.length = n) (hdd : d' + 1 ≤ d) (hmL : maxL ≤ 21) (hst : (st.map fun v => v.category).sum ≤ 8)
    (hd : decode cc pc = .ok (.invokespecial idx, 3)) (st0 : List Value) (hst0 : st0 = As.reverse ++ .ref x :: st) (g : ∀ r P' E', Qc r P' E' → Go G cc own nL rt ini d n0 n1 Q (pc + 3) lv (r.toList ++ st) P' E') : Go G cc own nL rt ini d n0 n1 Q pc lv st0 P E := by
  intro p e s m a b me c H lo ls C hS hR hl hn
  obtain ⟨hx, hb, hml, -, -, -, ho, hts, hKn, hG⟩ := id C
  have m1 := tot_mono hn
  have m2 := tot_mono hb1.1
  have m3 := tot_mono hb1.2
  refine go_after C hS hl hn hb1.1 hQ (va_runIN (As := As) (rest := st) (host := host) (Ts := lw_gd) (nL := nL) (cc := cc) ⟨hx, hb, hml, ho, hts⟩ hM ⟨va_cnB n hts (GoodIn.of hco) rfl rfl rfl (hKn.2.1 _ hlk) (hts _ hini) hy (room_ok hdd hmL), hnm, hts _ hin⟩
    ⟨Kn_blind, fun U hU hW => Con.pre hKn hR hU hW⟩ rfl hAs hl.1 hst0 (lv_room hst) hd ⟨?_, ?_⟩) g
  · show _ ≤ n1 - n0
    omega
  · show _ ≤ tot n1 - tot n0
    omega
end GO4
