/-! the abstract machine: fields, rows, calls, ends -/
theorem cls_ok : ∀ ci, ci < 13 → classes[ci]? = some (cN ci, cT ci, cF ci) := by
  intro ci h
  match ci, h with
  | 0, _ => rfl
  | 1, _ => rfl
  | 2, _ => rfl
  | 3, _ => rfl
  | 4, _ => rfl
  | 5, _ => rfl
  | 6, _ => rfl
  | 7, _ => rfl
  | 8, _ => rfl
  | 9, _ => rfl
  | 10, _ => rfl
  | 11, _ => rfl
  | 12, _ => rfl
theorem inW : ∀ ci, ci < 13 → ∀ w ∈ u_ws (cN ci) (cT ci) (cF ci), w ∈ lw_gd := by
  intro ci h
  match ci, h with
  | 0, _ => exact inW0
  | 1, _ => exact inW1
  | 2, _ => exact inW2
  | 3, _ => exact inW3
  | 4, _ => exact inW4
  | 5, _ => exact inW5
  | 6, _ => exact inW6
  | 7, _ => exact inW7
  | 8, _ => exact inW8
  | 9, _ => exact inW9
  | 10, _ => exact inW10
  | 11, _ => exact inW11
  | 12, _ => exact inW12
theorem cY_ok : ∀ ci, ci < 13 → ∀ k, k < cF ci → parseFieldDescriptor (cT ci k).2.2.1 = some (cY ci k) := by decide +kernel
theorem cNm_ok : ∀ ci, ci < 13 → ∀ a, a < cF ci → ∀ b, b < cF ci → a ≠ b → (cT ci a).2.1 ≠ (cT ci b).2.1 := by decide +kernel
theorem tysG_at {G : GX} {t : Nat} (h : t < 8) : (tysG G)[t]? = some (gC G t, ety t) := by simp [tysG, h]
theorem obE_at {P : PM} {E : EV} {ci k j : Nat} (h : j < cF ci) : (obE P E ci k)[j]? = some (vl P E (cY ci j) k j) := by simp [obE, h]
theorem obE_len (P : PM) (E : EV) (ci k : Nat) : (obE P E ci k).length = cF ci := by simp [obE]
theorem ent_ob {G : GX} {P : PM} {E : EV} {k ci : Nat} (hs : sh k = .inl ci) : ent G P E k = .inr (ci, obE P E ci k) := by simp [ent, hs]
theorem ent_ar {G : GX} {P : PM} {E : EV} {k : Nat} {q : Nat × Nat} (hs : sh k = .inr q) : ent G P E k = .inl (gC G q.1, q.2, arE P E q.1 k) := by simp [ent, hs]
theorem obE_set {P : PM} {E : EV} {ci k j : Nat} {x : Int32} (hj : j < cF ci) (hI : cY ci j = .int ∨ cY ci j = .boolean) : (obE P E ci k).set j (.int x) = obE (u1 P k j x) E ci k := by
  apply List.ext_getElem?
  intro i
  rw [List.getElem?_set]
  by_cases hi : j = i
  · subst hi
    rw [if_pos rfl, if_pos (by rw [obE_len]; exact hj), obE_at hj]
    rcases hI with h | h <;> rw [h] <;> simp [vl, u1]
  · rw [if_neg hi]
    by_cases hl : i < cF ci
    · rw [obE_at hl, obE_at hl]
      refine congrArg some ?_
      unfold vl
      cases cY ci i <;> simp [u1, Ne.symm hi]
    · rw [List.getElem?_eq_none (by rw [obE_len]; omega), List.getElem?_eq_none (by rw [obE_len]; omega)]
theorem obE_setR {P : PM} {E : EV} {ci k j r : Nat} (hj : j < cF ci) (hR : (∃ C, cY ci j = .object C) ∨ ∃ t, cY ci j = .array t) :
    (obE P E ci k).set j (.ref (ad E r)) = obE P (fun a b => if a = k ∧ b = j then some r else E.1 a b, E.2) ci k := by
  apply List.ext_getElem?
  intro i
  rw [List.getElem?_set]
  by_cases hi : j = i
  · subst hi
    rw [if_pos rfl, if_pos (by rw [obE_len]; exact hj), obE_at hj]
    rcases hR with ⟨C, h⟩ | ⟨C, h⟩ <;> rw [h] <;> simp [vl, va_rf]
  · rw [if_neg hi]
    by_cases hl : i < cF ci
    · rw [obE_at hl, obE_at hl]
      refine congrArg some ?_
      unfold vl
      cases cY ci i <;> simp [Ne.symm hi]
    · rw [List.getElem?_eq_none (by rw [obE_len]; omega), List.getElem?_eq_none (by rw [obE_len]; omega)]
theorem tot_mono {a b : Nat} (h : a ≤ b) : tot a ≤ tot b := by
  induction b with
  | zero => have : a = 0 := by omega
            subst this; exact Nat.le_refl _
  | succ b ih =>
    rcases Nat.lt_or_ge b a with q | q
    · have : a = b + 1 := by omega
      subst this; exact Nat.le_refl _
    · exact Nat.le_trans (ih q) (Nat.le_add_right _ _)
theorem Kn.K {G : GX} {s : State} (h : Kn G s) (g : GOK G) : va_K (gD G) classes (tysG G) s := g.1.moved h.1
theorem Kn.low {G : GX} {s : State} (h : Kn G s) {H : Heap} {locs : List Loc} (hS : va_S (AG G) s.heap H locs) : ∀ q : Nat, q < (gs G).heap.size → H[q]? = (gs G).heap[q]? := by
  intro q hq
  have h1 := h.2.2.2 q hq
  have h2 : q < s.heap.size := by
    rcases Nat.lt_or_ge q s.heap.size with z | z
    · exact z
    · rw [Array.getElem?_eq_none z, Array.getElem?_eq_getElem hq] at h1
      cases h1
  rw [hS.2.1 q h2 (by simp [AG]; exact hq), h1]
section GO2
variable {G : GX} {cc : ByteArray} {own : String} {nL : Nat} {rt : Option FieldType} {ini : Bool} {d n0 n1 : Nat} {Q : QT} {pc : Nat} {lv : List (Nat × Value)} {st : List Value} {P : PM} {E : EV}
theorem Go.get {idx : Nat} (k j : Nat) {ci : Nat} (v : Value) (hci : ci < 13) (hj : j < cF ci) (hs : sh k = .inl ci) (hk : k < E.2.1) (hv : vl P E (cY ci j) k j = v)
    (hw : Cond.fieldLink own idx (cT ci j).1 (cT ci j).2.1 (cT ci j).2.2.1 ∈ lw_gd) (hd : decode cc pc = .ok (.getfield idx, 3)) (g : Go G cc own nL rt ini d n0 n1 Q (pc + 3) lv (v :: st) P E) : Go G cc own nL rt ini d n0 n1 Q pc lv (.ref (ad E k) :: st) P E := by
  intro p e s m a b me c H lo ls C hS hR hl hn
  obtain ⟨hx, hb, -, -, -, -, ho, hts, hKn, hG⟩ := id C
  exact va_get hx hb hts (inW ci hci) ho (hKn.K hG) hR.1 k (fs := obE P E ci k) (by rw [wsG_at hk, ent_ob hs]) (cls_ok ci hci) j hj (hts _ hw) (fun _ h => h) (by rw [obE_at hj, hv]) hd (g p e s m a b me c H lo ls C hS hR hl hn)
theorem Go.put {idx : Nat} (k j : Nat) {ci : Nat} {x : Int32} (hci : ci < 13) (hj : j < cF ci) (hs : sh k = .inl ci) (hk : k < E.2.1) (hI : cY ci j = .int ∨ cY ci j = .boolean) (hfin : (cT ci j).2.2.2 = false) (hnar : narrow (cY ci j) (.int x) = .int x) (hfit : fits (cY ci j) (.int x) = true)
    (hw : Cond.fieldLink own idx (cT ci j).1 (cT ci j).2.1 (cT ci j).2.2.1 ∈ lw_gd) (hd : decode cc pc = .ok (.putfield idx, 3)) (g : Go G cc own nL rt ini d n0 n1 Q (pc + 3) lv st (u1 P k j x) E) : Go G cc own nL rt ini d n0 n1 Q pc lv (.int x :: .ref (ad E k) :: st) P E := by
  intro p e s m a b me c H lo ls C hS hR hl hn
  obtain ⟨hx, hb, -, -, -, -, ho, hts, hKn, hG⟩ := id C
  refine va_put hx hb hts (inW ci hci) (cY ci) (cY_ok ci hci) (cNm_ok ci hci) ho (hKn.K hG) hR.1 hR.2.1 hS k (fs := obE P E ci k) (by rw [wsG_at hk, ent_ob hs]) (cls_ok ci hci) j hj (hts _ hw) (fun _ h => h) hfin (cY_ok ci hci j hj) hnar hfit (by rw [obE_len]; exact hj) hd (fun H1 lo1 hP1 hD1 hS1 => ?_)
  have e1 := wsG_set (G := G) (P := P) (P' := u1 P k j x) (E := E) (k := k) (x := .inr (ci, (obE P E ci k).set j (.int x))) hk (by rw [ent_ob hs, obE_set hj hI]) (fun i hi => ent_ext (fun z => by simp [u1, hi]) (fun z => rfl))
  rw [e1] at hP1 hD1
  exact g p e s m a b me c H1 lo1 ls C hS1 ⟨hP1, hD1, hKn.low hS1, hR.2.2.2⟩ hl hn
theorem Go.iaload (k n : Nat) {i : Int32} (hs : sh k = .inr (0, n)) (hk : k < E.2.1) (hi : vp_in i n) (hd : decode cc pc = .ok (.iaload, 1)) (g : Go G cc own nL rt ini d n0 n1 Q (pc + 1) lv (.int (P.1 k i.toNatClampNeg) :: st) P E) : Go G cc own nL rt ini d n0 n1 Q pc lv (.int i :: .ref (ad E k) :: st) P E := by
  intro p e s m a b me c H lo ls C hS hR hl hn
  obtain ⟨hx, hb, -, -, -, -, ho, hts, hKn, hG⟩ := id C
  exact va_iald hx hb (hKn.K hG) hR.1 k 0 (cA := gC G 0) (n := n) (f := P.1 k) (by rw [wsG_at hk, ent_ar hs]; rfl) (tysG_at (by omega)) hi hd (g p e s m a b me c H lo ls C hS hR hl hn)
theorem Go.baload (k n : Nat) {i : Int32} (hs : sh k = .inr (1, n)) (hk : k < E.2.1) (hi : vp_in i n) (hd : decode cc pc = .ok (.baload, 1)) (g : Go G cc own nL rt ini d n0 n1 Q (pc + 1) lv (.int (P.1 k i.toNatClampNeg) :: st) P E) : Go G cc own nL rt ini d n0 n1 Q pc lv (.int i :: .ref (ad E k) :: st) P E := by
  intro p e s m a b me c H lo ls C hS hR hl hn
  obtain ⟨hx, hb, -, -, -, -, ho, hts, hKn, hG⟩ := id C
  exact va_bald hx hb (hKn.K hG) hR.1 k 1 (cA := gC G 1) (n := n) (f := P.1 k) (by rw [wsG_at hk, ent_ar hs]; rfl) (tysG_at (by omega)) hi hd (g p e s m a b me c H lo ls C hS hR hl hn)
theorem Go.zaload (k n : Nat) {i : Int32} (hs : sh k = .inr (2, n)) (hk : k < E.2.1) (hi : vp_in i n) (hd : decode cc pc = .ok (.baload, 1)) (g : Go G cc own nL rt ini d n0 n1 Q (pc + 1) lv (.int (P.1 k i.toNatClampNeg) :: st) P E) : Go G cc own nL rt ini d n0 n1 Q pc lv (.int i :: .ref (ad E k) :: st) P E := by
  intro p e s m a b me c H lo ls C hS hR hl hn
  obtain ⟨hx, hb, -, -, -, -, ho, hts, hKn, hG⟩ := id C
  exact va_zald hx hb (hKn.K hG) hR.1 k 2 (cA := gC G 2) (n := n) (f := P.1 k) (by rw [wsG_at hk, ent_ar hs]; rfl) (tysG_at (by omega)) hi hd (g p e s m a b me c H lo ls C hS hR hl hn)
theorem Go.laload (k n : Nat) {i : Int32} (hs : sh k = .inr (3, n)) (hk : k < E.2.1) (hi : vp_in i n) (hd : decode cc pc = .ok (.laload, 1)) (g : Go G cc own nL rt ini d n0 n1 Q (pc + 1) lv (.long (P.2 k i.toNatClampNeg) :: st) P E) : Go G cc own nL rt ini d n0 n1 Q pc lv (.int i :: .ref (ad E k) :: st) P E := by
  intro p e s m a b me c H lo ls C hS hR hl hn
  obtain ⟨hx, hb, -, -, -, -, ho, hts, hKn, hG⟩ := id C
  exact va_lald hx hb (hKn.K hG) hR.1 k 3 (cA := gC G 3) (n := n) (f := P.2 k) (by rw [wsG_at hk, ent_ar hs]; rfl) (tysG_at (by omega)) hi hd (g p e s m a b me c H lo ls C hS hR hl hn)
theorem Go.aaload (k t n : Nat) {i : Int32} (r : Nat) (hs : sh k = .inr (t, n)) (ht : 4 ≤ t ∧ t < 8) (hk : k < E.2.1) (hi : vp_in i n) (hr : E.1 k i.toNatClampNeg = some r) (hd : decode cc pc = .ok (.aaload, 1)) (g : Go G cc own nL rt ini d n0 n1 Q (pc + 1) lv (.ref (ad E r) :: st) P E) : Go G cc own nL rt ini d n0 n1 Q pc lv (.int i :: .ref (ad E k) :: st) P E := by
  intro p e s m a b me c H lo ls C hS hR hl hn
  obtain ⟨hx, hb, -, -, -, -, ho, hts, hKn, hG⟩ := id C
  have hlt : i.toNatClampNeg < n := Nat.not_le.mp fun q => hi (Or.inr q)
  have hent : ent G P E k = .inl (gC G t, n, .inr (.inr (.inr (.inr (fun j => (E.1 k j).map (ad E)))))) := by
    rw [ent_ar hs]
    simp only [arE]
    rw [if_neg (by omega), if_neg (by omega)]
  have hP := hR.1 k (ad E k, ent G P E k) (wsG_at hk)
  rw [hent] at hP
  have href : (ety t).isReference = true := by
    rcases (show t = 4 ∨ t = 5 ∨ t = 6 ∨ t = 7 by omega) with rfl | rfl | rfl | rfl <;> rfl
  have hk1 := g p e s m a b me c H lo ls C hS hR hl hn
  exact W.aald (v := .ref (ad E r)) (ty := ety t) hx hb hP (((hKn.K hG).2 t _ (tysG_at ht.2)).1 n (fun j => va_rf ((E.1 k j).map (ad E)))) href (fun q => by cases q) (by show ¬ (i < 0 ∨ (arrV _ _ _).slots.size ≤ _); rw [arrV_size]; exact hi) (by show (arrV _ _ _).slots[_]? = _; rw [arrV_read _ _ hlt]; dsimp only; rw [hr]; rfl) rfl rfl hd hk1
theorem Go.alen (k t n : Nat) (v : Int32) (hs : sh k = .inr (t, n)) (ht : t < 8) (hk : k < E.2.1) (hv : Int32.ofNat n = v) (hd : decode cc pc = .ok (.arraylength, 1)) (g : Go G cc own nL rt ini d n0 n1 Q (pc + 1) lv (.int v :: st) P E) : Go G cc own nL rt ini d n0 n1 Q pc lv (.ref (ad E k) :: st) P E := by
  intro p e s m a b me c H lo ls C hS hR hl hn
  obtain ⟨hx, hb, -, -, -, -, ho, hts, hKn, hG⟩ := id C
  exact va_alen hx hb (hKn.K hG) hR.1 k t (cA := gC G t) (x := (n, arE P E t k)) (by rw [wsG_at hk, ent_ar hs]) (tysG_at ht) hv hd (g p e s m a b me c H lo ls C hS hR hl hn)
theorem arE_u1 {P : PM} {E : EV} {t k i : Nat} {x : Int32} (ht : t < 3) : (.inl (upd (P.1 k) i x) : (Nat → Int32) ⊕ (Nat → Int64) ⊕ (Nat → UInt32) ⊕ (Nat → UInt64) ⊕ (Nat → Option Nat)) = arE (u1 P k i x) E t k := by
  unfold arE
  rw [if_pos ht]
  refine congrArg Sum.inl (funext fun j => ?_)
  simp [upd, u1]
theorem arE_u2 {P : PM} {E : EV} {k i : Nat} {x : Int64} : (.inr (.inl (vp_updL (P.2 k) i x)) : (Nat → Int32) ⊕ (Nat → Int64) ⊕ (Nat → UInt32) ⊕ (Nat → UInt64) ⊕ (Nat → Option Nat)) = arE (u2 P k i x) E 3 k := by
  show _ = Sum.inr (Sum.inl ((u2 P k i x).2 k))
  refine congrArg (fun z => Sum.inr (Sum.inl z)) (funext fun j => ?_)
  simp [vp_updL, u2]
theorem Go.iastore (k n : Nat) {i x : Int32} (hs : sh k = .inr (0, n)) (hk : k < E.2.1) (hi : vp_in i n) (hd : decode cc pc = .ok (.iastore, 1)) (g : Go G cc own nL rt ini d n0 n1 Q (pc + 1) lv st (u1 P k i.toNatClampNeg x) E) : Go G cc own nL rt ini d n0 n1 Q pc lv (.int x :: .int i :: .ref (ad E k) :: st) P E := by
  intro p e s m a b me c H lo ls C hS hR hl hn
  obtain ⟨hx, hb, -, -, -, -, ho, hts, hKn, hG⟩ := id C
  refine va_iast hx hb (hKn.K hG) hR.1 hR.2.1 hS k 0 (cA := gC G 0) (n := n) (f := P.1 k) (by rw [wsG_at hk, ent_ar hs]; rfl) (tysG_at (by omega)) hi hd (fun H1 lo1 hP1 hD1 hS1 => ?_)
  have e1 := wsG_set (G := G) (P := P) (P' := u1 P k i.toNatClampNeg x) (E := E) (k := k) (x := .inl (gC G 0, n, .inl (upd (P.1 k) i.toNatClampNeg x))) hk (by rw [ent_ar hs, arE_u1 (t := 0) (by decide)]) (fun i hi => ent_ext (fun z => by simp [u1, hi]) (fun z => rfl))
  rw [e1] at hP1 hD1
  exact g p e s m a b me c H1 lo1 ls C hS1 ⟨hP1, hD1, hKn.low hS1, hR.2.2.2⟩ hl hn
theorem Go.bastore (k n : Nat) {i x : Int32} (hs : sh k = .inr (1, n)) (hk : k < E.2.1) (hi : vp_in i n) (hd : decode cc pc = .ok (.bastore, 1)) (g : Go G cc own nL rt ini d n0 n1 Q (pc + 1) lv st (u1 P k i.toNatClampNeg (vp_nar .byte x)) E) : Go G cc own nL rt ini d n0 n1 Q pc lv (.int x :: .int i :: .ref (ad E k) :: st) P E := by
  intro p e s m a b me c H lo ls C hS hR hl hn
  obtain ⟨hx, hb, -, -, -, -, ho, hts, hKn, hG⟩ := id C
  refine va_bast hx hb (hKn.K hG) hR.1 hR.2.1 hS k 1 (cA := gC G 1) (n := n) (f := P.1 k) (by rw [wsG_at hk, ent_ar hs]; rfl) (tysG_at (by omega)) hi hd (fun H1 lo1 hP1 hD1 hS1 => ?_)
  have e1 := wsG_set (G := G) (P := P) (P' := u1 P k i.toNatClampNeg (vp_nar .byte x)) (E := E) (k := k) (x := .inl (gC G 1, n, .inl (upd (P.1 k) i.toNatClampNeg (vp_nar .byte x)))) hk (by rw [ent_ar hs, arE_u1 (t := 1) (by decide)]) (fun i hi => ent_ext (fun z => by simp [u1, hi]) (fun z => rfl))
  rw [e1] at hP1 hD1
  exact g p e s m a b me c H1 lo1 ls C hS1 ⟨hP1, hD1, hKn.low hS1, hR.2.2.2⟩ hl hn
theorem Go.zastore (k n : Nat) {i x : Int32} (hs : sh k = .inr (2, n)) (hk : k < E.2.1) (hi : vp_in i n) (hd : decode cc pc = .ok (.bastore, 1)) (g : Go G cc own nL rt ini d n0 n1 Q (pc + 1) lv st (u1 P k i.toNatClampNeg (vp_nar .boolean x)) E) : Go G cc own nL rt ini d n0 n1 Q pc lv (.int x :: .int i :: .ref (ad E k) :: st) P E := by
  intro p e s m a b me c H lo ls C hS hR hl hn
  obtain ⟨hx, hb, -, -, -, -, ho, hts, hKn, hG⟩ := id C
  refine va_zast hx hb (hKn.K hG) hR.1 hR.2.1 hS k 2 (cA := gC G 2) (n := n) (f := P.1 k) (by rw [wsG_at hk, ent_ar hs]; rfl) (tysG_at (by omega)) hi hd (fun H1 lo1 hP1 hD1 hS1 => ?_)
  have e1 := wsG_set (G := G) (P := P) (P' := u1 P k i.toNatClampNeg (vp_nar .boolean x)) (E := E) (k := k) (x := .inl (gC G 2, n, .inl (upd (P.1 k) i.toNatClampNeg (vp_nar .boolean x)))) hk (by rw [ent_ar hs, arE_u1 (t := 2) (by decide)]) (fun i hi => ent_ext (fun z => by simp [u1, hi]) (fun z => rfl))
  rw [e1] at hP1 hD1
  exact g p e s m a b me c H1 lo1 ls C hS1 ⟨hP1, hD1, hKn.low hS1, hR.2.2.2⟩ hl hn
theorem Go.lastore (k n : Nat) {i : Int32} {x : Int64} (hs : sh k = .inr (3, n)) (hk : k < E.2.1) (hi : vp_in i n) (hd : decode cc pc = .ok (.lastore, 1)) (g : Go G cc own nL rt ini d n0 n1 Q (pc + 1) lv st (u2 P k i.toNatClampNeg x) E) : Go G cc own nL rt ini d n0 n1 Q pc lv (.long x :: .int i :: .ref (ad E k) :: st) P E := by
  intro p e s m a b me c H lo ls C hS hR hl hn
  obtain ⟨hx, hb, -, -, -, -, ho, hts, hKn, hG⟩ := id C
  refine va_last hx hb (hKn.K hG) hR.1 hR.2.1 hS k 3 (cA := gC G 3) (n := n) (f := P.2 k) (by rw [wsG_at hk, ent_ar hs]; rfl) (tysG_at (by omega)) hi hd (fun H1 lo1 hP1 hD1 hS1 => ?_)
  have e1 := wsG_set (G := G) (P := P) (P' := u2 P k i.toNatClampNeg x) (E := E) (k := k) (x := .inl (gC G 3, n, .inr (.inl (vp_updL (P.2 k) i.toNatClampNeg x)))) hk (by rw [ent_ar hs, arE_u2]) (fun i hi => ent_ext (fun z => rfl) (fun z => by simp [u2, hi]))
  rw [e1] at hP1 hD1
  exact g p e s m a b me c H1 lo1 ls C hS1 ⟨hP1, hD1, hKn.low hS1, hR.2.2.2⟩ hl hn
theorem Go.iret {ty : FieldType} {v : Int32} (hr : rt = some ty) (hnr : narrow ty (.int v) = .int v) (hE : E.2.1 = n1) (hd : decode cc pc = .ok (.ireturn, 1)) (hq : Q (some (.int v)) P E) : Go G cc own nL rt ini d n0 n1 Q pc lv [.int v] P E := by
  intro p e s m a b me c H lo ls C hS hR hl hn
  obtain ⟨hx, hb, -, hrt, hlk, -, ho, hts, hKn, hG⟩ := id C
  subst hE
  exact W.zret hx hb (hrt.trans hr) hnr (fun t ht _ => ⟨⟨_, P, E, rfl, hq, by rw [ht]; exact hR⟩, hS.F ht⟩) hS.2.2 hd hlk
theorem Go.lret {v : Int64} (hr : rt = some .long) (hE : E.2.1 = n1) (hd : decode cc pc = .ok (.lreturn, 1)) (hq : Q (some (.long v)) P E) : Go G cc own nL rt ini d n0 n1 Q pc lv [.long v] P E := by
  intro p e s m a b me c H lo ls C hS hR hl hn
  obtain ⟨hx, hb, -, hrt, hlk, -, ho, hts, hKn, hG⟩ := id C
  subst hE
  exact W.lret hx hb (hrt.trans hr) (fun t ht _ => ⟨⟨_, P, E, rfl, hq, by rw [ht]; exact hR⟩, hS.F ht⟩) hS.2.2 hd hlk
theorem Go.vret (hr : rt = none) (hE : E.2.1 = n1) (hd : decode cc pc = .ok (.return_, 1)) (hq : Q none P E) : Go G cc own nL rt ini d n0 n1 Q pc lv [] P E := by
  intro p e s m a b me c H lo ls C hS hR hl hn
  obtain ⟨hx, hb, -, hrt, hlk, -, ho, hts, hKn, hG⟩ := id C
  subst hE
  exact W.vret hx hb (hrt.trans hr) (fun t ht _ => ⟨⟨_, P, E, rfl, hq, by rw [ht]; exact hR⟩, hS.F ht⟩) hS.2.2 hd hlk
theorem go_after {p : Program} {e : Env} {s : State} {m : MethodId} {a av : Array Value} {b : List Frame} {me : Method} {c : Code} {H : Heap} {lo : List Loc} {ls : Array Slot} {st0 : List Value} {Qc : QT} {b0 b1 : Nat}
    (C : Cx G cc own nL rt ini p s m a me c) (hS : va_S (AG G) s.heap H lo) (hl : lv_has ls nL lv) (h0 : n0 ≤ b0) (h01 : b0 ≤ b1) (hq : ∀ r P' E', Qc r P' E' → E'.2.1 = b1)
    (hr : va_Run p (gl G) e (rmd d n0 n1) s m a b me c H lo (b0 - n0) (tot b0 - tot n0) (b1 - b0) (tot b1 - tot b0) (F0 m pc ls st0) st (QC G Qc av) (AG G))
    (k : ∀ r P' E', Qc r P' E' → Go G cc own nL rt ini d n0 n1 Q (pc + 3) lv (r.toList ++ st) P' E') :
    W p (gl G) e (rmd d n0 n1) s m a b me c H lo (b0 - n0) (tot b0 - tot n0) (MQ b (QC G Q) a s (n1 - n0) (tot n1 - tot n0) (AG G)) (F0 m pc ls st0) := by
  intro T hT X
  obtain ⟨v, st₀, t, T', L, g0, X', hL, e1, e2, ⟨⟨r, P', E', hv, hq', hR'⟩, hz, hk⟩, stp⟩ := hr T hT X
  cases hv
  rw [g0] at hz hk
  have hE := hq _ _ _ hq'
  have hS' : va_S (AG G) s.heap T'.heap (lo ++ L) := ⟨Nat.le_trans hS.1 (by rw [e1]; exact hz), fun q h1 h2 => by rw [e1, hk q (Nat.lt_of_lt_of_le h1 hS.1) h2]; exact hS.2.1 q h1 h2, fun q hq => by
      rcases List.mem_append.mp hq with h | h
      · exact hS.2.2 q h
      · exact hL q h⟩
  have kk := k _ P' E' hq' p e s m a b me c T'.heap (lo ++ L) ls C hS' (by rw [e1]; exact hR') hl (by omega)
  have m1 := tot_mono h0
  have m2 := tot_mono h01
  rw [hE] at kk
  rw [show b0 - n0 + (b1 - b0) = b1 - n0 by omega, show tot b0 - tot n0 + (tot b1 - tot b0) = tot b1 - tot n0 by omega] at X'
  obtain ⟨t2, a1, c1⟩ := kk T' rfl X'
  exact ⟨t2, stp t2 a1, c1⟩
theorem Con.pre {s U : State} {H : Heap} {av : List Value} (hKn : Kn G s) (hR : Rep G P E H) (hU : U.heap = H) (hW : s.WarmedH U.vm) : va_Pc av (fun U => Rep G P E U.heap ∧ Kn G U) av.toArray U :=
  ⟨rfl, by rw [hU]; exact hR, Kn_warm hKn hW (by rw [hU]; exact hR.2.2.1)⟩
theorem room_ok {a b' maxL d' : Nat} (hd : d' + 1 ≤ d) (hm : maxL ≤ 21) : (rmd d' a b').frames + 1 ≤ (rmd d n0 n1).frames ∧ 8 + (maxL + 11) + (rmd d' a b').locals ≤ (rmd d n0 n1).locals := by
  refine ⟨hd, ?_⟩
  show 8 + (maxL + 11) + 40 * d' ≤ 40 * d
  omega
theorem good_gd : ∀ w ∈ lw_gd, (w.onTables && w.keeps) = true ∨ ∃ ty, w = .arrayClass ty := fun w h => good_of_word (List.mem_filter.mp h).2
theorem GoodIn.of {cw : Cond} (h : cw ∈ lw_gd) : GoodIn lw_gd (cw :: lw_gd) := by
  intro w hw
  rcases List.mem_cons.mp hw with rfl | hw
  · exact ⟨h, good_gd _ h⟩
  · exact ⟨hw, good_gd _ hw⟩
theorem ob_recv {s : State} {H : Heap} {k ci : Nat} (hKn : Kn G s) (hG : GOK G) (hR : Rep G P E H) (hci : ci < 13) (hs : sh k = .inl ci) (hk : k < E.2.1) : ∃ cell : Cell, H[ad E k]? = some cell ∧ cell.vm.isStatics = false ∧ s.vm.findClass (cN ci) = some cell.cls :=
  va_recv (hKn.K hG) hR.1 (cls_ok ci hci) (fs := obE P E ci k) (q0 := k) (by rw [wsG_at hk, ent_ob hs])
theorem Go.callV {idx : Nat} {y : MethodName} {bytes : ByteArray} {maxL : Nat} {ret : Option FieldType} (d' n : Nat) (k : Nat) {ci : Nat} (As : List Value) {Qc : QT} (b1 : Nat) (hci : ci < 13) (hs : sh k = .inl ci) (hk : k < E.2.1) (hM : Con G y (.code y bytes maxL ret) d' E.2.1 b1 (.ref (ad E k) :: As) P E Qc)
    (hb1 : E.2.1 ≤ b1 ∧ b1 ≤ n1) (hQ : ∀ r P' E', Qc r P' E' → E'.2.1 = b1) (hlk : Cond.methodLink own idx y ∈ lw_gd) (hin : Cond.instanceMethod y ∈ lw_gd) (hse : Cond.selects (cN ci) y y ∈ lw_gd) (hini : Cond.initialized y.cls ∈ lw_gd) (hco : Cond.code y bytes maxL ret ∈ lw_gd)
    (hy : y.cls ≠ "java/lang/invoke/MethodHandle" ∧ y.cls ≠ "java/lang/invoke/VarHandle" ∧ (parseMethodDescriptor y.desc).map (fun d => d.parameters.length) = some n) (hAs : As.length = n) (hdd : d' + 1 ≤ d) (hmL : maxL ≤ 21) (hst : (st.map fun v => v.category).sum ≤ 8)
    (hd : decode cc pc = .ok (.invokevirtual idx, 3)) (st0 : List Value) (hst0 : st0 = As.reverse ++ .ref (ad E k) :: st) (g : ∀ r P' E', Qc r P' E' → Go G cc own nL rt ini d n0 n1 Q (pc + 3) lv (r.toList ++ st) P' E') : Go G cc own nL rt ini d n0 n1 Q pc lv st0 P E := by
  intro p e s m a b me c H lo ls C hS hR hl hn
  obtain ⟨hx, hb, hml, -, -, -, ho, hts, hKn, hG⟩ := id C
  have m1 := tot_mono hn
  have m2 := tot_mono hb1.1
  have m3 := tot_mono hb1.2
  refine go_after C hS hl hn hb1.1 hQ (va_runV (As := As) (rest := st) (C := cN ci) (Ts := lw_gd) (nL := nL) (cc := cc) ⟨hx, hb, hml, ho, hts⟩ hM ⟨callB_of n hts (GoodIn.of hco) rfl rfl rfl (hts _ hini) (hts _ hlk) hy (room_ok hdd hmL), hts _ hin, hts _ hse⟩
    ⟨Kn_blind, ob_recv hKn hG hR hci hs hk, fun U hU hW => Con.pre hKn hR hU hW⟩ rfl hAs hl.1 hst0 (lv_room hst) hd ⟨?_, ?_⟩) g
  · show _ ≤ n1 - n0
    omega
  · show _ ≤ tot n1 - tot n0
    omega
theorem Go.callS {idx : Nat} {y : MethodName} {bytes : ByteArray} {maxL : Nat} {ret : Option FieldType} (d' n : Nat) (As : List Value) {Qc : QT} (b1 : Nat) (hM : Con G y (.code y bytes maxL ret) d' E.2.1 b1 As P E Qc)
    (hb1 : E.2.1 ≤ b1 ∧ b1 ≤ n1) (hQ : ∀ r P' E', Qc r P' E' → E'.2.1 = b1) (hlk : Cond.methodLink own idx y ∈ lw_gd) (hin : Cond.static y ∈ lw_gd) (hini : Cond.initialized y.cls ∈ lw_gd) (hco : Cond.code y bytes maxL ret ∈ lw_gd)
    (hy : y.cls ≠ "java/lang/invoke/MethodHandle" ∧ y.cls ≠ "java/lang/invoke/VarHandle" ∧ (parseMethodDescriptor y.desc).map (fun d => d.parameters.length) = some n) (hAs : As.length = n) (hdd : d' + 1 ≤ d) (hmL : maxL ≤ 21) (hst : (st.map fun v => v.category).sum ≤ 8)
    (hd : decode cc pc = .ok (.invokestatic idx, 3)) (st0 : List Value) (hst0 : st0 = As.reverse ++ st) (g : ∀ r P' E', Qc r P' E' → Go G cc own nL rt ini d n0 n1 Q (pc + 3) lv (r.toList ++ st) P' E') : Go G cc own nL rt ini d n0 n1 Q pc lv st0 P E := by
  intro p e s m a b me c H lo ls C hS hR hl hn
  obtain ⟨hx, hb, hml, -, -, -, ho, hts, hKn, hG⟩ := id C
  have m1 := tot_mono hn
  have m2 := tot_mono hb1.1
  have m3 := tot_mono hb1.2
  refine go_after C hS hl hn hb1.1 hQ (va_runS (As := As) (rest := st) (Ts := lw_gd) (nL := nL) (cc := cc) ⟨hx, hb, hml, ho, hts⟩ hM ⟨callB_of n hts (GoodIn.of hco) rfl rfl rfl (hts _ hini) (hts _ hlk) hy (room_ok hdd hmL), hts _ hin⟩
    ⟨Kn_blind, fun U hU hW => Con.pre hKn hR hU hW⟩ rfl hAs hl.1 hst0 (lv_room hst) hd ⟨?_, ?_⟩) g
  · show _ ≤ n1 - n0
    omega
  · show _ ≤ tot n1 - tot n0
    omega
theorem Go.callVN {idx : Nat} {y : MethodName} {host : String} {bytes : ByteArray} {maxL : Nat} {ret : Option FieldType} (d' n : Nat) (k : Nat) {ci : Nat} (As : List Value) {Qc : QT} (b1 : Nat) (hci : ci < 13) (hs : sh k = .inl ci) (hk : k < E.2.1) (hM : Con G y (.code y bytes maxL ret) d' E.2.1 b1 (.ref (ad E k) :: As) P E Qc)
    (hb1 : E.2.1 ≤ b1 ∧ b1 ≤ n1) (hQ : ∀ r P' E', Qc r P' E' → E'.2.1 = b1) (hlk : (own, idx, y, host) ∈ nestW) (hin : Cond.instanceMethod y ∈ lw_gd) (hse : Cond.selects (cN ci) y y ∈ lw_gd) (hini : Cond.initialized y.cls ∈ lw_gd) (hco : Cond.code y bytes maxL ret ∈ lw_gd)
    (hy : y.cls ≠ "java/lang/invoke/MethodHandle" ∧ y.cls ≠ "java/lang/invoke/VarHandle" ∧ (parseMethodDescriptor y.desc).map (fun d => d.parameters.length) = some n) (hAs : As.length = n) (hdd : d' + 1 ≤ d) (hmL : maxL ≤ 21) (hst : (st.map fun v => v.category).sum ≤ 8)
    (hd : decode cc pc = .ok (.invokevirtual idx, 3)) (st0 : List Value) (hst0 : st0 = As.reverse ++ .ref (ad E k) :: st) (g : ∀ r P' E', Qc r P' E' → Go G cc own nL rt ini d n0 n1 Q (pc + 3) lv (r.toList ++ st) P' E') : Go G cc own nL rt ini d n0 n1 Q pc lv st0 P E := by
  intro p e s m a b me c H lo ls C hS hR hl hn
  obtain ⟨hx, hb, hml, -, -, -, ho, hts, hKn, hG⟩ := id C
  have m1 := tot_mono hn
  have m2 := tot_mono hb1.1
  have m3 := tot_mono hb1.2
  refine go_after C hS hl hn hb1.1 hQ (va_runVN (As := As) (rest := st) (C := cN ci) (host := host) (Ts := lw_gd) (nL := nL) (cc := cc) ⟨hx, hb, hml, ho, hts⟩ hM ⟨va_cnB n hts (GoodIn.of hco) rfl rfl rfl (hKn.2.1 _ hlk) (hts _ hini) hy (room_ok hdd hmL), hts _ hin, hts _ hse⟩
    ⟨Kn_blind, ob_recv hKn hG hR hci hs hk, fun U hU hW => Con.pre hKn hR hU hW⟩ rfl hAs hl.1 hst0 (lv_room hst) hd ⟨?_, ?_⟩) g
  · show _ ≤ n1 - n0
    omega
  · show _ ≤ tot n1 - tot n0
    omega
theorem Go.callSN {idx : Nat} {y : MethodName} {host : String} {bytes : ByteArray} {maxL : Nat} {ret : Option FieldType} (d' n : Nat) (As : List Value) {Qc : QT} (b1 : Nat) (hM : Con G y (.code y bytes maxL ret) d' E.2.1 b1 As P E Qc)
    (hb1 : E.2.1 ≤ b1 ∧ b1 ≤ n1) (hQ : ∀ r P' E', Qc r P' E' → E'.2.1 = b1) (hlk : (own, idx, y, host) ∈ nestW) (hin : Cond.static y ∈ lw_gd) (hini : Cond.initialized y.cls ∈ lw_gd) (hco : Cond.code y bytes maxL ret ∈ lw_gd)
    (hy : y.cls ≠ "java/lang/invoke/MethodHandle" ∧ y.cls ≠ "java/lang/invoke/VarHandle" ∧ (parseMethodDescriptor y.desc).map (fun d => d.parameters.length) = some n) (hAs : As.length = n) (hdd : d' + 1 ≤ d) (hmL : maxL ≤ 21) (hst : (st.map fun v => v.category).sum ≤ 8)
    (hd : decode cc pc = .ok (.invokestatic idx, 3)) (st0 : List Value) (hst0 : st0 = As.reverse ++ st) (g : ∀ r P' E', Qc r P' E' → Go G cc own nL rt ini d n0 n1 Q (pc + 3) lv (r.toList ++ st) P' E') : Go G cc own nL rt ini d n0 n1 Q pc lv st0 P E := by
  intro p e s m a b me c H lo ls C hS hR hl hn
  obtain ⟨hx, hb, hml, -, -, -, ho, hts, hKn, hG⟩ := id C
  have m1 := tot_mono hn
  have m2 := tot_mono hb1.1
  have m3 := tot_mono hb1.2
  refine go_after C hS hl hn hb1.1 hQ (va_runSN (As := As) (rest := st) (host := host) (Ts := lw_gd) (nL := nL) (cc := cc) ⟨hx, hb, hml, ho, hts⟩ hM ⟨va_cnB n hts (GoodIn.of hco) rfl rfl rfl (hKn.2.1 _ hlk) (hts _ hini) hy (room_ok hdd hmL), hts _ hin, trivial⟩
    ⟨Kn_blind, fun U hU hW => Con.pre hKn hR hU hW⟩ rfl hAs hl.1 hst0 (lv_room hst) hd ⟨?_, ?_⟩) g
  · show _ ≤ n1 - n0
    omega
  · show _ ≤ tot n1 - tot n0
    omega
end GO2
