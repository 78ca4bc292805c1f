/-! new T[n][m] over the memory -/
def um (f : Nat → Nat → Option Nat) (n N' : Nat) : Nat → Nat → Option Nat := fun a b => if a = n ∧ b < N' then some (n + 1 + b) else f a b
section GO5
variable {G : GX} {cc : ByteArray} {own : String} {nL : Nat} {rt : Option FieldType} {ini : Bool} {d n0 n1 : Nat} {Q : QT} {pc : Nat} {lv : List (Nat × Value)} {st : List Value} {P : PM} {E : EV}
theorem Go.multi {idx : Nat} (t ta N' K' : Nat) {nm : String} {n k : Int32} (ht : t = 0 ∨ t = 3) (hta : ta < 8 ∧ 6 ≤ ta) (hty : ety ta = .array (ety t)) (hs : sh E.2.1 = .inr (ta, N')) (hrow : ∀ i, i < N' → sh (E.2.1 + 1 + i) = .inr (t, K')) (htot : tot (E.2.1 + 1 + N') = tot E.2.1 + (N' + N' * K')) (h9 : E.2.1 + 1 + N' ≤ 1000) (hz : Zr P E)
    (hnm : nm = "[" ++ (FieldType.array (ety t)).toString) (hw : Cond.classLink own idx nm ∈ lw_gd) (hov : GOK G → aoA (ety t) (gs G)) (har : Cond.arrayClass (ety t) ∈ lw_gd) (hc : E.2.1 + 1 + N' ≤ n1) (hn : ¬ n < 0) (hk : ¬ k < 0) (hN : n.toNatClampNeg = N') (hK : k.toNatClampNeg = K') (hb1 : N' * 4 ≤ 536870912) (hb2 : K' * 8 ≤ 536870912) (hd : decode cc pc = .ok (.multianewarray idx 2, 4))
    (g : ∀ E' : EV, E'.1 = um E.1 E.2.1 N' → E'.2.1 = E.2.1 + 1 + N' → (∀ k, (k < E.2.1 ∨ 1000 ≤ k) → ad E' k = ad E k) → Zr P E' → Go G cc own nL rt ini d n0 n1 Q (pc + 4) lv (.ref (ad E' E.2.1) :: st) P E') : Go G cc own nL rt ini d n0 n1 Q pc lv (.int k :: .int n :: st) P E := by
  intro p e s m a b me c H lo ls C hS hR hl hn0
  obtain ⟨hx, hb, -, -, -, -, ho, hts, hKn, hG⟩ := id C
  have m1 := tot_mono hc
  have m3 := tot_mono hn0
  subst hnm
  have hcy : s.vm.findClass (FieldType.array (ety t)).toString = some (gC G t) := by
    have h := ((hKn.K hG).2 t _ (tysG_at (by omega))).2
    rcases ht with rfl | rfl <;> exact h
  have z1 : ∀ k, E.2.1 ≤ k → P.1 k = fun _ => 0 := fun k hk => funext fun j => (hz.1 k hk j).1
  have z2 : ∀ k, E.2.1 ≤ k → P.2 k = fun _ => 0 := fun k hk => funext fun j => (hz.1 k hk j).2.1
  have hP0 : va_P (gD G) classes (wsG G P E ++ va_pl [] (fun _ => Sum.inr (0, []))) H := by
    rw [show va_pl [] (fun _ => (Sum.inr (0, []) : va_E)) = [] from rfl, List.append_nil]; exact hR.1
  have hD0 : va_D (AG G) (wsG G P E ++ va_pl [] (fun _ => Sum.inr (0, []))) := by
    rw [show va_pl [] (fun _ => (Sum.inr (0, []) : va_E)) = [] from rfl, List.append_nil]; exact hR.2.1
  refine va_mna hx hb ho (hts _ hw) (aoA.moved hKn.1 (hov hG)) (hts _ har) hcy (hKn.K hG) hP0 hD0 hS hKn.A (z := (K', arE P E t E.2.1)) hn hk hN hK hb1 ?_ (by omega) ?_ ?_ ?_ ?_ ?_ hd (fun q r cA H1 hr hrL hK1 hP1 hD1 hS1 => ?_)
  · rcases ht with rfl | rfl
    · show K' * 4 ≤ _
      omega
    · show K' * 8 ≤ _
      omega
  · rcases ht with rfl | rfl <;> rfl
  · rcases ht with rfl | rfl <;> rfl
  · show _ ≤ n1 - n0
    omega
  · show _ ≤ tot n1 - tot n0
    omega
  · intro c
    rcases ht with rfl | rfl
    · show _ = vp_cell c (K', .inl (P.1 E.2.1))
      rw [z1 _ (Nat.le_refl _), vp_cell_i]
      unfold Jvm.Free.Multi.innerC
      rw [arrV_new]
      rfl
    · show _ = vp_cell c (K', .inr (.inl (P.2 E.2.1)))
      rw [z2 _ (Nat.le_refl _), vp_cell_l]
      unfold Jvm.Free.Multi.innerC
      rw [arrV_new]
      rfl
  · have hcA : cA = gC G ta := by
      have h1 := (hK1.2 (tysG G).length (cA, .array (ety t)) (by simp)).2
      have h2 := ((hKn.K hG).2 ta _ (tysG_at (by omega))).2
      simp only at h2
      rw [hty] at h2
      exact ra_uniq h1 h2
    subst hcA
    rw [List.nil_append] at hP1 hD1
    generalize hE' : ((um E.1 E.2.1 N', E.2.1 + 1 + N', fun k => if k = E.2.1 then q else if E.2.1 < k ∧ k ≤ E.2.1 + N' then r (k - E.2.1 - 1) else ad E k) : EV) = E'
    have f1 : E'.1 = um E.1 E.2.1 N' := by rw [← hE']
    have f2 : E'.2.1 = E.2.1 + 1 + N' := by rw [← hE']
    have f3 : ad E' E.2.1 = q := by rw [← hE']; exact if_pos rfl
    have f4 : ∀ k, k < E.2.1 ∨ E.2.1 + N' < k → ad E' k = ad E k := fun k hk => by
      rw [← hE']
      exact (if_neg (by omega)).trans (if_neg (by omega))
    have f5 : ∀ i, i < N' → ad E' (E.2.1 + 1 + i) = r i := fun i hi => by
      rw [← hE']
      refine (if_neg (by omega)).trans ((if_pos ⟨by omega, by omega⟩).trans ?_)
      congr 1
      omega
    have hz' : Zr P E' := by
      refine ⟨fun x hx j => ⟨(hz.1 x (by omega) j).1, (hz.1 x (by omega) j).2.1, ?_⟩, fun x j w hw => ?_⟩
      · rw [f1, um, if_neg (by omega)]
        exact (hz.1 x (by omega) j).2.2
      · rw [f1, um] at hw
        split at hw
        · cases hw; omega
        · have := hz.2 x j w hw; omega
    have hold : ∀ i, i < E.2.1 → ent G P E' i = ent G P E i := fun i hi => by
      have hm : ∀ j, (E'.1 i j).map (ad E') = (E.1 i j).map (ad E) := fun j => by
        rw [f1, um, if_neg (by omega)]
        cases hj : E.1 i j with
        | none => rfl
        | some w => exact congrArg some (f4 w (Or.inl (hz.2 _ _ _ hj)))
      have hv : ∀ ty j, vl P E' ty i j = vl P E ty i j := fun ty j => by
        unfold vl
        cases ty <;> simp [hm j]
      unfold ent
      cases sh i with
      | inl c => simp only [obE, hv]
      | inr q => simp only [arE, hm]
    have hws : (wsG G P E ++ [(q, .inl (gC G ta, N', .inr (.inr (.inr (.inr (fun i => if i < N' then some (r i) else none))))))]) ++ va_pl ((List.range N').map r) (vr_up (fun _ => Sum.inr (0, [])) ((List.range N').map r) (.inl (gC G t, (K', arE P E t E.2.1)))) = wsG G P E' := by
      apply List.ext_getElem?
      intro i
      have hl1 : (wsG G P E ++ [((q, .inl (gC G ta, N', .inr (.inr (.inr (.inr (fun i => if i < N' then some (r i) else none)))))) : Nat × va_E)]).length = E.2.1 + 1 := by simp [wsG_len]
      by_cases h1 : i < E.2.1 + 1
      · rw [List.getElem?_append_left (by rw [hl1]; exact h1)]
        by_cases h2 : i < E.2.1
        · rw [List.getElem?_append_left (by rw [wsG_len]; exact h2), wsG_at h2, wsG_at (by omega), hold i h2, f4 i (Or.inl h2)]
        · have h3 : i = E.2.1 := by omega
          subst h3
          rw [List.getElem?_append_right (by rw [wsG_len]; exact Nat.le_refl _), wsG_len, Nat.sub_self, wsG_at (by omega), f3]
          refine congrArg (fun w => some (q, w)) ?_
          rw [ent_ar hs]
          simp only [arE]
          rw [if_neg (by omega), if_neg (by omega)]
          refine congrArg (fun w => Sum.inl (gC G ta, N', Sum.inr (Sum.inr (Sum.inr (Sum.inr w))))) (funext fun j => ?_)
          rw [f1, um]
          by_cases hj : j < N'
          · rw [if_pos hj, if_pos ⟨rfl, hj⟩]
            exact congrArg some (f5 j hj).symm
          · rw [if_neg hj, if_neg (by omega), (hz.1 _ (Nat.le_refl _) j).2.2]
            rfl
      · rw [List.getElem?_append_right (by rw [hl1]; omega), hl1]
        unfold va_pl
        rw [List.getElem?_map, List.getElem?_map]
        by_cases h2 : i - (E.2.1 + 1) < N'
        · rw [List.getElem?_range h2, wsG_at (by omega)]
          have e1 : E.2.1 + 1 + (i - (E.2.1 + 1)) = i := by omega
          have e2 := f5 (i - (E.2.1 + 1)) h2
          rw [e1] at e2
          have hsr := hrow (i - (E.2.1 + 1)) h2
          rw [e1] at hsr
          rw [e2]
          refine congrArg (fun w => some (r (i - (E.2.1 + 1)), w)) ?_
          rw [vr_up_in (List.mem_map.mpr ⟨_, List.mem_range.mpr h2, rfl⟩), ent_ar hsr]
          rcases ht with rfl | rfl
          · show Sum.inl (gC G 0, K', Sum.inl (P.1 E.2.1)) = Sum.inl (gC G 0, K', Sum.inl (P.1 i))
            rw [z1 _ (Nat.le_refl _), z1 i (by omega)]
          · show Sum.inl (gC G 3, K', Sum.inr (Sum.inl (P.2 E.2.1))) = Sum.inl (gC G 3, K', Sum.inr (Sum.inl (P.2 i)))
            rw [z2 _ (Nat.le_refl _), z2 i (by omega)]
        · rw [List.getElem?_eq_none (by simp; omega), List.getElem?_eq_none (by rw [wsG_len]; omega)]
          rfl
    rw [hws] at hP1 hD1
    have kk := g E' f1 f2 (fun k hk => f4 k (by omega)) hz' p e s m a b me c H1 lo ls C hS1 ⟨hP1, hD1, hKn.low hS1, fun i hi => ⟨(f4 _ (by omega)).trans (hR.2.2.2 i hi).1, (f4 _ (by omega)).trans (hR.2.2.2 i hi).2⟩⟩ hl (by omega)
    rw [f3, f2] at kk
    have e2 : E.2.1 - n0 + 1 + N' = E.2.1 + 1 + N' - n0 := by omega
    have e3 : tot E.2.1 - tot n0 + N' + N' * K' = tot (E.2.1 + 1 + N') - tot n0 := by omega
    rw [e2, e3]
    exact kk
end GO5
