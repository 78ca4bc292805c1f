/-! reading laws: what both sides hold in the midst of one -/
def Mf (f p : Nat) (P : PM) : Prop := (P.1 109 11 = nI f ∧ P.1 109 12 = nI p) ∨ (f = 1 ∧ Mh p P)
def TG (n k p q : Nat) (Pc Pm : PM) : Prop := Cg (kt k) p q Pc ∧ Mg k p q Pm ∧ kok k ∧ p ≤ q ∧ q ≤ n ∧ (k ≠ 24 → p < q) ∧ (k = 23 → ∃ v, v < 1000 ∧ Pc.1 1 6 = nI v ∧ Pm.1 109 10 = nI v)
theorem next_ok {b : Nat → Nat} {n q : Nat} {Pc Pm : PM} (hb : Bk b n) (hKC : TKC b n Pc) (hKM : TKM b n Pm) (h7 : Pc.1 1 7 = nI 0) (h8 : Pc.1 1 8 = -nI 1) (h11 : Pm.1 109 11 = nI 0) (h3 : Pc.1 1 3 = nI q) (hm7 : Pm.1 109 7 = nI q) (hq : q ≤ n) :
    ∃ Pc' Pm', f_Ta_next Pc = some Pc' ∧ f_Mo_next Pm = some Pm' ∧ fc Pc Pc' ∧ fm Pm Pm' ∧ ∃ p, q ≤ p ∧ p ≤ n ∧ ((∃ k q', TG n k p q' Pc' Pm') ∨ (Cf 1 p Pc' ∧ Mh p Pm')) := by
  obtain ⟨p, hp⟩ := fst_ex bk b n (n - q) q (by omega)
  obtain ⟨k, q', v, ht⟩ := tok_ex (b := b) hp.2.1
  obtain ⟨Pc', a1, a2, a3⟩ := tnext_C hb hKC h7 h8 h3 hp ht
  obtain ⟨Pm', b1, b2, b3, b4, b5, b6, b7⟩ := tnext_M hb hKM h11 hm7 hp ht
  refine ⟨Pc', Pm', a1, b1, a2, b2, p, hp.1, hp.2.1, ?_⟩
  rcases a3 with ⟨c1, c2, c3⟩ | ⟨c1, c2⟩
  · obtain ⟨t1, t2, t3⟩ := tok_q ht
    obtain ⟨t4, t5⟩ := tok_k ht c1
    exact Or.inl ⟨k, q', c2, ⟨b3, b4, b5, b6 c1⟩, t4, t1, t2, t3, fun e => ⟨v, t5 e, c3 e, b7 e⟩⟩
  · exact Or.inr ⟨c2, b3, by rw [b4, c1], b5⟩
abbrev GT : Type := (Nat → Nat) × Nat × Nat × PM × PM
def GOk (γ : GT) : Prop := Bk γ.1 γ.2.1 ∧ TKC γ.1 γ.2.1 γ.2.2.2.1 ∧ TKM γ.1 γ.2.1 γ.2.2.2.2 ∧ γ.2.2.1 ≤ 900
/-- what reading a law leaves as it was -/
def LF (γ : GT) (P : PM) : Prop := P.2 = γ.2.2.2.1.2 ∧ (∀ o, o ≠ 1 → o ≠ 4 → o ≠ 8 → P.1 o = γ.2.2.2.1.1 o) ∧ (∀ j, j < 3 → P.1 1 j = γ.2.2.2.1.1 1 j) ∧ (∀ j, j ≠ 6 → P.1 4 j = γ.2.2.2.1.1 4 j) ∧ ∀ j, j < γ.2.2.1 → P.1 8 j = γ.2.2.2.1.1 8 j
def LM (γ : GT) (P : PM) : Prop := P.2 = γ.2.2.2.2.2 ∧ (∀ o, o ≠ 109 → o ≠ 113 → P.1 o = γ.2.2.2.2.1 o) ∧ (∀ j, (j < 6 ∨ j = 8 ∨ 12 < j) → P.1 109 j = γ.2.2.2.2.1 109 j) ∧ ∀ j, (j < 235 ∨ (236 ≤ j ∧ j < 236 + γ.2.2.1)) → P.1 113 j = γ.2.2.2.2.1 113 j
theorem LF_f {γ : GT} {P P' : PM} (h : LF γ P) (g : fc P P') : LF γ P' := by
  obtain ⟨h1, h2, h3, h4, h5⟩ := h
  obtain ⟨g1, g2, g3⟩ := g
  exact ⟨g1.trans h1, fun o a b c => (g2 o a).trans (h2 o a b c), fun j hj => (g3 j hj).trans (h3 j hj), fun j hj => by rw [g2 4 (by omega)]; exact h4 j hj, fun j hj => by rw [g2 8 (by omega)]; exact h5 j hj⟩
theorem LM_f {γ : GT} {P P' : PM} (h : LM γ P) (g : fm P P') : LM γ P' := by
  obtain ⟨h1, h2, h3, h4⟩ := h
  obtain ⟨g1, g2, g3⟩ := g
  exact ⟨g1.trans h1, fun o a b => (g2 o a).trans (h2 o a b), fun j hj => (g3 j hj).trans (h3 j hj), fun j hj => by rw [g2 113 (by omega)]; exact h4 j hj⟩
theorem TKC_L {γ : GT} (hγ : GOk γ) {P : PM} (h : LF γ P) : TKC γ.1 γ.2.1 P := by
  have := hγ.2.1
  unfold TKC at *
  rw [h.2.2.1 2 (by omega), h.2.1 2 (by omega) (by omega) (by omega)]
  exact this
theorem TKM_L {γ : GT} (hγ : GOk γ) {P : PM} (h : LM γ P) : TKM γ.1 γ.2.1 P := by
  have := hγ.2.2.1
  unfold TKM at *
  rw [h.2.2.1 8 (by omega), h.2.1 112 (by omega) (by omega)]
  exact this
/-- the codes so far -/
def LE (γ : GT) (es : List Nat) (Pc Pm : PM) : Prop := Pc.1 4 6 = nI (γ.2.2.1 + es.length) ∧ Pm.1 113 235 = nI (γ.2.2.1 + es.length) ∧ (∀ j, j < es.length → Pc.1 8 (γ.2.2.1 + j) = cc (es.getD j 0)) ∧ ∀ j, j < es.length → Pm.1 113 (236 + γ.2.2.1 + j) = nI (es.getD j 0)
theorem LE_f {γ : GT} {es : List Nat} {Pc Pm Pc' Pm' : PM} (h : LE γ es Pc Pm) (g : fc Pc Pc') (g' : fm Pm Pm') : LE γ es Pc' Pm' := by
  unfold LE at *
  rw [g.2.1 4 (by omega), g.2.1 8 (by omega), g'.2.1 113 (by omega)]
  exact h
def LG (γ : GT) (d : Nat) (es : List Nat) (k p q : Nat) (Pc Pm : PM) : Prop := LF γ Pc ∧ LM γ Pm ∧ TG γ.2.1 k p q Pc Pm ∧ LE γ es Pc Pm ∧ γ.2.2.1 + es.length + d ≤ p
def LBc (γ : GT) (f p : Nat) (P : PM) : Prop := LF γ P ∧ Cf f p P ∧ ∃ c, γ.2.2.1 ≤ c ∧ c ≤ 900 ∧ P.1 4 6 = nI c
def LBm (γ : GT) (d f p : Nat) (P : PM) : Prop := LM γ P ∧ Mf f p P ∧ p ≤ 900 ∧ 1 ≤ f ∧ f ≤ 4 ∧ (P.1 109 11 = nI 0 → ∃ c, γ.2.2.1 ≤ c ∧ P.1 113 235 = nI c ∧ c + d ≤ p)
abbrev OT : Type := List Nat ⊕ (Nat × Nat)
def LSt (γ : GT) (d : Nat) (o : OT) (Pc Pm : PM) : Prop := match o with
  | .inl es => ∃ k p q, LG γ d es k p q Pc Pm
  | .inr x => LBc γ x.1 x.2 Pc ∧ LBm γ d x.1 x.2 Pm
theorem LBm_d {γ : GT} {d d' f p : Nat} {P : PM} (h : LBm γ d f p P) (hd : d' ≤ d) : LBm γ d' f p P := by
  obtain ⟨h1, h2, h3, h4, h5, h6⟩ := h
  refine ⟨h1, h2, h3, h4, h5, fun e => ?_⟩
  obtain ⟨c, c1, c2, c3⟩ := h6 e
  exact ⟨c, c1, c2, by omega⟩
theorem LS_d {γ : GT} {d d' : Nat} {o : OT} {Pc Pm : PM} (h : LSt γ d o Pc Pm) (hd : d' ≤ d) : LSt γ d' o Pc Pm := by
  cases o with
  | inl es =>
    obtain ⟨k, p, q, h1, h2, h3, h4, h5⟩ := h
    exact ⟨k, p, q, h1, h2, h3, h4, by omega⟩
  | inr x => exact ⟨h.1, LBm_d h.2 hd⟩
/-- what a reader of type τ may leave -/
def ro (τ : Bool) (m : Nat) (o o' : OT) : Prop := match o, o' with
  | .inl es, .inl es' => ∃ fs, es' = es ++ fs ∧ ∀ ts, ts.length + m < 64 → cts fs ts = some (τ :: ts)
  | .inl _, .inr _ => True
  | .inr x, .inr y => x = y
  | .inr _, .inl _ => False
/-- the same codes, or a fault -/
def sr (o o' : OT) : Prop := match o, o' with
  | .inl es, .inl es' => es' = es
  | .inl _, .inr _ => True
  | .inr x, .inr y => x = y
  | .inr _, .inl _ => False
def Rd (γ : GT) (F G : PM → Option PM) (τ : Bool) (m : Nat) : Prop := ∀ d o Pc Pm, LSt γ d o Pc Pm → ∃ o' Pc' Pm', F Pc = some Pc' ∧ G Pm = some Pm' ∧ LSt γ d o' Pc' Pm' ∧ ro τ m o o'
theorem lg_next {γ : GT} (hγ : GOk γ) {d : Nat} {es : List Nat} {k p q : Nat} {Pc Pm : PM} (hF : LF γ Pc) (hM : LM γ Pm) (hT : TG γ.2.1 k p q Pc Pm) (hE : LE γ es Pc Pm) (hq : γ.2.2.1 + es.length + d ≤ q) :
    ∃ o' Pc' Pm', f_Ta_next Pc = some Pc' ∧ f_Mo_next Pm = some Pm' ∧ LSt γ d o' Pc' Pm' ∧ sr (.inl es) o' ∧ Pm'.1 109 11 = nI 0 := by
  obtain ⟨⟨a1, a2, a3, a4, a5⟩, ⟨b1, b2, b3, b4⟩, t1, t2, t3, t4, t5⟩ := hT
  obtain ⟨Pc', Pm', c1, c2, c3, c4, p', c5, c6, c7⟩ := next_ok hγ.1 (TKC_L hγ hF) (TKM_L hγ hM) a1 a2 b1 a5 b4 t3
  have hn := hγ.1.1
  have hE' := LE_f hE c3 c4
  rcases c7 with ⟨k', q', c7⟩ | ⟨c7, c8⟩
  · exact ⟨.inl es, Pc', Pm', c1, c2, ⟨k', p', q', LF_f hF c3, LM_f hM c4, c7, hE', by omega⟩, rfl, c7.2.1.1⟩
  · exact ⟨.inr (1, p'), Pc', Pm', c1, c2, ⟨⟨LF_f hF c3, c7, _, Nat.le_add_right _ _, by omega, hE'.1⟩, LM_f hM c4, Or.inr ⟨rfl, c8⟩, by omega, Nat.le_refl _, by omega, fun _ => ⟨_, Nat.le_add_right _ _, hE'.2.1, by omega⟩⟩, trivial, c8.1⟩
theorem ls_next {γ : GT} (hγ : GOk γ) {d : Nat} {es : List Nat} {k p q : Nat} {Pc Pm : PM} (h : LG γ d es k p q Pc Pm) (hk : k ≠ 24) :
    ∃ o' Pc' Pm', f_Ta_next Pc = some Pc' ∧ f_Mo_next Pm = some Pm' ∧ LSt γ (d + 1) o' Pc' Pm' ∧ sr (.inl es) o' ∧ Pm'.1 109 11 = nI 0 := by
  obtain ⟨h1, h2, h3, h4, h5⟩ := h
  have := h3.2.2.2.2.2.1 hk
  exact lg_next hγ h1 h2 h3 h4 (by omega)
/-- a code is told -/
theorem le_code {γ : GT} {es : List Nat} {e : Nat} {Pc Pm : PM} (hF : LF γ Pc) (hM : LM γ Pm) (hE : LE γ es Pc Pm) (hl : γ.2.2.1 + es.length < 900) (h11 : Pm.1 109 11 = nI 0) :
    ∃ Pc' Pm', f_Ne_addCode 4 (cc e) Pc = some Pc' ∧ f_Mo_codes (nI e) Pm = some Pm' ∧ LF γ Pc' ∧ LM γ Pm' ∧ LE γ (es ++ [e]) Pc' Pm' ∧ Pc'.1 1 = Pc.1 1 ∧ Pm'.1 109 = Pm.1 109 := by
  obtain ⟨e1, e2, e3, e4⟩ := hE
  obtain ⟨Y, hY⟩ : ∃ Y, Y = u1 (u1 Pc 8 (γ.2.2.1 + es.length) (cc e)) 4 6 (nI (γ.2.2.1 + es.length + 1)) := ⟨_, rfl⟩
  obtain ⟨Z, hZ⟩ : ∃ Z, Z = u1 (u1 Pm 113 (236 + (γ.2.2.1 + es.length)) (nI e)) 113 235 (nI (γ.2.2.1 + es.length + 1)) := ⟨_, rfl⟩
  have y1 : ∀ o, o ≠ 8 → o ≠ 4 → Y.1 o = Pc.1 o := fun o h8 h4 => by rw [hY]; funext v; rw [u1_1, if_neg (by omega), u1_1, if_neg (by omega)]
  have y8 : ∀ j, Y.1 8 j = if j = γ.2.2.1 + es.length then cc e else Pc.1 8 j := fun j => by rw [hY, u1_1, if_neg (by omega), u1_1]; simp
  have y4 : ∀ j, Y.1 4 j = if j = 6 then nI (γ.2.2.1 + es.length + 1) else Pc.1 4 j := fun j => by
    rw [hY, u1_1]
    by_cases c : j = 6
    · rw [if_pos ⟨rfl, c⟩, if_pos c]
    · rw [if_neg (by omega), if_neg c, u1_1, if_neg (by omega)]
  have z1 : ∀ o, o ≠ 113 → Z.1 o = Pm.1 o := fun o h => by rw [hZ]; funext v; rw [u1_1, if_neg (by omega), u1_1, if_neg (by omega)]
  have z3 : ∀ j, Z.1 113 j = if j = 235 then nI (γ.2.2.1 + es.length + 1) else if j = 236 + (γ.2.2.1 + es.length) then nI e else Pm.1 113 j := fun j => by
    rw [hZ, u1_1, u1_1]; simp
  have g1 : ∀ j, j < es.length → (es ++ [e]).getD j 0 = es.getD j 0 := fun j hj => by
    rw [List.getD_eq_getElem?_getD, List.getElem?_append_left hj, List.getD_eq_getElem?_getD]
  have g2 : (es ++ [e]).getD es.length 0 = e := by
    rw [List.getD_eq_getElem?_getD, List.getElem?_append_right (Nat.le_refl _), Nat.sub_self]; rfl
  have g3 : (es ++ [e]).length = es.length + 1 := by simp
  refine ⟨Y, Z, ?_, ?_, ?_, ?_, ?_, y1 1 (by omega) (by omega), z1 109 (by omega)⟩
  · unfold f_Ne_addCode
    rw [e1, if_neg (by simp (disch := omega) only [z_add, z_mul, z_sub, z_subm, z_addm, z_lt_t, z_lt_f, z_le_t, z_le_f, z_eq_t, z_eq_f, z_eqm, z_meq, z_mm, z_ltm, z_mlt, z_lem, z_mle, z_cl, z_ck, u1_1, u1_2, u2_1, u2_2, ↓reduceIte, Option.bind_some, Option.bind_none, bd2_some, lb_eq, and_true, and_false, true_and, false_and, not_true_eq_false, not_false_eq_true, eq_self_iff_true, if_true, if_false, Nat.reduceEqDiff, Nat.reduceAdd, Nat.reduceMul, Nat.reduceSub, Bool.false_eq_true, zl0, zl1, zl2, zl3, zl4, zl5, zl6, zl7, zl8, zl9, zl10, zl11, zl12, zl13, zl14, zl15, zl16, zl17, zl18, zl19, zl20, zl22, zl23, zl24, zl25, zl30, zl31, zl32, zl33, zl34, zl35, zl36, zl37, zl38, zl39, zl40, zl41, zl42, zl43, zl45, zl48, zl49, zl57, zl58, zl59, zl60, zl61, zl62, zl63, zl64, zl91, zl93, zl97, zl98, zl99, zl100, zl113, zl114, zl115, zl116, zl117, zl122, zl124, zl125, zl127, zl128, zl136, zl200, zl201, zl202, zl203, zl204, zl205, zl206, zl207, zl208, zl209, zl210, zl211, zl212, zl213, zl214, zl215, zl216, zl217, zl218, zl219, zl220, zl235, zl236, zl255, zl280, zl287, zl900, zl999, zl1000, zl1001, zl1136, zl1960, zl3000, zl3001, zl3002, zl3003, zl3004, zl3005, zl3006, zl3007, zl3008, zl3009, zl268435456, zl1000000000]), z_ck (by omega) (by omega), z_cl (by omega), u1_1, if_neg (by omega), e1, z_one, ← hY]
  · unfold f_Mo_codes
    rw [h11, if_pos (by rfl), show (235 : Int32).toNatClampNeg = 235 from rfl, e2, show (236 : Int32) = nI 236 from rfl, z_add, z_ck (by omega) (by omega), z_cl (by omega), u1_1, if_neg (by omega), e2, z_one, ← hZ]
  · obtain ⟨h1, h2, h3, h4, h5⟩ := hF
    refine ⟨by rw [hY]; exact h1, fun o a b c => (y1 o c b).trans (h2 o a b c), fun j hj => by rw [y1 1 (by omega) (by omega)]; exact h3 j hj, fun j hj => by rw [y4, if_neg hj]; exact h4 j hj, fun j hj => by rw [y8, if_neg (by omega)]; exact h5 j hj⟩
  · obtain ⟨h1, h2, h3, h4⟩ := hM
    refine ⟨by rw [hZ]; exact h1, fun o a b => (z1 o b).trans (h2 o a b), fun j hj => by rw [z1 109 (by omega)]; exact h3 j hj, fun j hj => by rw [z3, if_neg (by omega), if_neg (by omega)]; exact h4 j hj⟩
  · refine ⟨by rw [y4, if_pos rfl, g3]; rfl, by rw [z3, if_pos rfl, g3]; rfl, fun j hj => ?_, fun j hj => ?_⟩
    · rw [g3] at hj
      rw [y8]
      by_cases c : j = es.length
      · rw [if_pos (by omega), c, g2]
      · rw [if_neg (by omega), g1 j (by omega)]; exact e3 j (by omega)
    · rw [g3] at hj
      rw [z3, if_neg (by omega)]
      by_cases c : j = es.length
      · rw [if_pos (by omega), c, g2]
      · rw [if_neg (by omega), g1 j (by omega)]; exact e4 j (by omega)
theorem TG_ro {n k p q : Nat} {Pc Pm Pc' Pm' : PM} (h : TG n k p q Pc Pm) (h1 : Pc'.1 1 = Pc.1 1) (h2 : Pm'.1 109 = Pm.1 109) : TG n k p q Pc' Pm' := by
  unfold TG Cg Mg at *
  rw [h1, h2]
  exact h
theorem bc_code {γ : GT} {f p : Nat} {x : Int32} {P : PM} (h : LBc γ f p P) : ∃ P', f_Ne_addCode 4 x P = some P' ∧ LBc γ f p P' := by
  obtain ⟨⟨h1, h2, h3, h4, h5⟩, g, c, c1, c2, c3⟩ := h
  unfold f_Ne_addCode
  rw [c3]
  by_cases e : c = 900
  · rw [if_pos (by rw [e]; decide)]
    exact ⟨P, rfl, ⟨h1, h2, h3, h4, h5⟩, g, c, c1, c2, c3⟩
  · rw [if_neg (by simp (disch := omega) only [z_add, z_mul, z_sub, z_subm, z_addm, z_lt_t, z_lt_f, z_le_t, z_le_f, z_eq_t, z_eq_f, z_eqm, z_meq, z_mm, z_ltm, z_mlt, z_lem, z_mle, z_cl, z_ck, u1_1, u1_2, u2_1, u2_2, ↓reduceIte, Option.bind_some, Option.bind_none, bd2_some, lb_eq, and_true, and_false, true_and, false_and, not_true_eq_false, not_false_eq_true, eq_self_iff_true, if_true, if_false, Nat.reduceEqDiff, Nat.reduceAdd, Nat.reduceMul, Nat.reduceSub, Bool.false_eq_true, zl0, zl1, zl2, zl3, zl4, zl5, zl6, zl7, zl8, zl9, zl10, zl11, zl12, zl13, zl14, zl15, zl16, zl17, zl18, zl19, zl20, zl22, zl23, zl24, zl25, zl30, zl31, zl32, zl33, zl34, zl35, zl36, zl37, zl38, zl39, zl40, zl41, zl42, zl43, zl45, zl48, zl49, zl57, zl58, zl59, zl60, zl61, zl62, zl63, zl64, zl91, zl93, zl97, zl98, zl99, zl100, zl113, zl114, zl115, zl116, zl117, zl122, zl124, zl125, zl127, zl128, zl136, zl200, zl201, zl202, zl203, zl204, zl205, zl206, zl207, zl208, zl209, zl210, zl211, zl212, zl213, zl214, zl215, zl216, zl217, zl218, zl219, zl220, zl235, zl236, zl255, zl280, zl287, zl900, zl999, zl1000, zl1001, zl1136, zl1960, zl3000, zl3001, zl3002, zl3003, zl3004, zl3005, zl3006, zl3007, zl3008, zl3009, zl268435456, zl1000000000]), z_ck (by omega) (by omega), z_cl (by omega), u1_1, if_neg (by omega), c3, z_one]
    have r1 : ∀ o, o ≠ 8 → o ≠ 4 → (u1 (u1 P 8 c x) 4 6 (nI (c + 1))).1 o = P.1 o := fun o h8 h4 => by funext v; rw [u1_1, if_neg (by omega), u1_1, if_neg (by omega)]
    refine ⟨_, rfl, ⟨h1, fun o a b q => (r1 o q b).trans (h2 o a b q), fun j hj => ?_, fun j hj => ?_, fun j hj => ?_⟩, ?_, c + 1, by omega, by omega, by rw [u1_1, if_pos ⟨rfl, rfl⟩]⟩
    · rw [r1 1 (by omega) (by omega)]; exact h3 j hj
    · rw [u1_1, if_neg (by omega), u1_1, if_neg (by omega)]; exact h4 j hj
    · rw [u1_1, if_neg (by omega), u1_1, if_neg (by omega)]; exact h5 j hj
    · unfold Cf at *
      rw [r1 1 (by omega) (by omega)]
      exact g
theorem bm_code {γ : GT} {d f p : Nat} {x : Int32} {P : PM} (h : LBm γ (d + 1) f p P) : ∃ P', f_Mo_codes x P = some P' ∧ LBm γ d f p P' := by
  have hd := LBm_d (d' := d) h (by omega)
  obtain ⟨⟨h1, h2, h3, h4⟩, g, g1, g2, g3, g4⟩ := h
  unfold f_Mo_codes
  by_cases e : P.1 109 11 = nI 0
  · obtain ⟨c, c1, c2, c3⟩ := g4 e
    rw [e, if_pos (by rfl), show (235 : Int32).toNatClampNeg = 235 from rfl, c2, show (236 : Int32) = nI 236 from rfl, z_add, z_ck (by omega) (by omega), z_cl (by omega), u1_1, if_neg (by omega), c2, z_one]
    have r1 : ∀ o, o ≠ 113 → (u1 (u1 P 113 (236 + c) x) 113 235 (nI (c + 1))).1 o = P.1 o := fun o h => by funext v; rw [u1_1, if_neg (by omega), u1_1, if_neg (by omega)]
    refine ⟨_, rfl, ⟨h1, fun o a b => (r1 o b).trans (h2 o a b), fun j hj => ?_, fun j hj => ?_⟩, ?_, g1, g2, g3, fun _ => ⟨c + 1, by omega, by rw [u1_1, if_pos ⟨rfl, rfl⟩], by omega⟩⟩
    · rw [r1 109 (by omega)]; exact h3 j hj
    · rw [u1_1, if_neg (by omega), u1_1, if_neg (by omega)]; exact h4 j hj
    · unfold Mf Mh at *
      rw [r1 109 (by omega)]
      exact g
  · rw [if_neg (show ¬ P.1 109 11 = (0 : Int32) from e)]
    exact ⟨P, rfl, hd⟩
def ap (o : OT) (e : Nat) : OT := match o with
  | .inl es => .inl (es ++ [e])
  | .inr x => .inr x
theorem ls_code {γ : GT} (hγ : GOk γ) {d : Nat} {o : OT} {e : Nat} {Pc Pm : PM} (h : LSt γ (d + 1) o Pc Pm) : ∃ Pc' Pm', f_Ne_addCode 4 (cc e) Pc = some Pc' ∧ f_Mo_codes (nI e) Pm = some Pm' ∧ LSt γ d (ap o e) Pc' Pm' := by
  cases o with
  | inl es =>
    obtain ⟨k, p, q, h1, h2, h3, h4, h5⟩ := h
    have hn := hγ.1.1
    have hq := h3.2.2.2
    obtain ⟨Pc', Pm', a1, a2, a3, a4, a5, a6, a7⟩ := le_code (e := e) h1 h2 h4 (by omega) h3.2.1.1
    exact ⟨Pc', Pm', a1, a2, k, p, q, a3, a4, TG_ro h3 a6 a7, a5, by simp; omega⟩
  | inr x =>
    obtain ⟨Pc', a1, a2⟩ := bc_code (x := cc e) h.1
    obtain ⟨Pm', b1, b2⟩ := bm_code (x := nI e) h.2
    exact ⟨Pc', Pm', a1, b1, a2, b2⟩
theorem bc_fail {γ : GT} {f p : Nat} {x : Int32} {P : PM} (h : LBc γ f p P) : ∃ P', f_Ta_fail x P = some P' ∧ LBc γ f p P' := by
  obtain ⟨h1, ⟨g1, g2, g3, g4, g5, g6⟩, h3⟩ := h
  refine ⟨u1 P 1 5 0, ?_, LF_f h1 (fc_u fc_refl (by omega)), ⟨?_, ?_, ?_, g4, g5, g6⟩, ?_⟩
  · unfold f_Ta_fail j_Ta_fail_20
    rw [g1, if_neg (by simp (disch := omega) only [z_add, z_mul, z_sub, z_subm, z_addm, z_lt_t, z_lt_f, z_le_t, z_le_f, z_eq_t, z_eq_f, z_eqm, z_meq, z_mm, z_ltm, z_mlt, z_lem, z_mle, z_cl, z_ck, u1_1, u1_2, u2_1, u2_2, ↓reduceIte, Option.bind_some, Option.bind_none, bd2_some, lb_eq, and_true, and_false, true_and, false_and, not_true_eq_false, not_false_eq_true, eq_self_iff_true, if_true, if_false, Nat.reduceEqDiff, Nat.reduceAdd, Nat.reduceMul, Nat.reduceSub, Bool.false_eq_true, zl0, zl1, zl2, zl3, zl4, zl5, zl6, zl7, zl8, zl9, zl10, zl11, zl12, zl13, zl14, zl15, zl16, zl17, zl18, zl19, zl20, zl22, zl23, zl24, zl25, zl30, zl31, zl32, zl33, zl34, zl35, zl36, zl37, zl38, zl39, zl40, zl41, zl42, zl43, zl45, zl48, zl49, zl57, zl58, zl59, zl60, zl61, zl62, zl63, zl64, zl91, zl93, zl97, zl98, zl99, zl100, zl113, zl114, zl115, zl116, zl117, zl122, zl124, zl125, zl127, zl128, zl136, zl200, zl201, zl202, zl203, zl204, zl205, zl206, zl207, zl208, zl209, zl210, zl211, zl212, zl213, zl214, zl215, zl216, zl217, zl218, zl219, zl220, zl235, zl236, zl255, zl280, zl287, zl900, zl999, zl1000, zl1001, zl1136, zl1960, zl3000, zl3001, zl3002, zl3003, zl3004, zl3005, zl3006, zl3007, zl3008, zl3009, zl268435456, zl1000000000])]
  · rw [u1_1, if_neg (by omega)]; exact g1
  · rw [u1_1, if_neg (by omega)]; exact g2
  · rw [u1_1, if_pos ⟨rfl, rfl⟩]; rfl
  · obtain ⟨c, c1, c2, c3⟩ := h3
    exact ⟨c, c1, c2, by rw [u1_1, if_neg (by omega)]; exact c3⟩
theorem bm_fail {γ : GT} {d d' f p : Nat} {x : Int32} {P : PM} (h : LBm γ d f p P) : ∃ P', f_Mo_fails x P = some P' ∧ LBm γ d' f p P' := by
  obtain ⟨h1, h2, h3, h4, h5, h6⟩ := h
  have hne : nI f ≠ nI 0 := fun e => by have := (nI_eq (by omega) (by omega)).mp e; omega
  rcases h2 with ⟨a1, a2⟩ | ⟨rfl, a1, a2, a3⟩
  · refine ⟨P, ?_, h1, Or.inl ⟨a1, a2⟩, h3, h4, h5, fun e => absurd (a1.symm.trans e) hne⟩
    unfold f_Mo_fails
    rw [a1, if_neg (by simp (disch := omega) only [z_add, z_mul, z_sub, z_subm, z_addm, z_lt_t, z_lt_f, z_le_t, z_le_f, z_eq_t, z_eq_f, z_eqm, z_meq, z_mm, z_ltm, z_mlt, z_lem, z_mle, z_cl, z_ck, u1_1, u1_2, u2_1, u2_2, ↓reduceIte, Option.bind_some, Option.bind_none, bd2_some, lb_eq, and_true, and_false, true_and, false_and, not_true_eq_false, not_false_eq_true, eq_self_iff_true, if_true, if_false, Nat.reduceEqDiff, Nat.reduceAdd, Nat.reduceMul, Nat.reduceSub, Bool.false_eq_true, zl0, zl1, zl2, zl3, zl4, zl5, zl6, zl7, zl8, zl9, zl10, zl11, zl12, zl13, zl14, zl15, zl16, zl17, zl18, zl19, zl20, zl22, zl23, zl24, zl25, zl30, zl31, zl32, zl33, zl34, zl35, zl36, zl37, zl38, zl39, zl40, zl41, zl42, zl43, zl45, zl48, zl49, zl57, zl58, zl59, zl60, zl61, zl62, zl63, zl64, zl91, zl93, zl97, zl98, zl99, zl100, zl113, zl114, zl115, zl116, zl117, zl122, zl124, zl125, zl127, zl128, zl136, zl200, zl201, zl202, zl203, zl204, zl205, zl206, zl207, zl208, zl209, zl210, zl211, zl212, zl213, zl214, zl215, zl216, zl217, zl218, zl219, zl220, zl235, zl236, zl255, zl280, zl287, zl900, zl999, zl1000, zl1001, zl1136, zl1960, zl3000, zl3001, zl3002, zl3003, zl3004, zl3005, zl3006, zl3007, zl3008, zl3009, zl268435456, zl1000000000])]
  · refine ⟨u1 (u1 P 109 11 1) 109 12 (nI p), ?_, LM_f h1 (fm_u (fm_u fm_refl (by omega)) (by omega)), Or.inl ⟨?_, ?_⟩, h3, h4, h5, fun e => ?_⟩
    · unfold f_Mo_fails j_Mo_fails_23
      rw [a1, if_pos (by rfl), a2, if_pos (by rfl), u1_1, if_neg (by omega), a3]
    · rw [u1_1, if_neg (by omega), u1_1, if_pos ⟨rfl, rfl⟩]; rfl
    · rw [u1_1, if_pos ⟨rfl, rfl⟩]
    · rw [u1_1, if_neg (by omega), u1_1, if_pos ⟨rfl, rfl⟩] at e
      exact absurd e (by decide)
theorem fail_M0 {k p q f : Nat} {P : PM} (h : Mg k p q P) (hk : k ≠ 25) (hk2 : k < 42) : ∃ P', f_Mo_fails (nI f) P = some P' ∧ fm P P' ∧ P'.1 109 11 = nI f ∧ P'.1 109 12 = nI p := by
  obtain ⟨a1, a2, a3, a4⟩ := h
  refine ⟨u1 (u1 P 109 11 (nI f)) 109 12 (nI p), ?_, fm_u (fm_u fm_refl (by omega)) (by omega), ?_, ?_⟩
  · unfold f_Mo_fails j_Mo_fails_23
    rw [a1, if_pos (by rfl), a2, if_neg (by simp (disch := omega) only [z_add, z_mul, z_sub, z_subm, z_addm, z_lt_t, z_lt_f, z_le_t, z_le_f, z_eq_t, z_eq_f, z_eqm, z_meq, z_mm, z_ltm, z_mlt, z_lem, z_mle, z_cl, z_ck, u1_1, u1_2, u2_1, u2_2, ↓reduceIte, Option.bind_some, Option.bind_none, bd2_some, lb_eq, and_true, and_false, true_and, false_and, not_true_eq_false, not_false_eq_true, eq_self_iff_true, if_true, if_false, Nat.reduceEqDiff, Nat.reduceAdd, Nat.reduceMul, Nat.reduceSub, Bool.false_eq_true, zl0, zl1, zl2, zl3, zl4, zl5, zl6, zl7, zl8, zl9, zl10, zl11, zl12, zl13, zl14, zl15, zl16, zl17, zl18, zl19, zl20, zl22, zl23, zl24, zl25, zl30, zl31, zl32, zl33, zl34, zl35, zl36, zl37, zl38, zl39, zl40, zl41, zl42, zl43, zl45, zl48, zl49, zl57, zl58, zl59, zl60, zl61, zl62, zl63, zl64, zl91, zl93, zl97, zl98, zl99, zl100, zl113, zl114, zl115, zl116, zl117, zl122, zl124, zl125, zl127, zl128, zl136, zl200, zl201, zl202, zl203, zl204, zl205, zl206, zl207, zl208, zl209, zl210, zl211, zl212, zl213, zl214, zl215, zl216, zl217, zl218, zl219, zl220, zl235, zl236, zl255, zl280, zl287, zl900, zl999, zl1000, zl1001, zl1136, zl1960, zl3000, zl3001, zl3002, zl3003, zl3004, zl3005, zl3006, zl3007, zl3008, zl3009, zl268435456, zl1000000000]), u1_1, if_neg (by omega), a3]
  · rw [u1_1, if_neg (by omega), u1_1, if_pos ⟨rfl, rfl⟩]
  · rw [u1_1, if_pos ⟨rfl, rfl⟩]
theorem kok_n {k : Nat} (h : kok k) : k ≠ 25 ∧ k < 42 := by
  unfold kok at h
  omega
theorem ls_fail {γ : GT} (hγ : GOk γ) {d d' : Nat} {o : OT} {f : Nat} (hf : 1 ≤ f ∧ f ≤ 4) {Pc Pm : PM} (h : LSt γ d o Pc Pm) : ∃ x Pc' Pm', f_Ta_fail (nI f) Pc = some Pc' ∧ f_Mo_fails (nI f) Pm = some Pm' ∧ LSt γ d' (.inr x) Pc' Pm' ∧ sr o (.inr x) := by
  cases o with
  | inl es =>
    obtain ⟨k, p, q, h1, h2, h3, h4, h5⟩ := h
    have hn := hγ.1.1
    have hq := h3.2.2.2
    have hk := kok_n h3.2.2.1
    obtain ⟨Pc', a1, a2, a3⟩ := fail_C0 h3.1 hf (by omega)
    obtain ⟨Pm', b1, b2, b3, b4⟩ := fail_M0 (f := f) h3.2.1 hk.1 hk.2
    refine ⟨(f, p), Pc', Pm', a1, b1, ⟨⟨LF_f h1 a2, a3, _, Nat.le_add_right _ _, ?_, (LE_f h4 a2 b2).1⟩, LM_f h2 b2, Or.inl ⟨b3, b4⟩, by show p ≤ 900; omega, hf.1, hf.2, fun e => ?_⟩, trivial⟩
    · omega
    · rw [b3] at e
      have := (nI_eq (by omega) (by omega)).mp e
      omega
  | inr x =>
    obtain ⟨Pc', a1, a2⟩ := bc_fail (x := nI f) h.1
    obtain ⟨Pm', b1, b2⟩ := bm_fail (d' := d') (x := nI f) h.2
    exact ⟨x, Pc', Pm', a1, b1, ⟨a2, b2⟩, rfl⟩
/-- which token is there -/
def kokb (k : Nat) : Bool := decide (k < 20) || k == 22 || k == 23 || k == 24 || (decide (30 ≤ k) && decide (k < 42))
theorem kokb_t {k : Nat} : kok k ↔ kokb k = true := by
  unfold kok kokb
  simp only [Bool.or_eq_true, Bool.and_eq_true, decide_eq_true_eq, beq_iff_eq, or_assoc]
theorem kt_inj0 : (List.range 42).all (fun k => (List.range 42).all (fun j => !(kokb k) || !(kokb j) || !(kt k == kt j) || k == j)) = true := by decide +kernel
theorem kt_inj : ∀ k, k < 42 → ∀ j, j < 42 → kok k → kok j → kt k = kt j → k = j := by
  intro k hk j hj h1 h2 h3
  have h0 := kt_inj0
  rw [List.all_eq_true] at h0
  have h4 := h0 k (List.mem_range.mpr hk)
  rw [List.all_eq_true] at h4
  have h5 := h4 j (List.mem_range.mpr hj)
  rw [kokb_t.mp h1, kokb_t.mp h2, h3] at h5
  simpa using h5
theorem kt_lt : ∀ k, k < 42 → kt k < 221 := by decide +kernel
theorem tk_C {n k j p q : Nat} {Pc Pm : PM} (h : TG n k p q Pc Pm) (hj : kok j) : Pc.1 1 5 = nI (kt j) ↔ k = j := by
  have hk := kok_n h.2.2.1
  have hj2 := kok_n hj
  have l1 := kt_lt k hk.2
  have l2 := kt_lt j hj2.2
  rw [h.1.2.2.1, nI_eq (by omega) (by omega)]
  exact ⟨kt_inj k hk.2 j hj2.2 h.2.2.1 hj, fun e => by rw [e]⟩
theorem is_G {k j p q : Nat} {P : PM} (h : Mg k p q P) (hk : k < 42) (hj : j < 42) : f_Mo_is (nI j) P = nI (if k = j then 1 else 0) := by
  unfold f_Mo_is j_Mo_is_19
  rw [h.1, if_pos (by rfl), h.2.1]
  by_cases c : k = j
  · rw [if_pos (by rw [c]), if_pos c]; rfl
  · rw [if_neg (by simp (disch := omega) only [z_add, z_mul, z_sub, z_subm, z_addm, z_lt_t, z_lt_f, z_le_t, z_le_f, z_eq_t, z_eq_f, z_eqm, z_meq, z_mm, z_ltm, z_mlt, z_lem, z_mle, z_cl, z_ck, u1_1, u1_2, u2_1, u2_2, ↓reduceIte, Option.bind_some, Option.bind_none, bd2_some, lb_eq, and_true, and_false, true_and, false_and, not_true_eq_false, not_false_eq_true, eq_self_iff_true, if_true, if_false, Nat.reduceEqDiff, Nat.reduceAdd, Nat.reduceMul, Nat.reduceSub, Bool.false_eq_true, zl0, zl1, zl2, zl3, zl4, zl5, zl6, zl7, zl8, zl9, zl10, zl11, zl12, zl13, zl14, zl15, zl16, zl17, zl18, zl19, zl20, zl22, zl23, zl24, zl25, zl30, zl31, zl32, zl33, zl34, zl35, zl36, zl37, zl38, zl39, zl40, zl41, zl42, zl43, zl45, zl48, zl49, zl57, zl58, zl59, zl60, zl61, zl62, zl63, zl64, zl91, zl93, zl97, zl98, zl99, zl100, zl113, zl114, zl115, zl116, zl117, zl122, zl124, zl125, zl127, zl128, zl136, zl200, zl201, zl202, zl203, zl204, zl205, zl206, zl207, zl208, zl209, zl210, zl211, zl212, zl213, zl214, zl215, zl216, zl217, zl218, zl219, zl220, zl235, zl236, zl255, zl280, zl287, zl900, zl999, zl1000, zl1001, zl1136, zl1960, zl3000, zl3001, zl3002, zl3003, zl3004, zl3005, zl3006, zl3007, zl3008, zl3009, zl268435456, zl1000000000]), if_neg c]; rfl
theorem is_B {j f p : Nat} {P : PM} (h : Mf f p P) (hf : 1 ≤ f ∧ f ≤ 4) (hj : j < 42) (hj2 : j ≠ 25) : f_Mo_is (nI j) P = nI 0 := by
  unfold f_Mo_is j_Mo_is_19
  rcases h with ⟨a1, a2⟩ | ⟨rfl, a1, a2, a3⟩
  · rw [a1, if_neg (by simp (disch := omega) only [z_add, z_mul, z_sub, z_subm, z_addm, z_lt_t, z_lt_f, z_le_t, z_le_f, z_eq_t, z_eq_f, z_eqm, z_meq, z_mm, z_ltm, z_mlt, z_lem, z_mle, z_cl, z_ck, u1_1, u1_2, u2_1, u2_2, ↓reduceIte, Option.bind_some, Option.bind_none, bd2_some, lb_eq, and_true, and_false, true_and, false_and, not_true_eq_false, not_false_eq_true, eq_self_iff_true, if_true, if_false, Nat.reduceEqDiff, Nat.reduceAdd, Nat.reduceMul, Nat.reduceSub, Bool.false_eq_true, zl0, zl1, zl2, zl3, zl4, zl5, zl6, zl7, zl8, zl9, zl10, zl11, zl12, zl13, zl14, zl15, zl16, zl17, zl18, zl19, zl20, zl22, zl23, zl24, zl25, zl30, zl31, zl32, zl33, zl34, zl35, zl36, zl37, zl38, zl39, zl40, zl41, zl42, zl43, zl45, zl48, zl49, zl57, zl58, zl59, zl60, zl61, zl62, zl63, zl64, zl91, zl93, zl97, zl98, zl99, zl100, zl113, zl114, zl115, zl116, zl117, zl122, zl124, zl125, zl127, zl128, zl136, zl200, zl201, zl202, zl203, zl204, zl205, zl206, zl207, zl208, zl209, zl210, zl211, zl212, zl213, zl214, zl215, zl216, zl217, zl218, zl219, zl220, zl235, zl236, zl255, zl280, zl287, zl900, zl999, zl1000, zl1001, zl1136, zl1960, zl3000, zl3001, zl3002, zl3003, zl3004, zl3005, zl3006, zl3007, zl3008, zl3009, zl268435456, zl1000000000])]; rfl
  · rw [a1, if_pos (by rfl), a2, if_neg (by simp (disch := omega) only [z_add, z_mul, z_sub, z_subm, z_addm, z_lt_t, z_lt_f, z_le_t, z_le_f, z_eq_t, z_eq_f, z_eqm, z_meq, z_mm, z_ltm, z_mlt, z_lem, z_mle, z_cl, z_ck, u1_1, u1_2, u2_1, u2_2, ↓reduceIte, Option.bind_some, Option.bind_none, bd2_some, lb_eq, and_true, and_false, true_and, false_and, not_true_eq_false, not_false_eq_true, eq_self_iff_true, if_true, if_false, Nat.reduceEqDiff, Nat.reduceAdd, Nat.reduceMul, Nat.reduceSub, Bool.false_eq_true, zl0, zl1, zl2, zl3, zl4, zl5, zl6, zl7, zl8, zl9, zl10, zl11, zl12, zl13, zl14, zl15, zl16, zl17, zl18, zl19, zl20, zl22, zl23, zl24, zl25, zl30, zl31, zl32, zl33, zl34, zl35, zl36, zl37, zl38, zl39, zl40, zl41, zl42, zl43, zl45, zl48, zl49, zl57, zl58, zl59, zl60, zl61, zl62, zl63, zl64, zl91, zl93, zl97, zl98, zl99, zl100, zl113, zl114, zl115, zl116, zl117, zl122, zl124, zl125, zl127, zl128, zl136, zl200, zl201, zl202, zl203, zl204, zl205, zl206, zl207, zl208, zl209, zl210, zl211, zl212, zl213, zl214, zl215, zl216, zl217, zl218, zl219, zl220, zl235, zl236, zl255, zl280, zl287, zl900, zl999, zl1000, zl1001, zl1136, zl1960, zl3000, zl3001, zl3002, zl3003, zl3004, zl3005, zl3006, zl3007, zl3008, zl3009, zl268435456, zl1000000000])]; rfl
theorem eats_0 {P : PM} {x : Int32} (h : f_Mo_is x P = nI 0) : f_Mo_eats x P = some ((0 : Int32), P) := by
  unfold f_Mo_eats
  rw [h, if_pos (by rfl)]
theorem eats_1 {P : PM} {x : Int32} (h : f_Mo_is x P = nI 1) : f_Mo_eats x P = (f_Mo_next P).bind (fun P2 => some ((1 : Int32), P2)) := by
  unfold f_Mo_eats
  rw [h, if_neg (by decide)]
/-- skip, and eats with a fault behind it -/
theorem ls_skip {γ : GT} (hγ : GOk γ) {d : Nat} {o : OT} {j : Nat} (hj : kok j) (hj2 : j ≠ 24) {Pc Pm : PM} (h : LSt γ d o Pc Pm) : ∃ o' Pc' Pm', f_Ta_skip (nI (kt j)) Pc = some Pc' ∧
    (∀ K : PM → Option PM, bd2 (f_Mo_eats (nI j) Pm) (fun v P2 => if v = (0 : Int32) then (f_Mo_fails (2 : Int32) P2).bind K else K P2) = K Pm') ∧ LSt γ d o' Pc' Pm' ∧ sr o o' := by
  have hjn := kok_n hj
  cases o with
  | inl es =>
    obtain ⟨k, p, q, h0⟩ := h
    have h3 := h0.2.2.1
    have hk := kok_n h3.2.2.1
    by_cases c : k = j
    · obtain ⟨o', Pc', Pm', a1, a2, a3, a4, -⟩ := ls_next hγ h0 (by omega)
      refine ⟨o', Pc', Pm', ?_, fun K => ?_, LS_d a3 (by omega), a4⟩
      · unfold f_Ta_skip
        rw [if_pos ((tk_C h3 hj).mpr c), a1]; rfl
      · rw [eats_1 (by rw [is_G h3.2.1 hk.2 hjn.2, if_pos c]), a2]; rfl
    · obtain ⟨x, Pc', Pm', a1, a2, a3, a4⟩ := ls_fail (d' := d) hγ (f := 2) ⟨by omega, by omega⟩ (show LSt γ d (.inl es) Pc Pm from ⟨k, p, q, h0⟩)
      refine ⟨.inr x, Pc', Pm', ?_, fun K => ?_, a3, a4⟩
      · unfold f_Ta_skip
        rw [if_neg (fun e => c ((tk_C h3 hj).mp e)), show (2 : Int32) = nI 2 from rfl, a1]; rfl
      · rw [eats_0 (by rw [is_G h3.2.1 hk.2 hjn.2, if_neg c]), bd2_some, if_pos rfl, show (2 : Int32) = nI 2 from rfl, a2]; rfl
  | inr x =>
    obtain ⟨y, Pc', Pm', a1, a2, a3, a4⟩ := ls_fail (d' := d) hγ (f := 2) ⟨by omega, by omega⟩ h
    obtain ⟨h1, h2⟩ := h
    refine ⟨.inr y, Pc', Pm', ?_, fun K => ?_, a3, a4⟩
    · unfold f_Ta_skip
      have l2 := kt_lt j hjn.2
      have l3 : kt j ≠ 0 := fun e => hj2 (kt_inj j hjn.2 24 (by omega) hj (by unfold kok; omega) (e.trans rfl))
      rw [h1.2.1.2.2.1, if_neg (by simp (disch := omega) only [z_add, z_mul, z_sub, z_subm, z_addm, z_lt_t, z_lt_f, z_le_t, z_le_f, z_eq_t, z_eq_f, z_eqm, z_meq, z_mm, z_ltm, z_mlt, z_lem, z_mle, z_cl, z_ck, u1_1, u1_2, u2_1, u2_2, ↓reduceIte, Option.bind_some, Option.bind_none, bd2_some, lb_eq, and_true, and_false, true_and, false_and, not_true_eq_false, not_false_eq_true, eq_self_iff_true, if_true, if_false, Nat.reduceEqDiff, Nat.reduceAdd, Nat.reduceMul, Nat.reduceSub, Bool.false_eq_true, zl0, zl1, zl2, zl3, zl4, zl5, zl6, zl7, zl8, zl9, zl10, zl11, zl12, zl13, zl14, zl15, zl16, zl17, zl18, zl19, zl20, zl22, zl23, zl24, zl25, zl30, zl31, zl32, zl33, zl34, zl35, zl36, zl37, zl38, zl39, zl40, zl41, zl42, zl43, zl45, zl48, zl49, zl57, zl58, zl59, zl60, zl61, zl62, zl63, zl64, zl91, zl93, zl97, zl98, zl99, zl100, zl113, zl114, zl115, zl116, zl117, zl122, zl124, zl125, zl127, zl128, zl136, zl200, zl201, zl202, zl203, zl204, zl205, zl206, zl207, zl208, zl209, zl210, zl211, zl212, zl213, zl214, zl215, zl216, zl217, zl218, zl219, zl220, zl235, zl236, zl255, zl280, zl287, zl900, zl999, zl1000, zl1001, zl1136, zl1960, zl3000, zl3001, zl3002, zl3003, zl3004, zl3005, zl3006, zl3007, zl3008, zl3009, zl268435456, zl1000000000]), show (2 : Int32) = nI 2 from rfl, a1]; rfl
    · rw [eats_0 (is_B h2.2.1 ⟨h2.2.2.2.1, h2.2.2.2.2.1⟩ hjn.2 hjn.1), bd2_some, if_pos rfl, show (2 : Int32) = nI 2 from rfl, a2]; rfl
/-- what may stand within so many others -/
theorem ls_opens {γ : GT} (hγ : GOk γ) {d e : Nat} (he : e ≤ 6) {es : List Nat} {k p q : Nat} {Pc Pm : PM} (h : LG γ d es k p q Pc Pm) (hk : k ≠ 24) :
    (∃ o' Pc' Pm', e < 6 ∧ f_Lr_opens (nI e) Pc = some (nI 1, Pc') ∧ f_Mo_goesIn (nI e) Pm = some (nI 1, Pm') ∧ LSt γ (d + 1) o' Pc' Pm' ∧ sr (.inl es) o') ∨
    (∃ x Pc' Pm', f_Lr_opens (nI e) Pc = some (nI 0, Pc') ∧ f_Mo_goesIn (nI e) Pm = some (nI 0, Pm') ∧ LSt γ d (.inr x) Pc' Pm') := by
  have h3 := h.2.2.1
  by_cases c : e = 6
  · refine Or.inr ?_
    have hkn := kok_n h3.2.2.1
    have hn := hγ.1.1
    obtain ⟨h1, h2, h3, h4, h5⟩ := h
    have hq := h3.2.2.2
    obtain ⟨Pc', a1, a2, a3⟩ := fail_C0 (f := 4) h3.1 ⟨by omega, by omega⟩ (by omega)
    obtain ⟨Pm', b1, b2, b3, b4⟩ := fail_M0 (f := 4) h3.2.1 hkn.1 hkn.2
    refine ⟨(4, p), Pc', Pm', ?_, ?_, ⟨⟨LF_f h1 a2, a3, _, Nat.le_add_right _ _, by omega, (LE_f h4 a2 b2).1⟩, LM_f h2 b2, Or.inl ⟨b3, b4⟩, by show p ≤ 900; omega, by show 1 ≤ 4; omega, by show 4 ≤ 4; omega, fun e => ?_⟩⟩
    · unfold f_Lr_opens
      rw [if_neg (by rw [c]; decide), show (4 : Int32) = nI 4 from rfl, a1]; rfl
    · unfold f_Mo_goesIn j_Mo_goesIn_11 j_Mo_goesIn_22
      rw [if_pos (by rw [c]; rfl), show (4 : Int32) = nI 4 from rfl, b1, Option.bind_some, b3, if_neg (by decide), if_neg (by decide)]; rfl
    · rw [b3] at e
      exact absurd e (by decide)
  · refine Or.inl ?_
    obtain ⟨o', Pc', Pm', a1, a2, a3, a4, a5⟩ := ls_next hγ h hk
    refine ⟨o', Pc', Pm', by omega, ?_, ?_, a3, a4⟩
    · unfold f_Lr_opens
      rw [if_pos (by simp (disch := omega) only [z_add, z_mul, z_sub, z_subm, z_addm, z_lt_t, z_lt_f, z_le_t, z_le_f, z_eq_t, z_eq_f, z_eqm, z_meq, z_mm, z_ltm, z_mlt, z_lem, z_mle, z_cl, z_ck, u1_1, u1_2, u2_1, u2_2, ↓reduceIte, Option.bind_some, Option.bind_none, bd2_some, lb_eq, and_true, and_false, true_and, false_and, not_true_eq_false, not_false_eq_true, eq_self_iff_true, if_true, if_false, Nat.reduceEqDiff, Nat.reduceAdd, Nat.reduceMul, Nat.reduceSub, Bool.false_eq_true, zl0, zl1, zl2, zl3, zl4, zl5, zl6, zl7, zl8, zl9, zl10, zl11, zl12, zl13, zl14, zl15, zl16, zl17, zl18, zl19, zl20, zl22, zl23, zl24, zl25, zl30, zl31, zl32, zl33, zl34, zl35, zl36, zl37, zl38, zl39, zl40, zl41, zl42, zl43, zl45, zl48, zl49, zl57, zl58, zl59, zl60, zl61, zl62, zl63, zl64, zl91, zl93, zl97, zl98, zl99, zl100, zl113, zl114, zl115, zl116, zl117, zl122, zl124, zl125, zl127, zl128, zl136, zl200, zl201, zl202, zl203, zl204, zl205, zl206, zl207, zl208, zl209, zl210, zl211, zl212, zl213, zl214, zl215, zl216, zl217, zl218, zl219, zl220, zl235, zl236, zl255, zl280, zl287, zl900, zl999, zl1000, zl1001, zl1136, zl1960, zl3000, zl3001, zl3002, zl3003, zl3004, zl3005, zl3006, zl3007, zl3008, zl3009, zl268435456, zl1000000000]), a1]; rfl
    · unfold f_Mo_goesIn j_Mo_goesIn_11 j_Mo_goesIn_22
      rw [if_neg (by simp (disch := omega) only [z_add, z_mul, z_sub, z_subm, z_addm, z_lt_t, z_lt_f, z_le_t, z_le_f, z_eq_t, z_eq_f, z_eqm, z_meq, z_mm, z_ltm, z_mlt, z_lem, z_mle, z_cl, z_ck, u1_1, u1_2, u2_1, u2_2, ↓reduceIte, Option.bind_some, Option.bind_none, bd2_some, lb_eq, and_true, and_false, true_and, false_and, not_true_eq_false, not_false_eq_true, eq_self_iff_true, if_true, if_false, Nat.reduceEqDiff, Nat.reduceAdd, Nat.reduceMul, Nat.reduceSub, Bool.false_eq_true, zl0, zl1, zl2, zl3, zl4, zl5, zl6, zl7, zl8, zl9, zl10, zl11, zl12, zl13, zl14, zl15, zl16, zl17, zl18, zl19, zl20, zl22, zl23, zl24, zl25, zl30, zl31, zl32, zl33, zl34, zl35, zl36, zl37, zl38, zl39, zl40, zl41, zl42, zl43, zl45, zl48, zl49, zl57, zl58, zl59, zl60, zl61, zl62, zl63, zl64, zl91, zl93, zl97, zl98, zl99, zl100, zl113, zl114, zl115, zl116, zl117, zl122, zl124, zl125, zl127, zl128, zl136, zl200, zl201, zl202, zl203, zl204, zl205, zl206, zl207, zl208, zl209, zl210, zl211, zl212, zl213, zl214, zl215, zl216, zl217, zl218, zl219, zl220, zl235, zl236, zl255, zl280, zl287, zl900, zl999, zl1000, zl1001, zl1136, zl1960, zl3000, zl3001, zl3002, zl3003, zl3004, zl3005, zl3006, zl3007, zl3008, zl3009, zl268435456, zl1000000000]), h3.2.1.1, if_pos (by rfl), a2, Option.bind_some, a5, if_pos (by rfl)]; rfl
