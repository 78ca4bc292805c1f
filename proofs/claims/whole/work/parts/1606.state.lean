/-! the whole state: what both memories hold -/
def s0 : SV := (none, 0, 0, 0, fun _ => 0)
abbrev TV : Type := Nat → Option Nat × Nat × (Nat → Int64)
abbrev AS : Type := NV × SV × List SV × TV × (Nat → Option (NV × SV)) × Nat × (Nat → Nat) × Int32 × Int32
def aV (a : AS) : NV := a.1
def aS (a : AS) : SV := a.2.1
def aP (a : AS) : List SV := a.2.2.1
def aT (a : AS) : TV := a.2.2.2.1
def aI (a : AS) : Nat → Option (NV × SV) := a.2.2.2.2.1
def aF (a : AS) : Nat := a.2.2.2.2.2.1
def aB (a : AS) : Nat → Nat := a.2.2.2.2.2.2.1
def aK (a : AS) : Int32 := a.2.2.2.2.2.2.2.1
def aQ (a : AS) : Int32 := a.2.2.2.2.2.2.2.2
def setS (a : AS) (s : SV) : AS := (a.1, s, a.2.2)
def setSP (a : AS) (s : SV) (p : List SV) : AS := (a.1, s, p, a.2.2.2)
def setT (a : AS) (t : TV) : AS := (a.1, a.2.1, a.2.2.1, t, a.2.2.2.2)
def CPast (P : PM) (p : List SV) : Prop := ∃ hd, hd < 11 ∧ P.1 31 7 = nI hd ∧ P.1 31 5 = nI p.length ∧ ∀ j, j < p.length → CSt P (36 + 2 * ((hd + 10 - j) % 11)) (p.getD j s0)
def MPast (P : PM) (p : List SV) : Prop := P.1 110 124 = nI p.length ∧ ∀ j, j < p.length → MSt P 110 (125 + 11 * (p.length - 1 - j)) (p.getD j s0)
def CTr (P : PM) (t : TV) : Prop := ∀ k, k < 4 → P.1 29 k = oI (t k).1 ∧ P.1 30 k = nI (t k).2.1 ∧ ∀ i, i < (t k).2.1 → P.2 (25 + k) i = (t k).2.2 i
def MTr (P : PM) (t : TV) : Prop := ∀ k, k < 4 → P.1 127 k = oI (t k).1 ∧ P.1 128 k = nI (t k).2.1 ∧ ∀ i, i < (t k).2.1 → P.2 129 (40 * k + i) = (t k).2.2 i
def CIm (P : PM) (m : Nat → Option (NV × SV)) : Prop := ∀ i, i < 2 → P.1 108 i = nI (if m i = none then 0 else 1) ∧ ∀ n s, m i = some (n, s) → CNet P (89 + 7 * i) n ∧ CSt P (104 + 2 * i) s
def MIm (P : PM) (m : Nat → Option (NV × SV)) : Prop := ∀ i, i < 2 → P.1 111 i = nI (if m i = none then 0 else 1) ∧ ∀ n s, m i = some (n, s) → MNet P 110 (1136 * (i + 1)) n ∧ MSt P 110 (1136 * (i + 1) + 113) s
def CTp (P : PM) (f : Nat) (b : Nat → Nat) (k q : Int32) : Prop := P.1 1 1 = nI f ∧ (∀ i, i < f → P.1 2 i &&& 255 = nI (b i)) ∧ P.1 1 7 = k ∧ P.1 1 8 = q
def MTp (P : PM) (f : Nat) (b : Nat → Nat) (k q : Int32) : Prop := P.1 109 5 = nI f ∧ (∀ i, i < f → P.1 112 i = nI (b i)) ∧ P.1 109 13 = k ∧ P.1 109 14 = q
def CRep (P : PM) (a : AS) : Prop := CNet P 14 (aV a) ∧ CSt P 21 (aS a) ∧ CPast P (aP a) ∧ CTr P (aT a) ∧ CIm P (aI a) ∧ CTp P (aF a) (aB a) (aK a) (aQ a)
def MRep (P : PM) (a : AS) : Prop := MNet P 110 0 (aV a) ∧ MSt P 110 113 (aS a) ∧ MPast P (aP a) ∧ MTr P (aT a) ∧ MIm P (aI a) ∧ MTp P (aF a) (aB a) (aK a) (aQ a)
def AOk (a : AS) : Prop := NVok (aV a) ∧ SVok (aV a) (aS a) ∧ (aP a).length ≤ 10 ∧ (∀ j, j < (aP a).length → SVok (aV a) ((aP a).getD j s0)) ∧
  (∀ k, (aT a k).2.1 ≤ 40 ∧ (∀ q, (aT a k).1 = some q → q ≤ 3) ∧ ((aT a k).1 = none → (aT a k).2.1 = 0)) ∧ (∀ i n s, aI a i = some (n, s) → NVok n ∧ SVok n s) ∧ aF a ≤ 900 ∧ ∀ i, aB a i < 256
/-- what the class keeps of passings -/
def CCa (P : PM) (v : NV) : Prop := ∀ t, t < 7 → ∃ d, d ≤ 9 ∧ P.1 60 t = nI d ∧ ∀ p, p < 280 → P.1 59 (280 * t + p) = -nI 2 ∨ P.1 59 (280 * t + p) = oI (car v (p / 40) (p % 40 + 1) t d)
def Inv (P : PM) : Prop := ∃ a, AOk a ∧ CRep P a ∧ MRep P a ∧ CCa P (aV a)
/-- rows of the class that last from call to call, but 31 -/
def esr (o : Nat) : Bool := o == 1 || o == 2 || (14 ≤ o && o ≤ 18) || o == 21 || o == 22 || (25 ≤ o && o ≤ 30) || (36 ≤ o && o ≤ 57) || (89 ≤ o && o ≤ 93) || (96 ≤ o && o ≤ 100) || (104 ≤ o && o ≤ 108)
/-- alike in what lasts -/
def ce (P P' : PM) : Prop := (∀ o, esr o = true → P'.1 o = P.1 o ∧ P'.2 o = P.2 o) ∧ P'.1 31 5 = P.1 31 5 ∧ P'.1 31 7 = P.1 31 7
theorem ce_refl {P : PM} : ce P P := ⟨fun _ _ => ⟨rfl, rfl⟩, rfl, rfl⟩
theorem ce_trans {P P' P'' : PM} (h : ce P P') (g : ce P' P'') : ce P P'' := ⟨fun o q => ⟨(g.1 o q).1.trans (h.1 o q).1, (g.1 o q).2.trans (h.1 o q).2⟩, g.2.1.trans h.2.1, g.2.2.trans h.2.2⟩
theorem ce_sm {S : Nat → Bool} {P P' : PM} (h : sm S P P') (q : ∀ o, esr o = true → S o = false) (h5 : P'.1 31 5 = P.1 31 5) (h7 : P'.1 31 7 = P.1 31 7) : ce P P' := ⟨fun o e => ⟨h.1 o (q o e), h.2 o (q o e)⟩, h5, h7⟩
theorem CNet_ro {P P' : PM} {b : Nat} {v : NV} (h : CNet P b v) (h0 : P'.1 b = P.1 b) (h1 : P'.1 (b + 1) = P.1 (b + 1)) (h2 : P'.1 (b + 2) = P.1 (b + 2)) (h3 : P'.1 (b + 3) = P.1 (b + 3)) (h4 : P'.1 (b + 4) = P.1 (b + 4)) : CNet P' b v := by
  unfold CNet CLw at *
  rw [h0, h1, h2, h3, h4]
  exact h
theorem CSt_ro {P P' : PM} {b : Nat} {v : SV} (h : CSt P b v) (h0 : P'.1 b = P.1 b) (h1 : P'.1 (b + 1) = P.1 (b + 1)) : CSt P' b v := by
  unfold CSt at *
  rw [h0, h1]
  exact h
theorem CPast_ce {P P' : PM} {p : List SV} (h : CPast P p) (c : ce P P') : CPast P' p := by
  obtain ⟨hd, h1, h2, h3, h4⟩ := h
  refine ⟨hd, h1, c.2.2.trans h2, c.2.1.trans h3, fun j hj => CSt_ro (h4 j hj) (c.1 _ ?_).1 (c.1 _ ?_).1⟩
  · have : (hd + 10 - j) % 11 < 11 := Nat.mod_lt _ (by omega)
    simp [esr]
    omega
  · have : (hd + 10 - j) % 11 < 11 := Nat.mod_lt _ (by omega)
    simp [esr]
    omega
theorem CTr_ce {P P' : PM} {t : TV} (h : CTr P t) (c : ce P P') : CTr P' t := by
  intro k hk
  obtain ⟨h1, h2, h3⟩ := h k hk
  rw [(c.1 29 rfl).1, (c.1 30 rfl).1, (c.1 (25 + k) (by simp [esr]; omega)).2]
  exact ⟨h1, h2, h3⟩
theorem CIm_ce {P P' : PM} {m : Nat → Option (NV × SV)} (h : CIm P m) (c : ce P P') : CIm P' m := by
  intro i hi
  obtain ⟨h1, h2⟩ := h i hi
  rw [(c.1 108 rfl).1]
  refine ⟨h1, fun n s e => ?_⟩
  obtain ⟨k1, k2⟩ := h2 n s e
  exact ⟨CNet_ro k1 (c.1 _ (by simp [esr]; omega)).1 (c.1 _ (by simp [esr]; omega)).1 (c.1 _ (by simp [esr]; omega)).1 (c.1 _ (by simp [esr]; omega)).1 (c.1 _ (by simp [esr]; omega)).1, CSt_ro k2 (c.1 _ (by simp [esr]; omega)).1 (c.1 _ (by simp [esr]; omega)).1⟩
theorem CTp_ce {P P' : PM} {f : Nat} {b : Nat → Nat} {k q : Int32} (h : CTp P f b k q) (c : ce P P') : CTp P' f b k q := by
  unfold CTp at *
  rw [(c.1 1 rfl).1, (c.1 2 rfl).1]
  exact h
theorem CRep_ce {P P' : PM} {a : AS} (h : CRep P a) (c : ce P P') : CRep P' a :=
  ⟨CNet_ro h.1 (c.1 14 rfl).1 (c.1 15 rfl).1 (c.1 16 rfl).1 (c.1 17 rfl).1 (c.1 18 rfl).1, CSt_ro h.2.1 (c.1 21 rfl).1 (c.1 22 rfl).1, CPast_ce h.2.2.1 c, CTr_ce h.2.2.2.1 c, CIm_ce h.2.2.2.2.1 c, CTp_ce h.2.2.2.2.2 c⟩
theorem CCa_ro {P P' : PM} {v : NV} (h : CCa P v) (h1 : P'.1 59 = P.1 59) (h2 : P'.1 60 = P.1 60) : CCa P' v := by
  unfold CCa at *
  rw [h1, h2]
  exact h
/-- the reference's rows that last -/
def msr (o : Nat) : Bool := o == 110 || o == 111 || o == 112 || o == 127 || o == 128 || o == 129
def me (P P' : PM) : Prop := (∀ o, msr o = true → P'.1 o = P.1 o) ∧ P'.2 129 = P.2 129 ∧ P'.1 109 5 = P.1 109 5 ∧ P'.1 109 13 = P.1 109 13 ∧ P'.1 109 14 = P.1 109 14
theorem me_refl {P : PM} : me P P := ⟨fun _ _ => rfl, rfl, rfl, rfl, rfl⟩
theorem me_trans {P P' P'' : PM} (h : me P P') (g : me P' P'') : me P P'' := ⟨fun o q => (g.1 o q).trans (h.1 o q), g.2.1.trans h.2.1, g.2.2.1.trans h.2.2.1, g.2.2.2.1.trans h.2.2.2.1, g.2.2.2.2.trans h.2.2.2.2⟩
theorem me_sm {S : Nat → Bool} {P P' : PM} (h : sm S P P') (q : ∀ o, msr o = true → S o = false) (q9 : S 109 = false) : me P P' := ⟨fun o e => h.1 o (q o e), h.2 129 (q 129 rfl), by rw [h.1 109 q9], by rw [h.1 109 q9], by rw [h.1 109 q9]⟩
theorem MRep_me {P P' : PM} {a : AS} (h : MRep P a) (c : me P P') : MRep P' a := by
  unfold MRep MNet MLw MSt MPast MTr MIm MTp MNet MLw MSt at *
  rw [c.1 110 rfl, c.1 111 rfl, c.1 112 rfl, c.1 127 rfl, c.1 128 rfl, c.2.1, c.2.2.1, c.2.2.2.1, c.2.2.2.2]
  exact h
theorem me_th {P : PM} {x : Int32} : me P (u1 P 109 0 x) := by
  refine ⟨fun o h => ?_, rfl, rfl, rfl, rfl⟩
  funext j
  rw [u1_1, if_neg]
  rintro ⟨rfl, _⟩
  cases h
/-- a memory whose class's rows are those of another one -/
theorem CRep_hi {P P' : PM} {a : AS} (h : CRep P a) (q : sm (fun o => 109 ≤ o) P P') : CRep P' a :=
  CRep_ce h (ce_sm q (fun o e => by simp [esr] at e; simp; omega) (by rw [q.1 31 rfl]) (by rw [q.1 31 rfl]))
theorem CCa_hi {P P' : PM} {v : NV} (h : CCa P v) (q : sm (fun o => 109 ≤ o) P P') : CCa P' v := CCa_ro h (q.1 59 rfl) (q.1 60 rfl)
theorem MRep_lo {P P' : PM} {a : AS} (h : MRep P a) (q : sm (fun o => o < 109) P P') : MRep P' a :=
  MRep_me h (me_sm q (fun o e => by simp [msr] at e; simp; omega) rfl)
