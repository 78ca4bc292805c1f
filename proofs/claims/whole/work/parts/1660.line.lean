/-! reading a net: what both sides hold between lines and in one -/
def CL2 (P : PM) (q : Nat) (es : List Nat) (c : Nat) : Prop := ∃ fr, P.1 4 (7 + 2 * q) = nI fr ∧ P.1 4 (8 + 2 * q) = nI (fr + es.length) ∧ fr + es.length ≤ c ∧ ∀ j, j < es.length → P.1 8 (fr + j) = cc (es.getD j 0)
def ML2 (P : PM) (q : Nat) (es : List Nat) (c : Nat) : Prop := P.1 113 (2 + q) = nI (if es = [] then 0 else 1) ∧ (es ≠ [] → ∃ fr, P.1 113 (4 + q) = nI fr ∧ P.1 113 (6 + q) = nI es.length ∧ fr + es.length ≤ c ∧ ∀ j, j < es.length → P.1 113 (236 + fr + j) = nI (es.getD j 0))
def NPc (nc : Nat) (s : SV) (v : NV) (c : Nat) (P : PM) : Prop := P.1 4 0 = nI nc ∧ P.1 4 1 = vL v ∧ (∀ i, i < 7 → P.1 5 i = vK v i) ∧ (∀ a b, a < 7 → b < 7 → P.1 6 (7 * a + b) = nI (vH v a b)) ∧ (∀ a b, a < 7 → b < 7 → P.1 7 (7 * a + b) = nI (vO v a b)) ∧ CL2 P 0 (vT v) c ∧ CL2 P 1 (vP v) c ∧ P.1 4 6 = nI c ∧ CSt P 11 s
def NPm (nm : Nat) (s : SV) (v : NV) (c : Nat) (P : PM) : Prop := (P.1 113 1 = nI nm ∧ P.1 113 124 = nI 0) ∧ P.1 113 0 = vL v ∧ (∀ i, i < 7 → P.1 113 (8 + i) = vK v i) ∧ (∀ a b, a < 7 → b < 7 → P.1 113 (15 + (7 * a + b)) = nI (vH v a b)) ∧ (∀ a b, a < 7 → b < 7 → P.1 113 (64 + (7 * a + b)) = nI (vO v a b)) ∧ ML2 P 0 (vT v) c ∧ ML2 P 1 (vP v) c ∧ P.1 113 235 = nI c ∧ MSt P 113 113 s
def vKs (v : NV) (i : Nat) (x : Int32) : NV := (vN v, vH v, vO v, fun j => if j = i then x else vK v j, vT v, vP v, vL v)
def vWs (v : NV) (a b h o : Nat) : NV := (vN v, fun x y => if x = a ∧ y = b then h else vH v x y, fun x y => if x = a ∧ y = b then o else vO v x y, vK v, vT v, vP v, vL v)
def vLs (v : NV) (x : Int32) : NV := (vN v, vH v, vO v, vK v, vT v, vP v, x)
def vNs (v : NV) (n : Nat) : NV := (n, vH v, vO v, vK v, vT v, vP v, vL v)
def vTs (v : NV) (q : Nat) (es : List Nat) : NV := (vN v, vH v, vO v, vK v, if q = 0 then es else vT v, if q = 0 then vP v else es, vL v)
def sDs (s : SV) (i x : Nat) : SV := (sW s, sZ s, sH s, sA s, fun j => if j = i then x else sD s j)
def sAs (s : SV) (a : Nat) : SV := (sW s, sZ s, sH s, a, sD s)
def sWs (s : SV) (w : Option Nat) : SV := (w, sZ s, sH s, sA s, sD s)
def sZs (s : SV) (z : Nat) : SV := (sW s, z, sH s, sA s, sD s)
theorem u1r {P : PM} {o k j : Nat} {x : Int32} (h : o ≠ k) : (u1 P k j x).1 o = P.1 o := by
  funext w
  rw [u1_1, if_neg (fun c => h c.1)]
theorem u1c {P : PM} {k j i : Nat} {x : Int32} (h : i ≠ j) : (u1 P k j x).1 k i = P.1 k i := by rw [u1_1, if_neg (fun c => h c.2)]
theorem u1e {P : PM} {k j : Nat} {x : Int32} : (u1 P k j x).1 k j = x := by rw [u1_1, if_pos ⟨rfl, rfl⟩]
theorem NPc_f {nc : Nat} {s : SV} {v : NV} {c : Nat} {P P' : PM} (h : NPc nc s v c P) (g : fc P P') : NPc nc s v c P' := by
  unfold NPc CL2 CSt at *
  rw [g.2.1 4 (by omega), g.2.1 5 (by omega), g.2.1 6 (by omega), g.2.1 7 (by omega), g.2.1 8 (by omega), g.2.1 11 (by omega), g.2.1 (11 + 1) (by omega)]
  exact h
theorem NPm_f {nm : Nat} {s : SV} {v : NV} {c : Nat} {P P' : PM} (h : NPm nm s v c P) (g : fm P P') : NPm nm s v c P' := by
  unfold NPm ML2 MSt at *
  rw [g.2.1 113 (by omega)]
  exact h
theorem npc_lines {nc : Nat} {s : SV} {v : NV} {c : Nat} {P : PM} (h : NPc nc s v c P) {x : Int32} : NPc nc s (vLs v x) c (u1 P 4 1 x) := by
  unfold NPc CL2 CSt at *
  rw [u1r (o := 5) (by omega), u1r (o := 6) (by omega), u1r (o := 7) (by omega), u1r (o := 8) (by omega), u1r (o := 11) (by omega), u1r (o := (11 + 1)) (by omega)]
  obtain ⟨h0, h1, h2, h3, h4, ⟨f0, p1, p2, p3, p4⟩, ⟨f1, q1, q2, q3, q4⟩, h7, g0, g1, g2, g3, g4⟩ := h
  exact ⟨by rw [u1c (by omega)]; exact h0, u1e, h2, h3, h4, ⟨f0, by rw [u1c (by omega)]; exact p1, by rw [u1c (by omega)]; exact p2, p3, p4⟩, ⟨f1, by rw [u1c (by omega)]; exact q1, by rw [u1c (by omega)]; exact q2, q3, q4⟩, by rw [u1c (by omega)]; exact h7, g0, g1, g2, g3, g4⟩
theorem npc_N {nc : Nat} {s : SV} {v : NV} {c : Nat} {P : PM} (h : NPc nc s v c P) {m : Nat} : NPc m s v c (u1 P 4 0 (nI m)) := by
  unfold NPc CL2 CSt at *
  rw [u1r (o := 5) (by omega), u1r (o := 6) (by omega), u1r (o := 7) (by omega), u1r (o := 8) (by omega), u1r (o := 11) (by omega), u1r (o := (11 + 1)) (by omega)]
  obtain ⟨h0, h1, h2, h3, h4, ⟨f0, p1, p2, p3, p4⟩, ⟨f1, q1, q2, q3, q4⟩, h7, g0, g1, g2, g3, g4⟩ := h
  exact ⟨u1e, by rw [u1c (by omega)]; exact h1, h2, h3, h4, ⟨f0, by rw [u1c (by omega)]; exact p1, by rw [u1c (by omega)]; exact p2, p3, p4⟩, ⟨f1, by rw [u1c (by omega)]; exact q1, by rw [u1c (by omega)]; exact q2, q3, q4⟩, by rw [u1c (by omega)]; exact h7, g0, g1, g2, g3, g4⟩
theorem npc_dull {nc : Nat} {s : SV} {v : NV} {c : Nat} {P : PM} (h : NPc nc s v c P) {i x : Nat} : NPc nc (sDs s i x) v c (u1 P 12 i (nI x)) := by
  unfold NPc CL2 CSt at *
  rw [u1r (o := 4) (by omega), u1r (o := 5) (by omega), u1r (o := 6) (by omega), u1r (o := 7) (by omega), u1r (o := 8) (by omega), u1r (o := 11) (by omega)]
  obtain ⟨h0, h1, h2, h3, h4, ⟨f0, p1, p2, p3, p4⟩, ⟨f1, q1, q2, q3, q4⟩, h7, g0, g1, g2, g3, g4⟩ := h
  exact ⟨h0, h1, h2, h3, h4, ⟨f0, p1, p2, p3, p4⟩, ⟨f1, q1, q2, q3, q4⟩, h7, g0, g1, g2, g3, fun j hj => by
    show (u1 P 12 i (nI x)).1 12 j = nI (if j = i then x else sD s j)
    by_cases e : j = i
    · rw [e, u1e, if_pos rfl]
    · rw [u1c e, if_neg e]; exact g4 j hj⟩
theorem npc_kind {nc : Nat} {s : SV} {v : NV} {c : Nat} {P : PM} (h : NPc nc s v c P) {i : Nat} {x : Int32} : NPc nc s (vKs v i x) c (u1 P 5 i x) := by
  unfold NPc CL2 CSt at *
  rw [u1r (o := 4) (by omega), u1r (o := 6) (by omega), u1r (o := 7) (by omega), u1r (o := 8) (by omega), u1r (o := 11) (by omega), u1r (o := (11 + 1)) (by omega)]
  obtain ⟨h0, h1, h2, h3, h4, ⟨f0, p1, p2, p3, p4⟩, ⟨f1, q1, q2, q3, q4⟩, h7, g0, g1, g2, g3, g4⟩ := h
  exact ⟨h0, h1, fun j hj => by
    show (u1 P 5 i x).1 5 j = if j = i then x else vK v j
    by_cases e : j = i
    · rw [e, u1e, if_pos rfl]
    · rw [u1c e, if_neg e]; exact h2 j hj, h3, h4, ⟨f0, p1, p2, p3, p4⟩, ⟨f1, q1, q2, q3, q4⟩, h7, g0, g1, g2, g3, g4⟩
theorem npc_asleep {nc : Nat} {s : SV} {v : NV} {c : Nat} {P : PM} (h : NPc nc s v c P) {x : Nat} : NPc nc (sAs s x) v c (u1 P 11 3 (nI x)) := by
  unfold NPc CL2 CSt at *
  rw [u1r (o := 4) (by omega), u1r (o := 5) (by omega), u1r (o := 6) (by omega), u1r (o := 7) (by omega), u1r (o := 8) (by omega), u1r (o := (11 + 1)) (by omega)]
  obtain ⟨h0, h1, h2, h3, h4, ⟨f0, p1, p2, p3, p4⟩, ⟨f1, q1, q2, q3, q4⟩, h7, g0, g1, g2, g3, g4⟩ := h
  exact ⟨h0, h1, h2, h3, h4, ⟨f0, p1, p2, p3, p4⟩, ⟨f1, q1, q2, q3, q4⟩, h7, by rw [u1c (by omega)]; exact g0, by rw [u1c (by omega)]; exact g1, by rw [u1c (by omega)]; exact g2, u1e, g4⟩
theorem npc_where {nc : Nat} {s : SV} {v : NV} {c : Nat} {P : PM} (h : NPc nc s v c P) {x : Nat} : NPc nc (sWs s (some x)) v c (u1 P 11 0 (nI x)) := by
  unfold NPc CL2 CSt at *
  rw [u1r (o := 4) (by omega), u1r (o := 5) (by omega), u1r (o := 6) (by omega), u1r (o := 7) (by omega), u1r (o := 8) (by omega), u1r (o := (11 + 1)) (by omega)]
  obtain ⟨h0, h1, h2, h3, h4, ⟨f0, p1, p2, p3, p4⟩, ⟨f1, q1, q2, q3, q4⟩, h7, g0, g1, g2, g3, g4⟩ := h
  exact ⟨h0, h1, h2, h3, h4, ⟨f0, p1, p2, p3, p4⟩, ⟨f1, q1, q2, q3, q4⟩, h7, u1e, by rw [u1c (by omega)]; exact g1, by rw [u1c (by omega)]; exact g2, by rw [u1c (by omega)]; exact g3, g4⟩
theorem npc_size {nc : Nat} {s : SV} {v : NV} {c : Nat} {P : PM} (h : NPc nc s v c P) {x : Nat} : NPc nc (sZs s x) v c (u1 P 11 1 (nI x)) := by
  unfold NPc CL2 CSt at *
  rw [u1r (o := 4) (by omega), u1r (o := 5) (by omega), u1r (o := 6) (by omega), u1r (o := 7) (by omega), u1r (o := 8) (by omega), u1r (o := (11 + 1)) (by omega)]
  obtain ⟨h0, h1, h2, h3, h4, ⟨f0, p1, p2, p3, p4⟩, ⟨f1, q1, q2, q3, q4⟩, h7, g0, g1, g2, g3, g4⟩ := h
  exact ⟨h0, h1, h2, h3, h4, ⟨f0, p1, p2, p3, p4⟩, ⟨f1, q1, q2, q3, q4⟩, h7, by rw [u1c (by omega)]; exact g0, u1e, by rw [u1c (by omega)]; exact g2, by rw [u1c (by omega)]; exact g3, g4⟩
theorem npc_hours {nc : Nat} {s : SV} {v : NV} {c : Nat} {P : PM} (h : NPc nc s v c P) {a b x : Nat} (hb : b < 7) (ha : a < 7) : NPc nc s (vWs v a b x (vO v a b)) c (u1 P 6 (7 * a + b) (nI x)) := by
  unfold NPc CL2 CSt at *
  rw [u1r (o := 4) (by omega), u1r (o := 5) (by omega), u1r (o := 7) (by omega), u1r (o := 8) (by omega), u1r (o := 11) (by omega), u1r (o := (11 + 1)) (by omega)]
  obtain ⟨h0, h1, h2, h3, h4, ⟨f0, p1, p2, p3, p4⟩, ⟨f1, q1, q2, q3, q4⟩, h7, g0, g1, g2, g3, g4⟩ := h
  exact ⟨h0, h1, h2, fun j k hj hk => by
    show (u1 P 6 (7 * a + b) (nI x)).1 6 (7 * j + k) = nI (if j = a ∧ k = b then x else vH v j k)
    by_cases e : j = a ∧ k = b
    · rw [e.1, e.2, u1e, if_pos ⟨rfl, rfl⟩]
    · rw [u1c (by omega), if_neg e]; exact h3 j k hj hk, fun j k hj hk => by
    show _ = nI (if j = a ∧ k = b then vO v a b else vO v j k)
    by_cases e : j = a ∧ k = b
    · rw [if_pos e, e.1, e.2]; exact h4 a b ha hb
    · rw [if_neg e]; exact h4 j k hj hk, ⟨f0, p1, p2, p3, p4⟩, ⟨f1, q1, q2, q3, q4⟩, h7, g0, g1, g2, g3, g4⟩
theorem npc_odds {nc : Nat} {s : SV} {v : NV} {c : Nat} {P : PM} (h : NPc nc s v c P) {a b y x : Nat} (hb : b < 7) (ha : a < 7) (hv : vH v a b = y) : NPc nc s (vWs v a b y x) c (u1 P 7 (7 * a + b) (nI x)) := by
  unfold NPc CL2 CSt at *
  rw [u1r (o := 4) (by omega), u1r (o := 5) (by omega), u1r (o := 6) (by omega), u1r (o := 8) (by omega), u1r (o := 11) (by omega), u1r (o := (11 + 1)) (by omega)]
  obtain ⟨h0, h1, h2, h3, h4, ⟨f0, p1, p2, p3, p4⟩, ⟨f1, q1, q2, q3, q4⟩, h7, g0, g1, g2, g3, g4⟩ := h
  exact ⟨h0, h1, h2, fun j k hj hk => by
    show _ = nI (if j = a ∧ k = b then y else vH v j k)
    by_cases e : j = a ∧ k = b
    · rw [if_pos e, e.1, e.2, ← hv]; exact h3 a b ha hb
    · rw [if_neg e]; exact h3 j k hj hk, fun j k hj hk => by
    show (u1 P 7 (7 * a + b) (nI x)).1 7 (7 * j + k) = nI (if j = a ∧ k = b then x else vO v j k)
    by_cases e : j = a ∧ k = b
    · rw [e.1, e.2, u1e, if_pos ⟨rfl, rfl⟩]
    · rw [u1c (by omega), if_neg e]; exact h4 j k hj hk, ⟨f0, p1, p2, p3, p4⟩, ⟨f1, q1, q2, q3, q4⟩, h7, g0, g1, g2, g3, g4⟩
theorem ML2_k {P P' : PM} {q : Nat} {es : List Nat} {c : Nat} (h : ML2 P q es c) (k : ∀ j, (j = 2 + q ∨ j = 4 + q ∨ j = 6 + q ∨ (236 ≤ j ∧ j < 236 + c)) → P'.1 113 j = P.1 113 j) : ML2 P' q es c := by
  refine ⟨(k _ (Or.inl rfl)).trans h.1, fun he => ?_⟩
  obtain ⟨fr, h1, h2, h3, h4⟩ := h.2 he
  exact ⟨fr, (k _ (Or.inr (Or.inl rfl))).trans h1, (k _ (Or.inr (Or.inr (Or.inl rfl)))).trans h2, h3, fun j hj => (k _ (Or.inr (Or.inr (Or.inr ⟨by omega, by omega⟩)))).trans (h4 j hj)⟩
theorem npm_lines {nm : Nat} {s : SV} {v : NV} {c : Nat} {P : PM} (h : NPm nm s v c P) {x : Int32} : NPm nm s (vLs v x) c (u1 P 113 0 x) := by
  have k : ∀ j, j ≠ 0 → (u1 P 113 0 x).1 113 j = P.1 113 j := fun j hj => by rw [u1c (by omega)]
  obtain ⟨h0, h1, h2, h3, h4, h5, h6, h7, g0, g1, g2, g3, g4⟩ := h
  exact ⟨⟨(k 1 (by omega)).trans h0.1, (k 124 (by omega)).trans h0.2⟩, u1e, fun i hi => (k _ (by omega)).trans (h2 i hi), fun a b ha hb => (k _ (by omega)).trans (h3 a b ha hb), fun a b ha hb => (k _ (by omega)).trans (h4 a b ha hb), ML2_k h5 (fun j hj => k j (by omega)), ML2_k h6 (fun j hj => k j (by omega)), (k 235 (by omega)).trans h7, (k _ (by omega)).trans g0, (k _ (by omega)).trans g1, (k _ (by omega)).trans g2, (k _ (by omega)).trans g3, fun i hi => (k _ (by omega)).trans (g4 i hi)⟩
theorem npm_N {nm : Nat} {s : SV} {v : NV} {c : Nat} {P : PM} (h : NPm nm s v c P) {m : Nat} : NPm m s v c (u1 P 113 1 (nI m)) := by
  have k : ∀ j, j ≠ 1 → (u1 P 113 1 (nI m)).1 113 j = P.1 113 j := fun j hj => by rw [u1c (by omega)]
  obtain ⟨h0, h1, h2, h3, h4, h5, h6, h7, g0, g1, g2, g3, g4⟩ := h
  exact ⟨⟨u1e, (k 124 (by omega)).trans h0.2⟩, (k 0 (by omega)).trans h1, fun i hi => (k _ (by omega)).trans (h2 i hi), fun a b ha hb => (k _ (by omega)).trans (h3 a b ha hb), fun a b ha hb => (k _ (by omega)).trans (h4 a b ha hb), ML2_k h5 (fun j hj => k j (by omega)), ML2_k h6 (fun j hj => k j (by omega)), (k 235 (by omega)).trans h7, (k _ (by omega)).trans g0, (k _ (by omega)).trans g1, (k _ (by omega)).trans g2, (k _ (by omega)).trans g3, fun i hi => (k _ (by omega)).trans (g4 i hi)⟩
theorem npm_dull {nm : Nat} {s : SV} {v : NV} {c : Nat} {P : PM} (h : NPm nm s v c P) {i x : Nat} (hi : i < 7) : NPm nm (sDs s i x) v c (u1 P 113 (117 + i) (nI x)) := by
  have k : ∀ j, j ≠ 117 + i → (u1 P 113 (117 + i) (nI x)).1 113 j = P.1 113 j := fun j hj => by rw [u1c (by omega)]
  obtain ⟨h0, h1, h2, h3, h4, h5, h6, h7, g0, g1, g2, g3, g4⟩ := h
  exact ⟨⟨(k 1 (by omega)).trans h0.1, (k 124 (by omega)).trans h0.2⟩, (k 0 (by omega)).trans h1, fun i hi => (k _ (by omega)).trans (h2 i hi), fun a b ha hb => (k _ (by omega)).trans (h3 a b ha hb), fun a b ha hb => (k _ (by omega)).trans (h4 a b ha hb), ML2_k h5 (fun j hj => k j (by omega)), ML2_k h6 (fun j hj => k j (by omega)), (k 235 (by omega)).trans h7, (k _ (by omega)).trans g0, (k _ (by omega)).trans g1, (k _ (by omega)).trans g2, (k _ (by omega)).trans g3, fun j hj => by
    show (u1 P 113 (117 + i) (nI x)).1 113 (113 + 4 + j) = nI (if j = i then x else sD s j)
    by_cases e : j = i
    · rw [e, if_pos rfl, show 113 + 4 + i = 117 + i from by omega, u1e]
    · rw [k _ (by omega), if_neg e]; exact g4 j hj⟩
theorem npm_kind {nm : Nat} {s : SV} {v : NV} {c : Nat} {P : PM} (h : NPm nm s v c P) {i : Nat} {x : Int32} (hi : i < 7) : NPm nm s (vKs v i x) c (u1 P 113 (8 + i) x) := by
  have k : ∀ j, j ≠ 8 + i → (u1 P 113 (8 + i) x).1 113 j = P.1 113 j := fun j hj => by rw [u1c (by omega)]
  obtain ⟨h0, h1, h2, h3, h4, h5, h6, h7, g0, g1, g2, g3, g4⟩ := h
  exact ⟨⟨(k 1 (by omega)).trans h0.1, (k 124 (by omega)).trans h0.2⟩, (k 0 (by omega)).trans h1, fun j hj => by
    show (u1 P 113 (8 + i) x).1 113 (8 + j) = if j = i then x else vK v j
    by_cases e : j = i
    · rw [e, if_pos rfl, u1e]
    · rw [k _ (by omega), if_neg e]; exact h2 j hj, fun a b ha hb => (k _ (by omega)).trans (h3 a b ha hb), fun a b ha hb => (k _ (by omega)).trans (h4 a b ha hb), ML2_k h5 (fun j hj => k j (by omega)), ML2_k h6 (fun j hj => k j (by omega)), (k 235 (by omega)).trans h7, (k _ (by omega)).trans g0, (k _ (by omega)).trans g1, (k _ (by omega)).trans g2, (k _ (by omega)).trans g3, fun i hi => (k _ (by omega)).trans (g4 i hi)⟩
theorem npm_asleep {nm : Nat} {s : SV} {v : NV} {c : Nat} {P : PM} (h : NPm nm s v c P) {x : Nat} : NPm nm (sAs s x) v c (u1 P 113 116 (nI x)) := by
  have k : ∀ j, j ≠ 116 → (u1 P 113 116 (nI x)).1 113 j = P.1 113 j := fun j hj => by rw [u1c (by omega)]
  obtain ⟨h0, h1, h2, h3, h4, h5, h6, h7, g0, g1, g2, g3, g4⟩ := h
  exact ⟨⟨(k 1 (by omega)).trans h0.1, (k 124 (by omega)).trans h0.2⟩, (k 0 (by omega)).trans h1, fun i hi => (k _ (by omega)).trans (h2 i hi), fun a b ha hb => (k _ (by omega)).trans (h3 a b ha hb), fun a b ha hb => (k _ (by omega)).trans (h4 a b ha hb), ML2_k h5 (fun j hj => k j (by omega)), ML2_k h6 (fun j hj => k j (by omega)), (k 235 (by omega)).trans h7, (k _ (by omega)).trans g0, (k _ (by omega)).trans g1, (k _ (by omega)).trans g2, u1e, fun i hi => (k _ (by omega)).trans (g4 i hi)⟩
theorem npm_at {nm : Nat} {s : SV} {v : NV} {c : Nat} {P : PM} (h : NPm nm s v c P) {x y : Nat} : NPm nm (sZs (sWs s (some x)) y) v c (u1 (u1 P 113 113 (nI x)) 113 114 (nI y)) := by
  have k : ∀ j, (j ≠ 113 ∧ j ≠ 114) → (u1 (u1 P 113 113 (nI x)) 113 114 (nI y)).1 113 j = P.1 113 j := fun j hj => by rw [u1c (by omega), u1c (by omega)]
  obtain ⟨h0, h1, h2, h3, h4, h5, h6, h7, g0, g1, g2, g3, g4⟩ := h
  exact ⟨⟨(k 1 (by omega)).trans h0.1, (k 124 (by omega)).trans h0.2⟩, (k 0 (by omega)).trans h1, fun i hi => (k _ (by omega)).trans (h2 i hi), fun a b ha hb => (k _ (by omega)).trans (h3 a b ha hb), fun a b ha hb => (k _ (by omega)).trans (h4 a b ha hb), ML2_k h5 (fun j hj => k j (by omega)), ML2_k h6 (fun j hj => k j (by omega)), (k 235 (by omega)).trans h7, (u1c (by omega)).trans u1e, u1e, (k _ (by omega)).trans g2, (k _ (by omega)).trans g3, fun i hi => (k _ (by omega)).trans (g4 i hi)⟩
theorem npm_way {nm : Nat} {s : SV} {v : NV} {c : Nat} {P : PM} (h : NPm nm s v c P) {a b x y : Nat} (ha : a < 7) (hb : b < 7) : NPm nm s (vWs v a b x y) c (u1 (u1 P 113 (15 + (7 * a + b)) (nI x)) 113 (64 + (7 * a + b)) (nI y)) := by
  have k : ∀ j, (j ≠ 15 + (7 * a + b) ∧ j ≠ 64 + (7 * a + b)) → (u1 (u1 P 113 (15 + (7 * a + b)) (nI x)) 113 (64 + (7 * a + b)) (nI y)).1 113 j = P.1 113 j := fun j hj => by rw [u1c (by omega), u1c (by omega)]
  obtain ⟨h0, h1, h2, h3, h4, h5, h6, h7, g0, g1, g2, g3, g4⟩ := h
  exact ⟨⟨(k 1 (by omega)).trans h0.1, (k 124 (by omega)).trans h0.2⟩, (k 0 (by omega)).trans h1, fun i hi => (k _ (by omega)).trans (h2 i hi), fun j l hj hl => by
    show (u1 (u1 P 113 (15 + (7 * a + b)) (nI x)) 113 (64 + (7 * a + b)) (nI y)).1 113 (15 + (7 * j + l)) = nI (if j = a ∧ l = b then x else vH v j l)
    by_cases e : j = a ∧ l = b
    · rw [e.1, e.2, u1c (by omega), u1e, if_pos ⟨rfl, rfl⟩]
    · rw [k _ (by omega), if_neg e]; exact h3 j l hj hl, fun j l hj hl => by
    show (u1 (u1 P 113 (15 + (7 * a + b)) (nI x)) 113 (64 + (7 * a + b)) (nI y)).1 113 (64 + (7 * j + l)) = nI (if j = a ∧ l = b then y else vO v j l)
    by_cases e : j = a ∧ l = b
    · rw [e.1, e.2, u1e, if_pos ⟨rfl, rfl⟩]
    · rw [k _ (by omega), if_neg e]; exact h4 j l hj hl, ML2_k h5 (fun j hj => k j (by omega)), ML2_k h6 (fun j hj => k j (by omega)), (k 235 (by omega)).trans h7, (k _ (by omega)).trans g0, (k _ (by omega)).trans g1, (k _ (by omega)).trans g2, (k _ (by omega)).trans g3, fun i hi => (k _ (by omega)).trans (g4 i hi)⟩
