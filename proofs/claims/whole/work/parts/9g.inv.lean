/-! WHAT STAYS, BY ROLES AND FIELDS -/
def FrR (a : Nat → Nat) (s s2 : XS) (ob ar lj : List Nat) : Prop := FrG s s2 (ob.map a) (ar.map a) (lj.map a)
def FrM (m m2 : MS) (li la ll : List Nat) : Prop := (∀ k, k ∉ li → m2.1 k = m.1 k) ∧ (∀ k, k ∉ la → m2.2.1 k = m.2.1 k) ∧ ∀ k, k ∉ ll → m2.2.2 k = m.2.2 k
def l26 (l : List Nat) : Bool := l.all (fun r => decide (r < 38) && decide (r ≠ 0))
theorem FrM.refl (m : MS) (li la ll : List Nat) : FrM m m li la ll := ⟨fun _ _ => rfl, fun _ _ => rfl, fun _ _ => rfl⟩
theorem FrM.trans {m m2 m3 : MS} {li la ll : List Nat} (h : FrM m m2 li la ll) (g : FrM m2 m3 li la ll) : FrM m m3 li la ll := ⟨fun k a => (g.1 k a).trans (h.1 k a), fun k a => (g.2.1 k a).trans (h.2.1 k a), fun k a => (g.2.2 k a).trans (h.2.2 k a)⟩
theorem FrM.mono {m m2 : MS} {li la ll li2 la2 ll2 : List Nat} (h : FrM m m2 li la ll) (h1 : ∀ c, c ∈ li → c ∈ li2) (h2 : ∀ c, c ∈ la → c ∈ la2) (h3 : ∀ c, c ∈ ll → c ∈ ll2) : FrM m m2 li2 la2 ll2 := ⟨fun k hk => h.1 k (fun q => hk (h1 k q)), fun k hk => h.2.1 k (fun q => hk (h2 k q)), fun k hk => h.2.2 k (fun q => hk (h3 k q))⟩
theorem FrM.put (m : MS) (k : Nat) (v : Int32) : FrM m (sPut m k v) [k] [] [] := ⟨fun j hj => by simp at hj; simp [sPut, upd, hj], fun _ _ => rfl, fun _ _ => rfl⟩
theorem FrN.m {m m2 : MS} (h : FrN m m2) : FrM m m2 [33, 34] [] [35] := ⟨fun k hk => by simp at hk; exact h.1 k hk.1 hk.2, fun k _ => by rw [h.2.1], fun k hk => by simp at hk; exact h.2.2 k hk⟩
theorem FrA.m0 {m m2 : MS} (h : FrA 0 m m2) : FrM m m2 [33, 34] [] [35] := ⟨fun k hk => by simp at hk; exact h.1 k hk.1 hk.2, fun k _ => h.2.1 k (Or.inl rfl), fun k hk => by simp at hk; exact h.2.2 k hk⟩
theorem FrA.m1 {m m2 : MS} (h : FrA 1 m m2) : FrM m m2 [33, 34] [30, 31, 32] [35] := ⟨fun k hk => by simp at hk; exact h.1 k hk.1 hk.2, fun k hk => by simp at hk; exact h.2.1 k (Or.inr hk), fun k hk => by simp at hk; exact h.2.2 k hk⟩
section FRR
variable {s s2 s3 : XS} {a : Nat → Nat} {m m2 : MS} {n : Nat} {rc : Nat → Nat} {ob ar lj li la ll : List Nat}
theorem Sh.nm (H : Sh s a n rc) {l : List Nat} (hl : l26 l = true) {r : Nat} (hr : r < 38) (h : r ∉ l) : a r ∉ l.map a := by
  intro q
  obtain ⟨x, hx, e⟩ := List.mem_map.mp q
  unfold l26 at hl
  rw [List.all_eq_true] at hl
  have := hl x hx
  simp only [Bool.and_eq_true, decide_eq_true_eq] at this
  have hn : r ≠ x := fun e => h (e ▸ hx)
  exact H.ne hr this.1 hn e.symm
theorem FrR.I (H : Sh s a n rc) (g : FrR a s s2 ob ar lj) (r : Nat) (h : (decide (r < 38) && l26 ob && decide (r ∉ ob)) = true) : xI s2 (a r) = xI s (a r) := by
  simp only [Bool.and_eq_true, decide_eq_true_eq] at h
  exact g.2.2.2.2.2.1 _ (H.nm h.1.2 h.1.1 h.2)
theorem FrR.A (H : Sh s a n rc) (g : FrR a s s2 ob ar lj) (r : Nat) (h : (decide (r < 38) && l26 ar && decide (r ∉ ar)) = true) : xA s2 (a r) = xA s (a r) := by
  simp only [Bool.and_eq_true, decide_eq_true_eq] at h
  exact g.2.2.2.2.2.2.1 _ (H.nm h.1.2 h.1.1 h.2)
theorem FrR.J (H : Sh s a n rc) (g : FrR a s s2 ob ar lj) (r : Nat) (h : (decide (r < 38) && l26 lj && decide (r ∉ lj)) = true) : xJ s2 (a r) = xJ s (a r) := by
  simp only [Bool.and_eq_true, decide_eq_true_eq] at h
  exact g.2.2.2.2.2.2.2 _ (H.nm h.1.2 h.1.1 h.2)
theorem l26_rl {l : List Nat} (hl : l26 l = true) : Rl a (l.map a) := by
  intro c hc
  obtain ⟨x, hx, e⟩ := List.mem_map.mp hc
  unfold l26 at hl
  rw [List.all_eq_true] at hl
  have := hl x hx
  simp only [Bool.and_eq_true, decide_eq_true_eq] at this
  exact ⟨x, this.1, this.2, e.symm⟩
/-- an edition's cells stay -/
theorem FrR.eI (H : Sh s a n rc) (g : FrR a s s2 ob ar lj) {e j : Nat} (he : e < n) (hj : j < 13 + rc e) (h : l26 ob = true) : xI s2 (a (eR e j)) = xI s (a (eR e j)) := g.2.2.2.2.2.1 _ (fun q => by
  obtain ⟨r, hr, -, e1⟩ := l26_rl h _ q
  exact H.neE he hj hr e1)
theorem FrR.eA (H : Sh s a n rc) (g : FrR a s s2 ob ar lj) {e j : Nat} (he : e < n) (hj : j < 13 + rc e) (h : l26 ar = true) : xA s2 (a (eR e j)) = xA s (a (eR e j)) := g.2.2.2.2.2.2.1 _ (fun q => by
  obtain ⟨r, hr, -, e1⟩ := l26_rl h _ q
  exact H.neE he hj hr e1)
theorem FrR.refl (a : Nat → Nat) (s : XS) (ob ar lj : List Nat) : FrR a s s ob ar lj := FrG.refl s _ _ _
theorem FrR.trans (h : FrR a s s2 ob ar lj) (g : FrR a s2 s3 ob ar lj) : FrR a s s3 ob ar lj := FrG.trans h g
theorem Sh.frR (H : Sh s a n rc) (g : FrR a s s2 ob ar lj) : Sh s2 a n rc := H.frG g
end FRR
/-! THE WORDS OF AN EDITION -/
def WdE (s : XS) (f : Nat → Nat) (m : MS) (e : Nat) (E : Ed) : Prop :=
  WoAt s (f 1) (f 2) (f 3) (f 4) (f 5) (E.1 1) ∧ (∀ i, i < E.1 1 → xA s (f 3) i = m.2.1 5 (800 * e + i)) ∧
  (∀ i, i < wc (xA s (f 3)) (E.1 1) → m.2.1 6 (400 * e + i) = nI (wb (xA s (f 3)) (E.1 1) i) ∧ m.2.1 7 (400 * e + i) = nI (we (xA s (f 3)) (E.1 1) i - wb (xA s (f 3)) (E.1 1) i)) ∧
  ∀ k, k < E.1 4 → E.2 5 k < E.2 7 k ∧ E.2 7 k ≤ wc (xA s (f 3)) (E.1 1)
/-- what the latest run found -/
def lwd (Es : Nat → Ed) : Option Nat → Nat → Int32
  | none => fun _ => 0
  | some e => fun r => nI ((Es e).2 5 r)
def SimL (s : XS) (a : Nat → Nat) (m : MS) (n : Nat) (Es : Nat → Ed) : Prop :=
  ∃ (q : Option Nat) (o : Nat → Int32 × Int32 × Int32 × Int32), m.1 29 = oI q ∧ (∀ e, q = some e → e < n) ∧ FiAt s (a 7) (a 8) (a 9) (a 10) (a 11) (lc2 Es q) o ∧ ∀ r, r < lc2 Es q → m.2.1 30 r = (o r).1 ∧ ((o r).1 = 2 → m.2.1 31 r = (o r).2.1 ∧ m.2.1 32 r = (o r).2.2.1) ∧ (o r).2.2.2 = lwd Es q r
/-! THE WHOLE OF IT -/
def Inv (s : XS) (a : Nat → Nat) (m : MS) (n : Nat) (rc : Nat → Nat) (Es : Nat → Ed) (nt : Nat) (v : Nat → Nat) (B : Nat) : Prop :=
  Sh s a n rc ∧ SimT s a m nt ∧ SimF s a m ∧ SimH s a m v B ∧ SimW s a m ∧ EB s a m n Es rc ∧ SimL s a m n Es ∧ ∀ e, e < n → WdE s (fun j => a (eR e j)) m e (Es e)
section KEEP
variable {s s2 : XS} {a : Nat → Nat} {m m2 : MS} {n : Nat} {rc : Nat → Nat} {Es : Nat → Ed} {nt : Nat} {v : Nat → Nat} {B : Nat} {ob ar lj li la ll : List Nat}
def okT (ob ar li la : List Nat) : Bool := l26 ob && l26 ar && decide (21 ∉ ob) && decide (22 ∉ ob) && decide (23 ∉ ar) && decide (24 ∉ ar) && decide (25 ∉ ar) && decide (2 ∉ li) && decide (1 ∉ la) && decide (26 ∉ ob) && decide (27 ∉ ob) && decide (30 ∉ ob)
theorem SimT.fr (H : Sh s a n rc) (h : SimT s a m nt) (g : FrR a s s2 ob ar lj) (gm : FrM m m2 li la ll) (c : okT ob ar li la = true) : SimT s2 a m2 nt := by
  unfold okT at c
  simp only [Bool.and_eq_true, decide_eq_true_eq] at c
  obtain ⟨⟨⟨⟨⟨⟨⟨⟨⟨⟨⟨c1, c2⟩, c3⟩, c4⟩, c5⟩, c6⟩, c7⟩, c8⟩, c9⟩, c10⟩, c11⟩, c12⟩ := c
  have i1 : xI s2 (a 21) = xI s (a 21) := g.I H 21 (by simp [c1, c3])
  have i2 : xI s2 (a 22) = xI s (a 22) := g.I H 22 (by simp [c1, c4])
  have a1 : xA s2 (a 23) = xA s (a 23) := g.A H 23 (by simp [c2, c5])
  have a2 : xA s2 (a 24) = xA s (a 24) := g.A H 24 (by simp [c2, c6])
  have a3 : xA s2 (a 25) = xA s (a 25) := g.A H 25 (by simp [c2, c7])
  have i3 : xI s2 (a 26) = xI s (a 26) := g.I H 26 (by simp [c1, c10])
  have i4 : xI s2 (a 27) = xI s (a 27) := g.I H 27 (by simp [c1, c11])
  have i5 : xI s2 (a 30) = xI s (a 30) := g.I H 30 (by simp [c1, c12])
  unfold SimT SimD WoAt WoSh
  rw [g.1, g.2.1, g.2.2.1, i1, i2, i3, i4, i5, a1, a2, a3, gm.1 2 c8, gm.2.1 1 c9]
  exact h
def okF (ar lj la ll : List Nat) : Bool := l26 ar && l26 lj && decide (3 ∉ lj) && decide (4 ∉ ar) && decide (27 ∉ ll) && decide (28 ∉ la)
theorem SimF.fr (H : Sh s a n rc) (h : SimF s a m) (g : FrR a s s2 ob ar lj) (gm : FrM m m2 li la ll) (c : okF ar lj la ll = true) : SimF s2 a m2 := by
  unfold okF at c
  simp only [Bool.and_eq_true, decide_eq_true_eq] at c
  obtain ⟨⟨⟨⟨⟨c1, c2⟩, c3⟩, c4⟩, c5⟩, c6⟩ := c
  unfold SimF
  rw [g.J H 3 (by simp [c2, c3]), g.A H 4 (by simp [c1, c4]), gm.2.2 27 c5, gm.2.1 28 c6]
  exact h
def okH (lj ll : List Nat) : Bool := l26 lj && decide (20 ∉ lj) && decide (38 ∉ ll)
theorem SimH.fr (H : Sh s a n rc) (h : SimH s a m v B) (g : FrR a s s2 ob ar lj) (gm : FrM m m2 li la ll) (c : okH lj ll = true) : SimH s2 a m2 v B := by
  unfold okH at c
  simp only [Bool.and_eq_true, decide_eq_true_eq] at c
  unfold SimH
  rw [g.J H 20 (by simp [c.1.1, c.1.2]), gm.2.2 38 c.2]
  exact h
def okW (ob ar li la : List Nat) : Bool := l26 ob && l26 ar && decide (17 ∉ ob) && decide (18 ∉ ar) && decide (37 ∉ li) && decide (36 ∉ la)
theorem SimW.fr (H : Sh s a n rc) (h : SimW s a m) (g : FrR a s s2 ob ar lj) (gm : FrM m m2 li la ll) (c : okW ob ar li la = true) : SimW s2 a m2 := by
  unfold okW at c
  simp only [Bool.and_eq_true, decide_eq_true_eq] at c
  obtain ⟨⟨⟨⟨⟨c1, c2⟩, c3⟩, c4⟩, c5⟩, c6⟩ := c
  unfold SimW
  rw [g.I H 17 (by simp [c1, c3]), g.A H 18 (by simp [c2, c4]), gm.1 37 c5, gm.2.1 36 c6]
  exact h
def okB (ob ar li la : List Nat) : Bool := l26 ob && l26 ar && decide (3 ∉ li) && [4, 5, 6, 7, 10, 11, 12, 13, 14, 15, 16, 17, 18, 19, 20].all (fun k => decide (k ∉ la))
theorem EB.fr (H : Sh s a n rc) (h : EB s a m n Es rc) (g : FrR a s s2 ob ar lj) (gm : FrM m m2 li la ll) (c : okB ob ar li la = true) : EB s2 a m2 n Es rc := by
  unfold okB at c
  simp only [Bool.and_eq_true, decide_eq_true_eq, List.all_eq_true] at c
  obtain ⟨⟨⟨c1, c2⟩, c3⟩, c4⟩ := c
  have h2 := h.frG H g (l26_rl c1) (l26_rl c2)
  refine ⟨⟨h2.1.1, by rw [gm.1 3 c3]; exact h2.1.2⟩, fun e he => ?_⟩
  obtain ⟨q1, q2, q3, q4⟩ := h2.2 e he
  refine ⟨q1, ?_, q3, q4⟩
  unfold NE
  rw [gm.2.1 4 (c4 4 (by decide)), gm.2.1 13 (c4 13 (by decide)), gm.2.1 10 (c4 10 (by decide)), gm.2.1 19 (c4 19 (by decide)), gm.2.1 20 (c4 20 (by decide)), gm.2.1 11 (c4 11 (by decide)), gm.2.1 12 (c4 12 (by decide)), gm.2.1 17 (c4 17 (by decide)), gm.2.1 14 (c4 14 (by decide)), gm.2.1 18 (c4 18 (by decide)), gm.2.1 15 (c4 15 (by decide)), gm.2.1 16 (c4 16 (by decide))]
  exact q2
theorem WdE.fr (H : Sh s a n rc) {e : Nat} {E : Ed} (he : e < n) (h : WdE s (fun j => a (eR e j)) m e E) (g : FrR a s s2 ob ar lj) (gm : FrM m m2 li la ll) (c : okB ob ar li la = true) : WdE s2 (fun j => a (eR e j)) m2 e E := by
  unfold okB at c
  simp only [Bool.and_eq_true, decide_eq_true_eq, List.all_eq_true] at c
  obtain ⟨⟨⟨c1, c2⟩, c3⟩, c4⟩ := c
  unfold WdE WoAt WoSh at h ⊢
  simp only at h ⊢
  rw [g.1, g.2.1, g.2.2.1, g.eI H he (j := 1) (by omega) c1, g.eI H he (j := 2) (by omega) c1, g.eA H he (j := 3) (by omega) c2, g.eA H he (j := 4) (by omega) c2, g.eA H he (j := 5) (by omega) c2, gm.2.1 5 (c4 5 (by decide)), gm.2.1 6 (c4 6 (by decide)), gm.2.1 7 (c4 7 (by decide))]
  exact h
def okL (ob ar li la : List Nat) : Bool := l26 ob && l26 ar && decide (7 ∉ ob) && decide (8 ∉ ar) && decide (9 ∉ ar) && decide (10 ∉ ar) && decide (11 ∉ ar) && decide (29 ∉ li) && decide (30 ∉ la) && decide (31 ∉ la) && decide (32 ∉ la)
theorem SimL.fr (H : Sh s a n rc) (h : SimL s a m n Es) (g : FrR a s s2 ob ar lj) (gm : FrM m m2 li la ll) (c : okL ob ar li la = true) : SimL s2 a m2 n Es := by
  unfold okL at c
  simp only [Bool.and_eq_true, decide_eq_true_eq] at c
  obtain ⟨⟨⟨⟨⟨⟨⟨⟨⟨⟨c1, c2⟩, c3⟩, c4⟩, c5⟩, c6⟩, c7⟩, c8⟩, c9⟩, c10⟩, c11⟩ := c
  unfold SimL FiAt
  rw [g.I H 7 (by simp [c1, c3]), g.A H 8 (by simp [c2, c4]), g.A H 9 (by simp [c2, c5]), g.A H 10 (by simp [c2, c6]), g.A H 11 (by simp [c2, c7]), gm.1 29 c8, gm.2.1 30 c9, gm.2.1 31 c10, gm.2.1 32 c11]
  exact h
/-- what touches none of it but the code -/
theorem Inv.code (I : Inv s a m n rc Es nt v B) (x : Int32) : Inv s a (sPut m 0 x) n rc Es nt v B := by
  obtain ⟨H, h1, h2, h3, h4, h5, h6, h7⟩ := I
  have g := FrR.refl a s [] [] []
  have gm := FrM.put m 0 x
  exact ⟨H, h1.fr H g gm (by decide), h2.fr H g gm (by decide), h3.fr H g gm (by decide), h4.fr H g gm (by decide), h5.fr H g gm (by decide), h6.fr H g gm (by decide), fun e he => (h7 e he).fr H he g gm (by decide)⟩
theorem EB.en (H : Sh s a n rc) (h : EB s a m n Es rc) : EN m n Es := ⟨h.1.2, H.2.2.2.2.2.2.2.2.1, fun e he => ⟨(h.2 e he).2.1, (h.2 e he).2.2.1⟩⟩
end KEEP
