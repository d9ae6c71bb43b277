/-! WHAT HOLDS BETWEEN TWO CALLS OF THE LAW -/
abbrev FU : Nat := 1000
def xB (s : XS) (z : Nat) : XS := (xT s, xL s, xI s, xR s, xA s, xJ s, xO s, z)
theorem RepX.bump {h : hH} {s : XS} {z : Nat} (R : RepX h s) (hz : h.1 ≤ z) : RepX (z, h.2) (xB s z) := by
  refine ⟨rfl, fun a ha => ?_⟩
  obtain ⟨h1, h2⟩ := R.2 a ha
  refine ⟨h1, ?_⟩
  have := R.1
  show a < z
  omega
theorem Inv.bump {s : XS} {a : Nat → Nat} {m : MS} {n : Nat} {rc : Nat → Nat} {Es : Nat → Ed} {nt : Nat} {v : Nat → Nat} {B z : Nat} (I : Inv s a m n rc Es nt v B) (hz : xZ s ≤ z) : Inv (xB s z) a m n rc Es nt v B :=
  I.old (fun _ _ => ⟨rfl, rfl, rfl, rfl, rfl, rfl, rfl⟩) (fun r hr => Nat.lt_of_lt_of_le (I.1.2.2.2.2.2.2.2.2.2.1 r hr) hz)
/-- the class's part, at the object x, j calls done -/
def CI (x j : Nat) (hX : hH) (m : MS) : Prop := ∃ (s : XS) (a : Nat → Nat) (n : Nat) (rc : Nat → Nat) (Es : Nat → Ed) (nt : Nat) (v : Nat → Nat) (B : Nat), RepX hX s ∧ Inv s a m n rc Es nt v B ∧ a 0 = x ∧ B ≤ 1000000000 * j
theorem CI.bump {x j : Nat} {hX : hH} {m : MS} {z : Nat} (C : CI x j hX m) (hz : hX.1 ≤ z) : CI x j (z, hX.2) m := by
  obtain ⟨s, a, n, rc, Es, nt, v, B, R, I, h1, h2⟩ := C
  exact ⟨xB s z, a, n, rc, Es, nt, v, B, R.bump hz, I.bump (by rw [← R.1]; exact hz), h1, h2⟩
theorem CI.is {x j : Nat} {hX : hH} {m : MS} (C : CI x j hX m) : hIs hX x 11 = some () := by
  obtain ⟨s, a, n, rc, Es, nt, v, B, R, I, h1, h2⟩ := C
  subst h1
  have t0 : xT s (a 0) = 12 := I.1.t 0
  exact xr_Is R (by simp [xIs, t0])
def Pt2 (hX hM h : hH) (o : Nat) (f : Nat → Int64) : Prop := Sub hX h ∧ Sub hM h ∧ (∀ q, hX.2 q ≠ none → hM.2 q = none) ∧ hX.2 o = none ∧ hM.2 o = none ∧ h.2 o = some (.inr (.long, 1, .inr (.inl f)))
theorem Pt2.mid {hX hM h hX2 h2 : hH} {o : Nat} {f : Nat → Int64} (P : Pt2 hX hM h o f) (jn : Jn h hX hX2 h2) : Pt2 hX2 (h2.1, hM.2) h2 o f := by
  obtain ⟨p1, p2, p3, p4, p5, p6⟩ := P
  have key : ∀ q x, hM.2 q = some x → hX.2 q = none := by
    intro q x hx
    cases hq : hX.2 q with
    | none => rfl
    | some y =>
      have := p3 q (by rw [hq]; exact fun z => by cases z)
      rw [this] at hx; cases hx
  refine ⟨⟨jn.1.symm, jn.2.1⟩, ⟨rfl, fun q x hx => (jn.2.2.1 q x (p2.2 q x hx) (key q x hx)).1⟩, fun q hq => ?_, (jn.2.2.1 o _ p6 p4).2, p5, (jn.2.2.1 o _ p6 p4).1⟩
  cases hm : hM.2 q with
  | none => rfl
  | some x => exact absurd (jn.2.2.1 q x (p2.2 q x hm) (key q x hm)).2 hq
theorem Pt2.fin {hX hM h hM2 h2 : hH} {o : Nat} {f : Nat → Int64} (P : Pt2 hX hM h o f) (jn : Jn h hM hM2 h2) : Pt2 (h2.1, hX.2) hM2 h2 o f := by
  obtain ⟨p1, p2, p3, p4, p5, p6⟩ := P
  refine ⟨⟨rfl, fun q x hx => (jn.2.2.1 q x (p1.2 q x hx) (p3 q (by rw [hx]; exact fun z => by cases z))).1⟩, ⟨jn.1.symm, jn.2.1⟩, fun q hq => ?_, p4, (jn.2.2.1 o _ p6 p5).2, (jn.2.2.1 o _ p6 p5).1⟩
  cases hx : hX.2 q with
  | none => exact absurd hx hq
  | some x => exact (jn.2.2.1 q x (p1.2 q x hx) (p3 q (by rw [hx]; exact fun z => by cases z))).2
def LI (x mm o : Nat) (h : hH) (j : Nat) : Prop := ∃ (hX hM : hH) (m : MS) (ad : Nat → Nat) (f : Nat → Int64), Pt2 hX hM h o f ∧ CI x j hX m ∧ RepM ad mm hM m
/-- both answer alike -/
def CR {β : Type} (x mm j : Nat) (hX hM : hH) (ML MM : hH → Option (β × hH)) : Prop := ∃ (r : β) (hX2 : hH) (m2 : MS) (ad : Nat → Nat), ML hX = some (r, hX2) ∧ CI x j hX2 m2 ∧ ∀ z, ∃ hM2, MM (z, hM.2) = some (r, hM2) ∧ RepM ad mm hM2 m2
section CRS
variable {x mm j : Nat} {hX hM : hH} {m : MS} {ad : Nat → Nat}
theorem B40 {B : Nat} (h : B ≤ 1000000000 * j) (hj : j ≤ 512) : B < 2 ^ 40 := by
  have : (2 : Nat) ^ 40 = 1099511627776 := by decide
  omega
theorem cr_unit (C : CI x j hX m) (R : RepM ad mm hM m) (u : Int32) : CR x mm (j + 1) hX hM (fun h => M_LT_unit FU h x u) (fun h => M_Mo_unit FU h mm u) := by
  obtain ⟨s, a, n, rc, Es, nt, v, B, RX, I, h0, hB⟩ := C
  subst h0
  obtain ⟨r, s2, m2, nt2, e1, e2, I2⟩ := unit_inv (F := FU) I u
  obtain ⟨hX2, f1, R2⟩ := x_LT_unit RX e1
  exact ⟨r, hX2, m2, ad, f1, ⟨s2, a, n, rc, Es, nt2, v, B, R2, I2, rfl, by omega⟩, fun z => n_Mo_unit (h := (z, hM.2)) R e2⟩
theorem cr_editions (C : CI x j hX m) (R : RepM ad mm hM m)  : CR x mm (j + 1) hX hM (fun h => M_LT_editions FU h x ) (fun h => M_Mo_editions FU h mm ) := by
  obtain ⟨s, a, n, rc, Es, nt, v, B, RX, I, h0, hB⟩ := C
  subst h0
  obtain ⟨r, m2, e1, e2, I2⟩ := editions_inv (F := FU) I
  obtain ⟨hX2, f1, R2⟩ := x_LT_editions RX e1
  exact ⟨r, hX2, m2, ad, f1, ⟨s, a, n, rc, Es, nt, v, B, R2, I2, rfl, by omega⟩, fun z => n_Mo_editions (h := (z, hM.2)) R e2⟩
theorem cr_fact (C : CI x j hX m) (R : RepM ad mm hM m) (u : Int32) (w : Int64) : CR x mm (j + 1) hX hM (fun h => M_LT_fact FU h x u w) (fun h => M_Mo_fact FU h mm u w) := by
  obtain ⟨s, a, n, rc, Es, nt, v, B, RX, I, h0, hB⟩ := C
  subst h0
  obtain ⟨r, s2, m2, e1, e2, I2⟩ := fact_inv (F := FU) I u w
  obtain ⟨hX2, f1, R2⟩ := x_LT_fact RX e1
  exact ⟨r, hX2, m2, ad, f1, ⟨s2, a, n, rc, Es, nt, v, B, R2, I2, rfl, by omega⟩, fun z => n_Mo_fact (h := (z, hM.2)) R e2⟩
theorem cr_clearFacts (C : CI x j hX m) (R : RepM ad mm hM m)  : CR x mm (j + 1) hX hM (fun h => M_LT_clearFacts FU h x ) (fun h => M_Mo_clearFacts FU h mm ) := by
  obtain ⟨s, a, n, rc, Es, nt, v, B, RX, I, h0, hB⟩ := C
  subst h0
  obtain ⟨r, s2, m2, e1, e2, I2⟩ := clear_inv (F := FU) I (by decide)
  obtain ⟨hX2, f1, R2⟩ := x_LT_clearFacts RX e1
  exact ⟨r, hX2, m2, ad, f1, ⟨s2, a, n, rc, Es, nt, v, B, R2, I2, rfl, by omega⟩, fun z => n_Mo_clearFacts (h := (z, hM.2)) R e2⟩
theorem cr_run (C : CI x j hX m) (R : RepM ad mm hM m) (u : Int32) : CR x mm (j + 1) hX hM (fun h => M_LT_run FU h x u) (fun h => M_Mo_run FU h mm u) := by
  obtain ⟨s, a, n, rc, Es, nt, v, B, RX, I, h0, hB⟩ := C
  subst h0
  obtain ⟨r, s2, m2, e1, e2, I2⟩ := run_both (F := FU) I (by decide) u
  obtain ⟨hX2, f1, R2⟩ := x_LT_run RX e1
  exact ⟨r, hX2, m2, ad, f1, ⟨s2, a, n, rc, Es, nt, v, B, R2, I2, rfl, by omega⟩, fun z => n_Mo_run (h := (z, hM.2)) R e2⟩
theorem cr_walk (C : CI x j hX m) (R : RepM ad mm hM m) (u : Int32) : CR x mm (j + 1) hX hM (fun h => M_LT_walk FU h x u) (fun h => M_Mo_walk FU h mm u) := by
  obtain ⟨s, a, n, rc, Es, nt, v, B, RX, I, h0, hB⟩ := C
  subst h0
  obtain ⟨r, s2, m2, e1, e2, I2⟩ := walk_both (F := FU) I (by decide) u
  obtain ⟨hX2, f1, R2⟩ := x_LT_walk RX e1
  exact ⟨r, hX2, m2, ad, f1, ⟨s2, a, n, rc, Es, nt, v, B, R2, I2, rfl, by omega⟩, fun z => n_Mo_walk (h := (z, hM.2)) R e2⟩
theorem cr_broken (C : CI x j hX m) (R : RepM ad mm hM m) (u : Int32) (w : Int32) : CR x mm (j + 1) hX hM (fun h => M_LT_broken FU h x u w) (fun h => M_Mo_broken FU h mm u w) := by
  obtain ⟨s, a, n, rc, Es, nt, v, B, RX, I, h0, hB⟩ := C
  subst h0
  obtain ⟨r, m2, e1, e2, I2⟩ := broken_both (F := FU) I (by decide) u w
  obtain ⟨hX2, f1, R2⟩ := x_LT_broken RX e1
  exact ⟨r, hX2, m2, ad, f1, ⟨s, a, n, rc, Es, nt, v, B, R2, I2, rfl, by omega⟩, fun z => n_Mo_broken (h := (z, hM.2)) R e2⟩
theorem cr_open (C : CI x j hX m) (R : RepM ad mm hM m) (u : Int32) (w : Int32) : CR x mm (j + 1) hX hM (fun h => M_LT_open FU h x u w) (fun h => M_Mo_open FU h mm u w) := by
  obtain ⟨s, a, n, rc, Es, nt, v, B, RX, I, h0, hB⟩ := C
  subst h0
  obtain ⟨r, m2, e1, e2, I2⟩ := open_both (F := FU) I (by decide) u w
  obtain ⟨hX2, f1, R2⟩ := x_LT_open RX e1
  exact ⟨r, hX2, m2, ad, f1, ⟨s, a, n, rc, Es, nt, v, B, R2, I2, rfl, by omega⟩, fun z => n_Mo_open (h := (z, hM.2)) R e2⟩
theorem cr_explain (C : CI x j hX m) (R : RepM ad mm hM m) (u : Int32) : CR x mm (j + 1) hX hM (fun h => M_LT_explain FU h x u) (fun h => M_Mo_explain FU h mm u) := by
  obtain ⟨s, a, n, rc, Es, nt, v, B, RX, I, h0, hB⟩ := C
  subst h0
  obtain ⟨r, m2, e1, e2, I2⟩ := explain_both (F := FU) I u
  obtain ⟨hX2, f1, R2⟩ := x_LT_explain RX e1
  exact ⟨r, hX2, m2, ad, f1, ⟨s, a, n, rc, Es, nt, v, B, R2, I2, rfl, by omega⟩, fun z => n_Mo_explain (h := (z, hM.2)) R e2⟩
theorem cr_allowed (C : CI x j hX m) (R : RepM ad mm hM m) (u : Int32) (w : Int32) (y : Int32) : CR x mm (j + 1) hX hM (fun h => M_LT_allowed FU h x u w y) (fun h => M_Mo_allowed FU h mm u w y) := by
  obtain ⟨s, a, n, rc, Es, nt, v, B, RX, I, h0, hB⟩ := C
  subst h0
  obtain ⟨r, s2, m2, e1, e2, I2⟩ := allowed_both (F := FU) I (by decide) u w y
  obtain ⟨hX2, f1, R2⟩ := x_LT_allowed RX e1
  exact ⟨r, hX2, m2, ad, f1, ⟨s2, a, n, rc, Es, nt, v, B, R2, I2, rfl, by omega⟩, fun z => n_Mo_allowed (h := (z, hM.2)) R e2⟩
theorem cr_write (C : CI x j hX m) (R : RepM ad mm hM m) (u : Int32) (w : Int32) : CR x mm (j + 1) hX hM (fun h => M_LT_write FU h x u w) (fun h => M_Mo_write FU h mm u w) := by
  obtain ⟨s, a, n, rc, Es, nt, v, B, RX, I, h0, hB⟩ := C
  subst h0
  obtain ⟨r, s2, m2, e1, e2, I2⟩ := write_both (F := FU) I (by decide) u w
  obtain ⟨hX2, f1, R2⟩ := x_LT_write RX e1
  exact ⟨r, hX2, m2, ad, f1, ⟨s2, a, n, rc, Es, nt, v, B, R2, I2, rfl, by omega⟩, fun z => n_Mo_write (h := (z, hM.2)) R e2⟩
theorem cr_written (C : CI x j hX m) (R : RepM ad mm hM m) (u : Int32) : CR x mm (j + 1) hX hM (fun h => M_LT_written FU h x u) (fun h => M_Mo_written FU h mm u) := by
  obtain ⟨s, a, n, rc, Es, nt, v, B, RX, I, h0, hB⟩ := C
  subst h0
  obtain ⟨r, m2, e1, e2, I2⟩ := written_inv (F := FU) I u
  obtain ⟨hX2, f1, R2⟩ := x_LT_written RX e1
  exact ⟨r, hX2, m2, ad, f1, ⟨s, a, n, rc, Es, nt, v, B, R2, I2, rfl, by omega⟩, fun z => n_Mo_written (h := (z, hM.2)) R e2⟩
theorem cr_haul (C : CI x j hX m) (R : RepM ad mm hM m) (u : Int32) (w : Int32) (y : Int64) : CR x mm (j + 1) hX hM (fun h => M_LT_haul FU h x u w y) (fun h => M_Mo_haul FU h mm u w y) := by
  obtain ⟨s, a, n, rc, Es, nt, v, B, RX, I, h0, hB⟩ := C
  subst h0
  obtain ⟨r, s2, m2, v2, e1, e2, I2⟩ := haul_inv (F := FU) I u w y
  obtain ⟨hX2, f1, R2⟩ := x_LT_haul RX e1
  exact ⟨r, hX2, m2, ad, f1, ⟨s2, a, n, rc, Es, nt, v2, _, R2, I2, rfl, by omega⟩, fun z => n_Mo_haul (h := (z, hM.2)) R e2⟩
theorem cr_byCatch (C : CI x j hX m) (R : RepM ad mm hM m) (hj : j ≤ 512) (u : Int32) (w : Int32) (y : Int32) : CR x mm (j + 1) hX hM (fun h => M_LT_byCatch FU h x u w y) (fun h => M_Mo_byCatch FU h mm u w y) := by
  obtain ⟨s, a, n, rc, Es, nt, v, B, RX, I, h0, hB⟩ := C
  subst h0
  obtain ⟨r, m2, e1, e2, I2⟩ := byCatch_inv (F := FU) I (B40 hB hj) (by decide) u w y
  obtain ⟨hX2, f1, R2⟩ := x_LT_byCatch RX e1
  exact ⟨r, hX2, m2, ad, f1, ⟨s, a, n, rc, Es, nt, v, B, R2, I2, rfl, by omega⟩, fun z => n_Mo_byCatch (h := (z, hM.2)) R e2⟩
theorem cr_read (C : CI x j hX m) (R : RepM ad mm hM m) (u : Int32) : CR x mm (j + 1) hX hM (fun h => M_LT_read FU h x u) (fun h => M_Mo_read FU h mm u) := by
  obtain ⟨s, a, n, rc, Es, nt, v, B, RX, I, h0, hB⟩ := C
  subst h0
  obtain ⟨r, s2, m2, a2, n2, rc2, Es2, nt2, e1, e2, I2, h2⟩ := read_inv (F := FU) I (by decide) u (fun q hq c hc => by
    obtain ⟨h9, -, R9⟩ := x_LT_read RX hq
    exact (R9.2 c hc).2)
  obtain ⟨hX2, f1, R2⟩ := x_LT_read RX e1
  exact ⟨r, hX2, m2, ad, f1, ⟨s2, a2, n2, rc2, Es2, nt2, v, B, R2, I2, h2, by omega⟩, fun z => n_Mo_read (h := (z, hM.2)) R e2⟩
end CRS
