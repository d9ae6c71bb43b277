/-! ONE STEP OF THE CLASS's RECKONER -/
section STEPX
variable {F : Nat} {s : XS} {a : Nat → Nat} {n : Nat} {rc : Nat → Nat} {f : Nat → Nat} {r : Nat} {E : Ed} {top : Nat} {p : Nat → Int64} {m : MS}
/-- what a step does: k 1 it goes on with height and values, else it stops -/
def StR (s : XS) (a : Nat → Nat) (x : Option (Int32 × XS)) (y : Int32 × Int32 × Int32 × Nat × (Nat → Int64)) : Prop :=
  ∃ s2, x = some (if y.1 = 0 then 1 else 0, s2) ∧ FrE a s s2 ∧ xI s2 (a 5) 3 = y.2.1 ∧ xI s2 (a 5) 4 = y.2.2.1 ∧ (y.1 = 0 → RS s2 a y.2.2.2.1 y.2.2.2.2)
theorem upl_at (p : Nat → Int64) (i : Nat) (v : Int64) (j : Nat) : vp_updL p i v j = if j = i then v else p j := rfl
theorem push_RS (H : Sh s a n rc) (R : RS s a top p) (v : Int64) : RS (xT s, xL s, xUp (xI s) (a 5) 2 (nI (top + 1)), xR s, xA s, xUp (xJ s) (a 6) top v, xO s, xZ s) a (top + 1) (vp_updL p top v) := by
  refine ⟨by simp [xUp, xpT, xpL, xpI, xpR, xpA, xpJ, xpO, xpZ, xInt, xN], fun j hj => ?_⟩
  simp only [xpJ, xUp, upl_at]
  by_cases e : j = top
  · simp [e]
  · simp [e, R.2 j (by omega)]
theorem st_number (H : Sh s a n rc) (R : RS s a top p) (ht : top < 64) (c3 : xI s (a 5) 3 = -1) (c4 : xI s (a 5) 4 = -1) (v : Int64) : ∃ s2, X_Reckoner_push F s (a 5) v = some s2 ∧ FrE a s s2 ∧ xI s2 (a 5) 3 = -1 ∧ xI s2 (a 5) 4 = -1 ∧ RS s2 a (top + 1) (vp_updL p top v) := by
  refine ⟨_, X_push_eq H R.1 ht v, FrE.up s _ _ (fun c hc => xUp_ne _ _ _ hc) (fun c hc => xUp_ne _ _ _ hc), ?_, ?_, push_RS H R v⟩
  · simp [xUp, c3, xpT, xpL, xpI, xpR, xpA, xpJ, xpO, xpZ, xInt, xN]
  · simp [xUp, c4, xpT, xpL, xpI, xpR, xpA, xpJ, xpO, xpZ, xInt, xN]
theorem st_two (H : Sh s a n rc) (R : RS s a (top + 2) p) (ht : top + 2 ≤ 64) (c3 : xI s (a 5) 3 = -1) (c4 : xI s (a 5) 4 = -1) : ∃ s1 s2, X_Reckoner_pop F s (a 5) = some (p (top + 1), s1) ∧ X_Reckoner_pop F s1 (a 5) = some (p top, s2) ∧ xT s1 = xT s ∧ FrE a s s2 ∧ xI s2 (a 5) 3 = -1 ∧ xI s2 (a 5) 4 = -1 ∧ RS s2 a top p := by
  have e1 := X_pop_eq (F := F) H (top := top + 1) R.1 (by omega)
  rw [R.2 _ (by omega)] at e1
  obtain ⟨s1, hs1⟩ : ∃ y : XS, y = (xT s, xL s, xUp (xI s) (a 5) 2 (nI (top + 1)), xR s, xA s, xJ s, xO s, xZ s) := ⟨_, rfl⟩
  rw [← hs1] at e1
  have f1 : FrE a s s1 := by rw [hs1]; exact FrE.up s _ _ (fun c hc => xUp_ne _ _ _ hc) (fun c hc => rfl)
  have H1 := H.frE f1
  have i1 : xI s1 (a 5) 2 = nI (top + 1) := by rw [hs1]; simp [xUp, xpT, xpL, xpI, xpR, xpA, xpJ, xpO, xpZ, xInt, xN]
  have j1 : xJ s1 = xJ s := by rw [hs1]
  have e2 := X_pop_eq (F := F) H1 (top := top) i1 (by omega)
  rw [j1, R.2 _ (by omega)] at e2
  refine ⟨s1, _, e1, e2, f1.1, f1.trans ?_, ?_, ?_, ?_, ?_⟩
  · have := FrE.up (a := a) s1 (xUp (xI s1) (a 5) 2 (nI top)) (xJ s1) (fun c hc => xUp_ne _ _ _ hc) (fun c hc => rfl)
    rw [j1] at this
    exact this
  · rw [hs1]; simp [xUp, c3, xpT, xpL, xpI, xpR, xpA, xpJ, xpO, xpZ, xInt, xN]
  · rw [hs1]; simp [xUp, c4, xpT, xpL, xpI, xpR, xpA, xpJ, xpO, xpZ, xInt, xN]
  · simp [xUp, xpT, xpL, xpI, xpR, xpA, xpJ, xpO, xpZ, xInt, xN]
  · intro j hj
    simp only [xpJ]
    exact R.2 j (by omega)
theorem RS.le (R : RS s a top p) {t2 : Nat} (h : t2 ≤ top) : ∀ j, j < t2 → xJ s (a 6) j = p j := fun j hj => R.2 j (by omega)
end STEPX
