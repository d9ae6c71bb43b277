/-! A CALL THAT THROWS, AND ITS CATCH -/
theorem ow_cast : Cond.castable exN exN ∈ owA := by decide +kernel
section CATCH
variable {p : Program} {l : Launch} {e : Env} {R : Room} {s : State} {m : MethodId} {args : Array Value} {below : List Frame} {meth : Method} {c : Code} {cc : ByteArray} {nL : Nat} {own : String} {D : va_G} {K : (Nat → Nat) × (Nat → Nat)} {A : Nat → Prop} {h : hH} {lv : List (Nat × Value)} {k n pc : Nat} {Q : State → Prop}
theorem J_callVT (X : hCx hG p m c cc nL s args T0 own D cls0 K A) (Z : tH A s s.heap) {y : MethodName} {by2 : ByteArray} {mL : Nat} {ret : Option FieldType} {rm : Room} {mc ms nA : Nat} {As rest : List Value} {g g2 : hH} {a : Nat} {idx : Nat} (hs : Sub g h) {C : String} {T : u_T} {N ci : Nat} (hc : cls0[ci]? = some (C, T, N)) {u : Unit} (hi : hIs g a ci = some u)
    (hM : MetFree l y (headSpec (.code y by2 mL ret :: T0) rm) (fun a' U => hPc hG D cls0 K (.ref a :: As) g a' U ∧ tH (hF g) U U.heap) (fun _ _ _ _ _ => True) (fun a' st o t => hQT D cls0 g g2 a' st o t ∧ ∃ L, Jvm.Free.FrameEndT st o t L mc ms ∧ ∀ q ∈ L, hF g q.base))
    (cw : CallW R s args own C idx y by2 mL ret (.code y by2 mL ret :: T0) rm mc ms nA) (hnf : NotFace s y) {x0 : ExceptionTableEntry} (hsplit : c.exceptionTable.toList = [x0]) (hx : covers x0 pc = true) (h0 : x0.catchType ≠ 0) (hlink : (Cond.classLink own x0.catchType exN).before args s = true)
    (hd : decode cc pc = .ok (.invokevirtual idx, 3)) (hA : As.length = nA) {st0 : List Value} (hs0 : (As.reverse ++ .ref a :: rest) = st0) (hW : (rest.map fun v => v.category).sum ≤ 8) (hk : k + mc ≤ R.cells) (hn : n + ms ≤ R.slots)
    (kk : ∀ h2 x, Jn h g (g2.1 + 1, g2.2) h2 → g.1 ≤ g2.1 + 1 → J p l e R s m args below meth c nL D cls0 A h2 lv (k + mc) (n + ms) Q x0.handlerPc [.ref x]) : J p l e R s m args below meth c nL D cls0 A h lv k n Q pc st0 := by
  subst hs0
  intro H locs ls a1 b1 d1 T1 hT XS
  have a1g := a1.sub hs
  have hfr := a1g.free X.2.2.2.2.2.2 b1.1
  obtain ⟨⟨hrc, hrs, hfrm, hlo, hws, hcin, hcode, hini, hy, hlen, hl⟩, hin, hse⟩ := cw
  have hdecl : (Cond.declares y).before args s = true := by
    obtain ⟨mm, mth, hn1, hm1, hst1, hab1⟩ := Cond.instanceMethod_spec hin
    obtain ⟨mth2, c2, hm2, -, -, -, -, -, -, hsig⟩ := Cond.code_spec hn1 hcode
    cases hm1.symm.trans hm2
    simp [Cond.before, Cond.holds, Cond.value, hn1, hm1, hst1, hsig]
  have hK : Jvm.Free.BackT l R p e below s args y 3 8 (fun A' a' => A'.cells + mc ≤ R.cells ∧ A'.slots + ms ≤ R.slots ∧ (hPc hG D cls0 K (.ref a :: As) g a' A'.U ∧ tH (hF g) A'.U A'.U.heap)) (fun A' a' x B' => ∃ (g' : JFrame) (mk : MethodId) (t : State) (L : List Loc), B'.U.heap = t.heap ∧ B'.U.vm = t.vm ∧ hQT D cls0 g g2 a' (A'.U.calling g' mk a') (.threw x) t ∧ B'.locs = A'.locs ++ L ∧ (∀ q ∈ L, hF g q.base) ∧ B'.cells = A'.cells + mc ∧ B'.slots = A'.slots + ms) := by
    refine Jvm.Free.BackT.of_free (bytes := by2) (maxL := mL) (ret := ret) (E := fun a' st o t L k' n' => k' = mc ∧ n' = ms ∧ ∀ q ∈ L, hF g q.base) hM hfrm hlo ?_ ?_ (fun _ _ _ _ _ _ _ _ _ => trivial) ?_ ?_
    · intro m' meth' c' A' a' X' hp
      exact ⟨atoms_intro fun w hw => hws w hw _ _ X'.warmed, hws _ hcin _ _ X'.warmed, word_at X'.warmed (Or.inl (by first | rfl | simp [Cond.onTables, Cond.keeps, Cond.steady])) hini, by rw [show (headSpec (.code y by2 mL ret :: T0) rm).room.cells = mc from hrc]; exact hp.1, by rw [show (headSpec (.code y by2 mL ret :: T0) rm).room.slots = ms from hrs]; exact hp.2.1⟩
    · intro m' meth' c' A' a' g' mk X' hp
      exact ⟨hPc_blind _ _ _ _ hp.2.2.1, hp.2.2.2.same rfl⟩
    · intro a' st o t ⟨hq, L, hF', hL⟩
      exact ⟨L, mc, ms, hF', rfl, rfl, hL⟩
    · intro m' meth' c' A' a' g' mk v t L k' n' X' hp hq hF' ⟨e1, e2, hL⟩
      subst e1; subst e2
      exact ⟨g', mk, t, L, rfl, rfl, hq.1, rfl, hL, rfl, rfl⟩
  obtain ⟨cellB, hcB, hoB, hclB⟩ := h_recv X hc hi a1g
  have Zg : ∀ vm₁, s.WarmedH vm₁ → tH (hF g) (T1.setVm vm₁) (T1.setVm vm₁).heap := by
    intro vm₁ hW₁
    show tH (hF g) (T1.setVm vm₁) T1.heap
    rw [hT]
    exact Z.to hW₁ hfr b1.2.1
  obtain ⟨v, vm₁, B, hW₁, XB, hpost, hsteps⟩ := XS.virtualThrows X.1 (y := y) (z := y) X.2.2.2.1 hl hdecl hnf hse hin hy hK hclB ⟨cellB, by rw [hT]; exact hcB, rfl, hoB⟩ (g := F0 m pc ls (As.reverse ++ .ref a :: rest)) rfl (d1.1.trans X.2.2.1.symm) (Steps.refl _) (argsL := As) (rest := rest) (fun sig h => hA.trans (hlen sig h)) rfl (lv_room hW) (by rw [X.2.1]; exact hd)
    (fun vm₁ hW₁ => ⟨hk, hn, hPc_at X a1g b1 (T1.setVm vm₁) hT hW₁, Zg vm₁ hW₁⟩)
  obtain ⟨g', mk, t, L, e1, e2, ⟨x, ce, q1, q2, q3, q4, q5, q6, q7⟩, h1, hL, h2, h3⟩ := hpost
  cases q1
  obtain ⟨U', l2, c2, s2⟩ := B
  dsimp only [Pt.U, Pt.locs, Pt.cells, Pt.slots] at XB e1 e2 h1 h2 h3 hsteps
  subst h1; subst h2; subst h3
  have hh0 : ((T1.setVm vm₁).calling g' mk (Value.ref a :: As).toArray).heap = H := hT
  have hcT : s.vm.findClass exN = some ce.cls := by
    have h9 : vm₁.findClass exN = some ce.cls := q4
    rw [hW₁.alike.findClass] at h9
    exact h9
  have hfit : s.vm.assignable ce.cls ce.cls = true := by
    obtain ⟨c3, c4, w1, w2, w3⟩ := Cond.castable_spec (Z.2.2.1 _ ow_cast rfl)
    cases hcT.symm.trans w1
    cases hcT.symm.trans w2
    exact w3
  obtain ⟨vm', XV, stV⟩ := XB.caughtLink v (g := { F0 m pc ls (As.reverse ++ .ref a :: rest) with stack := rest }) rfl X.2.2.2.1 [] x0 [] hsplit (fun y hy => by simp at hy) hx h0 hlink hcT (cell := ce) (by rw [e1]; exact q2) (by rw [q3]; rfl) hfit
  have hal : s.vm.Alike t.vm := by rw [← e2]; exact XB.warmed.alike
  rw [hh0] at q6 q7
  have hw2' : hw D cls0 (hF g) s U'.heap (g2.1 + 1, g2.2) := by rw [e1]; exact q5.moved hal.symm
  have hk' : ∀ q : Nat, q < H.size → ¬ hF g q → U'.heap[q]? = H[q]? := fun q z1 z2 => by rw [e1]; exact q7 q z1 z2
  have hw3 := joint_hw (t := t) a1 hs hfr hw2' hk'
  have hS2 : va_S A s.heap U'.heap (locs ++ L) := by
    refine ⟨Nat.le_trans b1.1 (by rw [e1]; exact q6), fun q z1 z2 => ?_, fun q hq => ?_⟩
    · rw [hk' q (Nat.lt_of_lt_of_le z1 b1.1) (fun z => z2 (hfr q z))]
      exact b1.2.1 q z1 z2
    · rcases List.mem_append.mp hq with z | z
      · exact b1.2.2 q z
      · exact hfr _ (hL q z)
  obtain ⟨t2, a2, b2⟩ := kk (hJ h g (g2.1 + 1, g2.2)) v (hJ_jn a1 hs hw2') (by have := hw2'.1; have := a1g.1; rw [e1] at *; show g.1 ≤ (g2.1 + 1, g2.2).1; rw [← a1g.1, ← q5.1]; exact q6) U'.heap (locs ++ L) ls hw3 hS2 d1 (U'.setVm vm') rfl XV
  refine ⟨t2, ?_, b2⟩
  refine hsteps.trans ?_
  rw [XB.pushThrowing_eq]
  exact stV t2 a2
end CATCH
