section REROOT
variable {p : Program} {l : Launch} {e : Env} {R : Room} {s : State} {m : MethodId} {args : Array Value} {below : List Frame} {meth : Method} {c : Code} {T : State} {locs : List Loc} {k n : Nat}
/-- a walk looked at from where it stands: as if the method began here -/
theorem reroot (X : Stand p l e R s m args below meth c T locs k n) (hk : k ≤ R.cells) (hn : n ≤ R.slots) : Stand p l e { R with cells := R.cells - k, slots := R.slots - n } (T.setFrames (.invoking m args :: below)) m args below meth c T [] 0 0 := by
  obtain ⟨g₀, hfr⟩ := X.frames_eq
  have hcur : T.cur < T.threads.size := State.cur_lt_of_frames hfr
  have hm : T.vm.method? m = s.vm.method? m := X.warmed.alike.method? m
  have hF : (T.setFrames (.invoking m args :: below)).frames = .invoking m args :: below := State.frames_setFrames _ hcur
  have hmT : T.vm.method? m = some meth := X.method'
  obtain ⟨th, hth, -⟩ := State.frames_cons hfr
  refine ⟨X.admits, X.cas, X.clock, hF, ?_, ?_, hmT, X.code, X.here, X.tail, State.WarmedH.refl _, ?_, ?_, ?_⟩
  · have h := X.room
    have hz := X.heapSize
    have hu := X.used
    have hb := X.book
    have hL : (T.setFrames (.invoking m args :: below)).localsInUse = s.localsInUse := by
      unfold State.localsInUse
      rw [hF, X.frames]
      show _ + ((((T.vm.method? m).bind (·.code)).map (·.maxLocals)).getD 0 + 11) = _
      rw [hm]
    have hl1 : e.platform.stackLimits (T.setFrames (.invoking m args :: below)).me = e.platform.stackLimits s.me := by
      rw [State.stackLimits_setFrames]; exact X.limits
    have hb1 : (T.setFrames (.invoking m args :: below)).me.stackBytes = s.me.stackBytes := by
      rw [State.stackBytes_setFrames]; exact X.bytes
    have hsl : (T.setFrames (.invoking m args :: below)).slotsTrue = true := hb
    simp only [State.hasRoom, Bool.and_eq_true, decide_eq_true_eq] at h ⊢
    rw [hL, hF, hl1, hb1]
    rw [X.frames] at h
    obtain ⟨⟨⟨⟨r0, r1⟩, r2⟩, r3⟩, r4⟩ := h
    refine ⟨⟨⟨⟨r0, r1⟩, ?_⟩, ?_⟩, hsl⟩
    · show T.heap.size + (R.cells - k) ≤ _
      omega
    · show T.slotsUsed + (R.slots - n) ≤ _
      omega
  · have h := X.hears
    have hc : ∀ f, (T.setFrames (.invoking m args :: below)).code? f = s.code? f := by
      intro f
      rw [State.code?_eq, State.code?_eq]
      show (T.vm.method? f).bind _ = _
      rw [X.warmed.alike.method?]
    have hm2 : (T.setFrames (.invoking m args :: below)).vm.method? m = s.vm.method? m := hm
    revert h
    cases below with
    | nil => simp only [State.hears]; rw [hm2]; exact id
    | cons f r => cases f <;> simp only [State.hears] <;> (try rw [hc]) <;> (try rw [hm2]) <;> exact id
  · rw [State.stackLimits_setFrames]
  · rw [State.stackBytes_setFrames]
  · have e1 : (T.setFrames (.invoking m args :: below)).setFrames T.frames = T := by rw [State.setFrames_setFrames, State.setFrames_self hth]
    have hd : T.heap.toList.drop T.heap.size = [] := List.drop_eq_nil_of_le (by simp)
    refine ⟨?_, Nat.le_refl _, Nat.le_add_right _ _, ?_, ?_, fun a c h => ⟨c, h, rfl, rfl, fun _ _ => rfl⟩⟩
    · show T = { (T.setFrames (.invoking m args :: below)).setFrames T.frames with heap := T.heap, slotsUsed := T.slotsUsed }
      rw [e1]
    · show T.slotsUsed = T.slotsUsed + ((T.heap.toList.drop T.heap.size).map (·.slots.size)).sum
      rw [hd]; rfl
    · show ((T.heap.toList.drop T.heap.size).map (·.slots.size)).sum ≤ 0
      rw [hd]; exact Nat.le_refl 0
end REROOT
