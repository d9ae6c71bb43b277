/-! THE CLASS's OBJECTS AS A STRUCT OF ARRAYS: tags, lengths, int fields, reference fields, int arrays, long arrays, reference arrays, size -/
abbrev XS : Type := (Nat → Nat) × (Nat → Nat) × (Nat → Nat → Int32) × (Nat → Nat → Option Nat) × (Nat → Nat → Int32) × (Nat → Nat → Int64) × (Nat → Nat → Option Nat) × Nat
abbrev xT (s : XS) : Nat → Nat := s.1
abbrev xL (s : XS) : Nat → Nat := s.2.1
abbrev xI (s : XS) : Nat → Nat → Int32 := s.2.2.1
abbrev xR (s : XS) : Nat → Nat → Option Nat := s.2.2.2.1
abbrev xA (s : XS) : Nat → Nat → Int32 := s.2.2.2.2.1
abbrev xJ (s : XS) : Nat → Nat → Int64 := s.2.2.2.2.2.1
abbrev xO (s : XS) : Nat → Nat → Option Nat := s.2.2.2.2.2.2.1
abbrev xZ (s : XS) : Nat := s.2.2.2.2.2.2.2
def xN (c : Nat) : Nat := match c with
  | 0 => 2
  | 1 => 6
  | 2 => 2
  | 3 => 5
  | 4 => 1
  | 5 => 5
  | 6 => 5
  | 7 => 3
  | 8 => 3
  | 9 => 8
  | 10 => 5
  | 11 => 10
  | _ => 0
/-- the int fields of a class -/
def xInt (c k : Nat) : Bool := match c with
  | 0 => k == 1
  | 1 => k == 4 || k == 5
  | 2 => false
  | 3 => k == 4
  | 4 => false
  | 5 => k == 2 || k == 3 || k == 4
  | 6 => k == 0 || k == 1 || k == 2 || k == 3 || k == 4
  | 7 => k == 2
  | 8 => k == 2
  | 9 => k == 4 || k == 5 || k == 6 || k == 7
  | 10 => k == 3 || k == 4
  | 11 => k == 1
  | _ => false
def xC (c : Nat) : String := match c with
  | 0 => "LicenceTexts$Bytes"
  | 1 => "LicenceTexts$Edition"
  | 2 => "LicenceTexts$Facts"
  | 3 => "LicenceTexts$Findings"
  | 4 => "LicenceTexts$Hauls"
  | 5 => "LicenceTexts$Reckoner"
  | 6 => "LicenceTexts$Rule"
  | 7 => "LicenceTexts$Steps"
  | 8 => "LicenceTexts$Tables"
  | 9 => "LicenceTexts$TextReader"
  | 10 => "LicenceTexts$Words"
  | 11 => "LicenceTexts"
  | _ => ""
def xFs (s : XS) (c a : Nat) : List Value := (List.range (xN c)).map fun k => if xInt c k then .int (xI s a k) else va_rf (xR s a k)
/-- tags: c + 1 an object of class c; 20 int[], 21 byte[], 22 boolean[], 23 long[]; 40 + c an array over class c -/
def xCell (s : XS) (a : Nat) : hE := if xT s a < 20 then .inl (xT s a - 1, xFs s (xT s a - 1) a) else if xT s a = 20 then .inr (.int, xL s a, .inl (xA s a)) else if xT s a = 21 then .inr (.byte, xL s a, .inl (xA s a)) else if xT s a = 22 then .inr (.boolean, xL s a, .inl (xA s a)) else if xT s a = 23 then .inr (.long, xL s a, .inr (.inl (xJ s a))) else .inr (.object (xC (xT s a - 40)), xL s a, .inr (.inr (.inr (.inr (xO s a)))))
def RepX (h : hH) (s : XS) : Prop := h.1 = xZ s ∧ ∀ a, xT s a ≠ 0 → h.2 a = some (xCell s a) ∧ a < xZ s
def xUp {α : Type} (f : Nat → Nat → α) (a k : Nat) (v : α) : Nat → Nat → α := fun b j => if b = a then (if j = k then v else f b j) else f b j
def xUq {α : Type} (f : Nat → α) (a : Nat) (v : α) : Nat → α := fun b => if b = a then v else f b
def xIs (s : XS) (a ci : Nat) : Option Unit := if xT s a = ci + 1 then some () else none
def xGetI (s : XS) (a ci k : Nat) : Option Int32 := if xT s a = ci + 1 ∧ xInt ci k = true ∧ k < xN ci then some (xI s a k) else none
def xGetA (s : XS) (a ci k : Nat) : Option Nat := if xT s a = ci + 1 ∧ xInt ci k = false ∧ k < xN ci then xR s a k else none
def xPutI (s : XS) (a ci k : Nat) (v : Int32) : Option XS := if xT s a = ci + 1 ∧ xInt ci k = true ∧ k < xN ci then some (xT s, xL s, xUp (xI s) a k v, xR s, xA s, xJ s, xO s, xZ s) else none
def xPutZ (s : XS) (a ci k : Nat) (v : Int32) : Option XS := if v = 0 ∨ v = 1 then xPutI s a ci k v else none
def xPutR (s : XS) (a ci k : Nat) (b : Nat) : Option XS := if xT s a = ci + 1 ∧ xInt ci k = false ∧ k < xN ci then some (xT s, xL s, xI s, xUp (xR s) a k (some b), xA s, xJ s, xO s, xZ s) else none
def xLen (s : XS) (a : Nat) : Option Int32 := if 20 ≤ xT s a then some (Int32.ofNat (xL s a)) else none
def xLdI (s : XS) (a t : Nat) (i : Int32) : Option Int32 := if xT s a = t then (if i < 0 ∨ xL s a ≤ i.toNatClampNeg then none else some (xA s a i.toNatClampNeg)) else none
def xLdL (s : XS) (a : Nat) (i : Int32) : Option Int64 := if xT s a = 23 then (if i < 0 ∨ xL s a ≤ i.toNatClampNeg then none else some (xJ s a i.toNatClampNeg)) else none
def xLdO (s : XS) (a c : Nat) (i : Int32) : Option (Option Nat) := if xT s a = 40 + c then (if i < 0 ∨ xL s a ≤ i.toNatClampNeg then none else some (xO s a i.toNatClampNeg)) else none
def xSt (s : XS) (a t : Nat) (i : Int32) (x : Int32) : Option XS := if xT s a = t then (if i < 0 ∨ xL s a ≤ i.toNatClampNeg then none else some (xT s, xL s, xI s, xR s, xUp (xA s) a i.toNatClampNeg x, xJ s, xO s, xZ s)) else none
def xStI (s : XS) (a : Nat) (i x : Int32) : Option XS := xSt s a 20 i x
def xStB (s : XS) (a : Nat) (i x : Int32) : Option XS := xSt s a 21 i x.toInt8.toInt32
def xStZ (s : XS) (a : Nat) (i x : Int32) : Option XS := xSt s a 22 i (x &&& 1)
def xStL (s : XS) (a : Nat) (i : Int32) (x : Int64) : Option XS := if xT s a = 23 then (if i < 0 ∨ xL s a ≤ i.toNatClampNeg then none else some (xT s, xL s, xI s, xR s, xA s, xUp (xJ s) a i.toNatClampNeg x, xO s, xZ s)) else none
def xStA (s : XS) (a c : Nat) (i : Int32) (b : Nat) : Option XS := if xT s b = c + 1 ∧ xT s a = 40 + c then (if i < 0 ∨ xL s a ≤ i.toNatClampNeg then none else some (xT s, xL s, xI s, xR s, xA s, xJ s, xUp (xO s) a i.toNatClampNeg (some b), xZ s)) else none
def xNewO (s : XS) (c : Nat) : XS := (xUq (xT s) (xZ s) (c + 1), xL s, xUq (xI s) (xZ s) (fun _ => 0), xUq (xR s) (xZ s) (fun _ => none), xA s, xJ s, xO s, xZ s + 1)
def xNewA (s : XS) (t n : Nat) : XS := (xUq (xT s) (xZ s) t, xUq (xL s) (xZ s) n, xI s, xR s, xUq (xA s) (xZ s) (fun _ => 0), xUq (xJ s) (xZ s) (fun _ => 0), xUq (xO s) (xZ s) (fun _ => none), xZ s + 1)
def X_Str_length (s : XS) (i : Nat) : Option (Int32 × XS) := (sAt i).bind fun bs => some (nI bs.length, s)
def X_Str_charAt (s : XS) (i : Nat) (j : Int32) : Option (Int32 × XS) := (sAt i).bind fun bs => if j < 0 ∨ bs.length ≤ j.toNatClampNeg then none else some (bs.getD j.toNatClampNeg 0 &&& 255, s)
theorem ex_cs {β : Type} {x : Option Nat} {a : Option (β × hH)} {f : Nat → Option (β × hH)} {r : β} {P : hH → Prop} (t : x = none → ∃ h2, a = some (r, h2) ∧ P h2) (u : ∀ y, x = some y → ∃ h2, f y = some (r, h2) ∧ P h2) : ∃ h2, hCase x a f = some (r, h2) ∧ P h2 := by
  cases x with
  | none => exact t rfl
  | some y => exact u y rfl
theorem ev_cs {x : Option Nat} {a : Option hH} {f : Nat → Option hH} {P : hH → Prop} (t : x = none → ∃ h2, a = some h2 ∧ P h2) (u : ∀ y, x = some y → ∃ h2, f y = some h2 ∧ P h2) : ∃ h2, hCase x a f = some h2 ∧ P h2 := by
  cases x with
  | none => exact t rfl
  | some y => exact u y rfl
theorem xif {β : Type} {C : Prop} {d : Decidable C} {a : Option β} {v : β} (e : (@ite _ C d a none) = some v) : C ∧ a = some v := by
  by_cases c : C
  · rw [if_pos c] at e; exact ⟨c, e⟩
  · rw [if_neg c] at e; cases e
theorem xN_le (c : Nat) : xN c = 0 ∨ c < 19 := by
  by_cases h : c < 19
  · exact Or.inr h
  · left
    unfold xN
    split <;> first | omega | rfl
section RX
variable {h : hH} {s : XS}
theorem xFs_at (s : XS) (c a : Nat) {k : Nat} (hk : k < xN c) : (xFs s c a)[k]? = some (if xInt c k then .int (xI s a k) else va_rf (xR s a k)) := by
  unfold xFs
  rw [List.getElem?_map, List.getElem?_range hk]
  rfl
theorem xFs_len (s : XS) (c a : Nat) : (xFs s c a).length = xN c := by simp [xT, xL, xI, xR, xA, xJ, xO, xZ, xFs]
theorem xr_obj (R : RepX h s) {a ci : Nat} (e : xT s a = ci + 1) (hc : ci < 19) : hObj h a ci = some (xFs s ci a) := by
  have := (R.2 a (by omega)).1
  unfold xCell at this
  rw [if_pos (by omega), e] at this
  simp only [Nat.add_sub_cancel] at this
  simp [hObj, this]
theorem xr_Is (R : RepX h s) {a ci : Nat} {u : Unit} (e : xIs s a ci = some u) (hc : ci < 19 := by decide) : hIs h a ci = some u := by
  obtain ⟨e, -⟩ := xif e
  simp [hIs, xr_obj R e hc]
theorem xr_I (R : RepX h s) {a ci k : Nat} {v : Int32} (e : xGetI s a ci k = some v) : hGetI h a ci k = some v := by
  obtain ⟨⟨e1, e2, e3⟩, e4⟩ := xif e
  have hc : ci < 19 := by rcases xN_le ci with h | h <;> omega
  unfold hGetI
  rw [xr_obj R e1 hc, Option.bind_some, xFs_at _ _ _ e3, if_pos e2]
  exact e4
theorem xr_A (R : RepX h s) {a ci k : Nat} {v : Nat} (e : xGetA s a ci k = some v) : hGetA h a ci k = some v := by
  obtain ⟨⟨e1, e2, e3⟩, e4⟩ := xif e
  have hc : ci < 19 := by rcases xN_le ci with h | h <;> omega
  unfold hGetA
  rw [xr_obj R e1 hc, Option.bind_some, xFs_at _ _ _ e3, if_neg (by rw [e2]; decide), e4]
  rfl
theorem xr_Len (R : RepX h s) {a : Nat} {v : Int32} (e : xLen s a = some v) : hLen h a = some v := by
  obtain ⟨e1, e2⟩ := xif e
  have := (R.2 a (by omega)).1
  unfold xCell at this
  rw [if_neg (by omega)] at this
  unfold hLen
  rw [this]
  split
  · rename_i o ho
    split at ho
    · cases ho; exact e2
    · split at ho
      · cases ho; exact e2
      · split at ho
        · cases ho; exact e2
        · split at ho <;> (cases ho; exact e2)
  · rename_i ho
    exfalso
    split at ho
    · exact ho _ rfl
    · split at ho
      · exact ho _ rfl
      · split at ho
        · exact ho _ rfl
        · split at ho <;> exact ho _ rfl
theorem xr_arr (R : RepX h s) {a : Nat} : (xT s a = 20 → hArr h a .int = some (xL s a, .inl (xA s a))) ∧ (xT s a = 21 → hArr h a .byte = some (xL s a, .inl (xA s a))) ∧ (xT s a = 22 → hArr h a .boolean = some (xL s a, .inl (xA s a))) ∧ (xT s a = 23 → hArr h a .long = some (xL s a, .inr (.inl (xJ s a)))) := by
  refine ⟨fun e => ?_, fun e => ?_, fun e => ?_, fun e => ?_⟩ <;>
    (have := (R.2 a (by omega)).1
     unfold xCell at this
     simp [xT, xL, xI, xR, xA, xJ, xO, xZ, e] at this
     simp [hArr, this])
theorem xr_LdI (R : RepX h s) {a : Nat} {i v : Int32} (e : xLdI s a 20 i = some v) : hLdI h a .int i = some v := by
  obtain ⟨e1, e2⟩ := xif e
  unfold hLdI
  rw [(xr_arr R).1 e1, Option.bind_some]
  exact e2
theorem xr_LdB (R : RepX h s) {a : Nat} {i v : Int32} (e : xLdI s a 21 i = some v) : hLdI h a .byte i = some v := by
  obtain ⟨e1, e2⟩ := xif e
  unfold hLdI
  rw [(xr_arr R).2.1 e1, Option.bind_some]
  exact e2
theorem xr_LdZ (R : RepX h s) {a : Nat} {i v : Int32} (e : xLdI s a 22 i = some v) : hLdI h a .boolean i = some v := by
  obtain ⟨e1, e2⟩ := xif e
  unfold hLdI
  rw [(xr_arr R).2.2.1 e1, Option.bind_some]
  exact e2
theorem xr_LdL (R : RepX h s) {a : Nat} {i : Int32} {v : Int64} (e : xLdL s a i = some v) : hLdL h a i = some v := by
  obtain ⟨e1, e2⟩ := xif e
  unfold hLdL
  rw [(xr_arr R).2.2.2 e1, Option.bind_some]
  exact e2
theorem xr_q (R : RepX h s) {a c : Nat} (e : xT s a = 40 + c) : hArr h a (.object (xC c)) = some (xL s a, .inr (.inr (.inr (.inr (xO s a))))) := by
  have := (R.2 a (by omega)).1
  unfold xCell at this
  rw [if_neg (by omega), if_neg (by omega), if_neg (by omega), if_neg (by omega), if_neg (by omega), e, Nat.add_sub_cancel_left] at this
  simp [hArr, this]
theorem xr_LdO (R : RepX h s) {a c : Nat} {i : Int32} {v : Option Nat} (e : xLdO s a c i = some v) : hLdO h a (xC c) i = some v := by
  obtain ⟨e1, e2⟩ := xif e
  unfold hLdO
  rw [xr_q R e1, Option.bind_some]
  exact e2
/-- a cell is written -/
theorem xw_set (R : RepX h s) {s2 : XS} {a : Nat} {x : hE} (ha : xT s a ≠ 0) (ht : xT s2 = xT s) (hz : xZ s2 = xZ s) (hx : xCell s2 a = x) (ho : ∀ b, b ≠ a → xCell s2 b = xCell s b) : RepX (hSet h a x) s2 := by
  refine ⟨R.1.trans hz.symm, fun b hb => ?_⟩
  rw [ht] at hb
  rw [hz]
  by_cases e : b = a
  · subst e
    exact ⟨by simp [xT, xL, xI, xR, xA, xJ, xO, xZ, hSet, hx], (R.2 b hb).2⟩
  · exact ⟨by simp [xT, xL, xI, xR, xA, xJ, xO, xZ, hSet, e, ho b e]; exact (R.2 b hb).1, (R.2 b hb).2⟩
theorem xFs_setI (s : XS) (ci a : Nat) {k : Nat} (v : Int32) (hk : k < xN ci) (hi : xInt ci k = true) : (xFs s ci a).set k (.int v) = xFs (xT s, xL s, xUp (xI s) a k v, xR s, xA s, xJ s, xO s, xZ s) ci a := by
  apply List.ext_getElem?
  intro j
  by_cases hj : j = k
  · subst hj
    rw [List.getElem?_set_self (by rw [xFs_len]; exact hk), xFs_at _ _ _ hk]
    simp [xT, xL, xI, xR, xA, xJ, xO, xZ, hi, xUp]
  · rw [List.getElem?_set_ne (Ne.symm hj)]
    by_cases hl : j < xN ci
    · rw [xFs_at _ _ _ hl, xFs_at _ _ _ hl]
      simp [xT, xL, xI, xR, xA, xJ, xO, xZ, xUp, hj]
    · rw [List.getElem?_eq_none (by rw [xFs_len]; omega), List.getElem?_eq_none (by rw [xFs_len]; omega)]
theorem xFs_setR (s : XS) (ci a : Nat) {k : Nat} (v : Nat) (hk : k < xN ci) (hi : xInt ci k = false) : (xFs s ci a).set k (.ref v) = xFs (xT s, xL s, xI s, xUp (xR s) a k (some v), xA s, xJ s, xO s, xZ s) ci a := by
  apply List.ext_getElem?
  intro j
  by_cases hj : j = k
  · subst hj
    rw [List.getElem?_set_self (by rw [xFs_len]; exact hk), xFs_at _ _ _ hk]
    simp [xT, xL, xI, xR, xA, xJ, xO, xZ, hi, xUp, va_rf]
  · rw [List.getElem?_set_ne (Ne.symm hj)]
    by_cases hl : j < xN ci
    · rw [xFs_at _ _ _ hl, xFs_at _ _ _ hl]
      simp [xT, xL, xI, xR, xA, xJ, xO, xZ, xUp, hj]
    · rw [List.getElem?_eq_none (by rw [xFs_len]; omega), List.getElem?_eq_none (by rw [xFs_len]; omega)]
theorem xw_I (R : RepX h s) {a ci k : Nat} {v : Int32} {s2 : XS} (e : xPutI s a ci k v = some s2) : ∃ h2, hPut h a ci k (.int v) = some h2 ∧ RepX h2 s2 := by
  obtain ⟨⟨e1, e2, e3⟩, e4⟩ := xif e
  cases e4
  have hc : ci < 19 := by rcases xN_le ci with h | h <;> omega
  refine ⟨hSet h a (.inl (ci, (xFs s ci a).set k (.int v))), ?_, xw_set R (by omega) rfl rfl ?_ (fun b hb => ?_)⟩
  · unfold hPut
    rw [xr_obj R e1 hc, Option.bind_some, if_pos (by rw [xFs_len]; exact e3)]
  · unfold xCell
    rw [if_pos (by show xT s a < 20; omega), xFs_setI _ _ _ _ e3 e2]
    show Sum.inl (xT s a - 1, xFs _ (xT s a - 1) a) = _
    rw [e1, Nat.add_sub_cancel]
  · have e9 : ∀ c, xFs (xT s, xL s, xUp (xI s) a k v, xR s, xA s, xJ s, xO s, xZ s) c b = xFs s c b := fun c => by simp [xT, xL, xI, xR, xA, xJ, xO, xZ, xFs, xUp, hb]
    unfold xCell
    rw [e9]
theorem xw_Z (R : RepX h s) {a ci k : Nat} {v : Int32} {s2 : XS} (e : xPutZ s a ci k v = some s2) : ∃ h2, hPutZ h a ci k v = some h2 ∧ RepX h2 s2 := by
  obtain ⟨e1, e2⟩ := xif e
  obtain ⟨h2, e3, R2⟩ := xw_I R e2
  exact ⟨h2, by unfold hPutZ; rw [if_pos e1]; exact e3, R2⟩
theorem xw_R (R : RepX h s) {a ci k : Nat} {b : Nat} {s2 : XS} (e : xPutR s a ci k b = some s2) : ∃ h2, hPut h a ci k (.ref b) = some h2 ∧ RepX h2 s2 := by
  obtain ⟨⟨e1, e2, e3⟩, e4⟩ := xif e
  cases e4
  have hc : ci < 19 := by rcases xN_le ci with h | h <;> omega
  refine ⟨hSet h a (.inl (ci, (xFs s ci a).set k (.ref b))), ?_, xw_set R (by omega) rfl rfl ?_ (fun d hb => ?_)⟩
  · unfold hPut
    rw [xr_obj R e1 hc, Option.bind_some, if_pos (by rw [xFs_len]; exact e3)]
  · unfold xCell
    rw [if_pos (by show xT s a < 20; omega), xFs_setR _ _ _ _ e3 e2]
    show Sum.inl (xT s a - 1, xFs _ (xT s a - 1) a) = _
    rw [e1, Nat.add_sub_cancel]
  · have e9 : ∀ c, xFs (xT s, xL s, xI s, xUp (xR s) a k (some b), xA s, xJ s, xO s, xZ s) c d = xFs s c d := fun c => by simp [xT, xL, xI, xR, xA, xJ, xO, xZ, xFs, xUp, hb]
    unfold xCell
    rw [e9]
theorem xUp_row {α : Type} (f : Nat → Nat → α) (a i : Nat) (v : α) : xUp f a i v a = fun j => if j = i then v else f a j := by funext j; simp [xT, xL, xI, xR, xA, xJ, xO, xZ, xUp]
theorem xUp_ne {α : Type} (f : Nat → Nat → α) {a b : Nat} (i : Nat) (v : α) (hb : b ≠ a) : xUp f a i v b = f b := by funext j; simp [xT, xL, xI, xR, xA, xJ, xO, xZ, xUp, hb]
theorem xw_St (R : RepX h s) {a t : Nat} {i x : Int32} {s2 : XS} {ty : FieldType} (e : xSt s a t i x = some s2) (ht : t = 20 ∧ ty = .int ∨ t = 21 ∧ ty = .byte ∨ t = 22 ∧ ty = .boolean) : ∃ f, hArr h a ty = some (xL s a, .inl f) ∧ ¬ (i < 0 ∨ xL s a ≤ i.toNatClampNeg) ∧ RepX (hSet h a (.inr (ty, xL s a, .inl (upd f i.toNatClampNeg x)))) s2 := by
  obtain ⟨e1, e2⟩ := xif e
  obtain ⟨c, e3⟩ := hnz e2
  cases e3
  refine ⟨xA s a, ?_, c, xw_set R (by omega) rfl rfl ?_ (fun d hb => ?_)⟩
  · rcases ht with ⟨rfl, rfl⟩ | ⟨rfl, rfl⟩ | ⟨rfl, rfl⟩
    · exact (xr_arr R).1 e1
    · exact (xr_arr R).2.1 e1
    · exact (xr_arr R).2.2.1 e1
  · have e5 : xUp (xA s) a i.toNatClampNeg x a = upd (xA s a) i.toNatClampNeg x := xUp_row _ _ _ _
    rcases ht with ⟨rfl, rfl⟩ | ⟨rfl, rfl⟩ | ⟨rfl, rfl⟩ <;> (unfold xCell; simp [xT, xL, xI, xR, xA, xJ, xO, xZ, e1, e5])
  · unfold xCell
    simp [xT, xL, xI, xR, xA, xJ, xO, xZ, xUp_ne _ _ _ hb, xFs]
theorem xw_StI (R : RepX h s) {a : Nat} {i x : Int32} {s2 : XS} (e : xStI s a i x = some s2) : ∃ h2, hStI h a i x = some h2 ∧ RepX h2 s2 := by
  obtain ⟨f, e1, c, R2⟩ := xw_St R e (ty := .int) (Or.inl ⟨rfl, rfl⟩)
  refine ⟨_, ?_, R2⟩
  unfold hStI
  rw [e1, Option.bind_some]
  simp only
  rw [if_neg c]
theorem xw_StB (R : RepX h s) {a : Nat} {i x : Int32} {s2 : XS} (e : xStB s a i x = some s2) : ∃ h2, hStB h a i x = some h2 ∧ RepX h2 s2 := by
  obtain ⟨f, e1, c, R2⟩ := xw_St R e (ty := .byte) (Or.inr (Or.inl ⟨rfl, rfl⟩))
  refine ⟨_, ?_, R2⟩
  unfold hStB
  rw [e1, Option.bind_some]
  simp only
  rw [if_neg c]
theorem xw_StZ (R : RepX h s) {a : Nat} {i x : Int32} {s2 : XS} (e : xStZ s a i x = some s2) : ∃ h2, hStZ h a i x = some h2 ∧ RepX h2 s2 := by
  obtain ⟨f, e1, c, R2⟩ := xw_St R e (ty := .boolean) (Or.inr (Or.inr ⟨rfl, rfl⟩))
  refine ⟨_, ?_, R2⟩
  unfold hStZ
  rw [e1, Option.bind_some]
  simp only
  rw [if_neg c]
theorem xw_StL (R : RepX h s) {a : Nat} {i : Int32} {x : Int64} {s2 : XS} (e : xStL s a i x = some s2) : ∃ h2, hStL h a i x = some h2 ∧ RepX h2 s2 := by
  obtain ⟨e1, e2⟩ := xif e
  obtain ⟨c, e3⟩ := hnz e2
  cases e3
  refine ⟨hSet h a (.inr (.long, xL s a, .inr (.inl (vp_updL (xJ s a) i.toNatClampNeg x)))), ?_, xw_set R (by omega) rfl rfl ?_ (fun d hb => ?_)⟩
  · unfold hStL
    rw [(xr_arr R).2.2.2 e1, Option.bind_some]
    simp only
    rw [if_neg c]
  · have e5 : xUp (xJ s) a i.toNatClampNeg x a = vp_updL (xJ s a) i.toNatClampNeg x := xUp_row _ _ _ _
    unfold xCell
    simp [xT, xL, xI, xR, xA, xJ, xO, xZ, e1, e5]
  · unfold xCell
    simp [xT, xL, xI, xR, xA, xJ, xO, xZ, xUp_ne _ _ _ hb, xFs]
theorem xw_StA (R : RepX h s) {a c b : Nat} {i : Int32} {s2 : XS} (e : xStA s a c i b = some s2) (hc : c < 19 := by decide) : ∃ h2, hStA h a (xC c) i b c = some h2 ∧ RepX h2 s2 := by
  obtain ⟨⟨e0, e1⟩, e2⟩ := xif e
  obtain ⟨cc, e3⟩ := hnz e2
  cases e3
  refine ⟨hSet h a (.inr (.object (xC c), xL s a, .inr (.inr (.inr (.inr (va_up (xO s a) i.toNatClampNeg (some b))))))), ?_, xw_set R (by omega) rfl rfl ?_ (fun d hb => ?_)⟩
  · unfold hStA
    rw [xr_obj R e0 hc, Option.bind_some, xr_q R e1, Option.bind_some]
    simp only
    rw [if_neg cc]
  · have e5 : xUp (xO s) a i.toNatClampNeg (some b) a = va_up (xO s a) i.toNatClampNeg (some b) := xUp_row _ _ _ _
    unfold xCell
    have e1 : s.1 a = 40 + c := e1
    simp only [xT, xL, xI, xR, xA, xJ, xO, xZ]
    rw [if_neg (by omega), if_neg (by omega), if_neg (by omega), if_neg (by omega), if_neg (by omega), e1, Nat.add_sub_cancel_left]
    exact congrArg (fun z => Sum.inr (FieldType.object (xC c), s.2.1 a, Sum.inr (Sum.inr (Sum.inr (Sum.inr z))))) e5
  · unfold xCell
    simp [xT, xL, xI, xR, xA, xJ, xO, xZ, xUp_ne _ _ _ hb, xFs]
theorem xUq_self {α : Type} (f : Nat → α) (a : Nat) (v : α) : xUq f a v a = v := by simp [xT, xL, xI, xR, xA, xJ, xO, xZ, xUq]
theorem xUq_ne {α : Type} (f : Nat → α) {a b : Nat} (v : α) (h : b ≠ a) : xUq f a v b = f b := by simp [xT, xL, xI, xR, xA, xJ, xO, xZ, xUq, h]
theorem xw_add (R : RepX h s) {s2 : XS} {x : hE} (hz : xZ s2 = xZ s + 1) (hx : xCell s2 (xZ s) = x) (ho : ∀ b, b < xZ s → xT s2 b = xT s b ∧ xCell s2 b = xCell s b) (hn : ∀ b, xZ s < b → xT s2 b = xT s b) : RepX (hAdd h x) s2 := by
  refine ⟨by show h.1 + 1 = xZ s2; rw [hz, R.1], fun b hb => ?_⟩
  rcases Nat.lt_trichotomy b (xZ s) with hlt | e | hgt
  · obtain ⟨e1, e2⟩ := ho b hlt
    rw [e1] at hb
    have h9 : b ≠ h.1 := by rw [R.1]; omega
    exact ⟨by simp [xT, xL, xI, xR, xA, xJ, xO, xZ, hAdd, h9, e2]; exact (R.2 b hb).1, by rw [hz]; omega⟩
  · subst e
    exact ⟨by simp [xT, xL, xI, xR, xA, xJ, xO, xZ, hAdd, R.1, hx], by rw [hz]; omega⟩
  · rw [hn b hgt] at hb
    have := (R.2 b hb).2
    omega
theorem xNewO_cell (s : XS) (c b : Nat) (hb : b ≠ xZ s) : xT (xNewO s c) b = xT s b ∧ xCell (xNewO s c) b = xCell s b := by
  have e1 : xT (xNewO s c) b = xT s b := xUq_ne _ _ hb
  refine ⟨e1, ?_⟩
  have e2 : ∀ k, xFs (xNewO s c) k b = xFs s k b := fun k => by simp [xT, xL, xI, xR, xA, xJ, xO, xZ, xFs, xNewO, xUq, hb]
  unfold xCell
  rw [e1, e2]
  simp [xT, xL, xI, xR, xA, xJ, xO, xZ, xNewO]
theorem xNewA_cell (s : XS) (t n b : Nat) (hb : b ≠ xZ s) : xT (xNewA s t n) b = xT s b ∧ xCell (xNewA s t n) b = xCell s b := by
  have e1 : xT (xNewA s t n) b = xT s b := xUq_ne _ _ hb
  refine ⟨e1, ?_⟩
  have e2 : ∀ k, xFs (xNewA s t n) k b = xFs s k b := fun k => by simp [xT, xL, xI, xR, xA, xJ, xO, xZ, xFs, xNewA]
  unfold xCell
  rw [e1, e2]
  simp [xT, xL, xI, xR, xA, xJ, xO, xZ, xNewA, xUq, hb]
theorem xw_new (R : RepX h s) {ci : Nat} {fs : List Value} (hf : (List.range (xN ci)).map (fun k => if xInt ci k then Value.int 0 else Value.null) = fs) (hc : ci < 19 := by decide) : ∃ h2, some (hAdd h (.inl (ci, fs))) = some h2 ∧ RepX h2 (xNewO s ci) ∧ h.1 = xZ s := by
  refine ⟨_, rfl, xw_add R rfl ?_ (fun b hb => xNewO_cell s ci b (by omega)) (fun b hb => (xNewO_cell s ci b (by omega)).1), R.1⟩
  have e1 : xT (xNewO s ci) (xZ s) = ci + 1 := xUq_self _ _ _
  unfold xCell
  rw [e1, if_pos (by omega), Nat.add_sub_cancel, ← hf]
  congr 2
  simp [xT, xL, xI, xR, xA, xJ, xO, xZ, xFs, xNewO, xUq, va_rf]
theorem xw_newI (R : RepX h s) {n : Nat} : ∃ h2, some (hAdd h (.inr (.int, n, .inl (fun _ => 0)))) = some h2 ∧ RepX h2 (xNewA s 20 n) ∧ h.1 = xZ s := by
  refine ⟨_, rfl, xw_add R rfl ?_ (fun b hb => xNewA_cell s 20 n b (by omega)) (fun b hb => (xNewA_cell s 20 n b (by omega)).1), R.1⟩
  unfold xCell
  simp [xT, xL, xI, xR, xA, xJ, xO, xZ, xNewA, xUq]
theorem xw_newB (R : RepX h s) {n : Nat} : ∃ h2, some (hAdd h (.inr (.byte, n, .inl (fun _ => 0)))) = some h2 ∧ RepX h2 (xNewA s 21 n) ∧ h.1 = xZ s := by
  refine ⟨_, rfl, xw_add R rfl ?_ (fun b hb => xNewA_cell s 21 n b (by omega)) (fun b hb => (xNewA_cell s 21 n b (by omega)).1), R.1⟩
  unfold xCell
  simp [xT, xL, xI, xR, xA, xJ, xO, xZ, xNewA, xUq]
theorem xw_newZ (R : RepX h s) {n : Nat} : ∃ h2, some (hAdd h (.inr (.boolean, n, .inl (fun _ => 0)))) = some h2 ∧ RepX h2 (xNewA s 22 n) ∧ h.1 = xZ s := by
  refine ⟨_, rfl, xw_add R rfl ?_ (fun b hb => xNewA_cell s 22 n b (by omega)) (fun b hb => (xNewA_cell s 22 n b (by omega)).1), R.1⟩
  unfold xCell
  simp [xT, xL, xI, xR, xA, xJ, xO, xZ, xNewA, xUq]
theorem xw_newL (R : RepX h s) {n : Nat} : ∃ h2, some (hAdd h (.inr (.long, n, .inr (.inl (fun _ => 0))))) = some h2 ∧ RepX h2 (xNewA s 23 n) ∧ h.1 = xZ s := by
  refine ⟨_, rfl, xw_add R rfl ?_ (fun b hb => xNewA_cell s 23 n b (by omega)) (fun b hb => (xNewA_cell s 23 n b (by omega)).1), R.1⟩
  unfold xCell
  simp [xT, xL, xI, xR, xA, xJ, xO, xZ, xNewA, xUq]
theorem xw_newQ (R : RepX h s) {ci n : Nat} {C : String} (hC : xC ci = C) : ∃ h2, some (hAdd h (.inr (.object C, n, .inr (.inr (.inr (.inr (fun _ => none))))))) = some h2 ∧ RepX h2 (xNewA s (40 + ci) n) ∧ h.1 = xZ s := by
  subst hC
  refine ⟨_, rfl, xw_add R rfl ?_ (fun b hb => xNewA_cell s (40 + ci) n b (by omega)) (fun b hb => (xNewA_cell s (40 + ci) n b (by omega)).1), R.1⟩
  have e1 : xT (xNewA s (40 + ci) n) (xZ s) = 40 + ci := xUq_self _ _ _
  unfold xCell
  rw [e1, if_neg (by omega), if_neg (by omega), if_neg (by omega), if_neg (by omega), if_neg (by omega), Nat.add_sub_cancel_left]
  simp [xT, xL, xI, xR, xA, xJ, xO, xZ, xNewA, xUq]
theorem x_Str_length (R : RepX h s) {i : Nat} {q : Int32 × XS} (e : X_Str_length s i = some q) : ∃ h2, M_Str_length h i = some (q.1, h2) ∧ RepX h2 q.2 := by
  obtain ⟨bs, e1, e2⟩ := hb_some e
  cases e2
  exact ⟨h, by unfold M_Str_length; rw [e1]; rfl, R⟩
theorem x_Str_charAt (R : RepX h s) {i : Nat} {j : Int32} {q : Int32 × XS} (e : X_Str_charAt s i j = some q) : ∃ h2, M_Str_charAt h i j = some (q.1, h2) ∧ RepX h2 q.2 := by
  obtain ⟨bs, e1, e2⟩ := hb_some e
  obtain ⟨c, e2⟩ := hnz e2
  cases e2
  exact ⟨h, by unfold M_Str_charAt; rw [e1, Option.bind_some, if_neg c], R⟩
end RX
