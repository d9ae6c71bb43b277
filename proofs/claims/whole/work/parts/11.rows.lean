section HR
variable {p : Program} {l : Launch} {e : Env} {R : Room} {s : State} {m : MethodId} {args : Array Value} {below : List Frame} {meth : Method} {c : Code} {Q : State → Prop} {cc : ByteArray} {nL : Nat} {Ts : List Cond} {own : String} {G : hSt} {D : va_G} {cl : List vw_C} {K : (Nat → Nat) × (Nat → Nat)} {A : Nat → Prop} {h : hH} {lv : List (Nat × Value)} {k n pc : Nat} {st : List Value}
/-- the machine at pc, over every heap that the pure heap h describes, comes to Q -/
def J (p : Program) (l : Launch) (e : Env) (R : Room) (s : State) (m : MethodId) (args : Array Value) (below : List Frame) (meth : Method) (c : Code) (nL : Nat) (D : va_G) (cl : List vw_C) (A : Nat → Prop) (h : hH) (lv : List (Nat × Value)) (k n : Nat) (Q : State → Prop) (pc : Nat) (st : List Value) : Prop :=
  ∀ (H : Heap) (locs : List Loc) (ls : Array Slot), hw D cl A s H h → va_S A s.heap H locs → lv_has ls nL lv → W p l e R s m args below meth c H locs k n Q (F0 m pc ls st)
theorem J_iconst (X : hCx G p m c cc nL s args Ts own D cl K A) {i : Int} {v : Int32} (hd : decode cc pc = .ok (.iconst i, 1)) (hv : Int32.ofInt i = v) (kk : J p l e R s m args below meth c nL D cl A h lv k n Q (pc + 1) (.int v :: st)) : J p l e R s m args below meth c nL D cl A h lv k n Q pc st := fun H locs ls a b d => lv_iconst X.1 X.2.1 hd hv (kk H locs ls a b d)
theorem J_bipush (X : hCx G p m c cc nL s args Ts own D cl K A) {i : Int} {v : Int32} (hd : decode cc pc = .ok (.bipush i, 2)) (hv : (Int8.ofInt i).toInt32 = v) (kk : J p l e R s m args below meth c nL D cl A h lv k n Q (pc + 2) (.int v :: st)) : J p l e R s m args below meth c nL D cl A h lv k n Q pc st := fun H locs ls a b d => lv_bipush X.1 X.2.1 hd hv (kk H locs ls a b d)
theorem J_sipush (X : hCx G p m c cc nL s args Ts own D cl K A) {i : Int} {v : Int32} (hd : decode cc pc = .ok (.sipush i, 3)) (hv : (Int16.ofInt i).toInt32 = v) (kk : J p l e R s m args below meth c nL D cl A h lv k n Q (pc + 3) (.int v :: st)) : J p l e R s m args below meth c nL D cl A h lv k n Q pc st := fun H locs ls a b d => lv_sipush X.1 X.2.1 hd hv (kk H locs ls a b d)
theorem J_lconst (X : hCx G p m c cc nL s args Ts own D cl K A) {i : Fin 2} {v : Int64} (hd : decode cc pc = .ok (.lconst i, 1)) (hv : Int64.ofNat (i : Nat) = v) (kk : J p l e R s m args below meth c nL D cl A h lv k n Q (pc + 1) (.long v :: st)) : J p l e R s m args below meth c nL D cl A h lv k n Q pc st := fun H locs ls a b d => lv_lconst X.1 X.2.1 hd hv (kk H locs ls a b d)
theorem J_ldc (X : hCx G p m c cc nL s args Ts own D cl K A) {i : Nat} {v : Int32} (hc : (Jvm.Cond.constant own i v) ∈ Ts) (hd : decode cc pc = .ok (.ldc i, 2)) (kk : J p l e R s m args below meth c nL D cl A h lv k n Q (pc + 2) (.int v :: st)) : J p l e R s m args below meth c nL D cl A h lv k n Q pc st := fun H locs ls a b d => lv_ldc X.1 X.2.1 X.2.2.2.1 (X.2.2.2.2.1 _ hc) hd (kk H locs ls a b d)
theorem J_ldc2 (X : hCx G p m c cc nL s args Ts own D cl K A) {i : Nat} {v : Int64} (hc : (Jvm.Cond.constantLong own i v) ∈ Ts) (hd : decode cc pc = .ok (.ldc2_w i, 3)) (kk : J p l e R s m args below meth c nL D cl A h lv k n Q (pc + 3) (.long v :: st)) : J p l e R s m args below meth c nL D cl A h lv k n Q pc st := fun H locs ls a b d => lv_ldc2 X.1 X.2.1 X.2.2.2.1 (X.2.2.2.2.1 _ hc) hd (kk H locs ls a b d)
theorem J_null (X : hCx G p m c cc nL s args Ts own D cl K A)  (hd : decode cc pc = .ok (.aconst_null, 1)) (kk : J p l e R s m args below meth c nL D cl A h lv k n Q (pc + 1) (.null :: st)) : J p l e R s m args below meth c nL D cl A h lv k n Q pc st := fun H locs ls a b d => lv_null X.1 X.2.1 hd (kk H locs ls a b d)
theorem J_iload_n (X : hCx G p m c cc nL s args Ts own D cl K A) (q : Nat) {i : Fin 4} {x : Int32} (hd : decode cc pc = .ok (.iload_n i, 1)) (hq : lv[q]? = some ((i : Nat), .int x)) (kk : J p l e R s m args below meth c nL D cl A h lv k n Q (pc + 1) (.int x :: st)) : J p l e R s m args below meth c nL D cl A h lv k n Q pc st := fun H locs ls a b d => lv_iload_n X.1 X.2.1 hd rfl (lv_at d q hq) (kk H locs ls a b d)
theorem J_iload (X : hCx G p m c cc nL s args Ts own D cl K A) (q : Nat) {i : Nat} {x : Int32} (hd : decode cc pc = .ok (.iload i, 2)) (hq : lv[q]? = some (i, .int x)) (kk : J p l e R s m args below meth c nL D cl A h lv k n Q (pc + 2) (.int x :: st)) : J p l e R s m args below meth c nL D cl A h lv k n Q pc st := fun H locs ls a b d => lv_iload X.1 X.2.1 hd (lv_at d q hq) (kk H locs ls a b d)
theorem J_lload_n (X : hCx G p m c cc nL s args Ts own D cl K A) (q : Nat) {i : Fin 4} {x : Int64} (hd : decode cc pc = .ok (.lload_n i, 1)) (hq : lv[q]? = some ((i : Nat), .long x)) (kk : J p l e R s m args below meth c nL D cl A h lv k n Q (pc + 1) (.long x :: st)) : J p l e R s m args below meth c nL D cl A h lv k n Q pc st := fun H locs ls a b d => lv_lload_n X.1 X.2.1 hd rfl (lv_at d q hq) (kk H locs ls a b d)
theorem J_lload (X : hCx G p m c cc nL s args Ts own D cl K A) (q : Nat) {i : Nat} {x : Int64} (hd : decode cc pc = .ok (.lload i, 2)) (hq : lv[q]? = some (i, .long x)) (kk : J p l e R s m args below meth c nL D cl A h lv k n Q (pc + 2) (.long x :: st)) : J p l e R s m args below meth c nL D cl A h lv k n Q pc st := fun H locs ls a b d => lv_lload X.1 X.2.1 hd (lv_at d q hq) (kk H locs ls a b d)
theorem J_aload_n (X : hCx G p m c cc nL s args Ts own D cl K A) (q : Nat) {i : Fin 4} {x : Nat} (hd : decode cc pc = .ok (.aload_n i, 1)) (hq : lv[q]? = some ((i : Nat), .ref x)) (kk : J p l e R s m args below meth c nL D cl A h lv k n Q (pc + 1) (.ref x :: st)) : J p l e R s m args below meth c nL D cl A h lv k n Q pc st := fun H locs ls a b d => lv_aload_n X.1 X.2.1 hd rfl (lv_at d q hq) (kk H locs ls a b d)
theorem J_aload (X : hCx G p m c cc nL s args Ts own D cl K A) (q : Nat) {i : Nat} {x : Nat} (hd : decode cc pc = .ok (.aload i, 2)) (hq : lv[q]? = some (i, .ref x)) (kk : J p l e R s m args below meth c nL D cl A h lv k n Q (pc + 2) (.ref x :: st)) : J p l e R s m args below meth c nL D cl A h lv k n Q pc st := fun H locs ls a b d => lv_aload X.1 X.2.1 hd (lv_at d q hq) (kk H locs ls a b d)
theorem J_aloadO_n (X : hCx G p m c cc nL s args Ts own D cl K A) (q : Nat) {i : Fin 4} {x : Option Nat} (hd : decode cc pc = .ok (.aload_n i, 1)) (hq : lv[q]? = some ((i : Nat), va_rf x)) (kk : J p l e R s m args below meth c nL D cl A h lv k n Q (pc + 1) (va_rf x :: st)) : J p l e R s m args below meth c nL D cl A h lv k n Q pc st := by
  cases x with
  | none => exact fun H locs ls a b d => lv_aload_nN X.1 X.2.1 hd rfl (lv_at d q hq) (kk H locs ls a b d)
  | some y => exact fun H locs ls a b d => lv_aload_n X.1 X.2.1 hd rfl (lv_at d q hq) (kk H locs ls a b d)
theorem J_aloadO (X : hCx G p m c cc nL s args Ts own D cl K A) (q : Nat) {i : Nat} {x : Option Nat} (hd : decode cc pc = .ok (.aload i, 2)) (hq : lv[q]? = some (i, va_rf x)) (kk : J p l e R s m args below meth c nL D cl A h lv k n Q (pc + 2) (va_rf x :: st)) : J p l e R s m args below meth c nL D cl A h lv k n Q pc st := by
  cases x with
  | none => exact fun H locs ls a b d => lv_aloadN X.1 X.2.1 hd (lv_at d q hq) (kk H locs ls a b d)
  | some y => exact fun H locs ls a b d => lv_aload X.1 X.2.1 hd (lv_at d q hq) (kk H locs ls a b d)
theorem J_istore_n (X : hCx G p m c cc nL s args Ts own D cl K A) {kf : Fin 4} {i : Nat} {x : Int32} {lv' : List (Nat × Value)} (hd : decode cc pc = .ok (.istore_n kf, 1)) (hi : (kf : Nat) = i) (hn : i < nL) (hl : (i, Value.int x) :: lv.filter (fun q => !(q.1 == i) && !(q.1 + 1 == i && q.2.category == 2)) = lv') (kk : J p l e R s m args below meth c nL D cl A h lv' k n Q (pc + 1) st) : J p l e R s m args below meth c nL D cl A h lv k n Q pc (Value.int x :: st) := fun H locs ls a b d => lv_istore_n X.1 X.2.1 hd hi d hn hl (fun ls2 d2 => kk H locs ls2 a b d2)
theorem J_istore (X : hCx G p m c cc nL s args Ts own D cl K A) {i : Nat} {x : Int32} {lv' : List (Nat × Value)} (hd : decode cc pc = .ok (.istore i, 2)) (hn : i < nL) (hl : (i, Value.int x) :: lv.filter (fun q => !(q.1 == i) && !(q.1 + 1 == i && q.2.category == 2)) = lv') (kk : J p l e R s m args below meth c nL D cl A h lv' k n Q (pc + 2) st) : J p l e R s m args below meth c nL D cl A h lv k n Q pc (Value.int x :: st) := fun H locs ls a b d => lv_istore X.1 X.2.1 hd d hn hl (fun ls2 d2 => kk H locs ls2 a b d2)
theorem J_lstore_n (X : hCx G p m c cc nL s args Ts own D cl K A) {kf : Fin 4} {i : Nat} {x : Int64} {lv' : List (Nat × Value)} (hd : decode cc pc = .ok (.lstore_n kf, 1)) (hi : (kf : Nat) = i) (hn : i + 1 < nL) (hl : (i, Value.long x) :: lv.filter (fun q => !(q.1 == i) && (!(q.1 == i + 1) && !(q.1 + 1 == i && q.2.category == 2))) = lv') (kk : J p l e R s m args below meth c nL D cl A h lv' k n Q (pc + 1) st) : J p l e R s m args below meth c nL D cl A h lv k n Q pc (Value.long x :: st) := fun H locs ls a b d => lv_lstore_n X.1 X.2.1 hd hi d hn hl (fun ls2 d2 => kk H locs ls2 a b d2)
theorem J_lstore (X : hCx G p m c cc nL s args Ts own D cl K A) {i : Nat} {x : Int64} {lv' : List (Nat × Value)} (hd : decode cc pc = .ok (.lstore i, 2)) (hn : i + 1 < nL) (hl : (i, Value.long x) :: lv.filter (fun q => !(q.1 == i) && (!(q.1 == i + 1) && !(q.1 + 1 == i && q.2.category == 2))) = lv') (kk : J p l e R s m args below meth c nL D cl A h lv' k n Q (pc + 2) st) : J p l e R s m args below meth c nL D cl A h lv k n Q pc (Value.long x :: st) := fun H locs ls a b d => lv_lstore X.1 X.2.1 hd d hn hl (fun ls2 d2 => kk H locs ls2 a b d2)
theorem J_astore_n (X : hCx G p m c cc nL s args Ts own D cl K A) {kf : Fin 4} {i : Nat} {x : Nat} {lv' : List (Nat × Value)} (hd : decode cc pc = .ok (.astore_n kf, 1)) (hi : (kf : Nat) = i) (hn : i < nL) (hl : (i, Value.ref x) :: lv.filter (fun q => !(q.1 == i) && !(q.1 + 1 == i && q.2.category == 2)) = lv') (kk : J p l e R s m args below meth c nL D cl A h lv' k n Q (pc + 1) st) : J p l e R s m args below meth c nL D cl A h lv k n Q pc (Value.ref x :: st) := fun H locs ls a b d => lv_astore_n X.1 X.2.1 hd hi d hn hl (fun ls2 d2 => kk H locs ls2 a b d2)
theorem J_astore (X : hCx G p m c cc nL s args Ts own D cl K A) {i : Nat} {x : Nat} {lv' : List (Nat × Value)} (hd : decode cc pc = .ok (.astore i, 2)) (hn : i < nL) (hl : (i, Value.ref x) :: lv.filter (fun q => !(q.1 == i) && !(q.1 + 1 == i && q.2.category == 2)) = lv') (kk : J p l e R s m args below meth c nL D cl A h lv' k n Q (pc + 2) st) : J p l e R s m args below meth c nL D cl A h lv k n Q pc (Value.ref x :: st) := fun H locs ls a b d => lv_astore X.1 X.2.1 hd d hn hl (fun ls2 d2 => kk H locs ls2 a b d2)
theorem J_astoreO_n (X : hCx G p m c cc nL s args Ts own D cl K A) {kf : Fin 4} {i : Nat} {x : Option Nat} {lv' : List (Nat × Value)} (hd : decode cc pc = .ok (.astore_n kf, 1)) (hi : (kf : Nat) = i) (hn : i < nL) (hl : (i, va_rf x) :: lv.filter (fun q => !(q.1 == i) && !(q.1 + 1 == i && q.2.category == 2)) = lv') (kk : J p l e R s m args below meth c nL D cl A h lv' k n Q (pc + 1) st) : J p l e R s m args below meth c nL D cl A h lv k n Q pc (va_rf x :: st) := by
  cases x with
  | none => exact fun H locs ls a b d => lv_astore_nN X.1 X.2.1 hd hi d hn hl (fun ls2 d2 => kk H locs ls2 a b d2)
  | some y => exact fun H locs ls a b d => lv_astore_n X.1 X.2.1 hd hi d hn hl (fun ls2 d2 => kk H locs ls2 a b d2)
theorem J_astoreO (X : hCx G p m c cc nL s args Ts own D cl K A) {i : Nat} {x : Option Nat} {lv' : List (Nat × Value)} (hd : decode cc pc = .ok (.astore i, 2)) (hn : i < nL) (hl : (i, va_rf x) :: lv.filter (fun q => !(q.1 == i) && !(q.1 + 1 == i && q.2.category == 2)) = lv') (kk : J p l e R s m args below meth c nL D cl A h lv' k n Q (pc + 2) st) : J p l e R s m args below meth c nL D cl A h lv k n Q pc (va_rf x :: st) := by
  cases x with
  | none => exact fun H locs ls a b d => lv_astoreN X.1 X.2.1 hd d hn hl (fun ls2 d2 => kk H locs ls2 a b d2)
  | some y => exact fun H locs ls a b d => lv_astore X.1 X.2.1 hd d hn hl (fun ls2 d2 => kk H locs ls2 a b d2)
theorem J_iinc (X : hCx G p m c cc nL s args Ts own D cl K A) (q : Nat) {i : Nat} {z : Int} {x v : Int32} {lv' : List (Nat × Value)} (hd : decode cc pc = .ok (.iinc i z, 3)) (hq : lv[q]? = some (i, .int x)) (hv : x + Int32.ofInt z = v) (hn : i < nL) (hl : (i, Value.int v) :: lv.filter (fun q => !(q.1 == i) && !(q.1 + 1 == i && q.2.category == 2)) = lv') (kk : J p l e R s m args below meth c nL D cl A h lv' k n Q (pc + 3) st) : J p l e R s m args below meth c nL D cl A h lv k n Q pc st := fun H locs ls a b d => lv_iinc X.1 X.2.1 hd d hq hv hn hl (fun ls2 d2 => kk H locs ls2 a b d2)
theorem J_iadd (X : hCx G p m c cc nL s args Ts own D cl K A) {x y : Int32} (hd : decode cc pc = .ok (.iadd, 1)) (kk : J p l e R s m args below meth c nL D cl A h lv k n Q (pc + 1) (.int (x + y) :: st)) : J p l e R s m args below meth c nL D cl A h lv k n Q pc (.int y :: .int x :: st) := fun H locs ls a b d => lv_iadd X.1 X.2.1 hd (kk H locs ls a b d)
theorem J_isub (X : hCx G p m c cc nL s args Ts own D cl K A) {x y : Int32} (hd : decode cc pc = .ok (.isub, 1)) (kk : J p l e R s m args below meth c nL D cl A h lv k n Q (pc + 1) (.int (x - y) :: st)) : J p l e R s m args below meth c nL D cl A h lv k n Q pc (.int y :: .int x :: st) := fun H locs ls a b d => lv_isub X.1 X.2.1 hd (kk H locs ls a b d)
theorem J_imul (X : hCx G p m c cc nL s args Ts own D cl K A) {x y : Int32} (hd : decode cc pc = .ok (.imul, 1)) (kk : J p l e R s m args below meth c nL D cl A h lv k n Q (pc + 1) (.int (x * y) :: st)) : J p l e R s m args below meth c nL D cl A h lv k n Q pc (.int y :: .int x :: st) := fun H locs ls a b d => lv_imul X.1 X.2.1 hd (kk H locs ls a b d)
theorem J_iand (X : hCx G p m c cc nL s args Ts own D cl K A) {x y : Int32} (hd : decode cc pc = .ok (.iand, 1)) (kk : J p l e R s m args below meth c nL D cl A h lv k n Q (pc + 1) (.int (x &&& y) :: st)) : J p l e R s m args below meth c nL D cl A h lv k n Q pc (.int y :: .int x :: st) := fun H locs ls a b d => lv_iand X.1 X.2.1 hd (kk H locs ls a b d)
theorem J_ior (X : hCx G p m c cc nL s args Ts own D cl K A) {x y : Int32} (hd : decode cc pc = .ok (.ior, 1)) (kk : J p l e R s m args below meth c nL D cl A h lv k n Q (pc + 1) (.int (x ||| y) :: st)) : J p l e R s m args below meth c nL D cl A h lv k n Q pc (.int y :: .int x :: st) := fun H locs ls a b d => lv_ior X.1 X.2.1 hd (kk H locs ls a b d)
theorem J_ixor (X : hCx G p m c cc nL s args Ts own D cl K A) {x y : Int32} (hd : decode cc pc = .ok (.ixor, 1)) (kk : J p l e R s m args below meth c nL D cl A h lv k n Q (pc + 1) (.int (x ^^^ y) :: st)) : J p l e R s m args below meth c nL D cl A h lv k n Q pc (.int y :: .int x :: st) := fun H locs ls a b d => lv_ixor X.1 X.2.1 hd (kk H locs ls a b d)
theorem J_ladd (X : hCx G p m c cc nL s args Ts own D cl K A) {x y : Int64} (hd : decode cc pc = .ok (.ladd, 1)) (kk : J p l e R s m args below meth c nL D cl A h lv k n Q (pc + 1) (.long (x + y) :: st)) : J p l e R s m args below meth c nL D cl A h lv k n Q pc (.long y :: .long x :: st) := fun H locs ls a b d => lv_ladd X.1 X.2.1 hd (kk H locs ls a b d)
theorem J_lsub (X : hCx G p m c cc nL s args Ts own D cl K A) {x y : Int64} (hd : decode cc pc = .ok (.lsub, 1)) (kk : J p l e R s m args below meth c nL D cl A h lv k n Q (pc + 1) (.long (x - y) :: st)) : J p l e R s m args below meth c nL D cl A h lv k n Q pc (.long y :: .long x :: st) := fun H locs ls a b d => lv_lsub X.1 X.2.1 hd (kk H locs ls a b d)
theorem J_lmul (X : hCx G p m c cc nL s args Ts own D cl K A) {x y : Int64} (hd : decode cc pc = .ok (.lmul, 1)) (kk : J p l e R s m args below meth c nL D cl A h lv k n Q (pc + 1) (.long (x * y) :: st)) : J p l e R s m args below meth c nL D cl A h lv k n Q pc (.long y :: .long x :: st) := fun H locs ls a b d => lv_lmul X.1 X.2.1 hd (kk H locs ls a b d)
theorem J_land (X : hCx G p m c cc nL s args Ts own D cl K A) {x y : Int64} (hd : decode cc pc = .ok (.land, 1)) (kk : J p l e R s m args below meth c nL D cl A h lv k n Q (pc + 1) (.long (x &&& y) :: st)) : J p l e R s m args below meth c nL D cl A h lv k n Q pc (.long y :: .long x :: st) := fun H locs ls a b d => lv_land X.1 X.2.1 hd (kk H locs ls a b d)
theorem J_lor (X : hCx G p m c cc nL s args Ts own D cl K A) {x y : Int64} (hd : decode cc pc = .ok (.lor, 1)) (kk : J p l e R s m args below meth c nL D cl A h lv k n Q (pc + 1) (.long (x ||| y) :: st)) : J p l e R s m args below meth c nL D cl A h lv k n Q pc (.long y :: .long x :: st) := fun H locs ls a b d => lv_lor X.1 X.2.1 hd (kk H locs ls a b d)
theorem J_lxor (X : hCx G p m c cc nL s args Ts own D cl K A) {x y : Int64} (hd : decode cc pc = .ok (.lxor, 1)) (kk : J p l e R s m args below meth c nL D cl A h lv k n Q (pc + 1) (.long (x ^^^ y) :: st)) : J p l e R s m args below meth c nL D cl A h lv k n Q pc (.long y :: .long x :: st) := fun H locs ls a b d => lv_lxor X.1 X.2.1 hd (kk H locs ls a b d)
theorem J_ldiv (X : hCx G p m c cc nL s args Ts own D cl K A) {x y : Int64} (hd : decode cc pc = .ok (.ldiv, 1)) (hne : ¬ y = 0) (kk : J p l e R s m args below meth c nL D cl A h lv k n Q (pc + 1) (.long (x / y) :: st)) : J p l e R s m args below meth c nL D cl A h lv k n Q pc (.long y :: .long x :: st) := fun H locs ls a b d => lv_ldiv X.1 X.2.1 hd hne (kk H locs ls a b d)
theorem J_lrem (X : hCx G p m c cc nL s args Ts own D cl K A) {x y : Int64} (hd : decode cc pc = .ok (.lrem, 1)) (hne : ¬ y = 0) (kk : J p l e R s m args below meth c nL D cl A h lv k n Q (pc + 1) (.long (x - x / y * y) :: st)) : J p l e R s m args below meth c nL D cl A h lv k n Q pc (.long y :: .long x :: st) := fun H locs ls a b d => lv_lrem X.1 X.2.1 hd hne (kk H locs ls a b d)
theorem J_idiv (X : hCx G p m c cc nL s args Ts own D cl K A) {x y : Int32} (hd : decode cc pc = .ok (.idiv, 1)) (hne : ¬ y = 0) (kk : J p l e R s m args below meth c nL D cl A h lv k n Q (pc + 1) (.int (x / y) :: st)) : J p l e R s m args below meth c nL D cl A h lv k n Q pc (.int y :: .int x :: st) := fun H locs ls a b d => lv_idiv X.1 X.2.1 hd hne (kk H locs ls a b d)
theorem J_irem (X : hCx G p m c cc nL s args Ts own D cl K A) {x y : Int32} (hd : decode cc pc = .ok (.irem, 1)) (hne : ¬ y = 0) (kk : J p l e R s m args below meth c nL D cl A h lv k n Q (pc + 1) (.int (x - x / y * y) :: st)) : J p l e R s m args below meth c nL D cl A h lv k n Q pc (.int y :: .int x :: st) := fun H locs ls a b d => lv_irem X.1 X.2.1 hd hne (kk H locs ls a b d)
theorem J_ineg (X : hCx G p m c cc nL s args Ts own D cl K A) {x : Int32} (hd : decode cc pc = .ok (.ineg, 1)) (kk : J p l e R s m args below meth c nL D cl A h lv k n Q (pc + 1) (.int (-x) :: st)) : J p l e R s m args below meth c nL D cl A h lv k n Q pc (.int x :: st) := fun H locs ls a b d => lv_ineg X.1 X.2.1 hd (kk H locs ls a b d)
theorem J_lneg (X : hCx G p m c cc nL s args Ts own D cl K A) {x : Int64} (hd : decode cc pc = .ok (.lneg, 1)) (kk : J p l e R s m args below meth c nL D cl A h lv k n Q (pc + 1) (.long (-x) :: st)) : J p l e R s m args below meth c nL D cl A h lv k n Q pc (.long x :: st) := fun H locs ls a b d => lv_lneg X.1 X.2.1 hd (kk H locs ls a b d)
theorem J_i2l (X : hCx G p m c cc nL s args Ts own D cl K A) {x : Int32} (hd : decode cc pc = .ok (.i2l, 1)) (kk : J p l e R s m args below meth c nL D cl A h lv k n Q (pc + 1) (.long x.toInt64 :: st)) : J p l e R s m args below meth c nL D cl A h lv k n Q pc (.int x :: st) := fun H locs ls a b d => lv_i2l X.1 X.2.1 hd rfl (kk H locs ls a b d)
theorem J_l2i (X : hCx G p m c cc nL s args Ts own D cl K A) {x : Int64} (hd : decode cc pc = .ok (.l2i, 1)) (kk : J p l e R s m args below meth c nL D cl A h lv k n Q (pc + 1) (.int x.toInt32 :: st)) : J p l e R s m args below meth c nL D cl A h lv k n Q pc (.long x :: st) := fun H locs ls a b d => lv_l2i X.1 X.2.1 hd rfl (kk H locs ls a b d)
theorem J_i2b (X : hCx G p m c cc nL s args Ts own D cl K A) {x : Int32} (hd : decode cc pc = .ok (.i2b, 1)) (kk : J p l e R s m args below meth c nL D cl A h lv k n Q (pc + 1) (.int x.toInt8.toInt32 :: st)) : J p l e R s m args below meth c nL D cl A h lv k n Q pc (.int x :: st) := fun H locs ls a b d => lv_i2b X.1 X.2.1 hd rfl (kk H locs ls a b d)
theorem J_i2c (X : hCx G p m c cc nL s args Ts own D cl K A) {x : Int32} (hd : decode cc pc = .ok (.i2c, 1)) (kk : J p l e R s m args below meth c nL D cl A h lv k n Q (pc + 1) (.int (x.toUInt32 % 65536).toInt32 :: st)) : J p l e R s m args below meth c nL D cl A h lv k n Q pc (.int x :: st) := fun H locs ls a b d => lv_i2c X.1 X.2.1 hd rfl (kk H locs ls a b d)
theorem J_ishl (X : hCx G p m c cc nL s args Ts own D cl K A) {x y : Int32} (hd : decode cc pc = .ok (.ishl, 1)) (kk : J p l e R s m args below meth c nL D cl A h lv k n Q (pc + 1) (.int (x <<< (y &&& 31)) :: st)) : J p l e R s m args below meth c nL D cl A h lv k n Q pc (.int y :: .int x :: st) := fun H locs ls a b d => lv_ishl X.1 X.2.1 hd (kk H locs ls a b d)
theorem J_ishr (X : hCx G p m c cc nL s args Ts own D cl K A) {x y : Int32} (hd : decode cc pc = .ok (.ishr, 1)) (kk : J p l e R s m args below meth c nL D cl A h lv k n Q (pc + 1) (.int (x >>> (y &&& 31)) :: st)) : J p l e R s m args below meth c nL D cl A h lv k n Q pc (.int y :: .int x :: st) := fun H locs ls a b d => lv_ishr X.1 X.2.1 hd (kk H locs ls a b d)
theorem J_lshl (X : hCx G p m c cc nL s args Ts own D cl K A) {x : Int64} {y : Int32} (hd : decode cc pc = .ok (.lshl, 1)) (kk : J p l e R s m args below meth c nL D cl A h lv k n Q (pc + 1) (.long (x <<< (y.toInt64 &&& 63)) :: st)) : J p l e R s m args below meth c nL D cl A h lv k n Q pc (.int y :: .long x :: st) := fun H locs ls a b d => lv_lshl X.1 X.2.1 hd rfl (kk H locs ls a b d)
theorem J_lcmp (X : hCx G p m c cc nL s args Ts own D cl K A) {x y : Int64} (hd : decode cc pc = .ok (.lcmp, 1)) (kk : J p l e R s m args below meth c nL D cl A h lv k n Q (pc + 1) (.int (lg_cmp x y) :: st)) : J p l e R s m args below meth c nL D cl A h lv k n Q pc (.long y :: .long x :: st) := fun H locs ls a b d => W.lcmp X.1 X.2.1 hd (kk H locs ls a b d)
theorem J_dup (X : hCx G p m c cc nL s args Ts own D cl K A) {v : Value} (hd : decode cc pc = .ok (.dup, 1)) (hc : v.category = 1) (kk : J p l e R s m args below meth c nL D cl A h lv k n Q (pc + 1) (v :: v :: st)) : J p l e R s m args below meth c nL D cl A h lv k n Q pc (v :: st) := fun H locs ls a b d => lv_dup X.1 X.2.1 hd hc (kk H locs ls a b d)
theorem J_pop (X : hCx G p m c cc nL s args Ts own D cl K A) {v : Value} (hd : decode cc pc = .ok (.pop, 1)) (hc : v.category = 1) (kk : J p l e R s m args below meth c nL D cl A h lv k n Q (pc + 1) st) : J p l e R s m args below meth c nL D cl A h lv k n Q pc (v :: st) := fun H locs ls a b d => lv_pop X.1 X.2.1 hd hc (kk H locs ls a b d)
theorem J_pop2 (X : hCx G p m c cc nL s args Ts own D cl K A) {v : Value} (hd : decode cc pc = .ok (.pop2, 1)) (hc : v.category = 2) (kk : J p l e R s m args below meth c nL D cl A h lv k n Q (pc + 1) st) : J p l e R s m args below meth c nL D cl A h lv k n Q pc (v :: st) := fun H locs ls a b d => lv_pop2_2 X.1 X.2.1 hd hc (kk H locs ls a b d)
theorem J_dup_x1 (X : hCx G p m c cc nL s args Ts own D cl K A) {v u : Value} (hd : decode cc pc = .ok (.dup_x1, 1)) (hc : v.category = 1) (hc2 : u.category = 1) (kk : J p l e R s m args below meth c nL D cl A h lv k n Q (pc + 1) (v :: u :: v :: st)) : J p l e R s m args below meth c nL D cl A h lv k n Q pc (v :: u :: st) := fun H locs ls a b d => lv_dup_x1 X.1 X.2.1 hd hc hc2 (kk H locs ls a b d)
theorem J_dup_x2 (X : hCx G p m c cc nL s args Ts own D cl K A) {v u t : Value} (hd : decode cc pc = .ok (.dup_x2, 1)) (hc : v.category = 1) (hc2 : u.category = 1) (hc3 : t.category = 1) (kk : J p l e R s m args below meth c nL D cl A h lv k n Q (pc + 1) (v :: u :: t :: v :: st)) : J p l e R s m args below meth c nL D cl A h lv k n Q pc (v :: u :: t :: st) := fun H locs ls a b d => lv_dup_x2 X.1 X.2.1 hd hc hc2 hc3 (kk H locs ls a b d)
theorem J_dup2 (X : hCx G p m c cc nL s args Ts own D cl K A) {v u : Value} (hd : decode cc pc = .ok (.dup2, 1)) (hc : v.category = 1) (hc2 : u.category = 1) (kk : J p l e R s m args below meth c nL D cl A h lv k n Q (pc + 1) (v :: u :: v :: u :: st)) : J p l e R s m args below meth c nL D cl A h lv k n Q pc (v :: u :: st) := fun H locs ls a b d => lv_dup2_11 X.1 X.2.1 hd hc hc2 (kk H locs ls a b d)
theorem J_dup2L (X : hCx G p m c cc nL s args Ts own D cl K A) {v : Value} (hd : decode cc pc = .ok (.dup2, 1)) (hc : v.category = 2) (kk : J p l e R s m args below meth c nL D cl A h lv k n Q (pc + 1) (v :: v :: st)) : J p l e R s m args below meth c nL D cl A h lv k n Q pc (v :: st) := fun H locs ls a b d => lv_dup2_2 X.1 X.2.1 hd hc (kk H locs ls a b d)
theorem J_dup2_x1L (X : hCx G p m c cc nL s args Ts own D cl K A) {v u : Value} (hd : decode cc pc = .ok (.dup2_x1, 1)) (hc : v.category = 2) (hc2 : u.category = 1) (kk : J p l e R s m args below meth c nL D cl A h lv k n Q (pc + 1) (v :: u :: v :: st)) : J p l e R s m args below meth c nL D cl A h lv k n Q pc (v :: u :: st) := fun H locs ls a b d => lv_dup2_x1_2 X.1 X.2.1 hd hc hc2 (kk H locs ls a b d)
theorem J_dup2_x2L (X : hCx G p m c cc nL s args Ts own D cl K A) {v u t : Value} (hd : decode cc pc = .ok (.dup2_x2, 1)) (hc : v.category = 2) (hc2 : u.category = 1) (hc3 : t.category = 1) (kk : J p l e R s m args below meth c nL D cl A h lv k n Q (pc + 1) (v :: u :: t :: v :: st)) : J p l e R s m args below meth c nL D cl A h lv k n Q pc (v :: u :: t :: st) := fun H locs ls a b d => lv_dup2_x2_2 X.1 X.2.1 hd hc hc2 hc3 (kk H locs ls a b d)
theorem J_goto (X : hCx G p m c cc nL s args Ts own D cl K A) {off : Int} {tgt : Nat} (hd : decode cc pc = .ok (.goto off, 3)) (ht : (pc : Int) + off = (tgt : Int)) (kk : J p l e R s m args below meth c nL D cl A h lv k n Q tgt st) : J p l e R s m args below meth c nL D cl A h lv k n Q pc st := fun H locs ls a b d => lv_goto X.1 X.2.1 hd ht (kk H locs ls a b d)
theorem J_if_eq (X : hCx G p m c cc nL s args Ts own D cl K A) {x : Int32} {off : Int} {tgt : Nat} (hd : decode cc pc = .ok (.ifCond .eq off, 3)) (ht : (pc : Int) + off = (tgt : Int)) (kt : x = 0 → J p l e R s m args below meth c nL D cl A h lv k n Q tgt st) (kf : ¬ (x = 0) → J p l e R s m args below meth c nL D cl A h lv k n Q (pc + 3) st) : J p l e R s m args below meth c nL D cl A h lv k n Q pc (.int x :: st) := fun H locs ls a b d => lv_if_eq X.1 X.2.1 hd ht (fun z => kt z H locs ls a b d) (fun z => kf z H locs ls a b d)
theorem J_icmp_eq (X : hCx G p m c cc nL s args Ts own D cl K A) {x y : Int32} {off : Int} {tgt : Nat} (hd : decode cc pc = .ok (.if_icmp .eq off, 3)) (ht : (pc : Int) + off = (tgt : Int)) (kt : x = y → J p l e R s m args below meth c nL D cl A h lv k n Q tgt st) (kf : ¬ (x = y) → J p l e R s m args below meth c nL D cl A h lv k n Q (pc + 3) st) : J p l e R s m args below meth c nL D cl A h lv k n Q pc (.int y :: .int x :: st) := fun H locs ls a b d => lv_icmp_eq X.1 X.2.1 hd ht (fun z => kt z H locs ls a b d) (fun z => kf z H locs ls a b d)
theorem J_if_ne (X : hCx G p m c cc nL s args Ts own D cl K A) {x : Int32} {off : Int} {tgt : Nat} (hd : decode cc pc = .ok (.ifCond .ne off, 3)) (ht : (pc : Int) + off = (tgt : Int)) (kt : ¬ (x = 0) → J p l e R s m args below meth c nL D cl A h lv k n Q tgt st) (kf : x = 0 → J p l e R s m args below meth c nL D cl A h lv k n Q (pc + 3) st) : J p l e R s m args below meth c nL D cl A h lv k n Q pc (.int x :: st) := fun H locs ls a b d => lv_if_ne X.1 X.2.1 hd ht (fun z => kt z H locs ls a b d) (fun z => kf z H locs ls a b d)
theorem J_icmp_ne (X : hCx G p m c cc nL s args Ts own D cl K A) {x y : Int32} {off : Int} {tgt : Nat} (hd : decode cc pc = .ok (.if_icmp .ne off, 3)) (ht : (pc : Int) + off = (tgt : Int)) (kt : ¬ (x = y) → J p l e R s m args below meth c nL D cl A h lv k n Q tgt st) (kf : x = y → J p l e R s m args below meth c nL D cl A h lv k n Q (pc + 3) st) : J p l e R s m args below meth c nL D cl A h lv k n Q pc (.int y :: .int x :: st) := fun H locs ls a b d => lv_icmp_ne X.1 X.2.1 hd ht (fun z => kt z H locs ls a b d) (fun z => kf z H locs ls a b d)
theorem J_if_lt (X : hCx G p m c cc nL s args Ts own D cl K A) {x : Int32} {off : Int} {tgt : Nat} (hd : decode cc pc = .ok (.ifCond .lt off, 3)) (ht : (pc : Int) + off = (tgt : Int)) (kt : x < 0 → J p l e R s m args below meth c nL D cl A h lv k n Q tgt st) (kf : ¬ (x < 0) → J p l e R s m args below meth c nL D cl A h lv k n Q (pc + 3) st) : J p l e R s m args below meth c nL D cl A h lv k n Q pc (.int x :: st) := fun H locs ls a b d => lv_if_lt X.1 X.2.1 hd ht (fun z => kt z H locs ls a b d) (fun z => kf z H locs ls a b d)
theorem J_icmp_lt (X : hCx G p m c cc nL s args Ts own D cl K A) {x y : Int32} {off : Int} {tgt : Nat} (hd : decode cc pc = .ok (.if_icmp .lt off, 3)) (ht : (pc : Int) + off = (tgt : Int)) (kt : x < y → J p l e R s m args below meth c nL D cl A h lv k n Q tgt st) (kf : ¬ (x < y) → J p l e R s m args below meth c nL D cl A h lv k n Q (pc + 3) st) : J p l e R s m args below meth c nL D cl A h lv k n Q pc (.int y :: .int x :: st) := fun H locs ls a b d => lv_icmp_lt X.1 X.2.1 hd ht (fun z => kt z H locs ls a b d) (fun z => kf z H locs ls a b d)
theorem J_if_ge (X : hCx G p m c cc nL s args Ts own D cl K A) {x : Int32} {off : Int} {tgt : Nat} (hd : decode cc pc = .ok (.ifCond .ge off, 3)) (ht : (pc : Int) + off = (tgt : Int)) (kt : 0 ≤ x → J p l e R s m args below meth c nL D cl A h lv k n Q tgt st) (kf : ¬ (0 ≤ x) → J p l e R s m args below meth c nL D cl A h lv k n Q (pc + 3) st) : J p l e R s m args below meth c nL D cl A h lv k n Q pc (.int x :: st) := fun H locs ls a b d => lv_if_ge X.1 X.2.1 hd ht (fun z => kt z H locs ls a b d) (fun z => kf z H locs ls a b d)
theorem J_icmp_ge (X : hCx G p m c cc nL s args Ts own D cl K A) {x y : Int32} {off : Int} {tgt : Nat} (hd : decode cc pc = .ok (.if_icmp .ge off, 3)) (ht : (pc : Int) + off = (tgt : Int)) (kt : y ≤ x → J p l e R s m args below meth c nL D cl A h lv k n Q tgt st) (kf : ¬ (y ≤ x) → J p l e R s m args below meth c nL D cl A h lv k n Q (pc + 3) st) : J p l e R s m args below meth c nL D cl A h lv k n Q pc (.int y :: .int x :: st) := fun H locs ls a b d => lv_icmp_ge X.1 X.2.1 hd ht (fun z => kt z H locs ls a b d) (fun z => kf z H locs ls a b d)
theorem J_if_gt (X : hCx G p m c cc nL s args Ts own D cl K A) {x : Int32} {off : Int} {tgt : Nat} (hd : decode cc pc = .ok (.ifCond .gt off, 3)) (ht : (pc : Int) + off = (tgt : Int)) (kt : 0 < x → J p l e R s m args below meth c nL D cl A h lv k n Q tgt st) (kf : ¬ (0 < x) → J p l e R s m args below meth c nL D cl A h lv k n Q (pc + 3) st) : J p l e R s m args below meth c nL D cl A h lv k n Q pc (.int x :: st) := fun H locs ls a b d => lv_if_gt X.1 X.2.1 hd ht (fun z => kt z H locs ls a b d) (fun z => kf z H locs ls a b d)
theorem J_icmp_gt (X : hCx G p m c cc nL s args Ts own D cl K A) {x y : Int32} {off : Int} {tgt : Nat} (hd : decode cc pc = .ok (.if_icmp .gt off, 3)) (ht : (pc : Int) + off = (tgt : Int)) (kt : y < x → J p l e R s m args below meth c nL D cl A h lv k n Q tgt st) (kf : ¬ (y < x) → J p l e R s m args below meth c nL D cl A h lv k n Q (pc + 3) st) : J p l e R s m args below meth c nL D cl A h lv k n Q pc (.int y :: .int x :: st) := fun H locs ls a b d => lv_icmp_gt X.1 X.2.1 hd ht (fun z => kt z H locs ls a b d) (fun z => kf z H locs ls a b d)
theorem J_if_le (X : hCx G p m c cc nL s args Ts own D cl K A) {x : Int32} {off : Int} {tgt : Nat} (hd : decode cc pc = .ok (.ifCond .le off, 3)) (ht : (pc : Int) + off = (tgt : Int)) (kt : x ≤ 0 → J p l e R s m args below meth c nL D cl A h lv k n Q tgt st) (kf : ¬ (x ≤ 0) → J p l e R s m args below meth c nL D cl A h lv k n Q (pc + 3) st) : J p l e R s m args below meth c nL D cl A h lv k n Q pc (.int x :: st) := fun H locs ls a b d => lv_if_le X.1 X.2.1 hd ht (fun z => kt z H locs ls a b d) (fun z => kf z H locs ls a b d)
theorem J_icmp_le (X : hCx G p m c cc nL s args Ts own D cl K A) {x y : Int32} {off : Int} {tgt : Nat} (hd : decode cc pc = .ok (.if_icmp .le off, 3)) (ht : (pc : Int) + off = (tgt : Int)) (kt : x ≤ y → J p l e R s m args below meth c nL D cl A h lv k n Q tgt st) (kf : ¬ (x ≤ y) → J p l e R s m args below meth c nL D cl A h lv k n Q (pc + 3) st) : J p l e R s m args below meth c nL D cl A h lv k n Q pc (.int y :: .int x :: st) := fun H locs ls a b d => lv_icmp_le X.1 X.2.1 hd ht (fun z => kt z H locs ls a b d) (fun z => kf z H locs ls a b d)
theorem J_ifnull (X : hCx G p m c cc nL s args Ts own D cl K A) {x : Option Nat} {off : Int} {tgt : Nat} (hd : decode cc pc = .ok (.ifnull off, 3)) (ht : (pc : Int) + off = (tgt : Int)) (kt : x = none → J p l e R s m args below meth c nL D cl A h lv k n Q tgt st) (kf : ∀ y, x = some y → J p l e R s m args below meth c nL D cl A h lv k n Q (pc + 3) st) : J p l e R s m args below meth c nL D cl A h lv k n Q pc (va_rf x :: st) := by
  cases x with
  | none => exact fun H locs ls a b d => lv_ifnullN X.1 X.2.1 hd ht (kt rfl H locs ls a b d)
  | some y => exact fun H locs ls a b d => lv_ifnull X.1 X.2.1 hd (kf y rfl H locs ls a b d)
theorem J_ifnonnull (X : hCx G p m c cc nL s args Ts own D cl K A) {x : Option Nat} {off : Int} {tgt : Nat} (hd : decode cc pc = .ok (.ifnonnull off, 3)) (ht : (pc : Int) + off = (tgt : Int)) (kt : x = none → J p l e R s m args below meth c nL D cl A h lv k n Q (pc + 3) st) (kf : ∀ y, x = some y → J p l e R s m args below meth c nL D cl A h lv k n Q tgt st) : J p l e R s m args below meth c nL D cl A h lv k n Q pc (va_rf x :: st) := by
  cases x with
  | none => exact fun H locs ls a b d => lv_ifnonnullN X.1 X.2.1 hd (kt rfl H locs ls a b d)
  | some y => exact fun H locs ls a b d => lv_ifnonnull X.1 X.2.1 hd ht (kf y rfl H locs ls a b d)
theorem J_lookup (X : hCx G p m c cc nL s args Ts own D cl K A) {dflt : Int} {ps : Array (Int × Int)} {len : Nat} {x : Int32} {off : Int} {tgt : Nat} (hd : decode cc pc = .ok (.lookupswitch dflt ps, len)) (hp : (ps.toList.zip (ps.toList.drop 1)).all (fun (a, next) => a.1 < next.1) = true) (ho : Op.lookupswitch.offset ps.toList dflt x.toInt = off) (ht : (pc : Int) + off = (tgt : Int)) (kk : J p l e R s m args below meth c nL D cl A h lv k n Q tgt st) : J p l e R s m args below meth c nL D cl A h lv k n Q pc (.int x :: st) := fun H locs ls a b d => lv_lookup X.1 X.2.1 hd hp ho ht (kk H locs ls a b d)
theorem J_tableOut (X : hCx G p m c cc nL s args Ts own D cl K A) {dflt lo hi : Int} {offs : Array Int} {len : Nat} {x : Int32} {tgt : Nat} (hd : decode cc pc = .ok (.tableswitch dflt lo hi offs, len)) (hz : x.toInt < lo ∨ hi < x.toInt) (ht : (pc : Int) + dflt = (tgt : Int)) (kk : J p l e R s m args below meth c nL D cl A h lv k n Q tgt st) : J p l e R s m args below meth c nL D cl A h lv k n Q pc (.int x :: st) := fun H locs ls a b d => lv_tableOut X.1 X.2.1 hd hz ht (kk H locs ls a b d)
theorem J_tableIn (X : hCx G p m c cc nL s args Ts own D cl K A) {dflt lo hi : Int} {offs : Array Int} {len : Nat} {x : Int32} {off : Int} {tgt : Nat} (y : Int32) (ey : x = y) (hd : decode cc pc = .ok (.tableswitch dflt lo hi offs, len)) (h1 : ¬ y.toInt < lo) (h2 : ¬ hi < y.toInt) (ho : offs[(y.toInt - lo).toNat]? = some off) (ht : (pc : Int) + off = (tgt : Int)) (kk : J p l e R s m args below meth c nL D cl A h lv k n Q tgt st) : J p l e R s m args below meth c nL D cl A h lv k n Q pc (.int x :: st) := by
  subst ey
  exact fun H locs ls a b d => lv_tableIn X.1 X.2.1 hd h1 h2 ho ht (kk H locs ls a b d)
theorem J_sub (ks : List Nat) {lv' : List (Nat × Value)} (hl : lv_pick lv ks = lv') (kk : J p l e R s m args below meth c nL D cl A h lv' k n Q pc st) : J p l e R s m args below meth c nL D cl A h lv k n Q pc st := fun H locs ls a b d => kk H locs ls a b (lv_sub d ks hl)
theorem J_wid {k2 n2 : Nat} (h1 : k ≤ k2) (h2 : n ≤ n2) (kk : J p l e R s m args below meth c nL D cl A h lv k2 n2 Q pc st) : J p l e R s m args below meth c nL D cl A h lv k n Q pc st := fun H locs ls a b d => W.widen h1 h2 (kk H locs ls a b d)
theorem J_st {st' : List Value} (h1 : st = st') (kk : J p l e R s m args below meth c nL D cl A h lv k n Q pc st') : J p l e R s m args below meth c nL D cl A h lv k n Q pc st := h1 ▸ kk
theorem J_get0 (X : hCx G p m c cc nL s args Ts own D cl K A) {C : String} {T : u_T} {N ci : Nat} (hc : cl[ci]? = some (C, T, N)) (hin : ∀ w ∈ u_ws C T N, w ∈ Ts) (kk0 : Nat) {idx : Nat} (hlink : (Cond.fieldLink own idx C (T kk0).2.1 (T kk0).2.2.1) ∈ Ts) (hk : kk0 < N) (hdc : (T kk0).1 = C) (hd : decode cc pc = .ok (.getfield idx, 3)) {a : Nat} {fs : List Value} {v : Value} (ha : h.2 a = some (.inl (ci, fs))) (hv : fs[kk0]? = some v) (kk : J p l e R s m args below meth c nL D cl A h lv k n Q (pc + 3) (v :: st)) : J p l e R s m args below meth c nL D cl A h lv k n Q pc (.ref a :: st) := by
  intro H locs ls a1 b1 d1
  obtain ⟨r, hr, -, hO⟩ := (a1.2 a _ ha).2
  have hP : va_P D cl [(a, .inr (ci, fs))] H := by
    intro k q hq
    cases k with
    | zero => cases hq; exact ⟨r, hr, hO⟩
    | succ k => simp at hq
  have hK : va_K D cl [] s := ⟨X.2.2.2.2.2.1.1, fun k q hq => by simp at hq⟩
  exact va_get (ref := C) X.1 X.2.1 X.2.2.2.2.1 hin X.2.2.2.1 hK hP 0 rfl hc kk0 hk (X.2.2.2.2.1 _ hlink) (fun x hx => by rw [← hdc]; exact hx) hv hd (kk H locs ls a1 b1 d1)
theorem J_getI (X : hCx G p m c cc nL s args Ts own D cl K A) {C : String} {T : u_T} {N ci : Nat} (hc : cl[ci]? = some (C, T, N)) (hin : ∀ w ∈ u_ws C T N, w ∈ Ts) (kk0 : Nat) {idx : Nat} (hlink : (Cond.fieldLink own idx C (T kk0).2.1 (T kk0).2.2.1) ∈ Ts) (hk : kk0 < N) (hdc : (T kk0).1 = C) (hd : decode cc pc = .ok (.getfield idx, 3)) {v : Value} {a : Nat} (ev : v = .ref a) {x : Int32} (hg : hGetI h a ci kk0 = some x) (kk : J p l e R s m args below meth c nL D cl A h lv k n Q (pc + 3) (.int x :: st)) : J p l e R s m args below meth c nL D cl A h lv k n Q pc (v :: st) := by
  subst ev
  obtain ⟨fs, h1, h2⟩ := hGetI_at hg
  exact J_get0 X hc hin kk0 hlink hk hdc hd h1 h2 kk
theorem J_getL (X : hCx G p m c cc nL s args Ts own D cl K A) {C : String} {T : u_T} {N ci : Nat} (hc : cl[ci]? = some (C, T, N)) (hin : ∀ w ∈ u_ws C T N, w ∈ Ts) (kk0 : Nat) {idx : Nat} (hlink : (Cond.fieldLink own idx C (T kk0).2.1 (T kk0).2.2.1) ∈ Ts) (hk : kk0 < N) (hdc : (T kk0).1 = C) (hd : decode cc pc = .ok (.getfield idx, 3)) {v : Value} {a : Nat} (ev : v = .ref a) {x : Int64} (hg : hGetL h a ci kk0 = some x) (kk : J p l e R s m args below meth c nL D cl A h lv k n Q (pc + 3) (.long x :: st)) : J p l e R s m args below meth c nL D cl A h lv k n Q pc (v :: st) := by
  subst ev
  obtain ⟨fs, h1, h2⟩ := hGetL_at hg
  exact J_get0 X hc hin kk0 hlink hk hdc hd h1 h2 kk
theorem J_getA (X : hCx G p m c cc nL s args Ts own D cl K A) {C : String} {T : u_T} {N ci : Nat} (hc : cl[ci]? = some (C, T, N)) (hin : ∀ w ∈ u_ws C T N, w ∈ Ts) (kk0 : Nat) {idx : Nat} (hlink : (Cond.fieldLink own idx C (T kk0).2.1 (T kk0).2.2.1) ∈ Ts) (hk : kk0 < N) (hdc : (T kk0).1 = C) (hd : decode cc pc = .ok (.getfield idx, 3)) {v : Value} {a : Nat} (ev : v = .ref a) {x : Nat} (hg : hGetA h a ci kk0 = some x) (kk : J p l e R s m args below meth c nL D cl A h lv k n Q (pc + 3) (.ref x :: st)) : J p l e R s m args below meth c nL D cl A h lv k n Q pc (v :: st) := by
  subst ev
  obtain ⟨fs, h1, h2⟩ := hGetA_at hg
  exact J_get0 X hc hin kk0 hlink hk hdc hd h1 h2 kk
theorem J_getO (X : hCx G p m c cc nL s args Ts own D cl K A) {C : String} {T : u_T} {N ci : Nat} (hc : cl[ci]? = some (C, T, N)) (hin : ∀ w ∈ u_ws C T N, w ∈ Ts) (kk0 : Nat) {idx : Nat} (hlink : (Cond.fieldLink own idx C (T kk0).2.1 (T kk0).2.2.1) ∈ Ts) (hk : kk0 < N) (hdc : (T kk0).1 = C) (hd : decode cc pc = .ok (.getfield idx, 3)) {v : Value} {a : Nat} (ev : v = .ref a) {x : Option Nat} (hg : hGetO h a ci kk0 = some x) (kk : J p l e R s m args below meth c nL D cl A h lv k n Q (pc + 3) (va_rf x :: st)) : J p l e R s m args below meth c nL D cl A h lv k n Q pc (v :: st) := by
  subst ev
  obtain ⟨fs, h1, h2⟩ := hGetO_at hg
  exact J_get0 X hc hin kk0 hlink hk hdc hd h1 h2 kk
theorem J_get0N (X : hCx G p m c cc nL s args Ts own D cl K A) {C : String} {T : u_T} {N ci : Nat} (hc : cl[ci]? = some (C, T, N)) (hin : ∀ w ∈ u_ws C T N, w ∈ Ts) (kk0 : Nat) {idx : Nat} {host : String} (hlink : ((own, idx, C, (T kk0).2.1, (T kk0).2.2.1, host) : hNt) ∈ G.1) (hk : kk0 < N) (hdc : (T kk0).1 = C) (hd : decode cc pc = .ok (.getfield idx, 3)) {a : Nat} {fs : List Value} {v : Value} (ha : h.2 a = some (.inl (ci, fs))) (hv : fs[kk0]? = some v) (kk : J p l e R s m args below meth c nL D cl A h lv k n Q (pc + 3) (v :: st)) : J p l e R s m args below meth c nL D cl A h lv k n Q pc (.ref a :: st) := by
  intro H locs ls a1 b1 d1
  obtain ⟨r, hr, -, hO⟩ := (a1.2 a _ ha).2
  have hP : va_P D cl [(a, .inr (ci, fs))] H := by
    intro k q hq
    cases k with
    | zero => cases hq; exact ⟨r, hr, hO⟩
    | succ k => simp at hq
  have hK : va_K D cl [] s := ⟨X.2.2.2.2.2.1.1, fun k q hq => by simp at hq⟩
  exact va_getN (ref := C) X.1 X.2.1 X.2.2.2.2.1 hin X.2.2.2.1 hK hP 0 rfl hc kk0 hk (va_Nw.use rfl (X.2.2.2.2.2.1.2.1 _ hlink)) (fun x hx => by rw [← hdc]; exact hx) hv hd (kk H locs ls a1 b1 d1)
theorem J_getIN (X : hCx G p m c cc nL s args Ts own D cl K A) {C : String} {T : u_T} {N ci : Nat} (hc : cl[ci]? = some (C, T, N)) (hin : ∀ w ∈ u_ws C T N, w ∈ Ts) (kk0 : Nat) {idx : Nat} {host : String} (hlink : ((own, idx, C, (T kk0).2.1, (T kk0).2.2.1, host) : hNt) ∈ G.1) (hk : kk0 < N) (hdc : (T kk0).1 = C) (hd : decode cc pc = .ok (.getfield idx, 3)) {v : Value} {a : Nat} (ev : v = .ref a) {x : Int32} (hg : hGetI h a ci kk0 = some x) (kk : J p l e R s m args below meth c nL D cl A h lv k n Q (pc + 3) (.int x :: st)) : J p l e R s m args below meth c nL D cl A h lv k n Q pc (v :: st) := by
  subst ev
  obtain ⟨fs, h1, h2⟩ := hGetI_at hg
  exact J_get0N X hc hin kk0 hlink hk hdc hd h1 h2 kk
theorem J_getLN (X : hCx G p m c cc nL s args Ts own D cl K A) {C : String} {T : u_T} {N ci : Nat} (hc : cl[ci]? = some (C, T, N)) (hin : ∀ w ∈ u_ws C T N, w ∈ Ts) (kk0 : Nat) {idx : Nat} {host : String} (hlink : ((own, idx, C, (T kk0).2.1, (T kk0).2.2.1, host) : hNt) ∈ G.1) (hk : kk0 < N) (hdc : (T kk0).1 = C) (hd : decode cc pc = .ok (.getfield idx, 3)) {v : Value} {a : Nat} (ev : v = .ref a) {x : Int64} (hg : hGetL h a ci kk0 = some x) (kk : J p l e R s m args below meth c nL D cl A h lv k n Q (pc + 3) (.long x :: st)) : J p l e R s m args below meth c nL D cl A h lv k n Q pc (v :: st) := by
  subst ev
  obtain ⟨fs, h1, h2⟩ := hGetL_at hg
  exact J_get0N X hc hin kk0 hlink hk hdc hd h1 h2 kk
theorem J_getAN (X : hCx G p m c cc nL s args Ts own D cl K A) {C : String} {T : u_T} {N ci : Nat} (hc : cl[ci]? = some (C, T, N)) (hin : ∀ w ∈ u_ws C T N, w ∈ Ts) (kk0 : Nat) {idx : Nat} {host : String} (hlink : ((own, idx, C, (T kk0).2.1, (T kk0).2.2.1, host) : hNt) ∈ G.1) (hk : kk0 < N) (hdc : (T kk0).1 = C) (hd : decode cc pc = .ok (.getfield idx, 3)) {v : Value} {a : Nat} (ev : v = .ref a) {x : Nat} (hg : hGetA h a ci kk0 = some x) (kk : J p l e R s m args below meth c nL D cl A h lv k n Q (pc + 3) (.ref x :: st)) : J p l e R s m args below meth c nL D cl A h lv k n Q pc (v :: st) := by
  subst ev
  obtain ⟨fs, h1, h2⟩ := hGetA_at hg
  exact J_get0N X hc hin kk0 hlink hk hdc hd h1 h2 kk
theorem J_getON (X : hCx G p m c cc nL s args Ts own D cl K A) {C : String} {T : u_T} {N ci : Nat} (hc : cl[ci]? = some (C, T, N)) (hin : ∀ w ∈ u_ws C T N, w ∈ Ts) (kk0 : Nat) {idx : Nat} {host : String} (hlink : ((own, idx, C, (T kk0).2.1, (T kk0).2.2.1, host) : hNt) ∈ G.1) (hk : kk0 < N) (hdc : (T kk0).1 = C) (hd : decode cc pc = .ok (.getfield idx, 3)) {v : Value} {a : Nat} (ev : v = .ref a) {x : Option Nat} (hg : hGetO h a ci kk0 = some x) (kk : J p l e R s m args below meth c nL D cl A h lv k n Q (pc + 3) (va_rf x :: st)) : J p l e R s m args below meth c nL D cl A h lv k n Q pc (v :: st) := by
  subst ev
  obtain ⟨fs, h1, h2⟩ := hGetO_at hg
  exact J_get0N X hc hin kk0 hlink hk hdc hd h1 h2 kk
theorem J_put (X : hCx G p m c cc nL s args Ts own D cl K A) {C : String} {T : u_T} {N ci : Nat} (hc : cl[ci]? = some (C, T, N)) (hin : ∀ w ∈ u_ws C T N, w ∈ Ts) (ty0 : Nat → FieldType) (hty : ∀ k, k < N → parseFieldDescriptor (T k).2.2.1 = some (ty0 k)) (hnm : ∀ a, a < N → ∀ b, b < N → a ≠ b → (T a).2.1 ≠ (T b).2.1) (kk0 : Nat) {idx : Nat} (hlink : (Cond.fieldLink own idx C (T kk0).2.1 (T kk0).2.2.1) ∈ Ts) (hk : kk0 < N) (hdc : (T kk0).1 = C) (hfin : (T kk0).2.2.2 = false) (hd : decode cc pc = .ok (.putfield idx, 3)) {r v : Value} {a : Nat} (ev : r = .ref a) (hn : narrow (ty0 kk0) v = v) (hfit : fits (ty0 kk0) v = true) {h2 : hH} (hp : hPut h a ci kk0 v = some h2) (kk : J p l e R s m args below meth c nL D cl A h2 lv k n Q (pc + 3) st) : J p l e R s m args below meth c nL D cl A h lv k n Q pc (v :: r :: st) := by
  subst ev
  obtain ⟨fs, ha, hl, rfl⟩ := hPut_at hp
  intro H locs ls a1 b1 d1
  obtain ⟨r, hr, hlen, cell, q1, q2, q3, q4⟩ := (a1.2 a _ ha).2
  have hr : r = (C, T, N) := Option.some.inj (hr.symm.trans hc)
  subst hr
  have hK : va_K D cl [] s := ⟨X.2.2.2.2.2.1.1, fun k q hq => by simp at hq⟩
  have hap := va_apart (own := own) X.2.2.2.2.1 hin ty0 hty hnm hK hc
  obtain ⟨hS, hfc, kC, hkC, hkind⟩ := X.2.2.2.2.2.1.1 ci _ hc
  obtain ⟨cf, kf, fi, f, hi, hsl⟩ := hS kk0 hk
  have hlay := X.2.2.2.2.1 _ (hin _ (u_in_lay hk))
  unfold u_lay at hlay
  rw [if_neg (by rw [hfin]; decide)] at hlay
  have hst := (u_facts hfc hkC (u_lays X.2.2.2.2.1 hin hk) hi).1
  have h6 := u_store hfc hkC hkind hlay hi (hty kk0 hk) hn hfit
  have hi' : s.fieldFound? C (T kk0).2.1 (T kk0).2.2.1 = some (cf, kf, fi, f) := by rw [← hi]; exact congrArg (fun z => s.fieldFound? z (T kk0).2.1 (T kk0).2.2.1) hdc.symm
  refine W.putK X.1 X.2.1 (f := f) ⟨X.2.2.2.1, X.2.2.2.2.1 _ hlink, ⟨_, _, _, hi'⟩, hst⟩ (by rw [q2]; exact h6) q1 q3 (by rw [hsl]; exact k2_hasslot (q4 kk0 hk)) rfl rfl hd fun H' e1 e2 e3 => ?_
  rw [hsl] at e1 ⊢
  have hba := (a1.2 a _ ha).1
  exact kk H' _ ls (a1.set e2 e3 hba ⟨_, hc, by rw [List.length_set]; exact hlen, t_OB.to (V := updV (vp_V fs) kk0 v) ⟨_, e1, q2, q3, t_set q4 hap hk v⟩ (fun j _ => vp_updV_set hl v j)⟩) (b1.put e2 e3 hba) d1
theorem J_putN (X : hCx G p m c cc nL s args Ts own D cl K A) {C : String} {T : u_T} {N ci : Nat} (hc : cl[ci]? = some (C, T, N)) (hin : ∀ w ∈ u_ws C T N, w ∈ Ts) (ty0 : Nat → FieldType) (hty : ∀ k, k < N → parseFieldDescriptor (T k).2.2.1 = some (ty0 k)) (hnm : ∀ a, a < N → ∀ b, b < N → a ≠ b → (T a).2.1 ≠ (T b).2.1) (kk0 : Nat) {idx : Nat} {host : String} (hlink : ((own, idx, C, (T kk0).2.1, (T kk0).2.2.1, host) : hNt) ∈ G.1) (hk : kk0 < N) (hdc : (T kk0).1 = C) (hfin : (T kk0).2.2.2 = false) (hd : decode cc pc = .ok (.putfield idx, 3)) {r v : Value} {a : Nat} (ev : r = .ref a) (hn : narrow (ty0 kk0) v = v) (hfit : fits (ty0 kk0) v = true) {h2 : hH} (hp : hPut h a ci kk0 v = some h2) (kk : J p l e R s m args below meth c nL D cl A h2 lv k n Q (pc + 3) st) : J p l e R s m args below meth c nL D cl A h lv k n Q pc (v :: r :: st) := by
  subst ev
  obtain ⟨fs, ha, hl, rfl⟩ := hPut_at hp
  intro H locs ls a1 b1 d1
  obtain ⟨r, hr, hlen, cell, q1, q2, q3, q4⟩ := (a1.2 a _ ha).2
  have hr : r = (C, T, N) := Option.some.inj (hr.symm.trans hc)
  subst hr
  have hK : va_K D cl [] s := ⟨X.2.2.2.2.2.1.1, fun k q hq => by simp at hq⟩
  have hap := va_apart (own := own) X.2.2.2.2.1 hin ty0 hty hnm hK hc
  obtain ⟨hS, hfc, kC, hkC, hkind⟩ := X.2.2.2.2.2.1.1 ci _ hc
  obtain ⟨cf, kf, fi, f, hi, hsl⟩ := hS kk0 hk
  have hlay := X.2.2.2.2.1 _ (hin _ (u_in_lay hk))
  unfold u_lay at hlay
  rw [if_neg (by rw [hfin]; decide)] at hlay
  have hst := (u_facts hfc hkC (u_lays X.2.2.2.2.1 hin hk) hi).1
  have h6 := u_store hfc hkC hkind hlay hi (hty kk0 hk) hn hfit
  have hi' : s.fieldFound? C (T kk0).2.1 (T kk0).2.2.1 = some (cf, kf, fi, f) := by rw [← hi]; exact congrArg (fun z => s.fieldFound? z (T kk0).2.1 (T kk0).2.2.1) hdc.symm
  refine va_WputK X.1 X.2.1 (f := f) X.2.2.2.1 (va_Nw.use rfl (X.2.2.2.2.2.1.2.1 _ hlink)) hi' hst (by rw [q2]; exact h6) q1 q3 (by rw [hsl]; exact k2_hasslot (q4 kk0 hk)) rfl rfl hd fun H' e1 e2 e3 => ?_
  rw [hsl] at e1 ⊢
  have hba := (a1.2 a _ ha).1
  exact kk H' _ ls (a1.set e2 e3 hba ⟨_, hc, by rw [List.length_set]; exact hlen, t_OB.to (V := updV (vp_V fs) kk0 v) ⟨_, e1, q2, q3, t_set q4 hap hk v⟩ (fun j _ => vp_updV_set hl v j)⟩) (b1.put e2 e3 hba) d1
theorem J_putF (X : hCx G p m c cc nL s args Ts own D cl K A) {C : String} {T : u_T} {N ci : Nat} (hc : cl[ci]? = some (C, T, N)) (hin : ∀ w ∈ u_ws C T N, w ∈ Ts) (ty0 : Nat → FieldType) (hty : ∀ k, k < N → parseFieldDescriptor (T k).2.2.1 = some (ty0 k)) (hnm : ∀ a, a < N → ∀ b, b < N → a ≠ b → (T a).2.1 ≠ (T b).2.1) (kk0 : Nat) {idx : Nat} (hlink : (Cond.fieldLink own idx C (T kk0).2.1 (T kk0).2.2.1) ∈ Ts) (hk : kk0 < N) (hdc : (T kk0).1 = C) (hown : C = own) (hfin : (T kk0).2.2.2 = true) (hin2 : meth.name = "<init>") (hd : decode cc pc = .ok (.putfield idx, 3)) {r v : Value} {a : Nat} (ev : r = .ref a) (hn : narrow (ty0 kk0) v = v) (hfit : fits (ty0 kk0) v = true) {h2 : hH} (hp : hPut h a ci kk0 v = some h2) (kk : J p l e R s m args below meth c nL D cl A h2 lv k n Q (pc + 3) st) : J p l e R s m args below meth c nL D cl A h lv k n Q pc (v :: r :: st) := by
  subst ev
  obtain ⟨fs, ha, hl, rfl⟩ := hPut_at hp
  intro H locs ls a1 b1 d1
  obtain ⟨r, hr, hlen, cell, q1, q2, q3, q4⟩ := (a1.2 a _ ha).2
  have hr : r = (C, T, N) := Option.some.inj (hr.symm.trans hc)
  subst hr
  have hK : va_K D cl [] s := ⟨X.2.2.2.2.2.1.1, fun k q hq => by simp at hq⟩
  have hap := va_apart (own := own) X.2.2.2.2.1 hin ty0 hty hnm hK hc
  obtain ⟨hS, hfc, kC, hkC, hkind⟩ := X.2.2.2.2.2.1.1 ci _ hc
  obtain ⟨cf, kf, fi, f, hi, hsl⟩ := hS kk0 hk
  have hlay := X.2.2.2.2.1 _ (hin _ (u_in_lay hk))
  unfold u_lay at hlay
  rw [if_pos hfin] at hlay
  have hst := (u_facts hfc hkC (u_lays X.2.2.2.2.1 hin hk) hi).1
  have hcf : m.cls = cf := by
    obtain ⟨_, _, c', _, _, _, -, -, hf', -, -, -, hown2, -⟩ := Cond.laysFinal_spec hlay
    have e1 : c' = cf := by have := hi.symm.trans hf'; simp at this; exact this.1.symm
    rw [hdc, hown] at hown2
    rw [← e1]; exact Option.some.inj (X.2.2.2.1.symm.trans hown2)
  have h6 := u_fits hfc hkC hkind (Or.inr hlay) hi (hty kk0 hk) hn hfit
  have hi' : s.fieldFound? C (T kk0).2.1 (T kk0).2.2.1 = some (cf, kf, fi, f) := by rw [← hi]; exact congrArg (fun z => s.fieldFound? z (T kk0).2.1 (T kk0).2.2.1) hdc.symm
  refine W.putFinK X.1 X.2.1 X.2.2.2.1 (X.2.2.2.2.1 _ hlink) hi' hst hcf hin2 (by rw [q2]; exact h6) q1 q3 (by rw [hsl]; exact k2_hasslot (q4 kk0 hk)) rfl rfl hd fun H' e1 e2 e3 => ?_
  rw [hsl] at e1 ⊢
  have hba := (a1.2 a _ ha).1
  exact kk H' _ ls (a1.set e2 e3 hba ⟨_, hc, by rw [List.length_set]; exact hlen, t_OB.to (V := updV (vp_V fs) kk0 v) ⟨_, e1, q2, q3, t_set q4 hap hk v⟩ (fun j _ => vp_updV_set hl v j)⟩) (b1.put e2 e3 hba) d1
theorem hPutZ_of {h h2 : hH} {a ci k : Nat} {x : Int32} (e : hPutZ h a ci k x = some h2) : hPut h a ci k (.int x) = some h2 ∧ narrow .boolean (.int x) = .int x ∧ fits .boolean (.int x) = true := by
  unfold hPutZ at e
  split at e
  · rename_i hx
    refine ⟨e, ?_⟩
    rcases hx with rfl | rfl
    · exact ⟨rfl, rfl⟩
    · exact ⟨rfl, rfl⟩
  · cases e
def hZ (x : Int32) : Option Unit := if x = 0 ∨ x = 1 then some () else none
theorem hZ_of {x : Int32} {u : Unit} (e : hZ x = some u) : narrow .boolean (.int x) = .int x := by
  unfold hZ at e
  split at e
  · rename_i hx
    rcases hx with rfl | rfl <;> rfl
  · cases e
theorem J_iald (X : hCx G p m c cc nL s args Ts own D cl K A) (hd : decode cc pc = .ok (.iaload, 1)) {v : Value} {a : Nat} (ev : v = .ref a) {i : Int32} {x : Int32} (hg : hLdI h a .int i = some x) (kk : J p l e R s m args below meth c nL D cl A h lv k n Q (pc + 1) (.int x :: st)) : J p l e R s m args below meth c nL D cl A h lv k n Q pc (.int i :: v :: st) := by
  subst ev
  obtain ⟨nn, f, ha, hi, rfl⟩ := hLdI_at hg
  intro H locs ls a1 b1 d1
  obtain ⟨cA, hA, hR, hH⟩ := (a1.2 a _ ha).2
  have hK : va_K D cl [(cA, .int)] s := ⟨X.2.2.2.2.2.1.1, fun k q hq => by
    cases k with
    | zero => cases hq; exact ⟨hA, hR⟩
    | succ k => simp at hq⟩
  have hP : va_P D cl [(a, .inl (cA, nn, .inl f))] H := by
    intro k q hq
    cases k with
    | zero => cases hq; exact hH
    | succ k => simp at hq
  exact va_iald X.1 X.2.1 hK hP 0 0 rfl rfl hi hd (kk H locs ls a1 b1 d1)
theorem J_bald (X : hCx G p m c cc nL s args Ts own D cl K A) (hd : decode cc pc = .ok (.baload, 1)) {v : Value} {a : Nat} (ev : v = .ref a) {i : Int32} {x : Int32} (hg : hLdI h a .byte i = some x) (kk : J p l e R s m args below meth c nL D cl A h lv k n Q (pc + 1) (.int x :: st)) : J p l e R s m args below meth c nL D cl A h lv k n Q pc (.int i :: v :: st) := by
  subst ev
  obtain ⟨nn, f, ha, hi, rfl⟩ := hLdI_at hg
  intro H locs ls a1 b1 d1
  obtain ⟨cA, hA, hR, hH⟩ := (a1.2 a _ ha).2
  have hK : va_K D cl [(cA, .byte)] s := ⟨X.2.2.2.2.2.1.1, fun k q hq => by
    cases k with
    | zero => cases hq; exact ⟨hA, hR⟩
    | succ k => simp at hq⟩
  have hP : va_P D cl [(a, .inl (cA, nn, .inl f))] H := by
    intro k q hq
    cases k with
    | zero => cases hq; exact hH
    | succ k => simp at hq
  exact va_bald X.1 X.2.1 hK hP 0 0 rfl rfl hi hd (kk H locs ls a1 b1 d1)
theorem J_zald (X : hCx G p m c cc nL s args Ts own D cl K A) (hd : decode cc pc = .ok (.baload, 1)) {v : Value} {a : Nat} (ev : v = .ref a) {i : Int32} {x : Int32} (hg : hLdI h a .boolean i = some x) (kk : J p l e R s m args below meth c nL D cl A h lv k n Q (pc + 1) (.int x :: st)) : J p l e R s m args below meth c nL D cl A h lv k n Q pc (.int i :: v :: st) := by
  subst ev
  obtain ⟨nn, f, ha, hi, rfl⟩ := hLdI_at hg
  intro H locs ls a1 b1 d1
  obtain ⟨cA, hA, hR, hH⟩ := (a1.2 a _ ha).2
  have hK : va_K D cl [(cA, .boolean)] s := ⟨X.2.2.2.2.2.1.1, fun k q hq => by
    cases k with
    | zero => cases hq; exact ⟨hA, hR⟩
    | succ k => simp at hq⟩
  have hP : va_P D cl [(a, .inl (cA, nn, .inl f))] H := by
    intro k q hq
    cases k with
    | zero => cases hq; exact hH
    | succ k => simp at hq
  exact va_zald X.1 X.2.1 hK hP 0 0 rfl rfl hi hd (kk H locs ls a1 b1 d1)
theorem J_cald (X : hCx G p m c cc nL s args Ts own D cl K A) (hd : decode cc pc = .ok (.caload, 1)) {v : Value} {a : Nat} (ev : v = .ref a) {i : Int32} {x : Int32} (hg : hLdI h a .char i = some x) (kk : J p l e R s m args below meth c nL D cl A h lv k n Q (pc + 1) (.int x :: st)) : J p l e R s m args below meth c nL D cl A h lv k n Q pc (.int i :: v :: st) := by
  subst ev
  obtain ⟨nn, f, ha, hi, rfl⟩ := hLdI_at hg
  intro H locs ls a1 b1 d1
  obtain ⟨cA, hA, hR, hH⟩ := (a1.2 a _ ha).2
  have hK : va_K D cl [(cA, .char)] s := ⟨X.2.2.2.2.2.1.1, fun k q hq => by
    cases k with
    | zero => cases hq; exact ⟨hA, hR⟩
    | succ k => simp at hq⟩
  have hP : va_P D cl [(a, .inl (cA, nn, .inl f))] H := by
    intro k q hq
    cases k with
    | zero => cases hq; exact hH
    | succ k => simp at hq
  exact va_cald X.1 X.2.1 hK hP 0 0 rfl rfl hi hd (kk H locs ls a1 b1 d1)
theorem J_lald (X : hCx G p m c cc nL s args Ts own D cl K A) (hd : decode cc pc = .ok (.laload, 1)) {v : Value} {a : Nat} (ev : v = .ref a) {i : Int32} {x : Int64} (hg : hLdL h a i = some x) (kk : J p l e R s m args below meth c nL D cl A h lv k n Q (pc + 1) (.long x :: st)) : J p l e R s m args below meth c nL D cl A h lv k n Q pc (.int i :: v :: st) := by
  subst ev
  obtain ⟨nn, f, ha, hi, rfl⟩ := hLdL_at hg
  intro H locs ls a1 b1 d1
  obtain ⟨cA, hA, hR, hH⟩ := (a1.2 a _ ha).2
  have hK : va_K D cl [(cA, .long)] s := ⟨X.2.2.2.2.2.1.1, fun k q hq => by
    cases k with
    | zero => cases hq; exact ⟨hA, hR⟩
    | succ k => simp at hq⟩
  have hP : va_P D cl [(a, .inl (cA, nn, .inr (.inl f)))] H := by
    intro k q hq
    cases k with
    | zero => cases hq; exact hH
    | succ k => simp at hq
  exact va_lald X.1 X.2.1 hK hP 0 0 rfl rfl hi hd (kk H locs ls a1 b1 d1)
theorem J_aald (X : hCx G p m c cc nL s args Ts own D cl K A) {E : String} (hd : decode cc pc = .ok (.aaload, 1)) {v : Value} {a : Nat} (ev : v = .ref a) {i : Int32} {x : Option Nat} (hg : hLdO h a E i = some x) (kk : J p l e R s m args below meth c nL D cl A h lv k n Q (pc + 1) (va_rf x :: st)) : J p l e R s m args below meth c nL D cl A h lv k n Q pc (.int i :: v :: st) := by
  subst ev
  obtain ⟨nn, f, ha, hi, rfl⟩ := hLdO_at hg
  intro H locs ls a1 b1 d1
  obtain ⟨cA, hA, hR, hH⟩ := (a1.2 a _ ha).2
  have hK : va_K D cl [(cA, (.object E))] s := ⟨X.2.2.2.2.2.1.1, fun k q hq => by
    cases k with
    | zero => cases hq; exact ⟨hA, hR⟩
    | succ k => simp at hq⟩
  have hP : va_P D cl [(a, .inl (cA, nn, .inr (.inr (.inr (.inr f)))))] H := by
    intro k q hq
    cases k with
    | zero => cases hq; exact hH
    | succ k => simp at hq
  exact va_aldq X.1 X.2.1 hK hP 0 0 rfl rfl hi hd (kk H locs ls a1 b1 d1)
theorem J_alen (X : hCx G p m c cc nL s args Ts own D cl K A) (hd : decode cc pc = .ok (.arraylength, 1)) {v : Value} {a : Nat} (ev : v = .ref a) {x : Int32} (hg : hLen h a = some x) (kk : J p l e R s m args below meth c nL D cl A h lv k n Q (pc + 1) (.int x :: st)) : J p l e R s m args below meth c nL D cl A h lv k n Q pc (v :: st) := by
  subst ev
  obtain ⟨ty, ⟨nn, f⟩, ha, rfl⟩ := hLen_at hg
  intro H locs ls a1 b1 d1
  obtain ⟨cA, hA, hR, hH⟩ := (a1.2 a _ ha).2
  have hK : va_K D cl [(cA, ty)] s := ⟨X.2.2.2.2.2.1.1, fun k q hq => by
    cases k with
    | zero => cases hq; exact ⟨hA, hR⟩
    | succ k => simp at hq⟩
  have hP : va_P D cl [(a, .inl (cA, nn, f))] H := by
    intro k q hq
    cases k with
    | zero => cases hq; exact hH
    | succ k => simp at hq
  exact va_alen X.1 X.2.1 hK hP 0 0 rfl rfl rfl hd (kk H locs ls a1 b1 d1)
theorem J_iast (X : hCx G p m c cc nL s args Ts own D cl K A) (hd : decode cc pc = .ok (.iastore, 1)) {v : Value} {a : Nat} (ev : v = .ref a) {i : Int32} {x : Int32} {h2 : hH} (hg : hStI h a i x = some h2) (kk : J p l e R s m args below meth c nL D cl A h2 lv k n Q (pc + 1) st) : J p l e R s m args below meth c nL D cl A h lv k n Q pc (.int x :: .int i :: v :: st) := by
  subst ev
  obtain ⟨nn, f, ha, hi, rfl⟩ := hStI_at hg
  intro H locs ls a1 b1 d1
  obtain ⟨cA, hA, hR, hH⟩ := (a1.2 a _ ha).2
  refine W.iast X.1 X.2.1 hH (hA nn (fun j => .int (f j))) (fun q => by cases q) (by show ¬ (i < 0 ∨ (arrV _ _ _).slots.size ≤ _); rw [arrV_size]; exact hi) rfl rfl hd fun H1 e1 z oq => ?_
  have hba := (a1.2 a _ ha).1
  refine kk H1 _ ls (a1.set z oq hba ⟨cA, hA, hR, ?_⟩) (b1.put z oq hba) d1
  rw [e1]
  dsimp only
  rw [vp_cell_i, vp_cell_i, arrV_store]
  congr 2
  funext q
  by_cases hq : q = i.toNatClampNeg
  · subst hq
    simp [updV, upd]
  · simp [updV, upd, hq]
theorem J_bast (X : hCx G p m c cc nL s args Ts own D cl K A) (hd : decode cc pc = .ok (.bastore, 1)) {v : Value} {a : Nat} (ev : v = .ref a) {i : Int32} {x : Int32} {h2 : hH} (hg : hStB h a i x = some h2) (kk : J p l e R s m args below meth c nL D cl A h2 lv k n Q (pc + 1) st) : J p l e R s m args below meth c nL D cl A h lv k n Q pc (.int x :: .int i :: v :: st) := by
  subst ev
  obtain ⟨nn, f, ha, hi, rfl⟩ := hStB_at hg
  intro H locs ls a1 b1 d1
  obtain ⟨cA, hA, hR, hH⟩ := (a1.2 a _ ha).2
  refine W.bast X.1 X.2.1 hH (hA nn (fun j => .int (f j))) (fun q => by cases q) (by show ¬ (i < 0 ∨ (arrV _ _ _).slots.size ≤ _); rw [arrV_size]; exact hi) rfl rfl hd fun H1 e1 z oq => ?_
  have hba := (a1.2 a _ ha).1
  refine kk H1 _ ls (a1.set z oq hba ⟨cA, hA, hR, ?_⟩) (b1.put z oq hba) d1
  rw [e1]
  dsimp only
  rw [vp_cell_i, vp_cell_i, arrV_store]
  congr 2
  funext q
  by_cases hq : q = i.toNatClampNeg
  · subst hq
    simp [updV, upd, narrow]
  · simp [updV, upd, narrow, hq]
theorem J_zast (X : hCx G p m c cc nL s args Ts own D cl K A) (hd : decode cc pc = .ok (.bastore, 1)) {v : Value} {a : Nat} (ev : v = .ref a) {i : Int32} {x : Int32} {h2 : hH} (hg : hStZ h a i x = some h2) (kk : J p l e R s m args below meth c nL D cl A h2 lv k n Q (pc + 1) st) : J p l e R s m args below meth c nL D cl A h lv k n Q pc (.int x :: .int i :: v :: st) := by
  subst ev
  obtain ⟨nn, f, ha, hi, rfl⟩ := hStZ_at hg
  intro H locs ls a1 b1 d1
  obtain ⟨cA, hA, hR, hH⟩ := (a1.2 a _ ha).2
  refine W.zast X.1 X.2.1 hH (hA nn (fun j => .int (f j))) (fun q => by cases q) (by show ¬ (i < 0 ∨ (arrV _ _ _).slots.size ≤ _); rw [arrV_size]; exact hi) rfl rfl hd fun H1 e1 z oq => ?_
  have hba := (a1.2 a _ ha).1
  refine kk H1 _ ls (a1.set z oq hba ⟨cA, hA, hR, ?_⟩) (b1.put z oq hba) d1
  rw [e1]
  dsimp only
  rw [vp_cell_i, vp_cell_i, arrV_store]
  congr 2
  funext q
  by_cases hq : q = i.toNatClampNeg
  · subst hq
    simp [updV, upd, narrow]
  · simp [updV, upd, narrow, hq]
theorem J_last (X : hCx G p m c cc nL s args Ts own D cl K A) (hd : decode cc pc = .ok (.lastore, 1)) {v : Value} {a : Nat} (ev : v = .ref a) {i : Int32} {x : Int64} {h2 : hH} (hg : hStL h a i x = some h2) (kk : J p l e R s m args below meth c nL D cl A h2 lv k n Q (pc + 1) st) : J p l e R s m args below meth c nL D cl A h lv k n Q pc (.long x :: .int i :: v :: st) := by
  subst ev
  obtain ⟨nn, f, ha, hi, rfl⟩ := hStL_at hg
  intro H locs ls a1 b1 d1
  obtain ⟨cA, hA, hR, hH⟩ := (a1.2 a _ ha).2
  refine W.last X.1 X.2.1 hH (hA nn (fun j => .long (f j))) (fun q => by cases q) (by show ¬ (i < 0 ∨ (arrV _ _ _).slots.size ≤ _); rw [arrV_size]; exact hi) rfl rfl hd fun H1 e1 z oq => ?_
  have hba := (a1.2 a _ ha).1
  refine kk H1 _ ls (a1.set z oq hba ⟨cA, hA, hR, ?_⟩) (b1.put z oq hba) d1
  rw [e1]
  dsimp only
  rw [vp_cell_l, vp_cell_l, arrV_store]
  congr 2
  funext q
  by_cases hq : q = i.toNatClampNeg
  · subst hq
    simp [updV, vp_updL]
  · simp [updV, vp_updL, hq]
theorem J_aast (X : hCx G p m c cc nL s args Ts own D cl K A) {C : String} {T : u_T} {N ci : Nat} (hc : cl[ci]? = some (C, T, N)) (hd : decode cc pc = .ok (.aastore, 1)) {v u : Value} {a b : Nat} (ev : v = .ref a) (eu : u = .ref b) {i : Int32} {h2 : hH} (hg : hStA h a C i b ci = some h2) (kk : J p l e R s m args below meth c nL D cl A h2 lv k n Q (pc + 1) st) : J p l e R s m args below meth c nL D cl A h lv k n Q pc (u :: .int i :: v :: st) := by
  subst ev
  subst eu
  obtain ⟨vs, nn, f, hb, ha, hi, rfl⟩ := hStA_at hg
  intro H locs ls a1 b1 d1
  obtain ⟨cA, hA, hR, hH⟩ := (a1.2 a _ ha).2
  obtain ⟨r, hr, hlen, cellV, g1, g2, g3, -⟩ := (a1.2 b _ hb).2
  have hlt : i.toNatClampNeg < nn := Nat.not_le.mp fun q => hi (Or.inr q)
  have h0 : ¬ i < 0 := fun q => hi (Or.inl q)
  have hcls := (X.2.2.2.2.2.1.1 ci _ hc).2
  obtain ⟨kA, comp, k1, k2, k3, k4⟩ := hR
  have hcomp : comp = D.1 ci := Option.some.inj (k3.symm.trans hcls.1)
  subst hcomp
  have hRR := (a1.2 a _ ha).2
  obtain ⟨kC, hkC, -⟩ := hcls.2
  refine W.aast X.1 X.2.1 hH (fun q h => by cases h) (fun h => by cases h) k1 k2 rfl hkC ⟨h0, by show _ < (arrV _ _ _).slots.size; rw [arrV_size]; exact hlt⟩ g1 (fun q h => by rw [g3] at h; cases h) (by rw [g2]; exact hkC) (by rw [g2]; exact va_assign hcls) rfl rfl hd fun H1 e1 z oq => ?_
  have hba := (a1.2 a _ ha).1
  refine kk H1 _ ls (a1.set z oq hba ⟨cA, hA, ⟨kA, _, k1, k2, k3, k4⟩, ?_⟩) (b1.put z oq hba) d1
  rw [e1]
  dsimp only
  rw [vp_cell_q, vp_cell_q, arrV_store]
  congr 2
  funext q
  by_cases hq : q = i.toNatClampNeg
  · subst hq
    simp [updV, va_up, va_rf]
  · simp [updV, va_up, hq]
theorem J_new (X : hCx G p m c cc nL s args Ts own D cl K A) {C : String} {T : u_T} {N ci : Nat} (hc : cl[ci]? = some (C, T, N)) (hin : ∀ w ∈ u_ws C T N, w ∈ Ts) (ty0 : Nat → FieldType) (hty : ∀ k, k < N → parseFieldDescriptor (T k).2.2.1 = some (ty0 k)) {idx : Nat} (hcl : (Cond.classLink own idx C) ∈ Ts) (hinst : (Cond.instantiable C N) ∈ Ts) (hini : (Cond.initialized C) ∈ Ts) (hd : decode cc pc = .ok (.new idx, 3)) {fs : List Value} (hlen : fs.length = N) (hfs : ∀ j, j < N → defaultValue (ty0 j) = vp_V fs j) (hk : k + 1 ≤ R.cells) (hn : n + N ≤ R.slots) (kk : J p l e R s m args below meth c nL D cl A (hAdd h (.inl (ci, fs))) lv (k + 1) (n + N) Q (pc + 3) (.ref h.1 :: st)) : J p l e R s m args below meth c nL D cl A h lv k n Q pc st := by
  intro H locs ls a1 b1 d1
  have hKn := X.2.2.2.2.2.1.1 ci _ hc
  have hs := a1.1
  refine W.newcK X.1 X.2.1 X.2.2.2.1 (X.2.2.2.2.1 _ hcl) (X.2.2.2.2.1 _ hinst) (X.2.2.2.2.1 _ hini) rfl hd hk hn hKn.2.1 rfl fun H1 kC hkC e1 z1 o1 => ?_
  have h9 := kk H1 locs ls (a1.add z1 o1 (X.2.2.2.2.2.2 _ b1.1) ⟨_, hc, hlen, (u_born ty0 X.2.2.2.2.1 hin hKn hkC e1 hty).to hfs⟩) (hS_add b1 z1 o1) d1
  rw [← hs] at h9
  exact h9
theorem J_newa (X : hCx G p m c cc nL s args Ts own D cl K A) {atype : ArrayType} {ty : FieldType} (hty : newarray.typeOf atype = ty) (harr : (Cond.arrayClass ty) ∈ Ts) (hd : decode cc pc = .ok (.newarray atype, 2)) {i : Int32} {N : Nat} {a0 : vp_A} (ha : ∀ cA : ClassId, vp_cell cA a0 = arrV cA N (fun _ => defaultValue ty)) (hR : ∀ (U : State) (cA : ClassId), U.vm.findClass ("[" ++ ty.toString) = some cA → va_RA U cA ty) (hi : ¬ i < 0) (hN : i.toNatClampNeg = N) (hby : N * componentBytes ty ≤ 536870912) (hk : k + 1 ≤ R.cells) (hn : n + N ≤ R.slots) (kk : J p l e R s m args below meth c nL D cl A (hAdd h (.inr (ty, a0))) lv (k + 1) (n + N) Q (pc + 2) (.ref h.1 :: st)) : J p l e R s m args below meth c nL D cl A h lv k n Q pc (.int i :: st) := by
  subst hty
  intro H locs ls a1 b1 d1
  have hs := a1.1
  refine va_newaK X.1 X.2.1 (X.2.2.2.2.1 _ harr) rfl hd rfl hi hN hby hk hn rfl fun H1 cA e1 z1 o1 hAr hNm => ?_
  have h9 := kk H1 locs ls (a1.add z1 o1 (X.2.2.2.2.2.2 _ b1.1) ⟨cA, hAr, hR s cA hNm, by rw [ha]; exact e1⟩) (hS_add b1 z1 o1) d1
  rw [← hs] at h9
  exact h9
theorem J_newq (X : hCx G p m c cc nL s args Ts own D cl K A) {C : String} {idx : Nat} (hcl : (Cond.classLink own idx C) ∈ Ts) (hover : C ∈ G.2.1) (hd : decode cc pc = .ok (.anewarray idx, 3)) {i : Int32} {N : Nat} (hi : ¬ i < 0) (hN : i.toNatClampNeg = N) (hby : N * 4 ≤ 536870912) (hk : k + 1 ≤ R.cells) (hn : n + N ≤ R.slots) (kk : J p l e R s m args below meth c nL D cl A (hAdd h (.inr (.object C, N, .inr (.inr (.inr (.inr (fun _ => none))))))) lv (k + 1) (n + N) Q (pc + 3) (.ref h.1 :: st)) : J p l e R s m args below meth c nL D cl A h lv k n Q pc (.int i :: st) := by
  subst hN
  intro H locs ls a1 b1 d1
  have hs := a1.1
  refine W.anew X.1 X.2.1 X.2.2.2.1 (X.2.2.2.2.1 _ hcl) (va_AO.use (X.2.2.2.2.2.1.2.2.1 _ hover)) rfl hd rfl hi hby hk hn fun cA kA comp f1 f2 f3 f4 => ?_
  generalize hH1 : H.push ({ cls := cA, slots := Array.replicate i.toNatClampNeg .null, vm := .none } : Cell) = H1
  have z1 : H1.size = H.size + 1 := by rw [← hH1, Array.size_push]
  have e1 : H1[H.size]? = some (arrV cA i.toNatClampNeg (fun _ => .null)) := by rw [← hH1, Array.getElem?_push_size, ← arrV_new]
  have o1 : ∀ q : Nat, q < H.size → H1[q]? = H[q]? := fun q hq => by rw [← hH1, Array.getElem?_push, if_neg (Nat.ne_of_lt hq)]
  have hAr : ArrOfT s cA (.object C) := fun N z => ⟨(fun k h => by cases h), kA, f2, comp, f3⟩
  have h9 := kk H1 locs ls (a1.add z1 o1 (X.2.2.2.2.2.2 _ b1.1) ⟨cA, hAr, ⟨kA, comp, f2, f3, f4, f1⟩, by rw [vp_cell_q]; exact e1⟩) (hS_add b1 z1 o1) d1
  rw [← hs] at h9
  exact h9
theorem J_call {mc ms : Nat} {o : Option Value} {h2 : hH} {a : Array Value} {st0 rest : List Value} (hr : ∀ (H : Heap) (locs : List Loc) (ls : Array Slot), hw D cl A s H h → va_S A s.heap H locs → lv_has ls nL lv → va_Run p l e R s m args below meth c H locs k n mc ms (F0 m pc ls st0) rest (hQ D cl h o h2 a) (hF h)) (hA : ∀ q, s.heap.size ≤ q → A q) (kk : J p l e R s m args below meth c nL D cl A h2 lv (k + mc) (n + ms) Q (pc + 3) (o.toList ++ rest)) : J p l e R s m args below meth c nL D cl A h lv k n Q pc st0 := by
  intro H locs ls a1 b1 d1 T hT X
  obtain ⟨v, st₀, t, T', L, h0, X', hL, e1, e2, ⟨hv, hw2, hz, hk⟩, st⟩ := hr H locs ls a1 b1 d1 T hT X
  cases hv
  have hal : s.vm.Alike t.vm := by rw [← e2]; exact X'.warmed.alike
  have hfr := a1.free hA b1.1
  have hw3 : hw D cl A s T'.heap h2 := by rw [e1]; exact (hw2.moved hal.symm).wk hfr
  rw [h0] at hz hk
  have hS2 : va_S A s.heap T'.heap (locs ++ L) := by
    rw [e1]
    refine ⟨Nat.le_trans b1.1 hz, fun q h1 h2 => ?_, fun q hq => ?_⟩
    · rw [hk q (Nat.lt_of_lt_of_le h1 b1.1) (fun z => h2 (hfr q z))]
      exact b1.2.1 q h1 h2
    · rcases List.mem_append.mp hq with h | h
      · exact b1.2.2 q h
      · exact hfr _ (hL q h)
  obtain ⟨t2, x1, y1⟩ := kk T'.heap (locs ++ L) ls hw3 hS2 d1 T' rfl X'
  exact ⟨t2, st t2 x1, y1⟩
theorem hPc_blind {av : List Value} : FrameBlind (hPc G D cl K av h) := fun a U g mk q => ⟨q.1, q.2.1.moved (Vm.Alike.refl U.vm), q.2.2.same rfl⟩
theorem hPc_at {H : Heap} {locs : List Loc} {av : List Value} (X : hCx G p m c cc nL s args Ts own D cl K A) (t : hw D cl A s H h) (b1 : va_S A s.heap H locs) (U : State) (hU : U.heap = H) (hW : s.WarmedH U.vm) : hPc G D cl K av h av.toArray U := ⟨rfl, by rw [hU]; exact (t.moved hW.alike).wk (fun _ _ => trivial), by rw [hU]; exact X.2.2.2.2.2.1.to hW (t.free X.2.2.2.2.2.2 b1.1) b1.2.1⟩
theorem h_recv (X : hCx G p m c cc nL s args Ts own D cl K A) {H : Heap} {C : String} {T : u_T} {N ci a : Nat} {u : Unit} (hc : cl[ci]? = some (C, T, N)) (hi : hIs h a ci = some u) (t : hw D cl A s H h) : ∃ cell : Cell, H[a]? = some cell ∧ cell.vm.isStatics = false ∧ s.vm.findClass C = some cell.cls := by
  obtain ⟨fs, h1, -⟩ := hb_some hi
  obtain ⟨r, hr, -, cell, g1, g2, g3, -⟩ := (t.2 a _ (hObj_at h1)).2
  exact ⟨cell, g1, by rw [g3]; rfl, by rw [g2]; exact (X.2.2.2.2.2.1.1 ci _ hc).2.1⟩
theorem J_callV (X : hCx G p m c cc nL s args Ts own D cl K A) {y : MethodName} {by2 : ByteArray} {mL : Nat} {ret : Option FieldType} {ws : List Cond} {rm : Room} {mc ms nA : Nat} {As rest : List Value} {o : Option Value} {h2 : hH} {a : Nat} {idx : Nat} {v : Value} (ev : v = .ref a) {C : String} {T : u_T} {N ci : Nat} (hc : cl[ci]? = some (C, T, N)) {u : Unit} (hi : hIs h a ci = some u) (hM : Met l y ws rm (hPc G D cl K (.ref a :: As) h) (hQ D cl h o h2) mc ms (hF h)) (cw : CallW R s args own C idx y by2 mL ret ws rm mc ms nA) (hd : decode cc pc = .ok (.invokevirtual idx, 3)) (hA : As.length = nA) {st0 : List Value} (hs0 : (As.reverse ++ v :: rest) = st0) (hW : (rest.map fun v => v.category).sum ≤ 8) (hk : k + mc ≤ R.cells) (hn : n + ms ≤ R.slots) (kk : J p l e R s m args below meth c nL D cl A h2 lv (k + mc) (n + ms) Q (pc + 3) (o.toList ++ rest)) : J p l e R s m args below meth c nL D cl A h lv k n Q pc st0 := by
  subst hs0
  subst ev
  refine J_call (a := (.ref a :: As).toArray) (fun H locs ls a1 b1 d1 => ?_) X.2.2.2.2.2.2 kk
  exact va_runV (As := As) (rest := rest) X.fix hM cw ⟨hPc_blind, h_recv X hc hi a1, fun U hU hW => hPc_at X a1 b1 U hU hW⟩ rfl hA d1.1 rfl (lv_room hW) hd ⟨hk, hn⟩
theorem J_callVN (X : hCx G p m c cc nL s args Ts own D cl K A) {y : MethodName} {by2 : ByteArray} {mL : Nat} {ret : Option FieldType} {ws : List Cond} {rm : Room} {mc ms nA : Nat} {As rest : List Value} {o : Option Value} {h2 : hH} {a : Nat} {idx : Nat} {host : String} {v : Value} (ev : v = .ref a) {C : String} {T : u_T} {N ci : Nat} (hc : cl[ci]? = some (C, T, N)) {u : Unit} (hi : hIs h a ci = some u) (hM : Met l y ws rm (hPc G D cl K (.ref a :: As) h) (hQ D cl h o h2) mc ms (hF h)) (cw : va_CN R s args own idx y host by2 mL ret ws rm mc ms nA ∧ (Cond.instanceMethod y).before args s = true ∧ (Cond.selects C y y).before args s = true) (hd : decode cc pc = .ok (.invokevirtual idx, 3)) (hA : As.length = nA) {st0 : List Value} (hs0 : (As.reverse ++ v :: rest) = st0) (hW : (rest.map fun v => v.category).sum ≤ 8) (hk : k + mc ≤ R.cells) (hn : n + ms ≤ R.slots) (kk : J p l e R s m args below meth c nL D cl A h2 lv (k + mc) (n + ms) Q (pc + 3) (o.toList ++ rest)) : J p l e R s m args below meth c nL D cl A h lv k n Q pc st0 := by
  subst hs0
  subst ev
  refine J_call (a := (.ref a :: As).toArray) (fun H locs ls a1 b1 d1 => ?_) X.2.2.2.2.2.2 kk
  exact va_runVN (As := As) (rest := rest) X.fix hM cw ⟨hPc_blind, h_recv X hc hi a1, fun U hU hW => hPc_at X a1 b1 U hU hW⟩ rfl hA d1.1 rfl (lv_room hW) hd ⟨hk, hn⟩
theorem J_callS (X : hCx G p m c cc nL s args Ts own D cl K A) {y : MethodName} {by2 : ByteArray} {mL : Nat} {ret : Option FieldType} {ws : List Cond} {rm : Room} {mc ms nA : Nat} {As rest : List Value} {o : Option Value} {h2 : hH} {idx : Nat} (hM : Met l y ws rm (hPc G D cl K As h) (hQ D cl h o h2) mc ms (hF h)) (cw : CallB R s args own idx y by2 mL ret ws rm mc ms nA ∧ (Cond.static y).before args s = true) (hd : decode cc pc = .ok (.invokestatic idx, 3)) (hA : As.length = nA) {st0 : List Value} (hs0 : (As.reverse ++ rest) = st0) (hW : (rest.map fun v => v.category).sum ≤ 8) (hk : k + mc ≤ R.cells) (hn : n + ms ≤ R.slots) (kk : J p l e R s m args below meth c nL D cl A h2 lv (k + mc) (n + ms) Q (pc + 3) (o.toList ++ rest)) : J p l e R s m args below meth c nL D cl A h lv k n Q pc st0 := by
  subst hs0
  refine J_call (a := As.toArray) (fun H locs ls a1 b1 d1 => ?_) X.2.2.2.2.2.2 kk
  exact va_runS (As := As) (rest := rest) X.fix hM cw ⟨hPc_blind, fun U hU hW => hPc_at X a1 b1 U hU hW⟩ rfl hA d1.1 rfl (lv_room hW) hd ⟨hk, hn⟩
theorem J_callSN (X : hCx G p m c cc nL s args Ts own D cl K A) {y : MethodName} {by2 : ByteArray} {mL : Nat} {ret : Option FieldType} {ws : List Cond} {rm : Room} {mc ms nA : Nat} {As rest : List Value} {o : Option Value} {h2 : hH} {idx : Nat} {host : String} (hM : Met l y ws rm (hPc G D cl K As h) (hQ D cl h o h2) mc ms (hF h)) (cw : va_CN R s args own idx y host by2 mL ret ws rm mc ms nA ∧ (Cond.static y).before args s = true ∧ True) (hd : decode cc pc = .ok (.invokestatic idx, 3)) (hA : As.length = nA) {st0 : List Value} (hs0 : (As.reverse ++ rest) = st0) (hW : (rest.map fun v => v.category).sum ≤ 8) (hk : k + mc ≤ R.cells) (hn : n + ms ≤ R.slots) (kk : J p l e R s m args below meth c nL D cl A h2 lv (k + mc) (n + ms) Q (pc + 3) (o.toList ++ rest)) : J p l e R s m args below meth c nL D cl A h lv k n Q pc st0 := by
  subst hs0
  refine J_call (a := As.toArray) (fun H locs ls a1 b1 d1 => ?_) X.2.2.2.2.2.2 kk
  exact va_runSN (As := As) (rest := rest) X.fix hM cw ⟨hPc_blind, fun U hU hW => hPc_at X a1 b1 U hU hW⟩ rfl hA d1.1 rfl (lv_room hW) hd ⟨hk, hn⟩
theorem J_callI (X : hCx G p m c cc nL s args Ts own D cl K A) {y : MethodName} {by2 : ByteArray} {mL : Nat} {ws : List Cond} {rm : Room} {mc ms nA : Nat} {As rest : List Value} {o : Option Value} {h2 : hH} {a : Nat} {idx : Nat} {v : Value} (ev : v = .ref a) (hM : Met l y ws rm (hPc G D cl K (.ref a :: As) h) (hQ D cl h o h2) mc ms (hF h)) (cw : CallB R s args own idx y by2 mL none ws rm mc ms nA ∧ y.name = "<init>" ∧ (Cond.instanceMethod y).before args s = true) (hd : decode cc pc = .ok (.invokespecial idx, 3)) (hA : As.length = nA) {st0 : List Value} (hs0 : (As.reverse ++ v :: rest) = st0) (hW : (rest.map fun v => v.category).sum ≤ 8) (hk : k + mc ≤ R.cells) (hn : n + ms ≤ R.slots) (kk : J p l e R s m args below meth c nL D cl A h2 lv (k + mc) (n + ms) Q (pc + 3) (o.toList ++ rest)) : J p l e R s m args below meth c nL D cl A h lv k n Q pc st0 := by
  subst hs0
  subst ev
  refine J_call (a := (.ref a :: As).toArray) (fun H locs ls a1 b1 d1 => ?_) X.2.2.2.2.2.2 kk
  exact va_runI (As := As) (rest := rest) X.fix hM cw ⟨hPc_blind, fun U hU hW => hPc_at X a1 b1 U hU hW⟩ rfl hA d1.1 rfl (lv_room hW) hd ⟨hk, hn⟩
theorem J_callIN (X : hCx G p m c cc nL s args Ts own D cl K A) {y : MethodName} {by2 : ByteArray} {mL : Nat} {ws : List Cond} {rm : Room} {mc ms nA : Nat} {As rest : List Value} {o : Option Value} {h2 : hH} {a : Nat} {idx : Nat} {host : String} {v : Value} (ev : v = .ref a) (hM : Met l y ws rm (hPc G D cl K (.ref a :: As) h) (hQ D cl h o h2) mc ms (hF h)) (cw : va_CN R s args own idx y host by2 mL none ws rm mc ms nA ∧ y.name = "<init>" ∧ (Cond.instanceMethod y).before args s = true) (hd : decode cc pc = .ok (.invokespecial idx, 3)) (hA : As.length = nA) {st0 : List Value} (hs0 : (As.reverse ++ v :: rest) = st0) (hW : (rest.map fun v => v.category).sum ≤ 8) (hk : k + mc ≤ R.cells) (hn : n + ms ≤ R.slots) (kk : J p l e R s m args below meth c nL D cl A h2 lv (k + mc) (n + ms) Q (pc + 3) (o.toList ++ rest)) : J p l e R s m args below meth c nL D cl A h lv k n Q pc st0 := by
  subst hs0
  subst ev
  refine J_call (a := (.ref a :: As).toArray) (fun H locs ls a1 b1 d1 => ?_) X.2.2.2.2.2.2 kk
  exact va_runIN (As := As) (rest := rest) X.fix hM cw ⟨hPc_blind, fun U hU hW => hPc_at X a1 b1 U hU hW⟩ rfl hA d1.1 rfl (lv_room hW) hd ⟨hk, hn⟩
theorem J_objInit (X : hCx G p m c cc nL s args Ts own D cl K A) {idx : Nat} (hl : (Cond.methodLink own idx objectInit) ∈ Ts) (hi : (Cond.instanceMethod objectInit) ∈ Ts) (hcd : (Cond.code objectInit ⟨#[0xb1]⟩ 1 none) ∈ Ts) (hd : decode cc pc = .ok (.invokespecial idx, 3)) (hf : 1 ≤ R.frames) (hW : (st.map fun v => v.category).sum + 12 ≤ R.locals) {a : Nat} (kk : J p l e R s m args below meth c nL D cl A h lv k n Q (pc + 3) st) : J p l e R s m args below meth c nL D cl A h lv k n Q pc (.ref a :: st) := by
  intro H locs ls a1 b1 d1
  exact W.objInit X.1 X.2.1 X.2.2.2.1 (X.2.2.2.2.1 _ hl) (X.2.2.2.2.1 _ hi) (X.2.2.2.2.1 _ hcd) rfl (by rw [X.2.2.1]; exact d1.1) rfl hd hf (by simpa [JFrame.monitorRoom] using hW) (kk H locs ls a1 b1 d1)
theorem hQ_end {H : Heap} {locs : List Loc} {o : Option Value} {h0 : hH} (a1 : hw D cl (hF h0) s H h) (b1 : va_S (hF h0) s.heap H locs) (t : State) (ht : t.heap = H) (hW : s.WarmedH t.vm) : hQ D cl h0 o h args s (.returned o) t :=
  ⟨rfl, by rw [ht]; exact a1.moved hW.alike, by rw [ht]; exact b1.1, fun q hq hn => by rw [ht]; exact b1.2.1 q hq hn⟩
theorem J_iret {h0 : hH} (X : hCx G p m c cc nL s args Ts own D cl K (hF h0)) {mc ms : Nat} {v : Int32} (hr : meth.sig.returnType = some .int) (hlk : meth.locks = false) (hk : k ≤ mc) (hn : n ≤ ms) (hd : decode cc pc = .ok (.ireturn, 1)) : J p l e R s m args below meth c nL D cl (hF h0) h lv k n (MQ below (hQ D cl h0 (some (.int v)) h) args s mc ms (hF h0)) pc [.int v] := by
  intro H locs ls a1 b1 d1
  refine W.widen hk hn ?_
  exact W.iret X.1 X.2.1 hr (hQ_end a1 b1) b1.2.2 hd hlk
theorem J_zret {h0 : hH} (X : hCx G p m c cc nL s args Ts own D cl K (hF h0)) {mc ms : Nat} {v : Int32} (hr : meth.sig.returnType = some .boolean) (hz : narrow .boolean (.int v) = .int v) (hlk : meth.locks = false) (hk : k ≤ mc) (hn : n ≤ ms) (hd : decode cc pc = .ok (.ireturn, 1)) : J p l e R s m args below meth c nL D cl (hF h0) h lv k n (MQ below (hQ D cl h0 (some (.int v)) h) args s mc ms (hF h0)) pc [.int v] := by
  intro H locs ls a1 b1 d1
  refine W.widen hk hn ?_
  exact W.zret X.1 X.2.1 hr hz (hQ_end a1 b1) b1.2.2 hd hlk
theorem J_nret {h0 : hH} (X : hCx G p m c cc nL s args Ts own D cl K (hF h0)) {mc ms : Nat} {v : Int32} {ty : FieldType} (hr : meth.sig.returnType = some ty) (hz : narrow ty (.int v) = .int v) (hlk : meth.locks = false) (hk : k ≤ mc) (hn : n ≤ ms) (hd : decode cc pc = .ok (.ireturn, 1)) : J p l e R s m args below meth c nL D cl (hF h0) h lv k n (MQ below (hQ D cl h0 (some (.int v)) h) args s mc ms (hF h0)) pc [.int v] := by
  intro H locs ls a1 b1 d1
  refine W.widen hk hn ?_
  exact W.zret X.1 X.2.1 hr hz (hQ_end a1 b1) b1.2.2 hd hlk
theorem J_lret {h0 : hH} (X : hCx G p m c cc nL s args Ts own D cl K (hF h0)) {mc ms : Nat} {v : Int64} (hr : meth.sig.returnType = some .long) (hlk : meth.locks = false) (hk : k ≤ mc) (hn : n ≤ ms) (hd : decode cc pc = .ok (.lreturn, 1)) : J p l e R s m args below meth c nL D cl (hF h0) h lv k n (MQ below (hQ D cl h0 (some (.long v)) h) args s mc ms (hF h0)) pc [.long v] := by
  intro H locs ls a1 b1 d1
  refine W.widen hk hn ?_
  exact W.lret X.1 X.2.1 hr (hQ_end a1 b1) b1.2.2 hd hlk
theorem J_vret {h0 : hH} (X : hCx G p m c cc nL s args Ts own D cl K (hF h0)) {mc ms : Nat} (hr : meth.sig.returnType = none) (hlk : meth.locks = false) (hk : k ≤ mc) (hn : n ≤ ms) (hd : decode cc pc = .ok (.return_, 1)) : J p l e R s m args below meth c nL D cl (hF h0) h lv k n (MQ below (hQ D cl h0 none h) args s mc ms (hF h0)) pc [] := by
  intro H locs ls a1 b1 d1
  refine W.widen hk hn ?_
  exact W.vret X.1 X.2.1 hr (hQ_end a1 b1) b1.2.2 hd hlk
theorem J_aret {h0 : hH} (X : hCx G p m c cc nL s args Ts own D cl K (hF h0)) {mc ms : Nat} {v : Option Nat} {rt : String} (hr : meth.sig.returnType = some (.object rt)) (hlk : meth.locks = false) (hk : k ≤ mc) (hn : n ≤ ms) (hd : decode cc pc = .ok (.areturn, 1)) : J p l e R s m args below meth c nL D cl (hF h0) h lv k n (MQ below (hQ D cl h0 (some (va_rf v)) h) args s mc ms (hF h0)) pc [va_rf v] := by
  intro H locs ls a1 b1 d1
  refine W.widen hk hn ?_
  exact W.aret X.1 X.2.1 hr (Or.inl ⟨_, rfl⟩) (va_rf_or v) (hQ_end a1 b1) b1.2.2 hd hlk
theorem h_str (X : hCx G p m c cc nL s args Ts own D cl K A) {i : Nat} {q : Nat × String × List Int32} (hq : G.2.2.2[i]? = some q) : va_O "java/lang/String" (K.1 i) A s s.heap ∧ va_OF "java/lang/String" "coder" "B" (.int 0) (K.1 i) A s s.heap ∧ va_OF "java/lang/String" "value" "[B" (.ref (K.2 i)) (K.1 i) A s s.heap ∧ va_T .byte (K.2 i) q.2.2.length (fun j => .int (q.2.2.getD j 0)) A s s.heap := by
  have hi : i < G.2.2.2.length := (List.getElem?_eq_some_iff.mp hq).1
  have h9 := X.2.2.2.2.2.1.2.2.2.1.1 i hi
  have e1 : (G.2.2.2.map fun q => q.2.2.length).getD i 0 = q.2.2.length := by simp [List.getD, hq]
  have e2 : (G.2.2.2.map fun q => q.2.2).getD i [] = q.2.2 := by simp [List.getD, hq]
  rw [e1, e2] at h9
  exact h9
theorem J_ldcS (X : hCx G p m c cc nL s args Ts own D cl K A) {idx : Nat} {tx : String} {bs : List Int32} (i : Nat) (hq : G.2.2.2[i]? = some (idx, tx, bs)) (ho : G.2.2.1 = own) (hd : decode cc pc = .ok (.ldc idx, 2)) (kk : J p l e R s m args below meth c nL D cl A h lv k n Q (pc + 2) (.ref (K.1 i) :: st)) : J p l e R s m args below meth c nL D cl A h lv k n Q pc st := by
  subst ho
  exact fun H locs ls a b d => va_ldcS X.1 X.2.1 X.2.2.2.1 (X.2.2.2.2.2.1.2.2.2.2.1 i _ hq) hd (kk H locs ls a b d)
theorem J_gets (X : hCx G p m c cc nL s args Ts own D cl K A) {C n9 d9 : String} {v : Value} {idx : Nat} (hZ : va_Z C n9 d9 v A s s.heap) (hl : Cond.fieldLink own idx C n9 d9 ∈ Ts) (hd : decode cc pc = .ok (.getstatic idx, 3)) (kk : J p l e R s m args below meth c nL D cl A h lv k n Q (pc + 3) (v :: st)) : J p l e R s m args below meth c nL D cl A h lv k n Q pc st :=
  fun H locs ls a b d => va_gets (ref := C) X.1 X.2.1 hZ b X.2.2.2.1 (X.2.2.2.2.1 _ hl) (fun _ h => h) hd (kk H locs ls a b d)
theorem J_getOF (X : hCx G p m c cc nL s args Ts own D cl K A) {n9 d9 : String} {v : Value} {idx a9 : Nat} (hE : va_OF "java/lang/String" n9 d9 v a9 A s s.heap) (hl : Cond.fieldLink own idx "java/lang/String" n9 d9 ∈ Ts) (hd : decode cc pc = .ok (.getfield idx, 3)) (kk : J p l e R s m args below meth c nL D cl A h lv k n Q (pc + 3) (v :: st)) : J p l e R s m args below meth c nL D cl A h lv k n Q pc (.ref a9 :: st) :=
  fun H locs ls a b d => vk_getf (ref := "java/lang/String") X.1 X.2.1 hE b X.2.2.2.1 (X.2.2.2.2.1 _ hl) (fun _ h => h) hd (kk H locs ls a b d)
theorem J_tlen (X : hCx G p m c cc nL s args Ts own D cl K A) {t N9 : Nat} {f : Nat → Value} (hT : va_T .byte t N9 f A s s.heap) (hd : decode cc pc = .ok (.arraylength, 1)) (kk : J p l e R s m args below meth c nL D cl A h lv k n Q (pc + 1) (.int (nI N9) :: st)) : J p l e R s m args below meth c nL D cl A h lv k n Q pc (.ref t :: st) :=
  fun H locs ls a b d => va_tlen X.1 X.2.1 hT b rfl hd (kk H locs ls a b d)
theorem J_tb (X : hCx G p m c cc nL s args Ts own D cl K A) {t N9 : Nat} {f : Nat → Value} {j : Int32} (hT : va_T .byte t N9 f A s s.heap) (hj : vp_in j N9) (hd : decode cc pc = .ok (.baload, 1)) (kk : J p l e R s m args below meth c nL D cl A h lv k n Q (pc + 1) (f j.toNatClampNeg :: st)) : J p l e R s m args below meth c nL D cl A h lv k n Q pc (.int j :: .ref t :: st) :=
  fun H locs ls a b d => va_tb X.1 X.2.1 hT b hj rfl hd (kk H locs ls a b d)
theorem J_callVS (X : hCx G p m c cc nL s args Ts own D cl K A) {y : MethodName} {by2 : ByteArray} {mL : Nat} {ret : Option FieldType} {ws : List Cond} {rm : Room} {mc ms nA : Nat} {As rest : List Value} {o : Option Value} {h2 : hH} {i : Nat} {q : Nat × String × List Int32} (hq : G.2.2.2[i]? = some q) {idx : Nat} (hM : Met l y ws rm (hPc G D cl K (.ref (K.1 i) :: As) h) (hQ D cl h o h2) mc ms (hF h)) (cw : CallW R s args own "java/lang/String" idx y by2 mL ret ws rm mc ms nA) (hd : decode cc pc = .ok (.invokevirtual idx, 3)) (hA : As.length = nA) {st0 : List Value} (hs0 : (As.reverse ++ .ref (K.1 i) :: rest) = st0) (hW : (rest.map fun v => v.category).sum ≤ 8) (hk : k + mc ≤ R.cells) (hn : n + ms ≤ R.slots) (kk : J p l e R s m args below meth c nL D cl A h2 lv (k + mc) (n + ms) Q (pc + 3) (o.toList ++ rest)) : J p l e R s m args below meth c nL D cl A h lv k n Q pc st0 := by
  subst hs0
  refine J_call (a := (.ref (K.1 i) :: As : List Value).toArray) (fun H locs ls a1 b1 d1 => ?_) X.2.2.2.2.2.2 kk
  exact va_runV (As := As) (rest := rest) X.fix hM cw ⟨hPc_blind, vk_recv X.2.2.2.2.2.1.2.2.2.1 (List.getElem?_eq_some_iff.mp hq).1 b1, fun U hU hW => hPc_at X a1 b1 U hU hW⟩ rfl hA d1.1 rfl (lv_room hW) hd ⟨hk, hn⟩
end HR
/-- A CONTRACT out of a walk -/
theorem J_met {G : hSt} {l : Launch} {y : MethodName} {cc : ByteArray} {mL : Nat} {ret : Option FieldType} {T0 : List Cond} {rm : Room} {D : va_G} {cl : List vw_C} {K : (Nat → Nat) × (Nat → Nat)} {av : List Value} {h h2 : hH} {o : Option Value} {mc ms : Nat} (lv : List (Nat × Value)) (hy : plainName y.cls = true) (hlen : (lg_sl av).length ≤ mL) (hlv : lv_args 0 av = lv)
    (body : ∀ (p : Program) (e : Env) (s : State) (m : MethodId) (below : List Frame) (meth : Method) (c : Code), hCx G p m c cc mL s av.toArray T0 y.cls D cl K (hF h) → meth.sig.returnType = ret → meth.locks = false → meth.name = y.name → J p l e rm s m av.toArray below meth c mL D cl (hF h) h lv 0 0 (MQ below (hQ D cl h o h2) av.toArray s mc ms (hF h)) 0 []) :
    Met l y (.code y cc mL ret :: T0) rm (hPc G D cl K av h) (hQ D cl h o h2) mc ms (hF h) := by
  subst hlv
  refine Met.ofW (cc := cc) (maxL := mL) (ret := ret) hy rfl ?_
  intro p e s m args below meth c s₁ Bd hml hv
  obtain ⟨rfl, hw0, hs0⟩ := hv
  have hts := atoms_spec (ws := .code y cc mL ret :: T0) Bd.pre
  have hl := lv_entry av (n := mL) hlen
  rw [lg_entry_eq]
  exact body p e s m below meth c ⟨Bd.exec, Bd.bytes, hml, findClass_of_methodNamed Bd.named, fun w hw9 => hts w (List.mem_cons_of_mem _ hw9), hs0, fun q hq => Or.inl (by rw [← hw0.1]; exact hq)⟩ Bd.returns Bd.notSynchronized (name_of_methodNamed Bd.named Bd.method).1 s.heap [] _ hw0.self va_S.rf hl
