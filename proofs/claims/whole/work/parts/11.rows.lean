section SXV
/-- what a method's walk stands on -/
def sx_C (lay : List sx_L) (cl : List vw_C) (D : va_G) (cI cJ : ClassId) (ad : Nat → Nat) (A : Nat → Prop) (nL : Nat) (own : String) (cc : ByteArray) (Ts : List Cond) (p : Program) (s : State) (m : MethodId) (args : Array Value) (c : Code) : Prop :=
  p.tables.exec = Jvm.exec ∧ c.code = cc ∧ c.maxLocals = nL ∧ s.vm.findClass own = some m.cls ∧ (∀ w ∈ Ts, w.before args s = true) ∧ va_K D cl [(cI, .int), (cJ, .long)] s ∧ (∀ q : Nat, s.heap.size ≤ q → A q) ∧ sx_J lay ad ∧ ∀ i, i < lay.length → A (ad i)
/-- from pc, with these locals, this stack, this memory, the walk comes to Q -/
def sx_V (lay : List sx_L) (cl : List vw_C) (D : va_G) (cI cJ : ClassId) (ad : Nat → Nat) (A : Nat → Prop) (nL : Nat) (p : Program) (l : Launch) (e : Env) (R : Room) (s : State) (m : MethodId) (args : Array Value) (below : List Frame) (meth : Method) (c : Code) (Q : State → Prop) (cells slots : Nat) (μ : sx_M) (pc : Nat) (lv : List (Nat × Value)) (st : List Value) : Prop :=
  ∀ (H : Heap) (locs : List Loc) (ls : Array Slot), va_P D cl (sx_W lay cI cJ ad μ) H → va_S A s.heap H locs → lv_has ls nL lv → W p l e R s m args below meth c H locs cells slots Q (F0 m pc ls st)
variable {lay : List sx_L} {cl : List vw_C} {D : va_G} {cI cJ : ClassId} {ad : Nat → Nat} {A : Nat → Prop} {nL : Nat} {own : String} {cc : ByteArray} {Ts : List Cond} {p : Program} {l : Launch} {e : Env} {R : Room} {s : State} {m : MethodId} {args : Array Value} {below : List Frame} {meth : Method} {c : Code} {Q : State → Prop} {cells slots : Nat} {μ : sx_M} {pc : Nat} {lv : List (Nat × Value)} {st : List Value}

theorem sx_iconst (C : sx_C lay cl D cI cJ ad A nL own cc Ts p s m args c) {n v : Int} (hd : decode cc pc = .ok (.iconst n, 1)) (hv : n = v) (k : sx_V lay cl D cI cJ ad A nL p l e R s m args below meth c Q cells slots μ (pc + 1) lv (.int (sx_i v) :: st)) : sx_V lay cl D cI cJ ad A nL p l e R s m args below meth c Q cells slots μ (pc) lv (st) := by
  intro H locs ls hP hS hl
  subst hv
  exact lv_iconst C.1 C.2.1 hd rfl (k H locs ls hP hS hl)

theorem sx_bipush (C : sx_C lay cl D cI cJ ad A nL own cc Ts p s m args c) {n v : Int} (hd : decode cc pc = .ok (.bipush n, 2)) (hv : (Int8.ofInt n).toInt32 = sx_i v) (k : sx_V lay cl D cI cJ ad A nL p l e R s m args below meth c Q cells slots μ (pc + 2) lv (.int (sx_i v) :: st)) : sx_V lay cl D cI cJ ad A nL p l e R s m args below meth c Q cells slots μ (pc) lv (st) := by
  intro H locs ls hP hS hl
  exact lv_bipush C.1 C.2.1 hd hv (k H locs ls hP hS hl)

theorem sx_sipush (C : sx_C lay cl D cI cJ ad A nL own cc Ts p s m args c) {n v : Int} (hd : decode cc pc = .ok (.sipush n, 3)) (hv : (Int16.ofInt n).toInt32 = sx_i v) (k : sx_V lay cl D cI cJ ad A nL p l e R s m args below meth c Q cells slots μ (pc + 3) lv (.int (sx_i v) :: st)) : sx_V lay cl D cI cJ ad A nL p l e R s m args below meth c Q cells slots μ (pc) lv (st) := by
  intro H locs ls hP hS hl
  exact lv_sipush C.1 C.2.1 hd hv (k H locs ls hP hS hl)

theorem sx_ldc (C : sx_C lay cl D cI cJ ad A nL own cc Ts p s m args c) {index : Nat} {v : Int} (hd : decode cc pc = .ok (.ldc index, 2)) (hw : Jvm.Cond.constant own index (sx_i v) ∈ Ts) (k : sx_V lay cl D cI cJ ad A nL p l e R s m args below meth c Q cells slots μ (pc + 2) lv (.int (sx_i v) :: st)) : sx_V lay cl D cI cJ ad A nL p l e R s m args below meth c Q cells slots μ (pc) lv (st) := by
  intro H locs ls hP hS hl
  exact lv_ldc C.1 C.2.1 C.2.2.2.1 (C.2.2.2.2.1 _ hw) hd (k H locs ls hP hS hl)

theorem sx_lconst (C : sx_C lay cl D cI cJ ad A nL own cc Ts p s m args c) {n : Fin 2} {v : Int} (hd : decode cc pc = .ok (.lconst n, 1)) (hv : Int64.ofNat (n : Nat) = sx_j v) (k : sx_V lay cl D cI cJ ad A nL p l e R s m args below meth c Q cells slots μ (pc + 1) lv (.long (sx_j v) :: st)) : sx_V lay cl D cI cJ ad A nL p l e R s m args below meth c Q cells slots μ (pc) lv (st) := by
  intro H locs ls hP hS hl
  exact lv_lconst C.1 C.2.1 hd hv (k H locs ls hP hS hl)

theorem sx_iload_n (C : sx_C lay cl D cI cJ ad A nL own cc Ts p s m args c) {q : Fin 4} {i : Nat} {x : Int} (n : Nat) (hd : decode cc pc = .ok (.iload_n q, 1)) (hi : (q : Nat) = i) (hv : lv[n]? = some (i, .int (sx_i x))) (k : sx_V lay cl D cI cJ ad A nL p l e R s m args below meth c Q cells slots μ (pc + 1) lv (.int (sx_i x) :: st)) : sx_V lay cl D cI cJ ad A nL p l e R s m args below meth c Q cells slots μ (pc) lv (st) := by
  intro H locs ls hP hS hl
  exact lv_iload_n C.1 C.2.1 hd hi (lv_at hl n hv) (k H locs ls hP hS hl)

theorem sx_iload (C : sx_C lay cl D cI cJ ad A nL own cc Ts p s m args c) {i : Nat} {x : Int} (n : Nat) (hd : decode cc pc = .ok (.iload i, 2)) (hv : lv[n]? = some (i, .int (sx_i x))) (k : sx_V lay cl D cI cJ ad A nL p l e R s m args below meth c Q cells slots μ (pc + 2) lv (.int (sx_i x) :: st)) : sx_V lay cl D cI cJ ad A nL p l e R s m args below meth c Q cells slots μ (pc) lv (st) := by
  intro H locs ls hP hS hl
  exact lv_iload C.1 C.2.1 hd (lv_at hl n hv) (k H locs ls hP hS hl)

theorem sx_aload_n (C : sx_C lay cl D cI cJ ad A nL own cc Ts p s m args c) {q : Fin 4} {i a : Nat} (n : Nat) (hd : decode cc pc = .ok (.aload_n q, 1)) (hi : (q : Nat) = i) (hv : lv[n]? = some (i, .ref a)) (k : sx_V lay cl D cI cJ ad A nL p l e R s m args below meth c Q cells slots μ (pc + 1) lv (.ref a :: st)) : sx_V lay cl D cI cJ ad A nL p l e R s m args below meth c Q cells slots μ (pc) lv (st) := by
  intro H locs ls hP hS hl
  exact lv_aload_n C.1 C.2.1 hd hi (lv_at hl n hv) (k H locs ls hP hS hl)

theorem sx_aload (C : sx_C lay cl D cI cJ ad A nL own cc Ts p s m args c) {i a : Nat} (n : Nat) (hd : decode cc pc = .ok (.aload i, 2)) (hv : lv[n]? = some (i, .ref a)) (k : sx_V lay cl D cI cJ ad A nL p l e R s m args below meth c Q cells slots μ (pc + 2) lv (.ref a :: st)) : sx_V lay cl D cI cJ ad A nL p l e R s m args below meth c Q cells slots μ (pc) lv (st) := by
  intro H locs ls hP hS hl
  exact lv_aload C.1 C.2.1 hd (lv_at hl n hv) (k H locs ls hP hS hl)

theorem sx_istore_n (C : sx_C lay cl D cI cJ ad A nL own cc Ts p s m args c) {q : Fin 4} {i : Nat} {x : Int} {lu : List (Nat × Value)} (hd : decode cc pc = .ok (.istore_n q, 1)) (hi : (q : Nat) = i) (hn : i < nL) (hv : (i, Value.int (sx_i x)) :: lv.filter (fun q => !(q.1 == i) && !(q.1 + 1 == i && q.2.category == 2)) = lu) (k : sx_V lay cl D cI cJ ad A nL p l e R s m args below meth c Q cells slots μ (pc + 1) lu (st)) : sx_V lay cl D cI cJ ad A nL p l e R s m args below meth c Q cells slots μ (pc) lv (.int (sx_i x) :: st) := by
  intro H locs ls hP hS hl
  exact lv_istore_n C.1 C.2.1 hd hi hl hn hv (fun ls' hl' => k H locs ls' hP hS hl')

theorem sx_istore (C : sx_C lay cl D cI cJ ad A nL own cc Ts p s m args c) {i : Nat} {x : Int} {lu : List (Nat × Value)} (hd : decode cc pc = .ok (.istore i, 2)) (hn : i < nL) (hv : (i, Value.int (sx_i x)) :: lv.filter (fun q => !(q.1 == i) && !(q.1 + 1 == i && q.2.category == 2)) = lu) (k : sx_V lay cl D cI cJ ad A nL p l e R s m args below meth c Q cells slots μ (pc + 2) lu (st)) : sx_V lay cl D cI cJ ad A nL p l e R s m args below meth c Q cells slots μ (pc) lv (.int (sx_i x) :: st) := by
  intro H locs ls hP hS hl
  exact lv_istore C.1 C.2.1 hd hl hn hv (fun ls' hl' => k H locs ls' hP hS hl')

theorem sx_astore_n (C : sx_C lay cl D cI cJ ad A nL own cc Ts p s m args c) {q : Fin 4} {i a : Nat} {lu : List (Nat × Value)} (hd : decode cc pc = .ok (.astore_n q, 1)) (hi : (q : Nat) = i) (hn : i < nL) (hv : (i, Value.ref a) :: lv.filter (fun q => !(q.1 == i) && !(q.1 + 1 == i && q.2.category == 2)) = lu) (k : sx_V lay cl D cI cJ ad A nL p l e R s m args below meth c Q cells slots μ (pc + 1) lu (st)) : sx_V lay cl D cI cJ ad A nL p l e R s m args below meth c Q cells slots μ (pc) lv (.ref a :: st) := by
  intro H locs ls hP hS hl
  exact lv_astore_n C.1 C.2.1 hd hi hl hn hv (fun ls' hl' => k H locs ls' hP hS hl')

theorem sx_astore (C : sx_C lay cl D cI cJ ad A nL own cc Ts p s m args c) {i a : Nat} {lu : List (Nat × Value)} (hd : decode cc pc = .ok (.astore i, 2)) (hn : i < nL) (hv : (i, Value.ref a) :: lv.filter (fun q => !(q.1 == i) && !(q.1 + 1 == i && q.2.category == 2)) = lu) (k : sx_V lay cl D cI cJ ad A nL p l e R s m args below meth c Q cells slots μ (pc + 2) lu (st)) : sx_V lay cl D cI cJ ad A nL p l e R s m args below meth c Q cells slots μ (pc) lv (.ref a :: st) := by
  intro H locs ls hP hS hl
  exact lv_astore C.1 C.2.1 hd hl hn hv (fun ls' hl' => k H locs ls' hP hS hl')

theorem sx_iinc (C : sx_C lay cl D cI cJ ad A nL own cc Ts p s m args c) {i : Nat} {n x : Int} {lu : List (Nat × Value)} (q : Nat) (hd : decode cc pc = .ok (.iinc i n, 3)) (hx : lv[q]? = some (i, .int (sx_i x))) (hn : i < nL) (hv : (i, Value.int (sx_i (x + n))) :: lv.filter (fun q => !(q.1 == i) && !(q.1 + 1 == i && q.2.category == 2)) = lu) (k : sx_V lay cl D cI cJ ad A nL p l e R s m args below meth c Q cells slots μ (pc + 3) lu (st)) : sx_V lay cl D cI cJ ad A nL p l e R s m args below meth c Q cells slots μ (pc) lv (st) := by
  intro H locs ls hP hS hl
  exact lv_iinc C.1 C.2.1 hd hl hx (sx_add x n) hn hv (fun ls' hl' => k H locs ls' hP hS hl')

theorem sx_less (C : sx_C lay cl D cI cJ ad A nL own cc Ts p s m args c) {lu : List (Nat × Value)} (ks : List Nat) (hv : lv_pick lv ks = lu) (k : sx_V lay cl D cI cJ ad A nL p l e R s m args below meth c Q cells slots μ (pc) lu (st)) : sx_V lay cl D cI cJ ad A nL p l e R s m args below meth c Q cells slots μ (pc) lv (st) := by
  intro H locs ls hP hS hl
  exact k H locs ls hP hS (lv_sub hl ks hv)

theorem sx_wide (C : sx_C lay cl D cI cJ ad A nL own cc Ts p s m args c) {cells2 slots2 : Nat} (h1 : cells ≤ cells2) (h2 : slots ≤ slots2) (k : sx_V lay cl D cI cJ ad A nL p l e R s m args below meth c Q cells2 slots2 μ (pc) lv (st)) : sx_V lay cl D cI cJ ad A nL p l e R s m args below meth c Q cells slots μ (pc) lv (st) := by
  intro H locs ls hP hS hl
  exact W.widen h1 h2 (k H locs ls hP hS hl)

theorem sx_iadd (C : sx_C lay cl D cI cJ ad A nL own cc Ts p s m args c) {x y : Int} (hd : decode cc pc = .ok (.iadd, 1)) (k : sx_V lay cl D cI cJ ad A nL p l e R s m args below meth c Q cells slots μ (pc + 1) lv (.int (sx_i (x + y)) :: st)) : sx_V lay cl D cI cJ ad A nL p l e R s m args below meth c Q cells slots μ (pc) lv (.int (sx_i y) :: .int (sx_i x) :: st) := by
  intro H locs ls hP hS hl
  refine lv_iadd C.1 C.2.1 hd ?_
  rw [sx_add]
  exact k H locs ls hP hS hl

theorem sx_isub (C : sx_C lay cl D cI cJ ad A nL own cc Ts p s m args c) {x y : Int} (hd : decode cc pc = .ok (.isub, 1)) (k : sx_V lay cl D cI cJ ad A nL p l e R s m args below meth c Q cells slots μ (pc + 1) lv (.int (sx_i (x - y)) :: st)) : sx_V lay cl D cI cJ ad A nL p l e R s m args below meth c Q cells slots μ (pc) lv (.int (sx_i y) :: .int (sx_i x) :: st) := by
  intro H locs ls hP hS hl
  refine lv_isub C.1 C.2.1 hd ?_
  rw [sx_sub]
  exact k H locs ls hP hS hl

theorem sx_imul (C : sx_C lay cl D cI cJ ad A nL own cc Ts p s m args c) {x y : Int} (hd : decode cc pc = .ok (.imul, 1)) (k : sx_V lay cl D cI cJ ad A nL p l e R s m args below meth c Q cells slots μ (pc + 1) lv (.int (sx_i (x * y)) :: st)) : sx_V lay cl D cI cJ ad A nL p l e R s m args below meth c Q cells slots μ (pc) lv (.int (sx_i y) :: .int (sx_i x) :: st) := by
  intro H locs ls hP hS hl
  refine lv_imul C.1 C.2.1 hd ?_
  rw [sx_mul]
  exact k H locs ls hP hS hl

theorem sx_ineg (C : sx_C lay cl D cI cJ ad A nL own cc Ts p s m args c) {x : Int} (hd : decode cc pc = .ok (.ineg, 1)) (k : sx_V lay cl D cI cJ ad A nL p l e R s m args below meth c Q cells slots μ (pc + 1) lv (.int (sx_i (-x)) :: st)) : sx_V lay cl D cI cJ ad A nL p l e R s m args below meth c Q cells slots μ (pc) lv (.int (sx_i x) :: st) := by
  intro H locs ls hP hS hl
  refine lv_ineg C.1 C.2.1 hd ?_
  rw [sx_neg]
  exact k H locs ls hP hS hl

theorem sx_ixor (C : sx_C lay cl D cI cJ ad A nL own cc Ts p s m args c) {x y : Int} (hd : decode cc pc = .ok (.ixor, 1)) (k : sx_V lay cl D cI cJ ad A nL p l e R s m args below meth c Q cells slots μ (pc + 1) lv (.int (sx_i (sx_xor x y)) :: st)) : sx_V lay cl D cI cJ ad A nL p l e R s m args below meth c Q cells slots μ (pc) lv (.int (sx_i y) :: .int (sx_i x) :: st) := by
  intro H locs ls hP hS hl
  refine lv_ixor C.1 C.2.1 hd ?_
  rw [← sx_of (sx_i x ^^^ sx_i y)]
  exact k H locs ls hP hS hl

theorem sx_iand (C : sx_C lay cl D cI cJ ad A nL own cc Ts p s m args c) {x y : Int} (hd : decode cc pc = .ok (.iand, 1)) (k : sx_V lay cl D cI cJ ad A nL p l e R s m args below meth c Q cells slots μ (pc + 1) lv (.int (sx_i (sx_and x y)) :: st)) : sx_V lay cl D cI cJ ad A nL p l e R s m args below meth c Q cells slots μ (pc) lv (.int (sx_i y) :: .int (sx_i x) :: st) := by
  intro H locs ls hP hS hl
  refine lv_iand C.1 C.2.1 hd ?_
  rw [← sx_of (sx_i x &&& sx_i y)]
  exact k H locs ls hP hS hl

theorem sx_idiv (C : sx_C lay cl D cI cJ ad A nL own cc Ts p s m args c) {x y : Int} {B : Prop} (hd : decode cc pc = .ok (.idiv, 1)) (h : (sx_R x ∧ sx_R y ∧ 0 < y ∧ -2147483648 < x) ∧ B) (k : B → sx_V lay cl D cI cJ ad A nL p l e R s m args below meth c Q cells slots μ (pc + 1) lv (.int (sx_i (x.tdiv y)) :: st)) : sx_V lay cl D cI cJ ad A nL p l e R s m args below meth c Q cells slots μ (pc) lv (.int (sx_i y) :: .int (sx_i x) :: st) := by
  intro H locs ls hP hS hl
  obtain ⟨⟨h1, h2, h3, h4⟩, hB⟩ := h
  refine lv_idiv C.1 C.2.1 hd (sx_nz h2 h3) ?_
  rw [sx_div h1 h2 h3 h4]
  exact k hB H locs ls hP hS hl

theorem sx_irem (C : sx_C lay cl D cI cJ ad A nL own cc Ts p s m args c) {x y : Int} {B : Prop} (hd : decode cc pc = .ok (.irem, 1)) (h : (sx_R x ∧ sx_R y ∧ 0 < y ∧ -2147483648 < x) ∧ B) (k : B → sx_V lay cl D cI cJ ad A nL p l e R s m args below meth c Q cells slots μ (pc + 1) lv (.int (sx_i (x.tmod y)) :: st)) : sx_V lay cl D cI cJ ad A nL p l e R s m args below meth c Q cells slots μ (pc) lv (.int (sx_i y) :: .int (sx_i x) :: st) := by
  intro H locs ls hP hS hl
  obtain ⟨⟨h1, h2, h3, h4⟩, hB⟩ := h
  refine lv_irem C.1 C.2.1 hd (sx_nz h2 h3) ?_
  rw [sx_rem h1 h2 h3 h4]
  exact k hB H locs ls hP hS hl

theorem sx_toL (C : sx_C lay cl D cI cJ ad A nL own cc Ts p s m args c) {x : Int} {B : Prop} (hd : decode cc pc = .ok (.i2l, 1)) (h : sx_R x ∧ B) (k : B → sx_V lay cl D cI cJ ad A nL p l e R s m args below meth c Q cells slots μ (pc + 1) lv (.long (sx_j x) :: st)) : sx_V lay cl D cI cJ ad A nL p l e R s m args below meth c Q cells slots μ (pc) lv (.int (sx_i x) :: st) := by
  intro H locs ls hP hS hl
  exact lv_i2l C.1 C.2.1 hd (sx_i2l h.1) (k h.2 H locs ls hP hS hl)

theorem sx_cmpL (C : sx_C lay cl D cI cJ ad A nL own cc Ts p s m args c) {x y : Int} {B : Prop} (hd : decode cc pc = .ok (.lcmp, 1)) (h : (sx_R x ∧ sx_R y) ∧ B) (k : B → sx_V lay cl D cI cJ ad A nL p l e R s m args below meth c Q cells slots μ (pc + 1) lv (.int (sx_i (sx_cmp x y)) :: st)) : sx_V lay cl D cI cJ ad A nL p l e R s m args below meth c Q cells slots μ (pc) lv (.long (sx_j y) :: .long (sx_j x) :: st) := by
  intro H locs ls hP hS hl
  refine W.lcmp C.1 C.2.1 hd ?_
  rw [sx_lcmp h.1.1 h.1.2]
  exact k h.2 H locs ls hP hS hl

theorem sx_dup (C : sx_C lay cl D cI cJ ad A nL own cc Ts p s m args c) {v : Value} (hd : decode cc pc = .ok (.dup, 1)) (hc : v.category = 1) (k : sx_V lay cl D cI cJ ad A nL p l e R s m args below meth c Q cells slots μ (pc + 1) lv (v :: v :: st)) : sx_V lay cl D cI cJ ad A nL p l e R s m args below meth c Q cells slots μ (pc) lv (v :: st) := by
  intro H locs ls hP hS hl
  exact lv_dup C.1 C.2.1 hd hc (k H locs ls hP hS hl)

theorem sx_dup_x1 (C : sx_C lay cl D cI cJ ad A nL own cc Ts p s m args c) {v w : Value} (hd : decode cc pc = .ok (.dup_x1, 1)) (hc : v.category = 1) (hw : w.category = 1) (k : sx_V lay cl D cI cJ ad A nL p l e R s m args below meth c Q cells slots μ (pc + 1) lv (v :: w :: v :: st)) : sx_V lay cl D cI cJ ad A nL p l e R s m args below meth c Q cells slots μ (pc) lv (v :: w :: st) := by
  intro H locs ls hP hS hl
  exact lv_dup_x1 C.1 C.2.1 hd hc hw (k H locs ls hP hS hl)

theorem sx_dup2 (C : sx_C lay cl D cI cJ ad A nL own cc Ts p s m args c) {v w : Value} (hd : decode cc pc = .ok (.dup2, 1)) (hc : v.category = 1) (hw : w.category = 1) (k : sx_V lay cl D cI cJ ad A nL p l e R s m args below meth c Q cells slots μ (pc + 1) lv (v :: w :: v :: w :: st)) : sx_V lay cl D cI cJ ad A nL p l e R s m args below meth c Q cells slots μ (pc) lv (v :: w :: st) := by
  intro H locs ls hP hS hl
  exact lv_dup2_11 C.1 C.2.1 hd hc hw (k H locs ls hP hS hl)

theorem sx_pop (C : sx_C lay cl D cI cJ ad A nL own cc Ts p s m args c) {v : Value} (hd : decode cc pc = .ok (.pop, 1)) (hc : v.category = 1) (k : sx_V lay cl D cI cJ ad A nL p l e R s m args below meth c Q cells slots μ (pc + 1) lv (st)) : sx_V lay cl D cI cJ ad A nL p l e R s m args below meth c Q cells slots μ (pc) lv (v :: st) := by
  intro H locs ls hP hS hl
  exact lv_pop C.1 C.2.1 hd hc (k H locs ls hP hS hl)

theorem sx_goto (C : sx_C lay cl D cI cJ ad A nL own cc Ts p s m args c) {off : Int} {tgt : Nat} (hd : decode cc pc = .ok (.goto off, 3)) (ht : (pc : Int) + off = (tgt : Int)) (k : sx_V lay cl D cI cJ ad A nL p l e R s m args below meth c Q cells slots μ (tgt) lv (st)) : sx_V lay cl D cI cJ ad A nL p l e R s m args below meth c Q cells slots μ (pc) lv (st) := by
  intro H locs ls hP hS hl
  exact lv_goto C.1 C.2.1 hd ht (k H locs ls hP hS hl)

theorem sx_icmp_eq (C : sx_C lay cl D cI cJ ad A nL own cc Ts p s m args c) {x y off : Int} {tgt : Nat} {A0 B0 : Prop} (hd : decode cc pc = .ok (.if_icmp .eq off, 3)) (ht : (pc : Int) + off = (tgt : Int)) (h : (sx_R x ∧ sx_R y) ∧ (x = y → A0) ∧ (¬ x = y → B0)) (kt : A0 → sx_V lay cl D cI cJ ad A nL p l e R s m args below meth c Q cells slots μ (tgt) lv (st)) (kf : B0 → sx_V lay cl D cI cJ ad A nL p l e R s m args below meth c Q cells slots μ (pc + 3) lv (st)) : sx_V lay cl D cI cJ ad A nL p l e R s m args below meth c Q cells slots μ (pc) lv (.int (sx_i y) :: .int (sx_i x) :: st) := by
  intro H locs ls hP hS hl
  obtain ⟨⟨h1, h2⟩, hA, hB⟩ := h
  exact lv_icmp_eq C.1 C.2.1 hd ht (fun q => kt (hA ((sx_eq h1 h2).mp q)) H locs ls hP hS hl) (fun q => kf (hB (fun z => q ((sx_eq h1 h2).mpr z))) H locs ls hP hS hl)

theorem sx_if_eq (C : sx_C lay cl D cI cJ ad A nL own cc Ts p s m args c) {x off : Int} {tgt : Nat} {A0 B0 : Prop} (hd : decode cc pc = .ok (.ifCond .eq off, 3)) (ht : (pc : Int) + off = (tgt : Int)) (h : sx_R x ∧ (x = 0 → A0) ∧ (¬ x = 0 → B0)) (kt : A0 → sx_V lay cl D cI cJ ad A nL p l e R s m args below meth c Q cells slots μ (tgt) lv (st)) (kf : B0 → sx_V lay cl D cI cJ ad A nL p l e R s m args below meth c Q cells slots μ (pc + 3) lv (st)) : sx_V lay cl D cI cJ ad A nL p l e R s m args below meth c Q cells slots μ (pc) lv (.int (sx_i x) :: st) := by
  intro H locs ls hP hS hl
  obtain ⟨h1, hA, hB⟩ := h
  have h2 : sx_R 0 := ⟨by omega, by omega⟩
  exact lv_if_eq C.1 C.2.1 hd ht (by rw [← sx_0]; exact fun q => kt (hA ((sx_eq h1 h2).mp q)) H locs ls hP hS hl) (by rw [← sx_0]; exact fun q => kf (hB (fun z => q ((sx_eq h1 h2).mpr z))) H locs ls hP hS hl)

theorem sx_icmp_ne (C : sx_C lay cl D cI cJ ad A nL own cc Ts p s m args c) {x y off : Int} {tgt : Nat} {A0 B0 : Prop} (hd : decode cc pc = .ok (.if_icmp .ne off, 3)) (ht : (pc : Int) + off = (tgt : Int)) (h : (sx_R x ∧ sx_R y) ∧ (¬ x = y → A0) ∧ (x = y → B0)) (kt : A0 → sx_V lay cl D cI cJ ad A nL p l e R s m args below meth c Q cells slots μ (tgt) lv (st)) (kf : B0 → sx_V lay cl D cI cJ ad A nL p l e R s m args below meth c Q cells slots μ (pc + 3) lv (st)) : sx_V lay cl D cI cJ ad A nL p l e R s m args below meth c Q cells slots μ (pc) lv (.int (sx_i y) :: .int (sx_i x) :: st) := by
  intro H locs ls hP hS hl
  obtain ⟨⟨h1, h2⟩, hA, hB⟩ := h
  exact lv_icmp_ne C.1 C.2.1 hd ht (fun q => kt (hA (fun z => q ((sx_eq h1 h2).mpr z))) H locs ls hP hS hl) (fun q => kf (hB ((sx_eq h1 h2).mp q)) H locs ls hP hS hl)

theorem sx_if_ne (C : sx_C lay cl D cI cJ ad A nL own cc Ts p s m args c) {x off : Int} {tgt : Nat} {A0 B0 : Prop} (hd : decode cc pc = .ok (.ifCond .ne off, 3)) (ht : (pc : Int) + off = (tgt : Int)) (h : sx_R x ∧ (¬ x = 0 → A0) ∧ (x = 0 → B0)) (kt : A0 → sx_V lay cl D cI cJ ad A nL p l e R s m args below meth c Q cells slots μ (tgt) lv (st)) (kf : B0 → sx_V lay cl D cI cJ ad A nL p l e R s m args below meth c Q cells slots μ (pc + 3) lv (st)) : sx_V lay cl D cI cJ ad A nL p l e R s m args below meth c Q cells slots μ (pc) lv (.int (sx_i x) :: st) := by
  intro H locs ls hP hS hl
  obtain ⟨h1, hA, hB⟩ := h
  have h2 : sx_R 0 := ⟨by omega, by omega⟩
  exact lv_if_ne C.1 C.2.1 hd ht (by rw [← sx_0]; exact fun q => kt (hA (fun z => q ((sx_eq h1 h2).mpr z))) H locs ls hP hS hl) (by rw [← sx_0]; exact fun q => kf (hB ((sx_eq h1 h2).mp q)) H locs ls hP hS hl)

theorem sx_icmp_lt (C : sx_C lay cl D cI cJ ad A nL own cc Ts p s m args c) {x y off : Int} {tgt : Nat} {A0 B0 : Prop} (hd : decode cc pc = .ok (.if_icmp .lt off, 3)) (ht : (pc : Int) + off = (tgt : Int)) (h : (sx_R x ∧ sx_R y) ∧ (x < y → A0) ∧ (y ≤ x → B0)) (kt : A0 → sx_V lay cl D cI cJ ad A nL p l e R s m args below meth c Q cells slots μ (tgt) lv (st)) (kf : B0 → sx_V lay cl D cI cJ ad A nL p l e R s m args below meth c Q cells slots μ (pc + 3) lv (st)) : sx_V lay cl D cI cJ ad A nL p l e R s m args below meth c Q cells slots μ (pc) lv (.int (sx_i y) :: .int (sx_i x) :: st) := by
  intro H locs ls hP hS hl
  obtain ⟨⟨h1, h2⟩, hA, hB⟩ := h
  exact lv_icmp_lt C.1 C.2.1 hd ht (fun q => kt (hA ((sx_lt h1 h2).mp q)) H locs ls hP hS hl) (fun q => kf (hB (by have z := (not_congr (sx_lt h1 h2)).mp q; omega)) H locs ls hP hS hl)

theorem sx_if_lt (C : sx_C lay cl D cI cJ ad A nL own cc Ts p s m args c) {x off : Int} {tgt : Nat} {A0 B0 : Prop} (hd : decode cc pc = .ok (.ifCond .lt off, 3)) (ht : (pc : Int) + off = (tgt : Int)) (h : sx_R x ∧ (x < 0 → A0) ∧ (0 ≤ x → B0)) (kt : A0 → sx_V lay cl D cI cJ ad A nL p l e R s m args below meth c Q cells slots μ (tgt) lv (st)) (kf : B0 → sx_V lay cl D cI cJ ad A nL p l e R s m args below meth c Q cells slots μ (pc + 3) lv (st)) : sx_V lay cl D cI cJ ad A nL p l e R s m args below meth c Q cells slots μ (pc) lv (.int (sx_i x) :: st) := by
  intro H locs ls hP hS hl
  obtain ⟨h1, hA, hB⟩ := h
  have h2 : sx_R 0 := ⟨by omega, by omega⟩
  exact lv_if_lt C.1 C.2.1 hd ht (by rw [← sx_0]; exact fun q => kt (hA ((sx_lt h1 h2).mp q)) H locs ls hP hS hl) (by rw [← sx_0]; exact fun q => kf (hB (by have z := (not_congr (sx_lt h1 h2)).mp q; omega)) H locs ls hP hS hl)

theorem sx_icmp_ge (C : sx_C lay cl D cI cJ ad A nL own cc Ts p s m args c) {x y off : Int} {tgt : Nat} {A0 B0 : Prop} (hd : decode cc pc = .ok (.if_icmp .ge off, 3)) (ht : (pc : Int) + off = (tgt : Int)) (h : (sx_R x ∧ sx_R y) ∧ (y ≤ x → A0) ∧ (x < y → B0)) (kt : A0 → sx_V lay cl D cI cJ ad A nL p l e R s m args below meth c Q cells slots μ (tgt) lv (st)) (kf : B0 → sx_V lay cl D cI cJ ad A nL p l e R s m args below meth c Q cells slots μ (pc + 3) lv (st)) : sx_V lay cl D cI cJ ad A nL p l e R s m args below meth c Q cells slots μ (pc) lv (.int (sx_i y) :: .int (sx_i x) :: st) := by
  intro H locs ls hP hS hl
  obtain ⟨⟨h1, h2⟩, hA, hB⟩ := h
  exact lv_icmp_ge C.1 C.2.1 hd ht (fun q => kt (hA ((sx_le h2 h1).mp q)) H locs ls hP hS hl) (fun q => kf (hB (by have z := (not_congr (sx_le h2 h1)).mp q; omega)) H locs ls hP hS hl)

theorem sx_if_ge (C : sx_C lay cl D cI cJ ad A nL own cc Ts p s m args c) {x off : Int} {tgt : Nat} {A0 B0 : Prop} (hd : decode cc pc = .ok (.ifCond .ge off, 3)) (ht : (pc : Int) + off = (tgt : Int)) (h : sx_R x ∧ (0 ≤ x → A0) ∧ (x < 0 → B0)) (kt : A0 → sx_V lay cl D cI cJ ad A nL p l e R s m args below meth c Q cells slots μ (tgt) lv (st)) (kf : B0 → sx_V lay cl D cI cJ ad A nL p l e R s m args below meth c Q cells slots μ (pc + 3) lv (st)) : sx_V lay cl D cI cJ ad A nL p l e R s m args below meth c Q cells slots μ (pc) lv (.int (sx_i x) :: st) := by
  intro H locs ls hP hS hl
  obtain ⟨h1, hA, hB⟩ := h
  have h2 : sx_R 0 := ⟨by omega, by omega⟩
  exact lv_if_ge C.1 C.2.1 hd ht (by rw [← sx_0]; exact fun q => kt (hA ((sx_le h2 h1).mp q)) H locs ls hP hS hl) (by rw [← sx_0]; exact fun q => kf (hB (by have z := (not_congr (sx_le h2 h1)).mp q; omega)) H locs ls hP hS hl)

theorem sx_icmp_gt (C : sx_C lay cl D cI cJ ad A nL own cc Ts p s m args c) {x y off : Int} {tgt : Nat} {A0 B0 : Prop} (hd : decode cc pc = .ok (.if_icmp .gt off, 3)) (ht : (pc : Int) + off = (tgt : Int)) (h : (sx_R x ∧ sx_R y) ∧ (y < x → A0) ∧ (x ≤ y → B0)) (kt : A0 → sx_V lay cl D cI cJ ad A nL p l e R s m args below meth c Q cells slots μ (tgt) lv (st)) (kf : B0 → sx_V lay cl D cI cJ ad A nL p l e R s m args below meth c Q cells slots μ (pc + 3) lv (st)) : sx_V lay cl D cI cJ ad A nL p l e R s m args below meth c Q cells slots μ (pc) lv (.int (sx_i y) :: .int (sx_i x) :: st) := by
  intro H locs ls hP hS hl
  obtain ⟨⟨h1, h2⟩, hA, hB⟩ := h
  exact lv_icmp_gt C.1 C.2.1 hd ht (fun q => kt (hA ((sx_lt h2 h1).mp q)) H locs ls hP hS hl) (fun q => kf (hB (by have z := (not_congr (sx_lt h2 h1)).mp q; omega)) H locs ls hP hS hl)

theorem sx_if_gt (C : sx_C lay cl D cI cJ ad A nL own cc Ts p s m args c) {x off : Int} {tgt : Nat} {A0 B0 : Prop} (hd : decode cc pc = .ok (.ifCond .gt off, 3)) (ht : (pc : Int) + off = (tgt : Int)) (h : sx_R x ∧ (0 < x → A0) ∧ (x ≤ 0 → B0)) (kt : A0 → sx_V lay cl D cI cJ ad A nL p l e R s m args below meth c Q cells slots μ (tgt) lv (st)) (kf : B0 → sx_V lay cl D cI cJ ad A nL p l e R s m args below meth c Q cells slots μ (pc + 3) lv (st)) : sx_V lay cl D cI cJ ad A nL p l e R s m args below meth c Q cells slots μ (pc) lv (.int (sx_i x) :: st) := by
  intro H locs ls hP hS hl
  obtain ⟨h1, hA, hB⟩ := h
  have h2 : sx_R 0 := ⟨by omega, by omega⟩
  exact lv_if_gt C.1 C.2.1 hd ht (by rw [← sx_0]; exact fun q => kt (hA ((sx_lt h2 h1).mp q)) H locs ls hP hS hl) (by rw [← sx_0]; exact fun q => kf (hB (by have z := (not_congr (sx_lt h2 h1)).mp q; omega)) H locs ls hP hS hl)

theorem sx_icmp_le (C : sx_C lay cl D cI cJ ad A nL own cc Ts p s m args c) {x y off : Int} {tgt : Nat} {A0 B0 : Prop} (hd : decode cc pc = .ok (.if_icmp .le off, 3)) (ht : (pc : Int) + off = (tgt : Int)) (h : (sx_R x ∧ sx_R y) ∧ (x ≤ y → A0) ∧ (y < x → B0)) (kt : A0 → sx_V lay cl D cI cJ ad A nL p l e R s m args below meth c Q cells slots μ (tgt) lv (st)) (kf : B0 → sx_V lay cl D cI cJ ad A nL p l e R s m args below meth c Q cells slots μ (pc + 3) lv (st)) : sx_V lay cl D cI cJ ad A nL p l e R s m args below meth c Q cells slots μ (pc) lv (.int (sx_i y) :: .int (sx_i x) :: st) := by
  intro H locs ls hP hS hl
  obtain ⟨⟨h1, h2⟩, hA, hB⟩ := h
  exact lv_icmp_le C.1 C.2.1 hd ht (fun q => kt (hA ((sx_le h1 h2).mp q)) H locs ls hP hS hl) (fun q => kf (hB (by have z := (not_congr (sx_le h1 h2)).mp q; omega)) H locs ls hP hS hl)

theorem sx_if_le (C : sx_C lay cl D cI cJ ad A nL own cc Ts p s m args c) {x off : Int} {tgt : Nat} {A0 B0 : Prop} (hd : decode cc pc = .ok (.ifCond .le off, 3)) (ht : (pc : Int) + off = (tgt : Int)) (h : sx_R x ∧ (x ≤ 0 → A0) ∧ (0 < x → B0)) (kt : A0 → sx_V lay cl D cI cJ ad A nL p l e R s m args below meth c Q cells slots μ (tgt) lv (st)) (kf : B0 → sx_V lay cl D cI cJ ad A nL p l e R s m args below meth c Q cells slots μ (pc + 3) lv (st)) : sx_V lay cl D cI cJ ad A nL p l e R s m args below meth c Q cells slots μ (pc) lv (.int (sx_i x) :: st) := by
  intro H locs ls hP hS hl
  obtain ⟨h1, hA, hB⟩ := h
  have h2 : sx_R 0 := ⟨by omega, by omega⟩
  exact lv_if_le C.1 C.2.1 hd ht (by rw [← sx_0]; exact fun q => kt (hA ((sx_le h1 h2).mp q)) H locs ls hP hS hl) (by rw [← sx_0]; exact fun q => kf (hB (by have z := (not_congr (sx_le h1 h2)).mp q; omega)) H locs ls hP hS hl)

theorem sx_tableIn (C : sx_C lay cl D cI cJ ad A nL own cc Ts p s m args c) {dflt lo hi off x : Int} {offs : Array Int} {len tgt : Nat} (hd : decode cc pc = .ok (.tableswitch dflt lo hi offs, len)) (hR : sx_R x) (h1 : ¬ x < lo) (h2 : ¬ hi < x) (ho : offs[(x - lo).toNat]? = some off) (ht : (pc : Int) + off = (tgt : Int)) (k : sx_V lay cl D cI cJ ad A nL p l e R s m args below meth c Q cells slots μ (tgt) lv (st)) : sx_V lay cl D cI cJ ad A nL p l e R s m args below meth c Q cells slots μ (pc) lv (.int (sx_i x) :: st) := by
  intro H locs ls hP hS hl
  exact lv_tableIn C.1 C.2.1 hd (by rw [sx_toInt hR]; exact h1) (by rw [sx_toInt hR]; exact h2) (by rw [sx_toInt hR]; exact ho) ht (k H locs ls hP hS hl)

theorem sx_tableOut (C : sx_C lay cl D cI cJ ad A nL own cc Ts p s m args c) {dflt lo hi x : Int} {offs : Array Int} {len tgt : Nat} (hd : decode cc pc = .ok (.tableswitch dflt lo hi offs, len)) (hR : sx_R x) (h : x < lo ∨ hi < x) (ht : (pc : Int) + dflt = (tgt : Int)) (k : sx_V lay cl D cI cJ ad A nL p l e R s m args below meth c Q cells slots μ (tgt) lv (st)) : sx_V lay cl D cI cJ ad A nL p l e R s m args below meth c Q cells slots μ (pc) lv (.int (sx_i x) :: st) := by
  intro H locs ls hP hS hl
  exact lv_tableOut C.1 C.2.1 hd (by rw [sx_toInt hR]; exact h) ht (k H locs ls hP hS hl)

theorem sx_geti (C : sx_C lay cl D cI cJ ad A nL own cc Ts p s m args c) {K : Int} {C0 ref : String} {T : u_T} {N ci index : Nat} {fl : List (Option Nat)} (c0 k0 : Nat) (hKK : ((k0 : Nat) : Int) = K) (hlay : lay[c0]? = some (.inl (ci, fl))) (hf : fl[k0]? = some none) (hcl : cl[ci]? = some (C0, T, N)) (hk : k0 < N) (hin : ∀ w ∈ u_ws C0 T N, w ∈ Ts) (hw : Cond.fieldLink own index ref (T k0).2.1 (T k0).2.2.1 ∈ Ts) (hr : (T k0).1 = ref) (hd : decode cc pc = .ok (.getfield index, 3)) (k : sx_V lay cl D cI cJ ad A nL p l e R s m args below meth c Q cells slots μ (pc + 3) lv (.int (sx_i (μ c0 K)) :: st)) : sx_V lay cl D cI cJ ad A nL p l e R s m args below meth c Q cells slots μ (pc) lv (.ref (ad c0) :: st) := by
  intro H locs ls hP hS hl
  subst hKK
  refine va_get (D := D) C.1 C.2.1 C.2.2.2.2.1 hin C.2.2.2.1 C.2.2.2.2.2.1 hP c0 (sx_at hlay) hcl k0 hk (C.2.2.2.2.1 _ hw) (fun _ h9 => by rw [hr] at h9; exact h9) (v := .int (sx_i (μ c0 (k0 : Nat)))) ?_ hd (k H locs ls hP hS hl)
  rw [List.getElem?_map, List.getElem?_zipIdx, hf]
  simp [sx_fv]

theorem sx_getr (C : sx_C lay cl D cI cJ ad A nL own cc Ts p s m args c) {C0 ref : String} {T : u_T} {N ci index j0 : Nat} {fl : List (Option Nat)} (c0 k0 : Nat) (hlay : lay[c0]? = some (.inl (ci, fl))) (hf : fl[k0]? = some (some j0)) (hcl : cl[ci]? = some (C0, T, N)) (hk : k0 < N) (hin : ∀ w ∈ u_ws C0 T N, w ∈ Ts) (hw : Cond.fieldLink own index ref (T k0).2.1 (T k0).2.2.1 ∈ Ts) (hr : (T k0).1 = ref) (hd : decode cc pc = .ok (.getfield index, 3)) (k : sx_V lay cl D cI cJ ad A nL p l e R s m args below meth c Q cells slots μ (pc + 3) lv (.ref (ad j0) :: st)) : sx_V lay cl D cI cJ ad A nL p l e R s m args below meth c Q cells slots μ (pc) lv (.ref (ad c0) :: st) := by
  intro H locs ls hP hS hl
  refine va_get (D := D) C.1 C.2.1 C.2.2.2.2.1 hin C.2.2.2.1 C.2.2.2.2.2.1 hP c0 (sx_at hlay) hcl k0 hk (C.2.2.2.2.1 _ hw) (fun _ h9 => by rw [hr] at h9; exact h9) (v := .ref (ad j0)) ?_ hd (k H locs ls hP hS hl)
  rw [List.getElem?_map, List.getElem?_zipIdx, hf]
  simp [sx_fv]

theorem sx_puti (C : sx_C lay cl D cI cJ ad A nL own cc Ts p s m args c) {K : Int} {C0 ref : String} {T : u_T} {N ci index : Nat} {fl : List (Option Nat)} {x : Int} {ty : FieldType} (c0 k0 : Nat) (hKK : ((k0 : Nat) : Int) = K) (hlay : lay[c0]? = some (.inl (ci, fl))) (hf : fl[k0]? = some none) (hcl : cl[ci]? = some (C0, T, N)) (hk : k0 < N) (hin : ∀ w ∈ u_ws C0 T N, w ∈ Ts) (ty0 : Nat → FieldType) (hty : ∀ k, k < N → parseFieldDescriptor (T k).2.2.1 = some (ty0 k)) (hnm : ∀ a, a < N → ∀ b, b < N → a ≠ b → (T a).2.1 ≠ (T b).2.1) (hw : Cond.fieldLink own index ref (T k0).2.1 (T k0).2.2.1 ∈ Ts) (hr : (T k0).1 = ref) (hfin : (T k0).2.2.2 = false) (hdt : parseFieldDescriptor (T k0).2.2.1 = some ty) (hnr : narrow ty (.int (sx_i x)) = .int (sx_i x)) (hft : fits ty (.int (sx_i x)) = true) (hd : decode cc pc = .ok (.putfield index, 3)) (k : sx_V lay cl D cI cJ ad A nL p l e R s m args below meth c Q cells slots (sx_up μ c0 K x) (pc + 3) lv (st)) : sx_V lay cl D cI cJ ad A nL p l e R s m args below meth c Q cells slots μ (pc) lv (.int (sx_i x) :: .ref (ad c0) :: st) := by
  intro H locs ls hP hS hl
  subst hKK
  have hD := sx_D (cI := cI) (cJ := cJ) C.2.2.2.2.2.2.2.1 C.2.2.2.2.2.2.2.2 μ
  refine va_put (D := D) C.1 C.2.1 C.2.2.2.2.1 hin ty0 hty hnm C.2.2.2.1 C.2.2.2.2.2.1 hP hD hS c0 (sx_at hlay) hcl k0 hk (C.2.2.2.2.1 _ hw) (fun _ h9 => by rw [hr] at h9; exact h9) hfin hdt hnr hft (by rw [List.length_map, List.length_zipIdx]; exact (List.getElem?_eq_some_iff.mp hf).1) hd (fun H1 locs1 hP1 hD1 hS1 => ?_)
  rw [sx_putI hlay hf] at hP1
  exact k H1 locs1 ls hP1 hS1 hl

theorem sx_iald (C : sx_C lay cl D cI cJ ad A nL own cc Ts p s m args c) {n : Nat} {N j : Int} {B : Prop} (c0 : Nat) (hlay : lay[c0]? = some (.inr (.inl n))) (hN : ((n : Nat) : Int) = N) (hn : n < 2147483648) (hd : decode cc pc = .ok (.iaload, 1)) (h : (0 ≤ j ∧ j < N) ∧ B) (k : B → sx_V lay cl D cI cJ ad A nL p l e R s m args below meth c Q cells slots μ (pc + 1) lv (.int (sx_i (μ c0 j)) :: st)) : sx_V lay cl D cI cJ ad A nL p l e R s m args below meth c Q cells slots μ (pc) lv (.int (sx_i j) :: .ref (ad c0) :: st) := by
  intro H locs ls hP hS hl
  subst hN
  obtain ⟨q1, q2, q3⟩ := sx_in hn h.1
  refine va_iald (D := D) C.1 C.2.1 C.2.2.2.2.2.1 hP c0 0 (sx_at hlay) rfl q1 hd ?_
  rw [q2, q3]
  exact k h.2 H locs ls hP hS hl

theorem sx_lald (C : sx_C lay cl D cI cJ ad A nL own cc Ts p s m args c) {n : Nat} {N j : Int} {B : Prop} (c0 : Nat) (hlay : lay[c0]? = some (.inr (.inr n))) (hN : ((n : Nat) : Int) = N) (hn : n < 2147483648) (hd : decode cc pc = .ok (.laload, 1)) (h : (0 ≤ j ∧ j < N) ∧ B) (k : B → sx_V lay cl D cI cJ ad A nL p l e R s m args below meth c Q cells slots μ (pc + 1) lv (.long (sx_j (μ c0 j)) :: st)) : sx_V lay cl D cI cJ ad A nL p l e R s m args below meth c Q cells slots μ (pc) lv (.int (sx_i j) :: .ref (ad c0) :: st) := by
  intro H locs ls hP hS hl
  subst hN
  obtain ⟨q1, q2, q3⟩ := sx_in hn h.1
  refine va_lald (D := D) C.1 C.2.1 C.2.2.2.2.2.1 hP c0 1 (sx_at hlay) rfl q1 hd ?_
  rw [q2, q3]
  exact k h.2 H locs ls hP hS hl

theorem sx_iast (C : sx_C lay cl D cI cJ ad A nL own cc Ts p s m args c) {n : Nat} {N j x : Int} {B : Prop} (c0 : Nat) (hlay : lay[c0]? = some (.inr (.inl n))) (hN : ((n : Nat) : Int) = N) (hn : n < 2147483648) (hd : decode cc pc = .ok (.iastore, 1)) (h : (0 ≤ j ∧ j < N) ∧ B) (k : B → sx_V lay cl D cI cJ ad A nL p l e R s m args below meth c Q cells slots (sx_up μ c0 j x) (pc + 1) lv (st)) : sx_V lay cl D cI cJ ad A nL p l e R s m args below meth c Q cells slots μ (pc) lv (.int (sx_i x) :: .int (sx_i j) :: .ref (ad c0) :: st) := by
  intro H locs ls hP hS hl
  subst hN
  obtain ⟨q1, q2, q3⟩ := sx_in hn h.1
  have hD := sx_D (cI := cI) (cJ := cJ) C.2.2.2.2.2.2.2.1 C.2.2.2.2.2.2.2.2 μ
  refine va_iast (D := D) C.1 C.2.1 C.2.2.2.2.2.1 hP hD hS c0 0 (sx_at hlay) rfl q1 hd (fun H1 locs1 hP1 hD1 hS1 => ?_)
  rw [q2, sx_putA hlay h.1.1] at hP1
  exact k h.2 H1 locs1 ls hP1 hS1 hl

theorem sx_last (C : sx_C lay cl D cI cJ ad A nL own cc Ts p s m args c) {n : Nat} {N j x : Int} {B : Prop} (c0 : Nat) (hlay : lay[c0]? = some (.inr (.inr n))) (hN : ((n : Nat) : Int) = N) (hn : n < 2147483648) (hd : decode cc pc = .ok (.lastore, 1)) (h : (0 ≤ j ∧ j < N) ∧ B) (k : B → sx_V lay cl D cI cJ ad A nL p l e R s m args below meth c Q cells slots (sx_up μ c0 j x) (pc + 1) lv (st)) : sx_V lay cl D cI cJ ad A nL p l e R s m args below meth c Q cells slots μ (pc) lv (.long (sx_j x) :: .int (sx_i j) :: .ref (ad c0) :: st) := by
  intro H locs ls hP hS hl
  subst hN
  obtain ⟨q1, q2, q3⟩ := sx_in hn h.1
  have hD := sx_D (cI := cI) (cJ := cJ) C.2.2.2.2.2.2.2.1 C.2.2.2.2.2.2.2.2 μ
  refine va_last (D := D) C.1 C.2.1 C.2.2.2.2.2.1 hP hD hS c0 1 (sx_at hlay) rfl q1 hd (fun H1 locs1 hP1 hD1 hS1 => ?_)
  rw [q2, sx_putL hlay h.1.1] at hP1
  exact k h.2 H1 locs1 ls hP1 hS1 hl

end SXV
