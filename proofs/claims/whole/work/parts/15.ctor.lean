section SXU
def sx_CU (cl : List vw_C) (D : va_G) (cI cJ : ClassId) (A : Nat → Prop) (nL : Nat) (own : String) (cc : ByteArray) (p : Program) (s : State) (m : MethodId) (args : Array Value) (c : Code) : Prop :=
  p.tables.exec = Jvm.exec ∧ c.code = cc ∧ c.maxLocals = nL ∧ s.vm.findClass own = some m.cls ∧ (∀ w ∈ sr_ts, w.before args s = true) ∧ va_K D cl [(cI, .int), (cJ, .long)] s ∧ (∀ q : Nat, s.heap.size ≤ q → A q) ∧ ∀ w ∈ sr_bad, va_Nw w s
def sx_U (cl : List vw_C) (D : va_G) (A : Nat → Prop) (nL : Nat) (p : Program) (l : Launch) (e : Env) (R : Room) (s : State) (m : MethodId) (args : Array Value) (below : List Frame) (meth : Method) (c : Code) (Q : State → Prop) (cells slots : Nat) (ws : va_W) (pc : Nat) (lv : List (Nat × Value)) (st : List Value) : Prop :=
  ∀ (H : Heap) (locs : List Loc) (ls : Array Slot), va_P D cl ws H → va_D A ws → va_S A s.heap H locs → lv_has ls nL lv → W p l e R s m args below meth c H locs cells slots Q (F0 m pc ls st)
variable {cl : List vw_C} {D : va_G} {cI cJ : ClassId} {A : Nat → Prop} {nL : Nat} {own : String} {cc : ByteArray} {p : Program} {l : Launch} {e : Env} {R : Room} {s : State} {m : MethodId} {args : Array Value} {below : List Frame} {meth : Method} {c : Code} {Q : State → Prop} {cells slots : Nat} {ws : va_W} {pc : Nat} {lv : List (Nat × Value)} {st : List Value}

theorem su_iconst (C : sx_CU cl D cI cJ A nL own cc p s m args c) {n v : Int} (hd : decode cc pc = .ok (.iconst n, 1)) (hv : n = v) (k : sx_U cl D A nL p l e R s m args below meth c Q cells slots ws (pc + 1) lv (.int (sx_i v) :: st)) : sx_U cl D A nL p l e R s m args below meth c Q cells slots ws (pc) lv (st) := by
  intro H locs ls hP hD hS hl
  subst hv
  exact lv_iconst C.1 C.2.1 hd rfl (k H locs ls hP hD hS hl)

theorem su_bipush (C : sx_CU cl D cI cJ A nL own cc p s m args c) {n v : Int} (hd : decode cc pc = .ok (.bipush n, 2)) (hv : (Int8.ofInt n).toInt32 = sx_i v) (k : sx_U cl D A nL p l e R s m args below meth c Q cells slots ws (pc + 2) lv (.int (sx_i v) :: st)) : sx_U cl D A nL p l e R s m args below meth c Q cells slots ws (pc) lv (st) := by
  intro H locs ls hP hD hS hl
  exact lv_bipush C.1 C.2.1 hd hv (k H locs ls hP hD hS hl)

theorem su_sipush (C : sx_CU cl D cI cJ A nL own cc p s m args c) {n v : Int} (hd : decode cc pc = .ok (.sipush n, 3)) (hv : (Int16.ofInt n).toInt32 = sx_i v) (k : sx_U cl D A nL p l e R s m args below meth c Q cells slots ws (pc + 3) lv (.int (sx_i v) :: st)) : sx_U cl D A nL p l e R s m args below meth c Q cells slots ws (pc) lv (st) := by
  intro H locs ls hP hD hS hl
  exact lv_sipush C.1 C.2.1 hd hv (k H locs ls hP hD hS hl)

theorem su_iload_n (C : sx_CU cl D cI cJ A nL own cc p s m args c) {q : Fin 4} {i : Nat} {x : Int} (n : Nat) (hd : decode cc pc = .ok (.iload_n q, 1)) (hi : (q : Nat) = i) (hv : lv[n]? = some (i, .int (sx_i x))) (k : sx_U cl D A nL p l e R s m args below meth c Q cells slots ws (pc + 1) lv (.int (sx_i x) :: st)) : sx_U cl D A nL p l e R s m args below meth c Q cells slots ws (pc) lv (st) := by
  intro H locs ls hP hD hS hl
  exact lv_iload_n C.1 C.2.1 hd hi (lv_at hl n hv) (k H locs ls hP hD hS hl)

theorem su_aload_n (C : sx_CU cl D cI cJ A nL own cc p s m args c) {q : Fin 4} {i a : Nat} (n : Nat) (hd : decode cc pc = .ok (.aload_n q, 1)) (hi : (q : Nat) = i) (hv : lv[n]? = some (i, .ref a)) (k : sx_U cl D A nL p l e R s m args below meth c Q cells slots ws (pc + 1) lv (.ref a :: st)) : sx_U cl D A nL p l e R s m args below meth c Q cells slots ws (pc) lv (st) := by
  intro H locs ls hP hD hS hl
  exact lv_aload_n C.1 C.2.1 hd hi (lv_at hl n hv) (k H locs ls hP hD hS hl)

theorem su_astore_n (C : sx_CU cl D cI cJ A nL own cc p s m args c) {q : Fin 4} {i a : Nat} {lu : List (Nat × Value)} (hd : decode cc pc = .ok (.astore_n q, 1)) (hi : (q : Nat) = i) (hn : i < nL) (hv : (i, Value.ref a) :: lv.filter (fun q => !(q.1 == i) && !(q.1 + 1 == i && q.2.category == 2)) = lu) (k : sx_U cl D A nL p l e R s m args below meth c Q cells slots ws (pc + 1) lu (st)) : sx_U cl D A nL p l e R s m args below meth c Q cells slots ws (pc) lv (.ref a :: st) := by
  intro H locs ls hP hD hS hl
  exact lv_astore_n C.1 C.2.1 hd hi hl hn hv (fun ls' hl' => k H locs ls' hP hD hS hl')

theorem su_istore (C : sx_CU cl D cI cJ A nL own cc p s m args c) {i : Nat} {x : Int} {lu : List (Nat × Value)} (hd : decode cc pc = .ok (.istore i, 2)) (hn : i < nL) (hv : (i, Value.int (sx_i x)) :: lv.filter (fun q => !(q.1 == i) && !(q.1 + 1 == i && q.2.category == 2)) = lu) (k : sx_U cl D A nL p l e R s m args below meth c Q cells slots ws (pc + 2) lu (st)) : sx_U cl D A nL p l e R s m args below meth c Q cells slots ws (pc) lv (.int (sx_i x) :: st) := by
  intro H locs ls hP hD hS hl
  exact lv_istore C.1 C.2.1 hd hl hn hv (fun ls' hl' => k H locs ls' hP hD hS hl')

theorem su_dup (C : sx_CU cl D cI cJ A nL own cc p s m args c) {v : Value} (hd : decode cc pc = .ok (.dup, 1)) (hc : v.category = 1) (k : sx_U cl D A nL p l e R s m args below meth c Q cells slots ws (pc + 1) lv (v :: v :: st)) : sx_U cl D A nL p l e R s m args below meth c Q cells slots ws (pc) lv (v :: st) := by
  intro H locs ls hP hD hS hl
  exact lv_dup C.1 C.2.1 hd hc (k H locs ls hP hD hS hl)

theorem su_goto (C : sx_CU cl D cI cJ A nL own cc p s m args c) {off : Int} {tgt : Nat} (hd : decode cc pc = .ok (.goto off, 3)) (ht : (pc : Int) + off = (tgt : Int)) (k : sx_U cl D A nL p l e R s m args below meth c Q cells slots ws (tgt) lv (st)) : sx_U cl D A nL p l e R s m args below meth c Q cells slots ws (pc) lv (st) := by
  intro H locs ls hP hD hS hl
  exact lv_goto C.1 C.2.1 hd ht (k H locs ls hP hD hS hl)

theorem su_icmp_ge (C : sx_CU cl D cI cJ A nL own cc p s m args c) {x y off : Int} {tgt : Nat} (hx : sx_R x) (hy : sx_R y) (hd : decode cc pc = .ok (.if_icmp .ge off, 3)) (ht : (pc : Int) + off = (tgt : Int)) (kt : y ≤ x → sx_U cl D A nL p l e R s m args below meth c Q cells slots ws (tgt) lv (st)) (kf : x < y → sx_U cl D A nL p l e R s m args below meth c Q cells slots ws (pc + 3) lv (st)) : sx_U cl D A nL p l e R s m args below meth c Q cells slots ws (pc) lv (.int (sx_i y) :: .int (sx_i x) :: st) := by
  intro H locs ls hP hD hS hl
  exact lv_icmp_ge C.1 C.2.1 hd ht (fun q => kt ((sx_le hy hx).mp q) H locs ls hP hD hS hl) (fun q => kf (by have z := (not_congr (sx_le hy hx)).mp q; omega) H locs ls hP hD hS hl)

theorem su_icmp_le (C : sx_CU cl D cI cJ A nL own cc p s m args c) {x y off : Int} {tgt : Nat} (hx : sx_R x) (hy : sx_R y) (hd : decode cc pc = .ok (.if_icmp .le off, 3)) (ht : (pc : Int) + off = (tgt : Int)) (kt : x ≤ y → sx_U cl D A nL p l e R s m args below meth c Q cells slots ws (tgt) lv (st)) (kf : y < x → sx_U cl D A nL p l e R s m args below meth c Q cells slots ws (pc + 3) lv (st)) : sx_U cl D A nL p l e R s m args below meth c Q cells slots ws (pc) lv (.int (sx_i y) :: .int (sx_i x) :: st) := by
  intro H locs ls hP hD hS hl
  exact lv_icmp_le C.1 C.2.1 hd ht (fun q => kt ((sx_le hx hy).mp q) H locs ls hP hD hS hl) (fun q => kf (by have z := (not_congr (sx_le hx hy)).mp q; omega) H locs ls hP hD hS hl)

theorem su_wide (C : sx_CU cl D cI cJ A nL own cc p s m args c) {cells2 slots2 : Nat} (h1 : cells ≤ cells2) (h2 : slots ≤ slots2) (k : sx_U cl D A nL p l e R s m args below meth c Q cells2 slots2 ws (pc) lv (st)) : sx_U cl D A nL p l e R s m args below meth c Q cells slots ws (pc) lv (st) := by
  intro H locs ls hP hD hS hl
  exact W.widen h1 h2 (k H locs ls hP hD hS hl)

theorem su_obj (C : sx_CU cl D cI cJ A nL own cc p s m args c) {idx a : Nat} (h1 : Cond.methodLink own idx Lib.objectInit ∈ sr_ts) (h2 : Cond.instanceMethod Lib.objectInit ∈ sr_ts) (h3 : Cond.code Lib.objectInit ⟨#[0xb1]⟩ 1 none ∈ sr_ts) (hf : 1 ≤ R.frames) (hlo : (st.map fun v => v.category).sum + 12 ≤ R.locals) (hd : decode cc pc = .ok (.invokespecial idx, 3)) (k : sx_U cl D A nL p l e R s m args below meth c Q cells slots ws (pc + 3) lv (st)) : sx_U cl D A nL p l e R s m args below meth c Q cells slots ws (pc) lv (.ref a :: st) := by
  intro H locs ls hP hD hS hl
  refine W.objInit C.1 C.2.1 C.2.2.2.1 (C.2.2.2.2.1 _ h1) (C.2.2.2.2.1 _ h2) (C.2.2.2.2.1 _ h3) rfl (by rw [C.2.2.1]; exact hl.1) rfl hd hf (by show 2 * 0 + _ + 12 ≤ _; omega) (k H locs ls hP hD hS hl)

theorem su_put (C : sx_CU cl D cI cJ A nL own cc p s m args c) {C0 ref : String} {T : u_T} {N ci index : Nat} {fs : List Value} {a : Nat} {v : Value} {ty : FieldType} {ws2 : va_W} (q0 k0 : Nat) (he : ws[q0]? = some (a, .inr (ci, fs))) (hcl : cl[ci]? = some (C0, T, N)) (hk : k0 < N) (hin : ∀ w ∈ u_ws C0 T N, w ∈ sr_ts) (ty0 : Nat → FieldType) (hty : ∀ k, k < N → parseFieldDescriptor (T k).2.2.1 = some (ty0 k)) (hnm : ∀ a, a < N → ∀ b, b < N → a ≠ b → (T a).2.1 ≠ (T b).2.1) (hw : Cond.fieldLink own index ref (T k0).2.1 (T k0).2.2.1 ∈ sr_ts) (hr : (T k0).1 = ref) (hfin : (T k0).2.2.2 = false) (hdt : parseFieldDescriptor (T k0).2.2.1 = some ty) (hnr : narrow ty v = v) (hft : fits ty v = true) (hl0 : k0 < fs.length) (hd : decode cc pc = .ok (.putfield index, 3)) (hw2 : ws.set q0 (a, .inr (ci, fs.set k0 v)) = ws2) (k : sx_U cl D A nL p l e R s m args below meth c Q cells slots ws2 (pc + 3) lv (st)) : sx_U cl D A nL p l e R s m args below meth c Q cells slots ws (pc) lv (v :: .ref a :: st) := by
  intro H locs ls hP hD hS hl
  subst hw2
  exact va_put (D := D) C.1 C.2.1 C.2.2.2.2.1 hin ty0 hty hnm C.2.2.2.1 C.2.2.2.2.2.1 hP hD hS q0 he hcl k0 hk (C.2.2.2.2.1 _ hw) (fun _ h9 => by rw [hr] at h9; exact h9) hfin hdt hnr hft hl0 hd (fun H1 locs1 hP1 hD1 hS1 => k H1 locs1 ls hP1 hD1 hS1 hl)

theorem su_putF (C : sx_CU cl D cI cJ A nL own cc p s m args c) {C0 ref : String} {T : u_T} {N ci index : Nat} {fs : List Value} {a : Nat} {v : Value} {ty : FieldType} {ws2 : va_W} (q0 k0 : Nat) (he : ws[q0]? = some (a, .inr (ci, fs))) (hcl : cl[ci]? = some (C0, T, N)) (hk : k0 < N) (hin : ∀ w ∈ u_ws C0 T N, w ∈ sr_ts) (ty0 : Nat → FieldType) (hty : ∀ k, k < N → parseFieldDescriptor (T k).2.2.1 = some (ty0 k)) (hnm : ∀ a, a < N → ∀ b, b < N → a ≠ b → (T a).2.1 ≠ (T b).2.1) (hw : Cond.fieldLink own index ref (T k0).2.1 (T k0).2.2.1 ∈ sr_ts) (hr : (T k0).1 = ref) (hfin : (T k0).2.2.2 = true) (hin2 : meth.name = "<init>") (hdecl : (T k0).1 = own) (hdt : parseFieldDescriptor (T k0).2.2.1 = some ty) (hnr : narrow ty v = v) (hft : fits ty v = true) (hl0 : k0 < fs.length) (hd : decode cc pc = .ok (.putfield index, 3)) (hw2 : ws.set q0 (a, .inr (ci, fs.set k0 v)) = ws2) (k : sx_U cl D A nL p l e R s m args below meth c Q cells slots ws2 (pc + 3) lv (st)) : sx_U cl D A nL p l e R s m args below meth c Q cells slots ws (pc) lv (v :: .ref a :: st) := by
  intro H locs ls hP hD hS hl
  subst hw2
  exact va_putF (D := D) C.1 C.2.1 C.2.2.2.2.1 hin ty0 hty hnm C.2.2.2.1 C.2.2.2.2.2.1 hP hD hS q0 he hcl k0 hk (C.2.2.2.2.1 _ hw) (fun _ h9 => by rw [hr] at h9; exact h9) hfin hin2 hdecl hdt hnr hft hl0 hd (fun H1 locs1 hP1 hD1 hS1 => k H1 locs1 ls hP1 hD1 hS1 hl)

theorem su_newI (C : sx_CU cl D cI cJ A nL own cc p s m args c) {v : Int} {N0 : Nat} (hv : v = (N0 : Int)) (hN : N0 < 100000) (ha : Cond.arrayClass .int ∈ sr_ts) (hc : cells + 1 ≤ R.cells) (hs : slots + N0 ≤ R.slots) (hd : decode cc pc = .ok (.newarray .int, 2)) (k : ∀ q : Nat, sx_U cl D A nL p l e R s m args below meth c Q (cells + 1) (slots + N0) (ws ++ [(q, .inl (cI, N0, .inl (fun _ => sx_i 0)))]) (pc + 2) lv (.ref q :: st)) : sx_U cl D A nL p l e R s m args below meth c Q cells slots ws (pc) lv (.int (sx_i v) :: st) := by
  intro H locs ls hP hD hS hl
  subst hv
  have hr : sx_R (N0 : Int) := ⟨by omega, by omega⟩
  refine va_newa (D := D) (atype := .int) (ty := .int) (N' := N0) (a0 := (N0, .inl (fun _ => sx_i 0))) C.1 C.2.1 (C.2.2.2.2.1 _ ha) rfl C.2.2.2.2.2.1 hP hD hS C.2.2.2.2.2.2.1 (fun _ => rfl) (by rw [← sx_0, sx_lt hr ⟨by omega, by omega⟩]; omega) ?_ (by simp [componentBytes]; omega) hc hs hd (fun q cA H1 hK1 hP1 hD1 hS1 => ?_)
  · show (Int32.ofInt (N0 : Int)).toNatClampNeg = N0
    rw [Int32.toNatClampNeg_ofInt_of_le (by omega) (by omega)]
    omega
  · have e1 : s.vm.findClass ("[" ++ (FieldType.toString .int)) = some cA := (hK1.2 2 (cA, .int) rfl).2
    have e2 : s.vm.findClass ("[" ++ (FieldType.toString .int)) = some cI := (hK1.2 0 (cI, .int) rfl).2
    cases Option.some.inj (e1.symm.trans e2)
    exact k q H1 locs ls hP1 hD1 hS1 hl

theorem su_newJ (C : sx_CU cl D cI cJ A nL own cc p s m args c) {v : Int} {N0 : Nat} (hv : v = (N0 : Int)) (hN : N0 < 100000) (ha : Cond.arrayClass .long ∈ sr_ts) (hc : cells + 1 ≤ R.cells) (hs : slots + N0 ≤ R.slots) (hd : decode cc pc = .ok (.newarray .long, 2)) (k : ∀ q : Nat, sx_U cl D A nL p l e R s m args below meth c Q (cells + 1) (slots + N0) (ws ++ [(q, .inl (cJ, N0, .inr (.inl (fun _ => sx_j 0))))]) (pc + 2) lv (.ref q :: st)) : sx_U cl D A nL p l e R s m args below meth c Q cells slots ws (pc) lv (.int (sx_i v) :: st) := by
  intro H locs ls hP hD hS hl
  subst hv
  have hr : sx_R (N0 : Int) := ⟨by omega, by omega⟩
  refine va_newa (D := D) (atype := .long) (ty := .long) (N' := N0) (a0 := (N0, .inr (.inl (fun _ => sx_j 0)))) C.1 C.2.1 (C.2.2.2.2.1 _ ha) rfl C.2.2.2.2.2.1 hP hD hS C.2.2.2.2.2.2.1 (fun _ => rfl) (by rw [← sx_0, sx_lt hr ⟨by omega, by omega⟩]; omega) ?_ (by simp [componentBytes]; omega) hc hs hd (fun q cA H1 hK1 hP1 hD1 hS1 => ?_)
  · show (Int32.ofInt (N0 : Int)).toNatClampNeg = N0
    rw [Int32.toNatClampNeg_ofInt_of_le (by omega) (by omega)]
    omega
  · have e1 : s.vm.findClass ("[" ++ (FieldType.toString .long)) = some cA := (hK1.2 2 (cA, .long) rfl).2
    have e2 : s.vm.findClass ("[" ++ (FieldType.toString .long)) = some cJ := (hK1.2 1 (cJ, .long) rfl).2
    cases Option.some.inj (e1.symm.trans e2)
    exact k q H1 locs ls hP1 hD1 hS1 hl

theorem su_new (C : sx_CU cl D cI cJ A nL own cc p s m args c) {C0 : String} {T : u_T} {N ci index : Nat} {fs : List Value} (hcl : cl[ci]? = some (C0, T, N)) (hin : ∀ w ∈ u_ws C0 T N, w ∈ sr_ts) (ty : Nat → FieldType) (hty : ∀ k, k < N → parseFieldDescriptor (T k).2.2.1 = some (ty k)) (h1 : Cond.classLink own index C0 ∈ sr_ts) (h2 : Cond.instantiable C0 N ∈ sr_ts) (h3 : Cond.initialized C0 ∈ sr_ts) (hfs : ∀ j, j < N → defaultValue (ty j) = vp_V fs j) (hc : cells + 1 ≤ R.cells) (hs : slots + N ≤ R.slots) (hd : decode cc pc = .ok (.new index, 3)) (k : ∀ q : Nat, sx_U cl D A nL p l e R s m args below meth c Q (cells + 1) (slots + N) (ws ++ [(q, .inr (ci, fs))]) (pc + 3) lv (.ref q :: st)) : sx_U cl D A nL p l e R s m args below meth c Q cells slots ws (pc) lv (st) := by
  intro H locs ls hP hD hS hl
  exact va_new (D := D) C.1 C.2.1 C.2.2.2.2.1 hin ty hty C.2.2.2.1 (C.2.2.2.2.1 _ h1) (C.2.2.2.2.1 _ h2) (C.2.2.2.2.1 _ h3) C.2.2.2.2.2.1 hP hD hS C.2.2.2.2.2.2.1 hcl hfs hc hs hd (fun q H1 hP1 hD1 hS1 => k q H1 locs ls hP1 hD1 hS1 hl)

/-- a constructor: from the cell wc to the cells that F says, for some addresses -/
def su_M (l : Launch) (y : MethodName) (wsy : List Cond) (rm : Room) (cl : List vw_C) (D : va_G) (cI cJ : ClassId) (av : List Value) (wc : va_W) (F : va_W → Prop) (mc ms sz : Nat) : Prop :=
  Met l y wsy rm (va_Pc av (fun U => U.heap.size = sz ∧ va_P D cl wc U.heap ∧ va_K D cl [(cI, .int), (cJ, .long)] U ∧ va_D (fun _ => True) wc ∧ ∀ w ∈ sr_bad, va_Nw w U)) (va_Qv (fun w : va_W => F w) (fun w t => va_P D cl w t.heap ∧ va_D (va_A wc sz) w) (va_A wc sz)) mc ms (va_A wc sz)
theorem su_body {y : MethodName} {wsy : List Cond} {rm : Room} {av : List Value} {wc : va_W} {F : va_W → Prop} {maxL mc ms sz : Nat} (hy : plainName y.cls = true) (hin : y.name = "<init>") (hw : wsy = Cond.code y cc maxL none :: sr_ts) (hav : (lg_sl av).length ≤ maxL)
    (body : ∀ (p : Program) (e : Env) (s : State) (m : MethodId) (below : List Frame) (meth : Method) (c : Code), sx_CU cl D cI cJ (va_A wc sz) maxL y.cls cc p s m av.toArray c → meth.sig.returnType = none → meth.locks = false → meth.name = "<init>" →
      sx_U cl D (va_A wc sz) maxL p l e rm s m av.toArray below meth c (MQ below (va_Qv (fun w : va_W => F w) (fun w t => va_P D cl w t.heap ∧ va_D (va_A wc sz) w) (va_A wc sz)) av.toArray s mc ms (va_A wc sz)) 0 0 wc 0 (lv_args 0 av) []) :
    su_M l y wsy rm cl D cI cJ av wc F mc ms sz := by
  refine Met.ofW hy hw ?_
  intro p e s m args below meth c s₁ B hml hv
  obtain ⟨rfl, hsz, hP, hK, hD0, hbad⟩ := hv
  have hts := atoms_spec (ws := wsy) B.pre
  have hown : s.vm.findClass y.cls = some m.cls := findClass_of_methodNamed B.named
  have key := body p e s m below meth c ⟨B.exec, B.bytes, hml, hown, fun w h => hts w (by rw [hw]; exact List.mem_cons_of_mem _ h), hK, fun q h => Or.inr (by rw [← hsz]; exact h), hbad⟩ B.returns B.notSynchronized ((name_of_methodNamed B.named B.method).1.trans hin)
  rw [lg_entry_eq]
  exact key s.heap [] _ hP (hD0.self) va_S.rf (lv_entry av hav)
theorem su_vret {F : va_W → Prop} {wc : va_W} {mc ms sz : Nat} (C : sx_CU cl D cI cJ (va_A wc sz) nL own cc p s m args c) (hr : meth.sig.returnType = none) (hlk : meth.locks = false) (hc : cells ≤ mc) (hs : slots ≤ ms) (hd : decode cc pc = .ok (.return_, 1)) (h : F ws) :
    sx_U cl D (va_A wc sz) nL p l e R s m args below meth c (MQ below (va_Qv (fun w : va_W => F w) (fun w t => va_P D cl w t.heap ∧ va_D (va_A wc sz) w) (va_A wc sz)) args s mc ms (va_A wc sz)) cells slots ws pc lv [] := by
  intro H locs ls hP hD hS hl
  refine W.widen hc hs ?_
  exact W.vret C.1 C.2.1 hr (fun t ht hW => ⟨⟨ws, rfl, h, by rw [ht]; exact hP, hD⟩, hS.F ht⟩) hS.2.2 hd hlk
/-- .. called: its cell stands at place i of the world; what came back is put behind the rest -/
theorem su_call (C : sx_CU cl D cI cJ A nL own cc p s m args c) {y : MethodName} {wsy : List Cond} {rm2 : Room} {av rest : List Value} {wc wr : va_W} {F : va_W → Prop} {mc ms : Nat} (i : Nat) (isR : List Nat) (hi : [i].map (fun i => ws[i]?) = wc.map some) (hR : isR.map (fun i => ws[i]?) = wr.map some) (hn : va_nd isR = true) (hdis : ∀ j ∈ isR, j ∉ [i])
    (hM : ∀ sz2, su_M l y wsy rm2 cl D cI cJ av wc F mc ms sz2)
    (hrun : ∀ (H : Heap) (locs : List Loc) (ls : Array Slot), lv_has ls nL lv → PreS s H (va_Pc av (fun U => U.heap.size = H.size ∧ va_P D cl wc U.heap ∧ va_K D cl [(cI, .int), (cJ, .long)] U ∧ va_D (fun _ => True) wc ∧ ∀ w ∈ sr_bad, va_Nw w U)) av → va_Run p l e R s m args below meth c H locs cells slots mc ms (F0 m pc ls st) rest (va_Qv (fun w : va_W => F w) (fun w t => va_P D cl w t.heap ∧ va_D (va_A wc H.size) w) (va_A wc H.size) av.toArray) (va_A wc H.size))
    (k : ∀ w : va_W, F w → sx_U cl D A nL p l e R s m args below meth c Q (cells + mc) (slots + ms) (wr ++ w) (pc + 3) lv rest) : sx_U cl D A nL p l e R s m args below meth c Q cells slots ws pc lv st := by
  intro H locs ls hP hD hS hl
  have hPc : va_P D cl wc H := hP.sub [i] (by
    cases wc with
    | nil => simp at hi
    | cons x t =>
      cases t with
      | cons _ _ => simp at hi
      | nil =>
        have e9 : ws[i]? = some x := by simpa using hi
        simp [e9])
  have hDc : va_D A wc := hD.sub [i] rfl hi
  have hFc := va_free (wc := wc) hD hS C.2.2.2.2.2.2.1 [i] hi
  refine va_callv (hrun H locs ls hl ⟨fun a U g mk q => by obtain ⟨q0, q1, qP, qK, qD, qB⟩ := q; exact ⟨q0, q1, qP, va_K.moved (u := U) (U := U.calling g mk a) (Vm.Alike.refl U.vm) qK, qD, fun w hw => va_Nw.same (sr_bad_tab w hw) (u := U) rfl (qB w hw)⟩, fun U hU hW => ⟨rfl, by rw [hU], by rw [hU]; exact hPc, va_K.moved hW.alike C.2.2.2.2.2.1, hDc.weaken (fun _ _ _ _ => trivial), sr_bad_warm hW C.2.2.2.2.2.2.2⟩⟩) hS (fun q _ h => hFc q h) hFc (fun u t H1 locs1 ht hvm hw hB hz1 hk1 hS1 => ?_)
  obtain ⟨hP1, hD1⟩ := hB
  rw [ht] at hP1
  obtain ⟨hP2, hD2⟩ := va_join hP hD [i] isR hi hR hn hdis hk1 hFc hP1 hD1
  exact k u hw H1 locs1 ls hP2 hD2 hS1 hl
theorem su_bodyS {y : MethodName} {wsy : List Cond} {rm : Room} {av : List Value} {wc : va_W} {F : va_W → Prop} {maxL mc ms sz : Nat} (hy : plainFor y = true) (hw : wsy = Cond.code y cc maxL none :: sr_ts) (hav : (lg_sl av).length ≤ maxL)
    (body : ∀ (p : Program) (e : Env) (s : State) (m : MethodId) (below : List Frame) (meth : Method) (c : Code), sx_CU cl D cI cJ (va_A wc sz) maxL y.cls cc p s m av.toArray c → meth.sig.returnType = none → meth.locks = false →
      sx_U cl D (va_A wc sz) maxL p l e rm s m av.toArray below meth c (MQ below (va_Qv (fun w : va_W => F w) (fun w t => va_P D cl w t.heap ∧ va_D (va_A wc sz) w) (va_A wc sz)) av.toArray s mc ms (va_A wc sz)) 0 0 wc 0 (lv_args 0 av) []) :
    su_M l y wsy rm cl D cI cJ av wc F mc ms sz := by
  refine va_MetF hy hw ?_
  intro p e s m args below meth c s₁ B hml hv
  obtain ⟨rfl, hsz, hP, hK, hD0, hbad⟩ := hv
  have hts := atoms_spec (ws := wsy) B.pre
  have hown : s.vm.findClass y.cls = some m.cls := findClass_of_methodNamed B.named
  have key := body p e s m below meth c ⟨B.exec, B.bytes, hml, hown, fun w h => hts w (by rw [hw]; exact List.mem_cons_of_mem _ h), hK, fun q h => Or.inr (by rw [← hsz]; exact h), hbad⟩ B.returns B.notSynchronized
  rw [lg_entry_eq]
  exact key s.heap [] _ hP (hD0.self) va_S.rf (lv_entry av hav)
theorem su_top {x y : Int} (h : x = y) (k : sx_U cl D A nL p l e R s m args below meth c Q cells slots ws pc lv (.int (sx_i y) :: st)) : sx_U cl D A nL p l e R s m args below meth c Q cells slots ws pc lv (.int (sx_i x) :: st) := h ▸ k
/-- a static method that answers a number and touches nothing -/
theorem su_stat (C : sx_CU cl D cI cJ A nL own cc p s m args c) {y : MethodName} {wsy : List Cond} {rm2 : Room} {As rest : List Value} {B0 : State → Prop} {v : Int} {bytes : ByteArray} {ret : Option FieldType} {index maxL n : Nat}
    (hM : Met l y wsy rm2 (va_Pc As B0) (va_Qi (fun (r : Int32) (_ : Unit) => r = sx_i v) (fun _ _ => True) (fun _ => False)) 0 0 (fun _ => False)) (cw : CallB R s args own index y bytes maxL ret wsy rm2 0 0 n ∧ (Cond.static y).before args s = true)
    (hpre : ∀ (H : Heap) (locs : List Loc), va_S A s.heap H locs → PreS s H (va_Pc As B0) As) (hn : As.length = n) (hst : st = As.reverse ++ rest) (hW : (rest.map fun v => v.category).sum ≤ 8) (hd : decode cc pc = .ok (.invokestatic index, 3)) (hf : cells + 0 ≤ R.cells ∧ slots + 0 ≤ R.slots)
    (k : sx_U cl D A nL p l e R s m args below meth c Q cells slots ws (pc + 3) lv (.int (sx_i v) :: rest)) : sx_U cl D A nL p l e R s m args below meth c Q cells slots ws pc lv st := by
  intro H locs ls hP hD hS hl
  refine va_calli (va_runS (As := As) (rest := rest) (nL := nL) ⟨C.1, C.2.1, C.2.2.1, C.2.2.2.1, C.2.2.2.2.1⟩ hM cw (hpre H locs hS) rfl hn hl.1 hst (lv_room hW) hd hf) hS (fun q _ h => h.elim) (fun q h => h.elim) (fun r u t H1 locs1 ht hvm hq hB hz hk hS1 => ?_)
  subst hq
  exact k H1 locs1 ls (hP.kept (fun k q hq => hk q.1 (hP k q hq).lt (fun h => h))) hD hS1 hl
/-- arrays' cells in an explicit world -/
theorem su_iast (C : sx_CU cl D cI cJ A nL own cc p s m args c) {a N0 : Nat} {f g : Nat → Int32} {j x : Int} {ws2 : va_W} (q0 : Nat) (he : ws[q0]? = some (a, .inl (cI, N0, .inl f))) (hj : 0 ≤ j ∧ j < (N0 : Int)) (hN : N0 < 100000) (hd : decode cc pc = .ok (.iastore, 1)) (hg : upd f j.toNat (sx_i x) = g) (hw2 : ws.set q0 (a, .inl (cI, N0, .inl g)) = ws2)
    (k : sx_U cl D A nL p l e R s m args below meth c Q cells slots ws2 (pc + 1) lv st) : sx_U cl D A nL p l e R s m args below meth c Q cells slots ws pc lv (.int (sx_i x) :: .int (sx_i j) :: .ref a :: st) := by
  intro H locs ls hP hD hS hl
  subst hw2
  subst hg
  obtain ⟨q1, q2, q3⟩ := sx_in (by omega) hj
  refine va_iast (D := D) C.1 C.2.1 C.2.2.2.2.2.1 hP hD hS q0 0 he rfl q1 hd (fun H1 locs1 hP1 hD1 hS1 => ?_)
  rw [q2] at hP1 hD1
  exact k H1 locs1 ls hP1 hD1 hS1 hl
theorem su_alen (C : sx_CU cl D cI cJ A nL own cc p s m args c) {a N0 : Nat} {f : Nat → Int32} (q0 : Nat) (he : ws[q0]? = some (a, .inl (cI, N0, .inl f))) (hd : decode cc pc = .ok (.arraylength, 1))
    (k : sx_U cl D A nL p l e R s m args below meth c Q cells slots ws (pc + 1) lv (.int (sx_i (N0 : Int)) :: st)) : sx_U cl D A nL p l e R s m args below meth c Q cells slots ws pc lv (.ref a :: st) := by
  intro H locs ls hP hD hS hl
  exact va_alen (D := D) C.1 C.2.1 C.2.2.2.2.2.1 hP q0 0 he rfl (by rw [← Int32.ofInt_eq_ofNat]; rfl) hd (k H locs ls hP hD hS hl)
theorem su_istore_n (C : sx_CU cl D cI cJ A nL own cc p s m args c) {q : Fin 4} {i : Nat} {x : Int} {lu : List (Nat × Value)} (hd : decode cc pc = .ok (.istore_n q, 1)) (hi : (q : Nat) = i) (hn : i < nL) (hv : (i, Value.int (sx_i x)) :: lv.filter (fun q => !(q.1 == i) && !(q.1 + 1 == i && q.2.category == 2)) = lu)
    (k : sx_U cl D A nL p l e R s m args below meth c Q cells slots ws (pc + 1) lu st) : sx_U cl D A nL p l e R s m args below meth c Q cells slots ws pc lv (.int (sx_i x) :: st) := by
  intro H locs ls hP hD hS hl
  exact lv_istore_n C.1 C.2.1 hd hi hl hn hv (fun ls2 hl2 => k H locs ls2 hP hD hS hl2)
theorem su_iinc (C : sx_CU cl D cI cJ A nL own cc p s m args c) {i : Nat} {n x : Int} {lu : List (Nat × Value)} (q : Nat) (hd : decode cc pc = .ok (.iinc i n, 3)) (hx : lv[q]? = some (i, .int (sx_i x))) (hn : i < nL) (hv : (i, Value.int (sx_i (x + n))) :: lv.filter (fun q => !(q.1 == i) && !(q.1 + 1 == i && q.2.category == 2)) = lu)
    (k : sx_U cl D A nL p l e R s m args below meth c Q cells slots ws (pc + 3) lu st) : sx_U cl D A nL p l e R s m args below meth c Q cells slots ws pc lv st := by
  intro H locs ls hP hD hS hl
  exact lv_iinc C.1 C.2.1 hd hl hx (sx_add x n) hn hv (fun ls2 hl2 => k H locs ls2 hP hD hS hl2)
theorem su_get (C : sx_CU cl D cI cJ A nL own cc p s m args c) {C0 ref : String} {T : u_T} {N ci index a : Nat} {fs : List Value} {v : Value} (q0 k0 : Nat) (he : ws[q0]? = some (a, .inr (ci, fs))) (hcl : cl[ci]? = some (C0, T, N)) (hk : k0 < N) (hin : ∀ w ∈ u_ws C0 T N, w ∈ sr_ts) (hw : Cond.fieldLink own index ref (T k0).2.1 (T k0).2.2.1 ∈ sr_ts) (hr : (T k0).1 = ref) (hv : fs[k0]? = some v) (hd : decode cc pc = .ok (.getfield index, 3))
    (k : sx_U cl D A nL p l e R s m args below meth c Q cells slots ws (pc + 3) lv (v :: st)) : sx_U cl D A nL p l e R s m args below meth c Q cells slots ws pc lv (.ref a :: st) := by
  intro H locs ls hP hD hS hl
  exact va_get (D := D) C.1 C.2.1 C.2.2.2.2.1 hin C.2.2.2.1 C.2.2.2.2.2.1 hP q0 he hcl k0 hk (C.2.2.2.2.1 _ hw) (fun _ h9 => by rw [hr] at h9; exact h9) hv hd (k H locs ls hP hD hS hl)
end SXU

