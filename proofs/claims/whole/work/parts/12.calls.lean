/-! CONTRACTS over one memory, ends of methods, calls. QQ: what holds of the answer and the memory behind a return; XX: of the exception's class and the memory behind a throw. -/
section SXK
/-- what the machine must hold beside the tables' good words: Throwable's two statics, the texts, words that travel by rows of their own, pairs that are not castable -/
def sx_Z (A : Nat → Prop) (U : State) (H : Heap) : Prop := vx_Zq Bundle.tN "UNASSIGNED_STACK" Bundle.steD A U H ∧ vx_Zq Bundle.tN "SUPPRESSED_SENTINEL" Bundle.listD A U H ∧ (∀ q ∈ sr_strs, ∃ sa, vk_R q.1 q.2.1 q.2.2 sa U) ∧ (∀ w ∈ sr_bad, va_Nw w U) ∧ ∀ q ∈ sr_ncs, va_Nc q.1 q.2 U
theorem sx_Z.go {A B : Nat → Prop} {s U : State} {H : Heap} {locs : List Loc} (h : sx_Z A s s.heap) (hS : va_S A s.heap H locs) (hW : s.WarmedH U.vm) (hAB : ∀ q, B q → A q) : sx_Z B U H :=
  ⟨((h.1.kept hS.2.1).moved hW.alike).narrow hAB, ((h.2.1.kept hS.2.1).moved hW.alike).narrow hAB, fun q hq => by
    obtain ⟨sa, hs⟩ := h.2.2.1 q hq
    exact ⟨sa, vk_R.warm hW hs⟩, sr_bad_warm hW h.2.2.2.1, fun q hq => (h.2.2.2.2 q hq).moved hW.alike⟩
theorem sx_Z.call {A : Nat → Prop} {U : State} {g : JFrame} {mk : MethodId} {a : Array Value} (h : sx_Z A U U.heap) : sx_Z A (U.calling g mk a) U.heap :=
  ⟨h.1.moved (Vm.Alike.refl U.vm), h.2.1.moved (Vm.Alike.refl U.vm), fun q hq => by
    obtain ⟨sa, hs⟩ := h.2.2.1 q hq
    exact ⟨sa, vk_R.same (u := U) rfl hs⟩, fun w hw => va_Nw.same (sr_bad_tab w hw) (u := U) rfl (h.2.2.2.1 w hw), fun q hq => (h.2.2.2.2 q hq).moved (Vm.Alike.refl U.vm)⟩
/-- no cell came, none changed its size -/
def sx_same (H H1 : Heap) : Prop := H1.size = H.size ∧ ∀ (a : Nat) (c : Cell), H[a]? = some c → ∃ c2 : Cell, H1[a]? = some c2 ∧ c2.slots.size = c.slots.size
theorem sx_fold {H H1 : Heap} (h : sx_same H H1) : H1.foldl (fun n c => n + c.slots.size) 0 = H.foldl (fun n c => n + c.slots.size) 0 := by
  have e : H1.map (fun c => c.slots.size) = H.map (fun c => c.slots.size) := by
    apply Array.ext_getElem?
    intro i
    rw [Array.getElem?_map, Array.getElem?_map]
    cases hc : H[i]? with
    | none =>
      have h1 : H.size ≤ i := by simpa using hc
      have h2 : H1[i]? = none := by simp; rw [h.1]; exact h1
      rw [h2]
    | some c =>
      obtain ⟨c2, h1, h2⟩ := h.2 i c hc
      rw [h1]
      simp [h2]
  have f : ∀ X : Heap, X.foldl (fun n c => n + c.slots.size) 0 = (X.map (fun c => c.slots.size)).foldl (fun n k => n + k) 0 := fun X => by rw [Array.foldl_map]
  rw [f, f, e]
theorem sx_tight {p : Program} {l : Launch} {e : Env} {R : Room} {s : State} {m : MethodId} {args : Array Value} {below : List Frame} {meth : Method} {c : Code} {T T2 : State} {locs locs2 : List Loc} {cells slots cells2 slots2 : Nat}
    (X : Stand p l e R s m args below meth c T locs cells slots) (X2 : Stand p l e R s m args below meth c T2 locs2 cells2 slots2) (h : sx_same T.heap T2.heap) : Stand p l e R s m args below meth c T2 locs2 cells slots := by
  have b1 := X.book
  have b2 := X2.book
  simp only [State.slotsTrue, beq_iff_eq] at b1 b2
  have hf := sx_fold h
  obtain ⟨-, -, q3, q4, q5, -⟩ := X.same
  obtain ⟨r1, r2, r3, r4, r5, r6⟩ := X2.same
  have q3 : T.heap.size ≤ s.heap.size + cells := q3
  have q4 : T.slotsUsed = s.slotsUsed + ((T.heap.toList.drop s.heap.size).map (·.slots.size)).sum := q4
  have q5 : ((T.heap.toList.drop s.heap.size).map (·.slots.size)).sum ≤ slots := q5
  have r4' : T2.slotsUsed = s.slotsUsed + ((T2.heap.toList.drop s.heap.size).map (·.slots.size)).sum := r4
  have h1 := h.1
  refine { X2 with same := ⟨r1, r2, ?_, r4, ?_, r6⟩ }
  · show T2.heap.size ≤ s.heap.size + cells
    omega
  · show ((T2.heap.toList.drop s.heap.size).map (·.slots.size)).sum ≤ slots
    omega
/-- .. and behind a return it is said so -/
def sx_T (Qc : Array Value → State → Outcome → State → Prop) : Array Value → State → Outcome → State → Prop := fun a st o t => Qc a st o t ∧ sx_same st.heap t.heap
theorem sx_same_of {st t : State} {o : Outcome} {L : List Loc} (h : FrameEnd st o t L 0 0) : sx_same st.heap t.heap := by
  obtain ⟨-, -, -, h2, h3, -, -, h6⟩ := h
  have h2 : st.heap.size ≤ t.heap.size := h2
  have h3 : t.heap.size ≤ st.heap.size + 0 := h3
  refine ⟨by omega, fun a c hc => ?_⟩
  obtain ⟨c2, e1, -, e3, -⟩ := h6 a c hc
  exact ⟨c2, e1, e3⟩
theorem sx_ret0 {p : Program} {l : Launch} {e : Env} {R : Room} {s : State} {m : MethodId} {args : Array Value} {below : List Frame} {meth : Method} {c : Code} {H : Heap} {locs : List Loc} {cells slots mc ms : Nat} {free : Addr → Prop} {Qc : Array Value → State → Outcome → State → Prop} {XC : String → State → State → Prop} {g : JFrame}
    (k : W p l e R s m args below meth c H locs cells slots (MQ below Qc args s 0 0 free) g) : W p l e R s m args below meth c H locs cells slots (vx_MQ below (sx_T Qc) XC args s mc ms free) g := by
  intro T hT X
  obtain ⟨t, a1, o, b1, b2, b3, L, hF, hL⟩ := k T hT X
  exact ⟨t, a1, o, b1, b2, Or.inl ⟨⟨b3, sx_same_of hF⟩, L, ⟨hF.1, hF.2.1, hF.2.2.mono (Nat.zero_le _) (Nat.zero_le _)⟩, hL⟩⟩
def sx_pi (QQ : Int → sx_M → Prop) : Int32 → sx_M → Prop := fun r μ => ∃ z : Int, r = sx_i z ∧ QQ z μ
def sx_pv (QQ : Int → sx_M → Prop) : sx_M → Prop := fun μ => QQ 0 μ
def sx_B (lay : List sx_L) (cl : List vw_C) (D : va_G) (cI cJ : ClassId) (ad : Nat → Nat) : sx_M → State → Prop := fun μ t => va_P D cl (sx_W lay cI cJ ad μ) t.heap
def sx_BX (lay : List sx_L) (cl : List vw_C) (D : va_G) (cI cJ : ClassId) (ad : Nat → Nat) (XX : String → sx_M → Prop) : String → sx_M → State → Prop := fun E μ t => XX E μ ∧ va_P D cl (sx_W lay cI cJ ad μ) t.heap
def sx_Pre (lay : List sx_L) (cl : List vw_C) (D : va_G) (cI cJ : ClassId) (ad : Nat → Nat) (μ : sx_M) (sz : Nat) : State → Prop := fun U => U.heap.size = sz ∧ va_P D cl (sx_W lay cI cJ ad μ) U.heap ∧ va_K D cl [(cI, .int), (cJ, .long)] U ∧ sx_J lay ad ∧ sx_Z (sx_A lay ad sz) U U.heap
abbrev sx_QI (lay : List sx_L) (cl : List vw_C) (D : va_G) (cI cJ : ClassId) (ad : Nat → Nat) (QQ : Int → sx_M → Prop) (sz : Nat) := va_Qi (sx_pi QQ) (sx_B lay cl D cI cJ ad) (sx_A lay ad sz)
abbrev sx_QV (lay : List sx_L) (cl : List vw_C) (D : va_G) (cI cJ : ClassId) (ad : Nat → Nat) (QQ : Int → sx_M → Prop) (sz : Nat) := va_Qv (sx_pv QQ) (sx_B lay cl D cI cJ ad) (sx_A lay ad sz)
abbrev sx_XC (lay : List sx_L) (cl : List vw_C) (D : va_G) (cI cJ : ClassId) (ad : Nat → Nat) (XX : String → sx_M → Prop) (sz : Nat) := vx_X (fun _ => True) (sx_BX lay cl D cI cJ ad XX) (sx_A lay ad sz)
/-- a method that answers an int (or a boolean): behind a return no cell has come; a void method; one that may have made cells -/
def sx_MI (l : Launch) (y : MethodName) (ws : List Cond) (rm : Room) (lay : List sx_L) (cl : List vw_C) (D : va_G) (cI cJ : ClassId) (ad : Nat → Nat) (av : List Value) (μ : sx_M) (QQ : Int → sx_M → Prop) (XX : String → sx_M → Prop) (mc ms sz : Nat) : Prop :=
  vx_Met l y ws rm (va_Pc av (sx_Pre lay cl D cI cJ ad μ sz)) (sx_T (sx_QI lay cl D cI cJ ad QQ sz)) (sx_XC lay cl D cI cJ ad XX sz) mc ms (sx_A lay ad sz)
def sx_MV (l : Launch) (y : MethodName) (ws : List Cond) (rm : Room) (lay : List sx_L) (cl : List vw_C) (D : va_G) (cI cJ : ClassId) (ad : Nat → Nat) (av : List Value) (μ : sx_M) (QQ : Int → sx_M → Prop) (XX : String → sx_M → Prop) (mc ms sz : Nat) : Prop :=
  vx_Met l y ws rm (va_Pc av (sx_Pre lay cl D cI cJ ad μ sz)) (sx_T (sx_QV lay cl D cI cJ ad QQ sz)) (sx_XC lay cl D cI cJ ad XX sz) mc ms (sx_A lay ad sz)
def sx_ML (l : Launch) (y : MethodName) (ws : List Cond) (rm : Room) (lay : List sx_L) (cl : List vw_C) (D : va_G) (cI cJ : ClassId) (ad : Nat → Nat) (av : List Value) (μ : sx_M) (QQ : Int → sx_M → Prop) (mc ms sz : Nat) : Prop :=
  Met l y ws rm (va_Pc av (sx_Pre lay cl D cI cJ ad μ sz)) (sx_QI lay cl D cI cJ ad QQ sz) mc ms (sx_A lay ad sz)
variable {lay : List sx_L} {cl : List vw_C} {D : va_G} {cI cJ : ClassId} {ad : Nat → Nat} {A : Nat → Prop} {nL : Nat} {own : String} {cc : ByteArray} {Ts : List Cond} {p : Program} {l : Launch} {e : Env} {R : Room} {s : State} {m : MethodId} {args : Array Value} {below : List Frame} {meth : Method} {c : Code} {Q : State → Prop} {cells slots : Nat} {μ : sx_M} {pc : Nat} {lv : List (Nat × Value)} {st : List Value}
variable {QQ : Int → sx_M → Prop} {XX XX2 : String → sx_M → Prop} {mc ms sz : Nat} {Qc : Array Value → State → Outcome → State → Prop} {XC : String → State → State → Prop}
/-- a contract out of the walk of its body -/
theorem sx_body {y : MethodName} {ws ws' : List Cond} {rm : Room} {av : List Value} {maxL : Nat} {ret : Option FieldType} (hy : plainFor y = true) (hw : ws = Cond.code y cc maxL ret :: ws') (hav : (lg_sl av).length ≤ maxL)
    (body : ∀ (p : Program) (e : Env) (s : State) (m : MethodId) (below : List Frame) (meth : Method) (c : Code), sx_C lay cl D cI cJ ad (sx_A lay ad sz) maxL y.cls cc ws' p s m av.toArray c → sx_Z (sx_A lay ad sz) s s.heap → meth.sig.returnType = ret → meth.locks = false → (∀ x ∈ c.exceptionTable.toList, False) →
      sx_V lay cl D cI cJ ad (sx_A lay ad sz) maxL p l e rm s m av.toArray below meth c (vx_MQ below Qc XC av.toArray s mc ms (sx_A lay ad sz)) 0 0 μ 0 (lv_args 0 av) []) :
    vx_Met l y ws rm (va_Pc av (sx_Pre lay cl D cI cJ ad μ sz)) Qc XC mc ms (sx_A lay ad sz) := by
  refine MetFree.of_bodySF (code := cc) (maxLocals := maxL) (ret := ret) hy ?_ ?_
  · intro args s m h hn
    obtain ⟨meth, c, h1, h2, h3, h4, h5, h6, -, -⟩ := Cond.code_spec hn (atoms_spec (ws := ws) h _ (by rw [hw]; exact List.mem_cons_self))
    exact ⟨meth, c, h1, h2, h3, h4, h5, h6⟩
  intro p e s m args below meth c s₁ B hml hv _
  have hh0 : s₁.heap = s.heap := by rw [B.state]; rfl
  have ht : ∀ x ∈ c.exceptionTable.toList, False := by
    obtain ⟨meth9, c9, h1, h2, -, -, -, -, h7, -⟩ := Cond.code_spec B.named (atoms_spec (ws := ws) B.pre _ (by rw [hw]; exact List.mem_cons_self))
    cases Option.some.inj (h1.symm.trans B.method)
    cases Option.some.inj (h2.symm.trans (Stand.of_body B).code)
    intro x hx
    rw [Array.isEmpty_iff.mp h7] at hx
    cases hx
  obtain ⟨rfl, hsz, hP, hK, hJ, hZ⟩ := hv
  have hts := atoms_spec (ws := ws) B.pre
  have hown : s.vm.findClass y.cls = some m.cls := findClass_of_methodNamed B.named
  have key := body p e s m below meth c ⟨B.exec, B.bytes, hml, hown, fun w h => hts w (by rw [hw]; exact List.mem_cons_of_mem _ h), hK, fun q h => Or.inr (by rw [← hsz]; exact h), hJ, fun i hi => Or.inl ⟨i, hi, rfl⟩⟩ hZ B.returns B.notSynchronized ht
  have key2 := key s.heap [] _ hP va_S.rf (lv_entry av hav)
  rw [← lg_entry_eq] at key2
  obtain ⟨t, a1, o, b1, b2, b3⟩ := key2 s₁ hh0 (Stand.of_body B)
  exact ⟨t, o, a1, b1, b2, b3⟩
theorem sx_iret (C : sx_C lay cl D cI cJ ad (sx_A lay ad sz) nL own cc Ts p s m args c) {x : Int} (hr : meth.sig.returnType = some .int) (hlk : meth.locks = false) (hd : decode cc pc = .ok (.ireturn, 1)) (h : QQ x μ) :
    sx_V lay cl D cI cJ ad (sx_A lay ad sz) nL p l e R s m args below meth c (vx_MQ below (sx_T (sx_QI lay cl D cI cJ ad QQ sz)) XC args s mc ms (sx_A lay ad sz)) 0 0 μ pc lv [.int (sx_i x)] := by
  intro H locs ls hP hS hl
  refine sx_ret0 ?_
  exact W.iret C.1 C.2.1 hr (fun t ht hW => ⟨⟨sx_i x, μ, rfl, ⟨x, rfl, h⟩, by show va_P _ _ _ t.heap; rw [ht]; exact hP⟩, hS.F ht⟩) hS.2.2 hd hlk
theorem sx_iretL (C : sx_C lay cl D cI cJ ad (sx_A lay ad sz) nL own cc Ts p s m args c) {x : Int} (hr : meth.sig.returnType = some .int) (hlk : meth.locks = false) (hc : cells ≤ mc) (hs : slots ≤ ms) (hd : decode cc pc = .ok (.ireturn, 1)) (h : QQ x μ) :
    sx_V lay cl D cI cJ ad (sx_A lay ad sz) nL p l e R s m args below meth c (MQ below (sx_QI lay cl D cI cJ ad QQ sz) args s mc ms (sx_A lay ad sz)) cells slots μ pc lv [.int (sx_i x)] := by
  intro H locs ls hP hS hl
  refine W.widen hc hs ?_
  exact W.iret C.1 C.2.1 hr (fun t ht hW => ⟨⟨sx_i x, μ, rfl, ⟨x, rfl, h⟩, by show va_P _ _ _ t.heap; rw [ht]; exact hP⟩, hS.F ht⟩) hS.2.2 hd hlk
theorem sx_bool {x : Int} (h : x = 0 ∨ x = 1) : narrow .boolean (.int (sx_i x)) = .int (sx_i x) ∧ fits .boolean (.int (sx_i x)) = true := by
  rcases h with rfl | rfl <;> exact ⟨by decide +kernel, by decide +kernel⟩
theorem sx_zret (C : sx_C lay cl D cI cJ ad (sx_A lay ad sz) nL own cc Ts p s m args c) {x : Int} (hr : meth.sig.returnType = some .boolean) (hlk : meth.locks = false) (hd : decode cc pc = .ok (.ireturn, 1)) (h : (x = 0 ∨ x = 1) ∧ QQ x μ) :
    sx_V lay cl D cI cJ ad (sx_A lay ad sz) nL p l e R s m args below meth c (vx_MQ below (sx_T (sx_QI lay cl D cI cJ ad QQ sz)) XC args s mc ms (sx_A lay ad sz)) 0 0 μ pc lv [.int (sx_i x)] := by
  intro H locs ls hP hS hl
  refine sx_ret0 ?_
  exact W.zret C.1 C.2.1 hr (sx_bool h.1).1 (fun t ht hW => ⟨⟨sx_i x, μ, rfl, ⟨x, rfl, h.2⟩, by show va_P _ _ _ t.heap; rw [ht]; exact hP⟩, hS.F ht⟩) hS.2.2 hd hlk
theorem sx_vret (C : sx_C lay cl D cI cJ ad (sx_A lay ad sz) nL own cc Ts p s m args c) (hr : meth.sig.returnType = none) (hlk : meth.locks = false) (hd : decode cc pc = .ok (.return_, 1)) (h : QQ 0 μ) :
    sx_V lay cl D cI cJ ad (sx_A lay ad sz) nL p l e R s m args below meth c (vx_MQ below (sx_T (sx_QV lay cl D cI cJ ad QQ sz)) XC args s mc ms (sx_A lay ad sz)) 0 0 μ pc lv [] := by
  intro H locs ls hP hS hl
  refine sx_ret0 ?_
  exact W.vret C.1 C.2.1 hr (fun t ht hW => ⟨⟨μ, rfl, h, by show va_P _ _ _ t.heap; rw [ht]; exact hP⟩, hS.F ht⟩) hS.2.2 hd hlk
/-- throw new E("text"): it leaves the method -/
theorem sx_throw (C : sx_C lay cl D cI cJ ad (sx_A lay ad sz) nL own cc Ts p s m args c) (hlf : l.stackTraces = false) (hZ : sx_Z (sx_A lay ad sz) s s.heap) (hlk : meth.locks = false) (ht : ∀ x ∈ c.exceptionTable.toList, False) {cls text : String} {names : List String} {ik is ic : Nat}
    (hcls : Bundle.fit cls = true) (hnames : ∀ n ∈ names, Bundle.fit n = true) (hk : Cond.classLink own ik cls ∈ Ts) (hini : Cond.initialized cls ∈ Ts) (hstr : (own, is, text) ∈ sr_strs) (hat : ∀ w ∈ vx_atS own ic cls names, w ∈ Ts ∨ w ∈ sr_bad)
    (hgood : ∀ w ∈ Cond.classLink own ik cls :: Cond.initialized cls :: vx_atS own ic cls names, vx_ot w = true)
    (d0 : decode cc pc = .ok (.new ik, 3)) (d3 : decode cc (pc + 3) = .ok (.dup, 1)) (d4 : decode cc (pc + 4) = .ok (.ldc is, 2)) (d6 : decode cc (pc + 6) = .ok (.invokespecial ic, 3)) (d9 : decode cc (pc + 9) = .ok (.athrow, 1))
    (hRf : names.length + 3 < R.frames) (hRl : (st.map fun v => v.category).sum + (13 * (names.length + 1) + 43) ≤ R.locals) (hRc : cells + 1 ≤ R.cells) (hRs : slots + 6 ≤ R.slots) (hc : cells + 1 ≤ mc) (hs : slots + 6 ≤ ms) (h : XX cls μ) :
    sx_V lay cl D cI cJ ad (sx_A lay ad sz) nL p l e R s m args below meth c (vx_MQ below Qc (sx_XC lay cl D cI cJ ad XX sz) args s mc ms (sx_A lay ad sz)) cells slots μ pc lv st := by
  intro H locs ls hP hS hl
  obtain ⟨sa, hsa⟩ := hZ.2.2.1 _ hstr
  exact vx_throwS C.1 C.2.1 hlf C.2.2.2.1 hcls hnames (C.2.2.2.2.1 _ hk) (C.2.2.2.2.1 _ hini) hsa (fun w hw => (hat w hw).elim (C.2.2.2.2.1 w) (fun hb => va_Nw.use (sr_bad_tab w hb) (hZ.2.2.2.1 w hb))) hgood hZ.1 hZ.2.1 hS (hl.1.trans C.2.2.1.symm) d0 d3 d4 d6 d9 (fun x hx => (ht x hx).elim) hRf hRl hRc hRs hlk
    (fun t _ h1 h2 => ⟨μ, trivial, ⟨h, hP.kept (fun k q hq => h2 q.1 (hP k q hq).lt)⟩, Nat.le_trans hS.1 h1, fun q g1 g2 => (h2 q (Nat.lt_of_lt_of_le g1 hS.1)).trans (hS.2.1 q g1 g2)⟩) hS.2.2 hc hs
/-- where a call at pc has thrown -/
def sx_VX (lay : List sx_L) (cl : List vw_C) (D : va_G) (cI cJ : ClassId) (ad : Nat → Nat) (A : Nat → Prop) (nL : Nat) (p : Program) (l : Launch) (e : Env) (R : Room) (s : State) (m : MethodId) (args : Array Value) (below : List Frame) (meth : Method) (c : Code) (Q : State → Prop) (cells slots : Nat) (XX : String → sx_M → Prop) (pc : Nat) (lv : List (Nat × Value)) (st : List Value) : Prop :=
  ∀ (E : String) (μ : sx_M) (H : Heap) (locs : List Loc) (ls : Array Slot) (ce : Cell) (q : Addr), XX E μ → va_P D cl (sx_W lay cI cJ ad μ) H → va_S A s.heap H locs → lv_has ls nL lv → H[q]? = some ce → ce.vm = .none → s.vm.findClass E = some ce.cls → vx_W p l e R s m args below meth c H locs cells slots Q (F0 m pc ls st) q
theorem sx_noX : sx_VX lay cl D cI cJ ad A nL p l e R s m args below meth c Q cells slots (fun _ _ => False) pc lv st := fun _ _ _ _ _ _ _ h => h.elim
/-- it goes on to the caller -/
theorem sx_prop (hlk : meth.locks = false) (ht : ∀ x ∈ c.exceptionTable.toList, False) (hc : cells ≤ mc) (hs : slots ≤ ms) :
    sx_VX lay cl D cI cJ ad (sx_A lay ad sz) nL p l e R s m args below meth c (vx_MQ below Qc (sx_XC lay cl D cI cJ ad XX sz) args s mc ms (sx_A lay ad sz)) cells slots XX pc lv st := by
  intro E μ H locs ls ce q h hP hS hl h1 h2 h3
  exact vx_out (fun x hx => (ht x hx).elim) hlk h1 h2 h3 (fun t ht' hW => ⟨μ, trivial, ⟨h, by rw [ht']; exact hP⟩, hS.F ht'⟩) hS.2.2 hc hs
theorem sx_sb {H : Heap} {locs : List Loc} (C : sx_C lay cl D cI cJ ad A nL own cc Ts p s m args c) (hS : va_S A s.heap H locs) : ∀ q, sx_A lay ad H.size q → A q := by
  intro q h
  rcases h with ⟨i, hi, rfl⟩ | h
  · exact C.2.2.2.2.2.2.2.2 i hi
  · exact C.2.2.2.2.2.2.1 q (Nat.le_trans hS.1 h)
theorem sx_callI (C : sx_C lay cl D cI cJ ad A nL own cc Ts p s m args c) {a : Array Value} {rest : List Value}
    (hr : ∀ (H : Heap) (locs : List Loc) (ls : Array Slot), va_P D cl (sx_W lay cI cJ ad μ) H → va_S A s.heap H locs → lv_has ls nL lv → vx_Run p l e R s m args below meth c H locs cells slots mc ms (F0 m pc ls st) rest (sx_T (sx_QI lay cl D cI cJ ad QQ H.size) a) (sx_XC lay cl D cI cJ ad XX H.size) (sx_A lay ad H.size))
    (kx : sx_VX lay cl D cI cJ ad A nL p l e R s m args below meth c Q (cells + mc) (slots + ms) XX pc lv rest)
    (kk : ∀ (x : Int) (μ2 : sx_M), QQ x μ2 → sx_V lay cl D cI cJ ad A nL p l e R s m args below meth c Q cells slots μ2 (pc + 3) lv (.int (sx_i x) :: rest)) :
    sx_V lay cl D cI cJ ad A nL p l e R s m args below meth c Q cells slots μ pc lv st := by
  intro H locs ls hP hS hl T hT X
  have hf := sx_sb C hS
  rcases hr H locs ls hP hS hl T hT X with ⟨v, st₀, t, T', L, h0, X', hL, e1, e2, ⟨⟨⟨r, u, hv, ⟨x, hxe, hq⟩, hB⟩, hF⟩, hsm⟩, go⟩ | ⟨q, st₀, t, T', L, E, ce, h0, X', hL, e1, e2, ⟨u, -, hB, hF⟩, hce, hcv, hcl, go⟩
  · cases hv
    cases hxe
    obtain ⟨k1, k2, k3⟩ := vx_keep h0 e1 hS (fun q _ h => hf q h) hf hL hF
    have X2 := sx_tight X X' (by rw [hT, e1, ← h0]; exact hsm)
    obtain ⟨t2, a1, b1⟩ := kk x u hq T'.heap (locs ++ L) ls (by rw [e1]; exact hB) k3 hl T' rfl X2
    exact ⟨t2, go t2 a1, b1⟩
  · obtain ⟨k1, k2, k3⟩ := vx_keep h0 e1 hS (fun q _ h => hf q h) hf hL hF
    obtain ⟨t2, a1, b1⟩ := kx E u T'.heap (locs ++ L) ls ce q hB.1 (by rw [e1]; exact hB.2) k3 hl (by rw [e1]; exact hce) hcv hcl T' rfl X'
    exact ⟨t2, go.trans a1, b1⟩
theorem sx_callV (C : sx_C lay cl D cI cJ ad A nL own cc Ts p s m args c) {a : Array Value} {rest : List Value}
    (hr : ∀ (H : Heap) (locs : List Loc) (ls : Array Slot), va_P D cl (sx_W lay cI cJ ad μ) H → va_S A s.heap H locs → lv_has ls nL lv → vx_Run p l e R s m args below meth c H locs cells slots mc ms (F0 m pc ls st) rest (sx_T (sx_QV lay cl D cI cJ ad QQ H.size) a) (sx_XC lay cl D cI cJ ad XX H.size) (sx_A lay ad H.size))
    (kx : sx_VX lay cl D cI cJ ad A nL p l e R s m args below meth c Q (cells + mc) (slots + ms) XX pc lv rest)
    (kk : ∀ (x : Int) (μ2 : sx_M), QQ x μ2 → sx_V lay cl D cI cJ ad A nL p l e R s m args below meth c Q cells slots μ2 (pc + 3) lv rest) :
    sx_V lay cl D cI cJ ad A nL p l e R s m args below meth c Q cells slots μ pc lv st := by
  intro H locs ls hP hS hl T hT X
  have hf := sx_sb C hS
  rcases hr H locs ls hP hS hl T hT X with ⟨v, st₀, t, T', L, h0, X', hL, e1, e2, ⟨⟨⟨u, hv, hq, hB⟩, hF⟩, hsm⟩, go⟩ | ⟨q, st₀, t, T', L, E, ce, h0, X', hL, e1, e2, ⟨u, -, hB, hF⟩, hce, hcv, hcl, go⟩
  · cases hv
    obtain ⟨k1, k2, k3⟩ := vx_keep h0 e1 hS (fun q _ h => hf q h) hf hL hF
    have X2 := sx_tight X X' (by rw [hT, e1, ← h0]; exact hsm)
    obtain ⟨t2, a1, b1⟩ := kk 0 u hq T'.heap (locs ++ L) ls (by rw [e1]; exact hB) k3 hl T' rfl X2
    exact ⟨t2, go t2 a1, b1⟩
  · obtain ⟨k1, k2, k3⟩ := vx_keep h0 e1 hS (fun q _ h => hf q h) hf hL hF
    obtain ⟨t2, a1, b1⟩ := kx E u T'.heap (locs ++ L) ls ce q hB.1 (by rw [e1]; exact hB.2) k3 hl (by rw [e1]; exact hce) hcv hcl T' rfl X'
    exact ⟨t2, go.trans a1, b1⟩
/-- the callee's start at a call -/
theorem sx_pre (C : sx_C lay cl D cI cJ ad A nL own cc Ts p s m args c) (hZ : sx_Z A s s.heap) {H : Heap} {locs : List Loc} (hP : va_P D cl (sx_W lay cI cJ ad μ) H) (hS : va_S A s.heap H locs) (av : List Value) :
    PreS s H (va_Pc av (sx_Pre lay cl D cI cJ ad μ H.size)) av :=
  ⟨fun a U g mk q => by
    obtain ⟨q0, q1, qP, qK, qJ, qZ⟩ := q
    exact ⟨q0, q1, qP, va_K.moved (u := U) (U := U.calling g mk a) (Vm.Alike.refl U.vm) qK, qJ, sx_Z.call qZ⟩,
   fun U hU hW => ⟨rfl, by rw [hU], by rw [hU]; exact hP, va_K.moved hW.alike C.2.2.2.2.2.1, C.2.2.2.2.2.2.2.1, by rw [hU]; exact hZ.go hS hW (sx_sb C hS)⟩⟩
theorem sx_preV (C : sx_C lay cl D cI cJ ad A nL own cc Ts p s m args c) (hZ : sx_Z A s s.heap) {H : Heap} {locs : List Loc} (hP : va_P D cl (sx_W lay cI cJ ad μ) H) (hS : va_S A s.heap H locs) {c0 ci : Nat} {fl : List (Option Nat)} {q : vw_C} (hlay : lay[c0]? = some (.inl (ci, fl))) (hcl : cl[ci]? = some q) (As : List Value) :
    PreV s H q.1 (ad c0) (va_Pc (.ref (ad c0) :: As) (sx_Pre lay cl D cI cJ ad μ H.size)) As :=
  ⟨(sx_pre C hZ hP hS _).1, va_recv C.2.2.2.2.2.1 hP hcl (sx_at hlay), (sx_pre C hZ hP hS (.ref (ad c0) :: As)).2⟩
theorem sx_invI (C : sx_C lay cl D cI cJ ad A nL own cc Ts p s m args c) (hZ : sx_Z A s s.heap) {y : MethodName} {ws2 : List Cond} {rm2 : Room} {C0 : String} {T : u_T} {N ci index maxL n c0 : Nat} {fl : List (Option Nat)} {bytes : ByteArray} {ret : Option FieldType} {rest : List Value} (As : List Value)
    (hM : ∀ sz2, sx_MI l y ws2 rm2 lay cl D cI cJ ad (.ref (ad c0) :: As) μ QQ XX mc ms sz2) (cw : CallW R s args own C0 index y bytes maxL ret ws2 rm2 mc ms n) (hlay : lay[c0]? = some (.inl (ci, fl))) (hcl : cl[ci]? = some (C0, T, N))
    (hn : As.length = n) (hst : st = As.reverse ++ .ref (ad c0) :: rest) (hW : (rest.map fun v => v.category).sum ≤ 8) (hd : decode cc pc = .ok (.invokevirtual index, 3)) (hf : cells + mc ≤ R.cells ∧ slots + ms ≤ R.slots)
    (kx : sx_VX lay cl D cI cJ ad A nL p l e R s m args below meth c Q (cells + mc) (slots + ms) XX pc lv rest)
    (kk : ∀ (x : Int) (μ2 : sx_M), QQ x μ2 → sx_V lay cl D cI cJ ad A nL p l e R s m args below meth c Q cells slots μ2 (pc + 3) lv (.int (sx_i x) :: rest)) :
    sx_V lay cl D cI cJ ad A nL p l e R s m args below meth c Q cells slots μ pc lv st :=
  sx_callI C (fun H locs ls hP hS hl => vx_runV (As := As) (rest := rest) (nL := nL) ⟨C.1, C.2.1, C.2.2.1, C.2.2.2.1, C.2.2.2.2.1⟩ (hM H.size) cw (sx_preV C hZ hP hS hlay hcl As) rfl hn hl.1 hst (lv_room hW) hd hf) kx kk
theorem sx_invV (C : sx_C lay cl D cI cJ ad A nL own cc Ts p s m args c) (hZ : sx_Z A s s.heap) {y : MethodName} {ws2 : List Cond} {rm2 : Room} {C0 : String} {T : u_T} {N ci index maxL n c0 : Nat} {fl : List (Option Nat)} {bytes : ByteArray} {ret : Option FieldType} {rest : List Value} (As : List Value)
    (hM : ∀ sz2, sx_MV l y ws2 rm2 lay cl D cI cJ ad (.ref (ad c0) :: As) μ QQ XX mc ms sz2) (cw : CallW R s args own C0 index y bytes maxL ret ws2 rm2 mc ms n) (hlay : lay[c0]? = some (.inl (ci, fl))) (hcl : cl[ci]? = some (C0, T, N))
    (hn : As.length = n) (hst : st = As.reverse ++ .ref (ad c0) :: rest) (hW : (rest.map fun v => v.category).sum ≤ 8) (hd : decode cc pc = .ok (.invokevirtual index, 3)) (hf : cells + mc ≤ R.cells ∧ slots + ms ≤ R.slots)
    (kx : sx_VX lay cl D cI cJ ad A nL p l e R s m args below meth c Q (cells + mc) (slots + ms) XX pc lv rest)
    (kk : ∀ (x : Int) (μ2 : sx_M), QQ x μ2 → sx_V lay cl D cI cJ ad A nL p l e R s m args below meth c Q cells slots μ2 (pc + 3) lv (rest)) :
    sx_V lay cl D cI cJ ad A nL p l e R s m args below meth c Q cells slots μ pc lv st :=
  sx_callV C (fun H locs ls hP hS hl => vx_runV (As := As) (rest := rest) (nL := nL) ⟨C.1, C.2.1, C.2.2.1, C.2.2.2.1, C.2.2.2.2.1⟩ (hM H.size) cw (sx_preV C hZ hP hS hlay hcl As) rfl hn hl.1 hst (lv_room hW) hd hf) kx kk
theorem sx_stcI (C : sx_C lay cl D cI cJ ad A nL own cc Ts p s m args c) (hZ : sx_Z A s s.heap) {y : MethodName} {ws2 : List Cond} {rm2 : Room} {index maxL n : Nat} {bytes : ByteArray} {ret : Option FieldType} {rest : List Value} (As : List Value)
    (hM : ∀ sz2, sx_MI l y ws2 rm2 lay cl D cI cJ ad As μ QQ XX mc ms sz2) (cw : CallB R s args own index y bytes maxL ret ws2 rm2 mc ms n ∧ (Cond.static y).before args s = true)
    (hn : As.length = n) (hst : st = As.reverse ++ rest) (hW : (rest.map fun v => v.category).sum ≤ 8) (hd : decode cc pc = .ok (.invokestatic index, 3)) (hf : cells + mc ≤ R.cells ∧ slots + ms ≤ R.slots)
    (kx : sx_VX lay cl D cI cJ ad A nL p l e R s m args below meth c Q (cells + mc) (slots + ms) XX pc lv rest)
    (kk : ∀ (x : Int) (μ2 : sx_M), QQ x μ2 → sx_V lay cl D cI cJ ad A nL p l e R s m args below meth c Q cells slots μ2 (pc + 3) lv (.int (sx_i x) :: rest)) :
    sx_V lay cl D cI cJ ad A nL p l e R s m args below meth c Q cells slots μ pc lv st :=
  sx_callI C (fun H locs ls hP hS hl => vx_runS (As := As) (rest := rest) (nL := nL) ⟨C.1, C.2.1, C.2.2.1, C.2.2.2.1, C.2.2.2.2.1⟩ (hM H.size) cw (sx_pre C hZ hP hS As) rfl hn hl.1 hst (lv_room hW) hd hf) kx kk
theorem sx_stcV (C : sx_C lay cl D cI cJ ad A nL own cc Ts p s m args c) (hZ : sx_Z A s s.heap) {y : MethodName} {ws2 : List Cond} {rm2 : Room} {index maxL n : Nat} {bytes : ByteArray} {ret : Option FieldType} {rest : List Value} (As : List Value)
    (hM : ∀ sz2, sx_MV l y ws2 rm2 lay cl D cI cJ ad As μ QQ XX mc ms sz2) (cw : CallB R s args own index y bytes maxL ret ws2 rm2 mc ms n ∧ (Cond.static y).before args s = true)
    (hn : As.length = n) (hst : st = As.reverse ++ rest) (hW : (rest.map fun v => v.category).sum ≤ 8) (hd : decode cc pc = .ok (.invokestatic index, 3)) (hf : cells + mc ≤ R.cells ∧ slots + ms ≤ R.slots)
    (kx : sx_VX lay cl D cI cJ ad A nL p l e R s m args below meth c Q (cells + mc) (slots + ms) XX pc lv rest)
    (kk : ∀ (x : Int) (μ2 : sx_M), QQ x μ2 → sx_V lay cl D cI cJ ad A nL p l e R s m args below meth c Q cells slots μ2 (pc + 3) lv (rest)) :
    sx_V lay cl D cI cJ ad A nL p l e R s m args below meth c Q cells slots μ pc lv st :=
  sx_callV C (fun H locs ls hP hS hl => vx_runS (As := As) (rest := rest) (nL := nL) ⟨C.1, C.2.1, C.2.2.1, C.2.2.2.1, C.2.2.2.2.1⟩ (hM H.size) cw (sx_pre C hZ hP hS As) rfl hn hl.1 hst (lv_room hW) hd hf) kx kk
/-- a method that never throws, as the kit's plain contract -/
theorem sx_plain {y : MethodName} {ws2 : List Cond} {rm2 : Room} {av : List Value} (h : sx_MI l y ws2 rm2 lay cl D cI cJ ad av μ QQ (fun _ _ => False) mc ms sz) : Met l y ws2 rm2 (va_Pc av (sx_Pre lay cl D cI cJ ad μ sz)) (sx_T (sx_QI lay cl D cI cJ ad QQ sz)) mc ms (sx_A lay ad sz) := by
  intro p e ha hc hk s m args below hf happ hP hK
  obtain ⟨n, o, h1, h2, h3, h4⟩ := h p e ha hc hk s m args below hf happ hP hK
  refine ⟨n, o, h1, h2, h3, ?_⟩
  rcases h4 with h4 | ⟨q, rfl, E, ce, L, ⟨u, -, hu, -⟩, -⟩
  · exact h4
  · exact hu.1.elim
/-- invokestatic of a nest mate's own method that never throws -/
theorem sx_nstI (C : sx_C lay cl D cI cJ ad A nL own cc Ts p s m args c) (hZ : sx_Z A s s.heap) {y : MethodName} {host : String} {ws2 : List Cond} {rm2 : Room} {index maxL n : Nat} {bytes : ByteArray} {ret : Option FieldType} {rest : List Value} (As : List Value)
    (hM : ∀ sz2, sx_MI l y ws2 rm2 lay cl D cI cJ ad As μ QQ (fun _ _ => False) mc ms sz2) (cw : va_CN R s args own index y host bytes maxL ret ws2 rm2 mc ms n ∧ (Cond.static y).before args s = true ∧ True)
    (hn : As.length = n) (hst : st = As.reverse ++ rest) (hW : (rest.map fun v => v.category).sum ≤ 8) (hd : decode cc pc = .ok (.invokestatic index, 3)) (hf : cells + mc ≤ R.cells ∧ slots + ms ≤ R.slots)
    (kk : ∀ (x : Int) (μ2 : sx_M), QQ x μ2 → sx_V lay cl D cI cJ ad A nL p l e R s m args below meth c Q cells slots μ2 (pc + 3) lv (.int (sx_i x) :: rest)) :
    sx_V lay cl D cI cJ ad A nL p l e R s m args below meth c Q cells slots μ pc lv st := by
  intro H locs ls hP hS hl T hT X
  have hfr := sx_sb C hS
  obtain ⟨v, st₀, t, T', L, h0, X', hL, e1, e2, ⟨⟨⟨r, u, hv, ⟨x, hxe, hq⟩, hB⟩, hF⟩, hsm⟩, go⟩ := va_runSN (As := As) (rest := rest) (nL := nL) ⟨C.1, C.2.1, C.2.2.1, C.2.2.2.1, C.2.2.2.2.1⟩ (sx_plain (hM H.size)) cw (sx_pre C hZ hP hS As) rfl hn hl.1 hst (lv_room hW) hd hf T hT X
  cases hv
  cases hxe
  obtain ⟨k1, k2, k3⟩ := vx_keep h0 e1 hS (fun q _ h => hfr q h) hfr hL hF
  have X2 := sx_tight X X' (by rw [hT, e1, ← h0]; exact hsm)
  obtain ⟨t2, a1, b1⟩ := kk x u hq T'.heap (locs ++ L) ls (by rw [e1]; exact hB) k3 hl T' rfl X2
  exact ⟨t2, go t2 a1, b1⟩
/-- the words of a call out of the one list -/
theorem sx_good {w : Cond} {y : MethodName} {b : ByteArray} {n : Nat} {r : Option FieldType} (hc : Cond.code y b n r ∈ sr_ts) : GoodIn sr_ts (Cond.code y b n r :: sr_ts) := fun w h => (List.mem_cons.mp h).elim (fun q => by rw [q]; exact sr_goodIn _ hc) (sr_goodIn w)
theorem sx_cwV {index maxL n : Nat} {y : MethodName} {C0 : String} {bytes : ByteArray} {ret : Option FieldType} {rm2 : Room} (ht : ∀ w ∈ sr_ts, w.before args s = true) (hc : Cond.code y bytes maxL ret ∈ sr_ts) (h1 : Cond.methodLink own index y ∈ sr_ts) (h2 : Cond.instanceMethod y ∈ sr_ts) (h3 : Cond.selects C0 y y ∈ sr_ts) (h4 : Cond.initialized C0 ∈ sr_ts) (hrc : rm2.cells = mc) (hrs : rm2.slots = ms)
    (hd : y.cls = C0 ∧ y.cls ≠ "java/lang/invoke/MethodHandle" ∧ y.cls ≠ "java/lang/invoke/VarHandle" ∧ (parseMethodDescriptor y.desc).map (fun d => d.parameters.length) = some n) (hR : rm2.frames + 1 ≤ R.frames ∧ 8 + (maxL + 11) + rm2.locals ≤ R.locals) :
    CallW R s args own C0 index y bytes maxL ret (Cond.code y bytes maxL ret :: sr_ts) rm2 mc ms n :=
  cwV n ht (fun w h => by
    rcases List.mem_append.mp h with h | h
    · simp only [List.mem_cons, List.not_mem_nil, or_false] at h
      rcases h with rfl | rfl | rfl | rfl
      · exact sr_goodIn _ h1
      · exact sr_goodIn _ h2
      · exact sr_goodIn _ h3
      · exact sr_goodIn _ h4
    · exact sx_good (w := w) hc w h) rfl hrc hrs hd hR
theorem sx_cwS {index maxL n : Nat} {y : MethodName} {bytes : ByteArray} {ret : Option FieldType} {rm2 : Room} (ht : ∀ w ∈ sr_ts, w.before args s = true) (hc : Cond.code y bytes maxL ret ∈ sr_ts) (h1 : Cond.methodLink own index y ∈ sr_ts) (h2 : Cond.static y ∈ sr_ts) (h4 : Cond.initialized y.cls ∈ sr_ts) (hrc : rm2.cells = mc) (hrs : rm2.slots = ms)
    (hd : y.cls ≠ "java/lang/invoke/MethodHandle" ∧ y.cls ≠ "java/lang/invoke/VarHandle" ∧ (parseMethodDescriptor y.desc).map (fun d => d.parameters.length) = some n) (hR : rm2.frames + 1 ≤ R.frames ∧ 8 + (maxL + 11) + rm2.locals ≤ R.locals) :
    CallB R s args own index y bytes maxL ret (Cond.code y bytes maxL ret :: sr_ts) rm2 mc ms n ∧ (Cond.static y).before args s = true :=
  va_cwS n ht (fun w h => by
    rcases List.mem_append.mp h with h | h
    · simp only [List.mem_cons, List.not_mem_nil, or_false] at h
      rcases h with rfl | rfl | rfl
      · exact sr_goodIn _ h1
      · exact sr_goodIn _ h2
      · exact sr_goodIn _ h4
    · exact sx_good (w := w) hc w h) rfl hrc hrs hd hR
theorem sx_cwN {index maxL n : Nat} {y : MethodName} {host : String} {bytes : ByteArray} {ret : Option FieldType} {rm2 : Room} (ht : ∀ w ∈ sr_ts, w.before args s = true) (hZ : sx_Z A s s.heap) (hc : Cond.code y bytes maxL ret ∈ sr_ts) (h1 : Cond.methodLinkNest own index y host ∈ sr_bad) (h2 : Cond.static y ∈ sr_ts) (h4 : Cond.initialized y.cls ∈ sr_ts) (hrc : rm2.cells = mc) (hrs : rm2.slots = ms)
    (hd : y.cls ≠ "java/lang/invoke/MethodHandle" ∧ y.cls ≠ "java/lang/invoke/VarHandle" ∧ (parseMethodDescriptor y.desc).map (fun d => d.parameters.length) = some n) (hR : rm2.frames + 1 ≤ R.frames ∧ 8 + (maxL + 11) + rm2.locals ≤ R.locals) :
    va_CN R s args own index y host bytes maxL ret (Cond.code y bytes maxL ret :: sr_ts) rm2 mc ms n ∧ (Cond.static y).before args s = true ∧ True :=
  ⟨va_cnB n ht (fun w h => sx_good (w := w) hc w h) rfl hrc hrs (hZ.2.2.2.1 _ h1) (ht _ h4) hd hR, ht _ h2, trivial⟩
/-- Math.max, min, abs -/
theorem sx_max (C : sx_C lay cl D cI cJ ad A nL own cc Ts p s m args c) {index : Nat} {x y : Int} {B0 : Prop} (h1 : Cond.methodLink own index Lib.Math.max.name ∈ Ts) (h2 : Cond.static Lib.Math.max.name ∈ Ts) (h3 : Cond.initialized "java/lang/Math" ∈ Ts) (h4 : Cond.code Lib.Math.max.name Lib.Math.max.code 2 (some .int) ∈ Ts) (hRf : 1 ≤ R.frames) (hRl : (st.map fun v => v.category).sum + 13 ≤ R.locals) (hc : cells ≤ R.cells) (hs : slots ≤ R.slots) (hd : decode cc pc = .ok (.invokestatic index, 3)) (h : (sx_R x ∧ sx_R y) ∧ B0)
    (k : B0 → sx_V lay cl D cI cJ ad A nL p l e R s m args below meth c Q cells slots μ (pc + 3) lv (.int (sx_i (if x < y then y else x)) :: st)) : sx_V lay cl D cI cJ ad A nL p l e R s m args below meth c Q cells slots μ pc lv (.int (sx_i y) :: .int (sx_i x) :: st) := by
  intro H locs ls hP hS hl
  refine va_mmax C.1 C.2.1 (C.2.2.1.trans hl.1.symm) C.2.2.2.1 (C.2.2.2.2.1 _ h1) (C.2.2.2.2.1 _ h2) (C.2.2.2.2.1 _ h3) (C.2.2.2.2.1 _ h4) hRf hRl hc hs hd ?_
  have hq : (if sx_i x < sx_i y then sx_i y else sx_i x) = sx_i (if x < y then y else x) := by
    have := sx_lt h.1.1 h.1.2
    by_cases z : x < y
    · rw [if_pos z, if_pos (this.mpr z)]
    · rw [if_neg z, if_neg (fun w => z (this.mp w))]
  rw [hq]
  exact k h.2 H locs ls hP hS hl
theorem sx_min (C : sx_C lay cl D cI cJ ad A nL own cc Ts p s m args c) {index : Nat} {x y : Int} {B0 : Prop} (h1 : Cond.methodLink own index Lib.Math.min.name ∈ Ts) (h2 : Cond.static Lib.Math.min.name ∈ Ts) (h3 : Cond.initialized "java/lang/Math" ∈ Ts) (h4 : Cond.code Lib.Math.min.name Lib.Math.min.code 2 (some .int) ∈ Ts) (hRf : 1 ≤ R.frames) (hRl : (st.map fun v => v.category).sum + 13 ≤ R.locals) (hc : cells ≤ R.cells) (hs : slots ≤ R.slots) (hd : decode cc pc = .ok (.invokestatic index, 3)) (h : (sx_R x ∧ sx_R y) ∧ B0)
    (k : B0 → sx_V lay cl D cI cJ ad A nL p l e R s m args below meth c Q cells slots μ (pc + 3) lv (.int (sx_i (if y < x then y else x)) :: st)) : sx_V lay cl D cI cJ ad A nL p l e R s m args below meth c Q cells slots μ pc lv (.int (sx_i y) :: .int (sx_i x) :: st) := by
  intro H locs ls hP hS hl
  refine va_mmin C.1 C.2.1 (C.2.2.1.trans hl.1.symm) C.2.2.2.1 (C.2.2.2.2.1 _ h1) (C.2.2.2.2.1 _ h2) (C.2.2.2.2.1 _ h3) (C.2.2.2.2.1 _ h4) hRf hRl hc hs hd ?_
  have hq : (if sx_i y < sx_i x then sx_i y else sx_i x) = sx_i (if y < x then y else x) := by
    have := sx_lt h.1.2 h.1.1
    by_cases z : y < x
    · rw [if_pos z, if_pos (this.mpr z)]
    · rw [if_neg z, if_neg (fun w => z (this.mp w))]
  rw [hq]
  exact k h.2 H locs ls hP hS hl
theorem sx_abs (C : sx_C lay cl D cI cJ ad A nL own cc Ts p s m args c) {index : Nat} {x : Int} {B0 : Prop} (h1 : Cond.methodLink own index Lib.Math.abs.name ∈ Ts) (h2 : Cond.static Lib.Math.abs.name ∈ Ts) (h3 : Cond.initialized "java/lang/Math" ∈ Ts) (h4 : Cond.code Lib.Math.abs.name Lib.Math.abs.code 1 (some .int) ∈ Ts) (hRf : 1 ≤ R.frames) (hRl : (st.map fun v => v.category).sum + 13 ≤ R.locals) (hc : cells ≤ R.cells) (hs : slots ≤ R.slots) (hd : decode cc pc = .ok (.invokestatic index, 3)) (h : sx_R x ∧ B0)
    (k : B0 → sx_V lay cl D cI cJ ad A nL p l e R s m args below meth c Q cells slots μ (pc + 3) lv (.int (sx_i (if 0 ≤ x then x else -x)) :: st)) : sx_V lay cl D cI cJ ad A nL p l e R s m args below meth c Q cells slots μ pc lv (.int (sx_i x) :: st) := by
  intro H locs ls hP hS hl
  refine va_mabs C.1 C.2.1 (C.2.2.1.trans hl.1.symm) C.2.2.2.1 (C.2.2.2.2.1 _ h1) (C.2.2.2.2.1 _ h2) (C.2.2.2.2.1 _ h3) (C.2.2.2.2.1 _ h4) hRf hRl hc hs hd ?_
  have hq : (if 0 ≤ sx_i x then sx_i x else 0 - sx_i x) = sx_i (if 0 ≤ x then x else -x) := by
    rw [← sx_0]
    have := sx_le (a := 0) (b := x) ⟨by omega, by omega⟩ h.1
    by_cases z : 0 ≤ x
    · rw [if_pos z, if_pos (this.mpr z)]
    · rw [if_neg z, if_neg (fun w => z (this.mp w)), sx_sub]
      congr 1
      omega
  rw [hq]
  exact k h.2 H locs ls hP hS hl
end SXK
