/-! Methods with a table (the law's wrappers): their bodies, catching; the law's own rows: its script, its calls of the wrappers, its end. -/
section SXH
variable {lay : List sx_L} {cl : List vw_C} {D : va_G} {cI cJ : ClassId} {ad : Nat → Nat} {A : Nat → Prop} {nL : Nat} {own : String} {cc : ByteArray} {Ts : List Cond} {p : Program} {l : Launch} {e : Env} {R : Room} {s : State} {m : MethodId} {args : Array Value} {below : List Frame} {meth : Method} {c : Code} {Q : State → Prop} {cells slots : Nat} {μ : sx_M} {pc : Nat} {lv : List (Nat × Value)} {st : List Value}
variable {QQ : Int → sx_M → Prop} {mc ms sz : Nat} {Qc : Array Value → State → Outcome → State → Prop}
theorem sx_bodyH {y : MethodName} {ws ws' : List Cond} {rm : Room} {av : List Value} {maxL : Nat} {ret : Option FieldType} {hh : List (Nat × Nat × Nat × Nat)} (hy : plainName y.cls = true) (hw : ws = Cond.codeWith y cc maxL ret hh :: ws') (hav : (lg_sl av).length ≤ maxL)
    (body : ∀ (p : Program) (e : Env) (s : State) (m : MethodId) (below : List Frame) (meth : Method) (c : Code), sx_C lay cl D cI cJ ad (sx_A lay ad sz) maxL y.cls cc ws' p s m av.toArray c → sx_Z (sx_A lay ad sz) s s.heap → meth.sig.returnType = ret → meth.locks = false → c.exceptionTable.toList = tableOf hh →
      sx_V lay cl D cI cJ ad (sx_A lay ad sz) maxL p l e rm s m av.toArray below meth c (MQ below Qc av.toArray s mc ms (sx_A lay ad sz)) 0 0 μ 0 (lv_args 0 av) []) :
    Met l y ws rm (va_Pc av (sx_Pre lay cl D cI cJ ad μ sz)) Qc mc ms (sx_A lay ad sz) := by
  refine va_MetW hy hw ?_
  intro p e s m args below meth c s₁ B hml hv
  obtain ⟨rfl, hsz, hP, hK, hJ, hZ⟩ := hv
  have hts := atoms_spec (ws := ws) B.pre
  have htb := vx_table (x := y) B (hts _ (by rw [hw]; exact List.mem_cons_self))
  have hown : s.vm.findClass y.cls = some m.cls := findClass_of_methodNamed B.named
  have key := body p e s m below meth c ⟨B.exec, B.bytes, hml, hown, fun w h => hts w (by rw [hw]; exact List.mem_cons_of_mem _ h), hK, fun q h => Or.inr (by rw [← hsz]; exact h), hJ, fun i hi => Or.inl ⟨i, hi, rfl⟩⟩ hZ B.returns B.notSynchronized htb
  rw [lg_entry_eq]
  exact key s.heap [] _ hP va_S.rf (lv_entry av hav)
/-- E is caught by the row x -/
theorem sx_catch (C : sx_C lay cl D cI cJ ad A nL own cc Ts p s m args c) (hZ : sx_Z A s s.heap) {E : String} (pre : List ExceptionTableEntry) (x : ExceptionTableEntry) (suf : List ExceptionTableEntry) (htb : c.exceptionTable.toList = pre ++ x :: suf)
    (hpass : ∀ z ∈ pre, z.catchType ≠ 0 ∧ ∃ nm : String, Cond.classLink own z.catchType nm ∈ Ts ∧ (E, nm) ∈ sr_ncs) (hx : covers x pc = true) (h0 : x.catchType ≠ 0) (hlink : Cond.classLink own x.catchType E ∈ Ts) (hcast : Cond.castable E E ∈ sr_bad)
    (k : ∀ q : Nat, sx_V lay cl D cI cJ ad A nL p l e R s m args below meth c Q cells slots μ x.handlerPc lv [.ref q])
    {H : Heap} {locs : List Loc} {ls : Array Slot} {ce : Cell} {q : Addr} (hP : va_P D cl (sx_W lay cI cJ ad μ) H) (hS : va_S A s.heap H locs) (hl : lv_has ls nL lv) (h1 : H[q]? = some ce) (h2 : ce.vm = .none) (h3 : s.vm.findClass E = some ce.cls) :
    vx_W p l e R s m args below meth c H locs cells slots Q (F0 m pc ls st) q :=
  vx_catch C.2.2.2.1 pre x suf htb (fun z hz => Or.inr ⟨(hpass z hz).1, (hpass z hz).2.choose, C.2.2.2.2.1 _ (hpass z hz).2.choose_spec.1, hZ.2.2.2.2 _ (hpass z hz).2.choose_spec.2⟩) hx h0 (C.2.2.2.2.1 _ hlink) (va_Nw.use (sr_bad_tab _ hcast) (hZ.2.2.2.1 _ hcast)) h1 h2 h3 (k q H locs ls hP hS hl)
/-- a handler that answers a number -/
theorem sx_hand (C : sx_C lay cl D cI cJ ad (sx_A lay ad sz) nL own cc Ts p s m args c) {i q : Nat} {n : Int} (hr : meth.sig.returnType = some .int) (hlk : meth.locks = false) (hc : cells ≤ mc) (hs : slots ≤ ms) (hi : i < nL) (d0 : decode cc pc = .ok (.astore i, 2)) (d2 : decode cc (pc + 2) = .ok (.iconst n, 1)) (d3 : decode cc (pc + 2 + 1) = .ok (.ireturn, 1)) (h : QQ n μ) :
    sx_V lay cl D cI cJ ad (sx_A lay ad sz) nL p l e R s m args below meth c (MQ below (sx_QI lay cl D cI cJ ad QQ sz) args s mc ms (sx_A lay ad sz)) cells slots μ pc lv [.ref q] := by
  refine sx_astore C d0 hi rfl ?_
  refine sx_iconst C d2 rfl ?_
  exact sx_iretL C hr hlk hc hs d3 h
theorem sx_handN (C : sx_C lay cl D cI cJ ad (sx_A lay ad sz) nL own cc Ts p s m args c) {i : Fin 4} {q : Nat} {n : Int} (hr : meth.sig.returnType = some .int) (hlk : meth.locks = false) (hc : cells ≤ mc) (hs : slots ≤ ms) (hi : (i : Nat) < nL) (d0 : decode cc pc = .ok (.astore_n i, 1)) (d2 : decode cc (pc + 1) = .ok (.iconst n, 1)) (d3 : decode cc (pc + 1 + 1) = .ok (.ireturn, 1)) (h : QQ n μ) :
    sx_V lay cl D cI cJ ad (sx_A lay ad sz) nL p l e R s m args below meth c (MQ below (sx_QI lay cl D cI cJ ad QQ sz) args s mc ms (sx_A lay ad sz)) cells slots μ pc lv [.ref q] := by
  refine sx_astore_n C d0 rfl hi rfl ?_
  refine sx_iconst C d2 rfl ?_
  exact sx_iretL C hr hlk hc hs d3 h
/-- the law calls a wrapper -/
theorem sx_cwL {index maxL n : Nat} {y : MethodName} {bytes : ByteArray} {ret : Option FieldType} {hh : List (Nat × Nat × Nat × Nat)} {rm2 : Room} (ht : ∀ w ∈ sr_ts, w.before args s = true) (hc : Cond.codeWith y bytes maxL ret hh ∈ sr_ts) (h1 : Cond.methodLink own index y ∈ sr_ts) (h2 : Cond.static y ∈ sr_ts) (h4 : Cond.initialized y.cls ∈ sr_ts) (hrc : rm2.cells = mc) (hrs : rm2.slots = ms)
    (hd : y.cls ≠ "java/lang/invoke/MethodHandle" ∧ y.cls ≠ "java/lang/invoke/VarHandle" ∧ (parseMethodDescriptor y.desc).map (fun d => d.parameters.length) = some n) (hR : rm2.frames + 1 ≤ R.frames ∧ 8 + (maxL + 11) + rm2.locals ≤ R.locals) :
    vx_CSW R s args own index y bytes maxL ret hh (Cond.codeWith y bytes maxL ret hh :: sr_ts) rm2 mc ms n :=
  vx_cwSW n ht (fun w h => by
    rcases List.mem_append.mp h with h | h
    · simp only [List.mem_cons, List.not_mem_nil, or_false] at h
      rcases h with rfl | rfl | rfl
      · exact sr_goodIn _ h1
      · exact sr_goodIn _ h2
      · exact sr_goodIn _ h4
    · rcases List.mem_cons.mp h with h | h
      · rw [h]; exact sr_goodIn _ hc
      · exact sr_goodIn _ h) rfl hrc hrs hd hR
theorem sx_stcL (C : sx_C lay cl D cI cJ ad A nL own cc Ts p s m args c) (hZ : sx_Z A s s.heap) {y : MethodName} {ws2 : List Cond} {rm2 : Room} {index maxL n : Nat} {bytes : ByteArray} {ret : Option FieldType} {hh : List (Nat × Nat × Nat × Nat)} {rest : List Value} (As : List Value)
    (hM : ∀ sz2, sx_ML l y ws2 rm2 lay cl D cI cJ ad As μ QQ mc ms sz2) (cw : vx_CSW R s args own index y bytes maxL ret hh ws2 rm2 mc ms n)
    (hn : As.length = n) (hst : st = As.reverse ++ rest) (hW : (rest.map fun v => v.category).sum ≤ 8) (hd : decode cc pc = .ok (.invokestatic index, 3)) (hf : cells + mc ≤ R.cells ∧ slots + ms ≤ R.slots)
    (kk : ∀ (x : Int) (μ2 : sx_M), QQ x μ2 → sx_V lay cl D cI cJ ad A nL p l e R s m args below meth c Q (cells + mc) (slots + ms) μ2 (pc + 3) lv (.int (sx_i x) :: rest)) :
    sx_V lay cl D cI cJ ad A nL p l e R s m args below meth c Q cells slots μ pc lv st := by
  intro H locs ls hP hS hl
  have hfr := sx_sb C hS
  exact va_calli (vx_runSW (As := As) (rest := rest) (nL := nL) ⟨C.1, C.2.1, C.2.2.1, C.2.2.2.1, C.2.2.2.2.1⟩ (hM H.size) cw (sx_pre C hZ hP hS As) rfl hn hl.1 hst (lv_room hW) hd hf) hS (fun q _ h => hfr q h) hfr
    (fun r u t H1 locs1 ht _ hq hB _ _ hS1 => by
      obtain ⟨x, rfl, hx⟩ := hq
      exact kk x u hx H1 locs1 ls (by rw [← ht]; exact hB) hS1 hl)
/-- the law's script -/
def sx_sc (xs : Nat → Int32) (j : Int) : Int := (xs j.toNat).toInt
theorem sx_sld (C : sx_C lay cl D cI cJ ad A nL own cc Ts p s m args c) {b L : Nat} {xs : Nat → Int32} (hX : va_X b L xs s s.heap) (hbl : b < s.heap.size) (hbA : ¬ A b) (hL : L < 2147483648) {j : Int} {B0 : Prop} (hd : decode cc pc = .ok (.iaload, 1)) (h : (0 ≤ j ∧ j < (L : Int)) ∧ B0)
    (k : B0 → sx_V lay cl D cI cJ ad A nL p l e R s m args below meth c Q cells slots μ (pc + 1) lv (.int (sx_i (sx_sc xs j)) :: st)) : sx_V lay cl D cI cJ ad A nL p l e R s m args below meth c Q cells slots μ pc lv (.int (sx_i j) :: .ref b :: st) := by
  intro H locs ls hP hS hl
  obtain ⟨q1, q2, q3⟩ := sx_in hL h.1
  refine va_sld C.1 C.2.1 hX hbl hbA hS q1 hd ?_
  rw [q2, ← sx_of (xs j.toNat)]
  exact k h.2 H locs ls hP hS hl
theorem sx_slen (C : sx_C lay cl D cI cJ ad A nL own cc Ts p s m args c) {b L : Nat} {xs : Nat → Int32} (hX : va_X b L xs s s.heap) (hbl : b < s.heap.size) (hbA : ¬ A b) (hd : decode cc pc = .ok (.arraylength, 1))
    (k : sx_V lay cl D cI cJ ad A nL p l e R s m args below meth c Q cells slots μ (pc + 1) lv (.int (sx_i (L : Int)) :: st)) : sx_V lay cl D cI cJ ad A nL p l e R s m args below meth c Q cells slots μ pc lv (.ref b :: st) := by
  intro H locs ls hP hS hl
  refine va_slen C.1 C.2.1 hX hbl hbA hS hd ?_
  rw [← Int32.ofInt_eq_ofNat]
  exact k H locs ls hP hS hl
end SXH
