section
-- ===== PART A: goes FIRST, ahead of the names: the tables' words, and 'selects' of the private methods out of them =====
/-- a private method of a class that the tables say can be made, by its rows of tables_1 -/
def lw_okq (q : MethodName × Nat) : Prop := (q.1.cls ≠ "java/lang/invoke/MethodHandle" ∧ q.1.cls ≠ "java/lang/invoke/VarHandle") ∧ Cond.instantiable q.1.cls q.2 ∈ tables_1 ∧ Cond.privateMethod q.1 ∈ tables_1 ∧ Cond.instanceMethod q.1 ∈ tables_1
theorem lw_p0 : lw_okq (⟨"java/lang/Throwable", "fillInStackTrace", "(I)Ljava/lang/Throwable;"⟩, 6) := ⟨⟨by decide +kernel, by decide +kernel⟩, List.mem_of_getElem? (i := 237) (by decide +kernel), List.mem_of_getElem? (i := 235) (by decide +kernel), List.mem_of_getElem? (i := 236) (by decide +kernel)⟩
theorem lw_p1 : lw_okq (⟨"StoneRings", "follow", "(ILStoneRings$Trace;)V"⟩, 10) := ⟨⟨by decide +kernel, by decide +kernel⟩, List.mem_of_getElem? (i := 16) (by decide +kernel), List.mem_of_getElem? (i := 352) (by decide +kernel), List.mem_of_getElem? (i := 353) (by decide +kernel)⟩
theorem lw_p2 : lw_okq (⟨"StoneRingsModel", "isThere", "(II)Z"⟩, 21) := ⟨⟨by decide +kernel, by decide +kernel⟩, List.mem_of_getElem? (i := 587) (by decide +kernel), List.mem_of_getElem? (i := 665) (by decide +kernel), List.mem_of_getElem? (i := 666) (by decide +kernel)⟩
theorem lw_p3 : lw_okq (⟨"StoneRingsModel", "middleOf", "(I)I"⟩, 21) := ⟨⟨by decide +kernel, by decide +kernel⟩, List.mem_of_getElem? (i := 587) (by decide +kernel), List.mem_of_getElem? (i := 676) (by decide +kernel), List.mem_of_getElem? (i := 677) (by decide +kernel)⟩
theorem lw_p4 : lw_okq (⟨"StoneRingsModel", "sumOf", "(I)I"⟩, 21) := ⟨⟨by decide +kernel, by decide +kernel⟩, List.mem_of_getElem? (i := 587) (by decide +kernel), List.mem_of_getElem? (i := 680) (by decide +kernel), List.mem_of_getElem? (i := 681) (by decide +kernel)⟩
theorem lw_p5 : lw_okq (⟨"StoneRingsModel", "noRay", "(I)Z"⟩, 21) := ⟨⟨by decide +kernel, by decide +kernel⟩, List.mem_of_getElem? (i := 587) (by decide +kernel), List.mem_of_getElem? (i := 692) (by decide +kernel), List.mem_of_getElem? (i := 693) (by decide +kernel)⟩
theorem lw_p6 : lw_okq (⟨"StoneRingsModel", "lay", "(I)V"⟩, 21) := ⟨⟨by decide +kernel, by decide +kernel⟩, List.mem_of_getElem? (i := 587) (by decide +kernel), List.mem_of_getElem? (i := 696) (by decide +kernel), List.mem_of_getElem? (i := 697) (by decide +kernel)⟩
theorem lw_p7 : lw_okq (⟨"StoneRingsModel", "widthOf", "(I)I"⟩, 21) := ⟨⟨by decide +kernel, by decide +kernel⟩, List.mem_of_getElem? (i := 587) (by decide +kernel), List.mem_of_getElem? (i := 724) (by decide +kernel), List.mem_of_getElem? (i := 725) (by decide +kernel)⟩
theorem lw_p8 : lw_okq (⟨"StoneRingsModel", "together", "(II)I"⟩, 21) := ⟨⟨by decide +kernel, by decide +kernel⟩, List.mem_of_getElem? (i := 587) (by decide +kernel), List.mem_of_getElem? (i := 733) (by decide +kernel), List.mem_of_getElem? (i := 734) (by decide +kernel)⟩
theorem lw_p9 : lw_okq (⟨"StoneRingsModel", "noTwo", "(III)Z"⟩, 21) := ⟨⟨by decide +kernel, by decide +kernel⟩, List.mem_of_getElem? (i := 587) (by decide +kernel), List.mem_of_getElem? (i := 765) (by decide +kernel), List.mem_of_getElem? (i := 766) (by decide +kernel)⟩
theorem lw_p10 : lw_okq (⟨"StoneRingsModel", "both", "(III)Z"⟩, 21) := ⟨⟨by decide +kernel, by decide +kernel⟩, List.mem_of_getElem? (i := 587) (by decide +kernel), List.mem_of_getElem? (i := 769) (by decide +kernel), List.mem_of_getElem? (i := 770) (by decide +kernel)⟩
theorem lw_p11 : lw_okq (⟨"StoneRingsModel", "toldOf", "(I)I"⟩, 21) := ⟨⟨by decide +kernel, by decide +kernel⟩, List.mem_of_getElem? (i := 587) (by decide +kernel), List.mem_of_getElem? (i := 784) (by decide +kernel), List.mem_of_getElem? (i := 785) (by decide +kernel)⟩
theorem lw_p12 : lw_okq (⟨"StoneRingsModel", "rightOf", "(I)I"⟩, 21) := ⟨⟨by decide +kernel, by decide +kernel⟩, List.mem_of_getElem? (i := 587) (by decide +kernel), List.mem_of_getElem? (i := 792) (by decide +kernel), List.mem_of_getElem? (i := 793) (by decide +kernel)⟩
def lw_privs_1 : List (MethodName × Nat) := [(⟨"java/lang/Throwable", "fillInStackTrace", "(I)Ljava/lang/Throwable;"⟩, 6), (⟨"StoneRings", "follow", "(ILStoneRings$Trace;)V"⟩, 10), (⟨"StoneRingsModel", "isThere", "(II)Z"⟩, 21), (⟨"StoneRingsModel", "middleOf", "(I)I"⟩, 21), (⟨"StoneRingsModel", "sumOf", "(I)I"⟩, 21), (⟨"StoneRingsModel", "noRay", "(I)Z"⟩, 21), (⟨"StoneRingsModel", "lay", "(I)V"⟩, 21), (⟨"StoneRingsModel", "widthOf", "(I)I"⟩, 21), (⟨"StoneRingsModel", "together", "(II)I"⟩, 21), (⟨"StoneRingsModel", "noTwo", "(III)Z"⟩, 21), (⟨"StoneRingsModel", "both", "(III)Z"⟩, 21), (⟨"StoneRingsModel", "toldOf", "(I)I"⟩, 21), (⟨"StoneRingsModel", "rightOf", "(I)I"⟩, 21)]
theorem lw_r1 : ∀ q ∈ lw_privs_1, lw_okq q := List.forall_mem_cons.mpr ⟨lw_p0, List.forall_mem_cons.mpr ⟨lw_p1, List.forall_mem_cons.mpr ⟨lw_p2, List.forall_mem_cons.mpr ⟨lw_p3, List.forall_mem_cons.mpr ⟨lw_p4, List.forall_mem_cons.mpr ⟨lw_p5, List.forall_mem_cons.mpr ⟨lw_p6, List.forall_mem_cons.mpr ⟨lw_p7, List.forall_mem_cons.mpr ⟨lw_p8, List.forall_mem_cons.mpr ⟨lw_p9, List.forall_mem_cons.mpr ⟨lw_p10, List.forall_mem_cons.mpr ⟨lw_p11, List.forall_mem_cons.mpr ⟨lw_p12, fun _ h => absurd h List.not_mem_nil⟩⟩⟩⟩⟩⟩⟩⟩⟩⟩⟩⟩⟩
def lw_privs : List (MethodName × Nat) := lw_privs_1
def lw_tbl : List Cond := k2_sels lw_privs ++ tables_1
theorem lw_privs_ok : ∀ q ∈ lw_privs, lw_okq q := lw_r1
end
section
/-! ===== BEGIN words of one list among another's, by their places ===== -/
theorem goodIn_r {big : List Cond} (ws : List Cond) (ps : List Nat) (hp : ws = ps.filterMap (fun i => big[i]?)) (h : ws.all goodWord = true) : GoodIn big ws := by
  intro w hw
  have h1 := List.all_eq_true.mp h w hw
  rw [hp] at hw
  obtain ⟨i, -, hi⟩ := List.mem_filterMap.mp hw
  have hm : w ∈ big := by first | exact List.mem_of_getElem? hi | exact List.getElem?_mem hi
  exact ⟨hm, good_of_word h1⟩
theorem goodIn_app {big a b : List Cond} (ha : GoodIn big a) (hb : GoodIn big b) : GoodIn big (a ++ b) := fun w h => (List.mem_append.mp h).elim (ha w) (hb w)
theorem goodIn_ca {big a b : List Cond} {c : Cond} (ha : GoodIn big (c :: a)) (hb : GoodIn big b) : GoodIn big (c :: (a ++ b)) := fun w h => (List.mem_cons.mp h).elim (fun e => ha w (List.mem_cons.mpr (Or.inl e))) (fun h => (List.mem_append.mp h).elim (fun h => ha w (List.mem_cons.mpr (Or.inr h))) (hb w))
theorem goodIn_sub {big ws : List Cond} (hm : ∀ w ∈ ws, w ∈ big) (h : ws.all goodWord = true) : GoodIn big ws := fun w hw => ⟨hm w hw, good_of_word (List.all_eq_true.mp h w hw)⟩
/-! ===== END ===== -/

/-! ===== BEGIN exceptions that leave a method, and their catching by the caller (launches without stack traces) ===== -/
section VXA
/-! The laws vx_back, vx_callV, vx_callS, vx_callSW, vx_throw0, vx_throwS follow proofs of the library, with one case more: JvmDerived/Free/Laws.lean (Back.of_free), Shelf42/LK1.lean (callV, callS), Shelf/KitTraced.lean (throwNew0V, throwNewS). -/
/-- where a method has thrown q: the class by its name, the cell, what was written, the world -/
def vx_T (XC : String → State → State → Prop) (st : State) (q : Addr) (t : State) (mc ms : Nat) (free : Addr → Prop) : Prop :=
  ∃ (E : String) (ce : Cell) (L : List Loc), XC E st t ∧ t.heap[q]? = some ce ∧ ce.vm = .none ∧ st.vm.findClass E = some ce.cls ∧ st.WarmedH t.vm ∧ st.sameButNew ({ t with vm := st.vm } : State) L mc ms ∧ ∀ z ∈ L, free z.base
def vx_Q (Qc : Array Value → State → Outcome → State → Prop) (XC : String → State → State → Prop) (mc ms : Nat) (free : Addr → Prop) : Array Value → State → Outcome → State → Prop := fun a st o t =>
  (Qc a st o t ∧ ∃ L, FrameEnd st o t L mc ms ∧ ∀ q ∈ L, free q.base) ∨ ∃ q, o = .threw q ∧ vx_T XC st q t mc ms free
/-- a callee that returns or throws -/
def vx_Met (l : Launch) (y : MethodName) (ws : List Cond) (rm : Room) (Pc : Array Value → State → Prop) (Qc : Array Value → State → Outcome → State → Prop) (XC : String → State → State → Prop) (mc ms : Nat) (free : Addr → Prop) : Prop :=
  MetFree l y (headSpec ws rm) Pc (fun _ _ _ _ _ => True) (vx_Q Qc XC mc ms free)
def vx_Post (XC : String → State → State → Prop) (mc ms : Nat) (free : Addr → Prop) : Pt → Array Value → Addr → Pt → Prop := fun A a q B =>
  ∃ (g : JFrame) (mk : MethodId) (t : State) (L : List Loc) (E : String) (ce : Cell), B.U.heap = t.heap ∧ B.U.vm = t.vm ∧ XC E (A.U.calling g mk a) t ∧ t.heap[q]? = some ce ∧ ce.vm = .none ∧ A.U.vm.findClass E = some ce.cls ∧ B.locs = A.locs ++ L ∧ (∀ z ∈ L, free z.base) ∧ B.cells = A.cells + mc ∧ B.slots = A.slots + ms
def vx_Back (l : Launch) (R : Room) (p : Program) (e : Env) (below : List Frame) (s : State) (sargs : Array Value) (y : MethodName) (len W9 : Nat)
    (Pre : Pt → Array Value → Prop) (Post : Pt → Array Value → Option Value → Pt → Prop) (PostX : Pt → Array Value → Addr → Pt → Prop) : Prop :=
  ∀ (m : MethodId) (meth : Method) (c : Code) (A : Pt) (g : JFrame) (ig : Instr) (mk : MethodId) (a : Array Value),
    Stand p l e R s m sargs below meth c A.U A.locs A.cells A.slots → g.method = m → g.locals.size = c.maxLocals → decode c.code g.pc = .ok (ig, len) →
    2 * g.monitorRoom + (g.stack.map fun v => v.category).sum ≤ W9 → A.U.methodNamed? y = some mk → Pre A a →
    (∃ (v : Option Value) (B : Pt), Stand p l e R s m sargs below meth c B.U B.locs B.cells B.slots ∧ Post A a v B ∧
      Steps p.tables e below (doInvoke e (A.U.setTop g) [] mk a).1 (B.U.setTop { g with pc := g.pc + len, stack := v.toList ++ g.stack })) ∨
    (∃ (q : Addr) (B : Pt), Stand p l e R s m sargs below meth c B.U B.locs B.cells B.slots ∧ PostX A a q B ∧
      Steps p.tables e below (doInvoke e (A.U.setTop g) [] mk a).1 ((B.U.setTop g).pushFrame (.throwing q)))
section Payer
variable {l : Launch} {R : Room} {p : Program} {e : Env} {below : List Frame} {s : State} {sargs : Array Value} {y : MethodName} {len W9 : Nat}
theorem vx_back {ws : List Cond} {rm : Room} {Pc : Array Value → State → Prop} {Qc : Array Value → State → Outcome → State → Prop} {XC : String → State → State → Prop} {mc ms : Nat} {free : Addr → Prop} {bytes : ByteArray} {maxL : Nat} {ret : Option FieldType}
    (hM : vx_Met l y ws rm Pc Qc XC mc ms free) (hblind : FrameBlind Pc) (hrc : rm.cells = mc) (hrs : rm.slots = ms)
    (hframes : rm.frames + 1 ≤ R.frames) (hlocals : W9 + (maxL + 11) + rm.locals ≤ R.locals)
    (hws : ∀ w ∈ ws, ∀ a' U, s.WarmedH U.vm → w.before a' U = true) (hcode : Cond.code y bytes maxL ret ∈ ws) (hinit : ∀ a' U, s.WarmedH U.vm → (Cond.initialized y.cls).before a' U = true) :
    vx_Back l R p e below s sargs y len W9 (PreOf R mc ms Pc) (PostOf Qc mc ms free) (vx_Post XC mc ms free) := by
  intro m meth c A g ig mk a X hg hsize hdg hW hn hp
  have h1 : (headSpec ws rm).pre.before a A.U = true := atoms_intro fun w hw => hws w hw _ _ X.warmed
  have h2 : (Cond.code y bytes maxL ret).before a A.U = true := hws _ hcode _ _ X.warmed
  have h3 : (Cond.initialized y.cls).before a A.U = true := hinit _ _ X.warmed
  have h4 : A.cells + (headSpec ws rm).room.cells ≤ R.cells := by rw [show (headSpec ws rm).room.cells = mc from hrc]; exact hp.1
  have h5 : A.slots + (headSpec ws rm).room.slots ≤ R.slots := by rw [show (headSpec ws rm).room.slots = ms from hrs]; exact hp.2.1
  have hPc : Pc a (A.U.calling g mk a) := hblind _ _ _ _ hp.2.2
  obtain ⟨U, Ls, c0, s0⟩ := A
  dsimp only [Pt.U, Pt.locs, Pt.cells, Pt.slots] at h1 h2 h3 h4 h5 X hn hPc ⊢
  obtain ⟨methY, cY, hmY, hcY, -, hlY, -, -, -, -⟩ := Cond.code_spec hn h2
  obtain ⟨kY, hkY, -⟩ := className_of_methodNamed hn
  have hinitY : kY.init = .initialized := Cond.initialized_spec (findClass_of_methodNamed hn) hkY h3
  have h : At U g.method c below := by rw [hg]; exact X.here
  have hlocals9 : W9 + (maxL + 11) + (headSpec ws rm).room.locals ≤ R.locals := hlocals
  have happ : (headSpec ws rm).appliesLoose y e.platform (U.calling g mk a) = true :=
    Spec.appliesLoose_calling (g := g) h hdg hn hkY hinitY
      (X.room_calling (g := g) (R' := (headSpec ws rm).room) hsize hmY hcY hframes (by rw [hlY]; omega) h4 h5) h1
  obtain ⟨mid, hmid⟩ := h.above
  have hfr : (U.setTop g).frames = (.java g :: mid) ++ below := by rw [State.frames_setTop' g h.top, hmid]; rfl
  obtain ⟨o, s₂, hsteps, -, hend, hq⟩ := Steps.callFree hM p X.admits X.cas X.clock (acts := []) hfr happ hPc trivial
  have hq' : vx_Q Qc XC mc ms free a (U.calling g mk a) o s₂ := hq
  rw [State.frames_setTop' g h.top] at hend
  obtain ⟨g₀, hg0⟩ := Option.isSome_iff_exists.mp h.top
  obtain ⟨r, hr⟩ := State.topJava?_eq_some.mp hg0
  have hr' : (({ U with heap := s₂.heap, slotsUsed := s₂.slotsUsed } : State).setVm s₂.vm).frames = .java g₀ :: r := hr
  rcases hq' with ⟨hqc, L, hfe, hL⟩ | ⟨q, rfl, E, ce, L, hx, hce, hcv, hcl, hW₂, hsm, hL⟩
  · obtain ⟨⟨v, rfl⟩, hW₂, e2, q2, q3, q4, q5, q6⟩ := id hfe
    have e3 : s₂ = ({ (U.calling g mk a).setFrames s₂.frames with heap := s₂.heap, slotsUsed := s₂.slotsUsed } : State).setVm s₂.vm := by
      have : s₂ = ({ s₂ with vm := (U.calling g mk a).vm } : State).setVm s₂.vm := rfl
      rw [e2] at this
      exact this
    obtain ⟨c₂, i₂, len₂, hc₂, hd₂, hf₂⟩ := hend
    have hW' : U.WarmedH s₂.vm := hW₂
    have hcc : c₂ = c := by
      have h1 : s₂.code? g.method = U.code? g.method := by
        rw [State.code?_eq, State.code?_eq, hW'.alike.method?]
      exact Option.some.inj (hc₂.symm.trans (h1.trans h.code))
    subst hcc
    have hlen : len₂ = len := by rw [hdg] at hd₂; cases hd₂; rfl
    subst hlen
    have hs₂ : s₂ = (({ U with heap := s₂.heap, slotsUsed := s₂.slotsUsed } : State).setVm s₂.vm).setTop { g with pc := g.pc + len₂, stack := v.toList ++ g.stack } := by
      refine e3.trans ?_
      rw [hf₂, State.calling_eq h.top, State.setFrames_setFrames, State.setTop_of_frames _ hr', hr]
      rfl
    have hsame : U.sameButNew ({ U with heap := s₂.heap, slotsUsed := s₂.slotsUsed } : State) L mc ms := by
      refine ⟨?_, q2, q3, q4, q5, q6⟩
      obtain ⟨t, ht, -⟩ := State.frames_cons hr
      show ({ U with heap := s₂.heap, slotsUsed := s₂.slotsUsed } : State) = { U.setFrames U.frames with heap := s₂.heap, slotsUsed := s₂.slotsUsed }
      rw [State.setFrames_self ht]
    subst hg
    refine Or.inl ⟨v, ⟨(({ U with heap := s₂.heap, slotsUsed := s₂.slotsUsed } : State).setVm s₂.vm), Ls ++ L, c0 + mc, s0 + ms⟩,
      ⟨X.admits, X.cas, X.clock, X.frames, X.room, X.hears, X.method, X.code, (X.here.setHeapUsed s₂.heap s₂.slotsUsed).setVm hW'.alike, X.tail, State.WarmedH.trans X.warmed hW', X.limits, X.bytes, X.same.trans (hsame.setVm s.vm)⟩,
      ⟨g, mk, s₂, L, rfl, rfl, hqc, rfl, hL, rfl, rfl⟩, ?_⟩
    show Steps p.tables e below _ ((({ U with heap := s₂.heap, slotsUsed := s₂.slotsUsed } : State).setVm s₂.vm).setTop { g with pc := g.pc + len₂, stack := v.toList ++ g.stack })
    rw [← hs₂]
    exact hsteps
  · obtain ⟨e2, q2, q3, q4, q5, q6⟩ := id hsm
    have e3 : s₂ = ({ (U.calling g mk a).setFrames s₂.frames with heap := s₂.heap, slotsUsed := s₂.slotsUsed } : State).setVm s₂.vm := by
      have : s₂ = ({ s₂ with vm := (U.calling g mk a).vm } : State).setVm s₂.vm := rfl
      rw [e2] at this
      exact this
    have hf₂ : s₂.frames = .throwing q :: .java g :: U.frames.tail := hend
    have hW' : U.WarmedH s₂.vm := hW₂
    have hs₂ : s₂ = ((({ U with heap := s₂.heap, slotsUsed := s₂.slotsUsed } : State).setVm s₂.vm).setTop g).pushFrame (.throwing q) := by
      refine e3.trans ?_
      rw [hf₂, State.calling_eq h.top, State.setFrames_setFrames, State.pushFrame, State.frames_setTop _ hr', State.setTop_of_frames _ hr', State.setFrames_setFrames, hr]
      rfl
    have hsame : U.sameButNew ({ U with heap := s₂.heap, slotsUsed := s₂.slotsUsed } : State) L mc ms := by
      refine ⟨?_, q2, q3, q4, q5, q6⟩
      obtain ⟨t, ht, -⟩ := State.frames_cons hr
      show ({ U with heap := s₂.heap, slotsUsed := s₂.slotsUsed } : State) = { U.setFrames U.frames with heap := s₂.heap, slotsUsed := s₂.slotsUsed }
      rw [State.setFrames_self ht]
    subst hg
    refine Or.inr ⟨q, ⟨(({ U with heap := s₂.heap, slotsUsed := s₂.slotsUsed } : State).setVm s₂.vm), Ls ++ L, c0 + mc, s0 + ms⟩,
      ⟨X.admits, X.cas, X.clock, X.frames, X.room, X.hears, X.method, X.code, (X.here.setHeapUsed s₂.heap s₂.slotsUsed).setVm hW'.alike, X.tail, State.WarmedH.trans X.warmed hW', X.limits, X.bytes, X.same.trans (hsame.setVm s.vm)⟩,
      ⟨g, mk, s₂, L, E, ce, rfl, rfl, hx, hce, hcv, hcl, rfl, hL, rfl, rfl⟩, ?_⟩
    show Steps p.tables e below _ (((({ U with heap := s₂.heap, slotsUsed := s₂.slotsUsed } : State).setVm s₂.vm).setTop g).pushFrame (.throwing q))
    rw [← hs₂]
    exact hsteps
end Payer
section Calls
variable {p : Program} {l : Launch} {e : Env} {R : Room} {s : State} {m : MethodId} {args : Array Value} {below : List Frame} {meth : Method} {c : Code} {T : State} {locs : List Loc} {cells slots : Nat}
theorem vx_callV (X : Stand p l e R s m args below meth c T locs cells slots) (hexec : p.tables.exec = Jvm.exec) {own C : String} {index : Nat} {y : MethodName} {bytes : ByteArray} {maxL : Nat} {ret : Option FieldType}
    (hown : s.vm.findClass own = some m.cls) (hlink : (Cond.methodLink own index y).before args s = true) (hinst : (Cond.instanceMethod y).before args s = true) (hsel : (Cond.selects C y y).before args s = true)
    (hcode : (Cond.code y bytes maxL ret).before args s = true) (hy : y.cls ≠ "java/lang/invoke/MethodHandle" ∧ y.cls ≠ "java/lang/invoke/VarHandle")
    {W9 : Nat} {Pre : Pt → Array Value → Prop} {Post : Pt → Array Value → Option Value → Pt → Prop} {PostX : Pt → Array Value → Addr → Pt → Prop} (hK : vx_Back l R p e below s args y 3 W9 Pre Post PostX)
    {b : Addr} {cellB : Cell} (hcell : T.heap[b]? = some cellB) (hobj : cellB.vm.isStatics = false) (hcls : s.vm.findClass C = some cellB.cls)
    {g : JFrame} (hg : g.method = m) (hsize : g.locals.size = c.maxLocals) {argsL rest : List Value} (hlen : ∀ sig, parseMethodDescriptor y.desc = some sig → argsL.length = sig.parameters.length)
    (hstack : g.stack = argsL.reverse ++ .ref b :: rest) (hW : 2 * g.monitorRoom + (rest.map fun v => v.category).sum ≤ W9) (hdg : decode c.code g.pc = .ok (.invokevirtual index, 3))
    (hpre : ∀ vm₁, s.WarmedH vm₁ → Pre ⟨T.setVm vm₁, locs, cells, slots⟩ (Value.ref b :: argsL).toArray) :
    (∃ (v : Option Value) (vm₁ : Vm) (B : Pt), s.WarmedH vm₁ ∧ Stand p l e R s m args below meth c B.U B.locs B.cells B.slots ∧ Post ⟨T.setVm vm₁, locs, cells, slots⟩ (Value.ref b :: argsL).toArray v B ∧
      ∀ target, Steps p.tables e below (B.U.setTop { g with pc := g.pc + 3, stack := v.toList ++ rest }) target → Steps p.tables e below (T.setTop g) target) ∨
    (∃ (q : Addr) (vm₁ : Vm) (B : Pt), s.WarmedH vm₁ ∧ Stand p l e R s m args below meth c B.U B.locs B.cells B.slots ∧ PostX ⟨T.setVm vm₁, locs, cells, slots⟩ (Value.ref b :: argsL).toArray q B ∧
      Steps p.tables e below (T.setTop g) ((B.U.setTop { g with stack := rest }).pushFrame (.throwing q))) := by
  obtain ⟨mk, methM, hnamed, hmethM, hstM, habM⟩ := Cond.instanceMethod_spec hinst
  obtain ⟨methM', cM, hmethM', -, -, -, -, -, -, hsigM⟩ := Cond.code_spec hnamed hcode
  cases hmethM.symm.trans hmethM'
  obtain ⟨c2, r2, m2, q1, q2, q3, q4, kP, hkP, hkPi⟩ := Cond.selects_spec hsel
  cases hcls.symm.trans q1
  cases (State.methodFound?_of_named hnamed hy).symm.trans q2
  cases hnamed.symm.trans q3
  have hselP : selectMethod e.platform s.vm cellB.cls mk = .method mk := by rw [Launch.admits_selectMethod X.admits]; exact q4
  obtain ⟨vm₁, X₁, hstep₁⟩ := X.invokevirtual hexec hown hlink hnamed hmethM hstM hkP hkPi hy (a := b) (cell := cellB) hcell
    (fun z h => by rw [h] at hobj; cases hobj) hselP hmethM habM hkP hkPi (g := g) hg (argsL := argsL) (rest := rest) (hlen _ hsigM) hstack hdg
  rcases hK m meth c ⟨T.setVm vm₁, locs, cells, slots⟩ { g with stack := rest } (.invokevirtual index) mk (Value.ref b :: argsL).toArray X₁ hg hsize hdg hW (X₁.named hnamed) (hpre vm₁ X₁.warmed) with ⟨v, B, X', hpost, hsteps⟩ | ⟨q, B, X', hpost, hsteps⟩
  · exact Or.inl ⟨v, vm₁, B, X₁.warmed, X', hpost, fun target h => hstep₁ _ fun acts => by rw [doInvoke_state]; exact hsteps.trans h⟩
  · exact Or.inr ⟨q, vm₁, B, X₁.warmed, X', hpost, hstep₁ _ fun acts => by rw [doInvoke_state]; exact hsteps⟩
theorem vx_callS (X : Stand p l e R s m args below meth c T locs cells slots) (hexec : p.tables.exec = Jvm.exec) {own : String} {index : Nat} {y : MethodName} {bytes : ByteArray} {maxL : Nat} {ret : Option FieldType}
    (hown : s.vm.findClass own = some m.cls) (hlink : (Cond.methodLink own index y).before args s = true) (hstat : (Cond.static y).before args s = true) (hinit : (Cond.initialized y.cls).before args s = true)
    (hcode : (Cond.code y bytes maxL ret).before args s = true) (hy : y.cls ≠ "java/lang/invoke/MethodHandle" ∧ y.cls ≠ "java/lang/invoke/VarHandle")
    {W9 : Nat} {Pre : Pt → Array Value → Prop} {Post : Pt → Array Value → Option Value → Pt → Prop} {PostX : Pt → Array Value → Addr → Pt → Prop} (hK : vx_Back l R p e below s args y 3 W9 Pre Post PostX)
    {g : JFrame} (hg : g.method = m) (hsize : g.locals.size = c.maxLocals) {argsL rest : List Value} (hlen : ∀ sig, parseMethodDescriptor y.desc = some sig → argsL.length = sig.parameters.length)
    (hstack : g.stack = argsL.reverse ++ rest) (hW : 2 * g.monitorRoom + (rest.map fun v => v.category).sum ≤ W9) (hdg : decode c.code g.pc = .ok (.invokestatic index, 3))
    (hpre : ∀ vm₁, s.WarmedH vm₁ → Pre ⟨T.setVm vm₁, locs, cells, slots⟩ argsL.toArray) :
    (∃ (v : Option Value) (vm₁ : Vm) (B : Pt), s.WarmedH vm₁ ∧ Stand p l e R s m args below meth c B.U B.locs B.cells B.slots ∧ Post ⟨T.setVm vm₁, locs, cells, slots⟩ argsL.toArray v B ∧
      ∀ target, Steps p.tables e below (B.U.setTop { g with pc := g.pc + 3, stack := v.toList ++ rest }) target → Steps p.tables e below (T.setTop g) target) ∨
    (∃ (q : Addr) (vm₁ : Vm) (B : Pt), s.WarmedH vm₁ ∧ Stand p l e R s m args below meth c B.U B.locs B.cells B.slots ∧ PostX ⟨T.setVm vm₁, locs, cells, slots⟩ argsL.toArray q B ∧
      Steps p.tables e below (T.setTop g) ((B.U.setTop { g with stack := rest }).pushFrame (.throwing q))) := by
  obtain ⟨mk, hnamed⟩ := Cond.code_named hcode
  obtain ⟨methM, cM, hmethM, -, -, -, -, -, -, hsigM⟩ := Cond.code_spec hnamed hcode
  have hstatic : methM.isStatic = true := Cond.static_spec hnamed hmethM hstat
  obtain ⟨kP, hkP, -⟩ := className_of_methodNamed hnamed
  have hinitP : kP.init = .initialized := Cond.initialized_spec (findClass_of_methodNamed hnamed) hkP hinit
  obtain ⟨vm₁, X₁, hstep₁⟩ := X.invokestatic hexec hown hlink hnamed hmethM hstatic hkP hinitP hy (g := g) hg (argsL := argsL) (rest := rest) (hlen _ hsigM) hstack hdg
  rcases hK m meth c ⟨T.setVm vm₁, locs, cells, slots⟩ { g with stack := rest } (.invokestatic index) mk argsL.toArray X₁ hg hsize hdg hW (X₁.named hnamed) (hpre vm₁ X₁.warmed) with ⟨v, B, X', hpost, hsteps⟩ | ⟨q, B, X', hpost, hsteps⟩
  · exact Or.inl ⟨v, vm₁, B, X₁.warmed, X', hpost, fun target h => hstep₁ _ fun acts => by rw [doInvoke_state]; exact hsteps.trans h⟩
  · exact Or.inr ⟨q, vm₁, B, X₁.warmed, X', hpost, hstep₁ _ fun acts => by rw [doInvoke_state]; exact hsteps⟩
end Calls
theorem vx_cls {s : State} {T : State} {vm₁ : Vm} {E : String} {k : ClassId} (hW : s.WarmedH vm₁) (h : (T.setVm vm₁).vm.findClass E = some k) : s.vm.findClass E = some k := by
  have h1 : vm₁.findClass E = some k := h
  rw [hW.alike.findClass] at h1
  exact h1
/-- the method's frame g, with q thrown over it -/
def vx_W (p : Program) (l : Launch) (e : Env) (R : Room) (s : State) (m : MethodId) (args : Array Value) (below : List Frame) (meth : Method) (c : Code) (H : Heap) (locs : List Loc) (cells slots : Nat) (Q : State → Prop) (g : JFrame) (q : Addr) : Prop :=
  ∀ T : State, T.heap = H → Stand p l e R s m args below meth c T locs cells slots → ∃ t, Steps p.tables e below ((T.setTop g).pushFrame (.throwing q)) t ∧ Q t
def vx_Run (p : Program) (l : Launch) (e : Env) (R : Room) (s : State) (m : MethodId) (args : Array Value) (below : List Frame) (meth : Method) (c : Code) (H : Heap) (locs : List Loc) (cells slots mc ms : Nat) (g : JFrame) (rest : List Value) (Qa : State → Outcome → State → Prop) (XC : String → State → State → Prop) (free : Addr → Prop) : Prop :=
  ∀ T : State, T.heap = H → Stand p l e R s m args below meth c T locs cells slots →
    (∃ (v : Option Value) (st₀ t T' : State) (L : List Loc), st₀.heap = H ∧ Stand p l e R s m args below meth c T' (locs ++ L) (cells + mc) (slots + ms) ∧ (∀ q ∈ L, free q.base) ∧ T'.heap = t.heap ∧ T'.vm = t.vm ∧ Qa st₀ (.returned v) t ∧
      Goes p e below T g T' { g with pc := g.pc + 3, stack := v.toList ++ rest }) ∨
    (∃ (q : Addr) (st₀ t T' : State) (L : List Loc) (E : String) (ce : Cell), st₀.heap = H ∧ Stand p l e R s m args below meth c T' (locs ++ L) (cells + mc) (slots + ms) ∧ (∀ z ∈ L, free z.base) ∧ T'.heap = t.heap ∧ T'.vm = t.vm ∧ XC E st₀ t ∧ t.heap[q]? = some ce ∧ ce.vm = .none ∧ s.vm.findClass E = some ce.cls ∧
      Steps p.tables e below (T.setTop g) ((T'.setTop { g with stack := rest }).pushFrame (.throwing q)))
def vx_X {S : Type} (px : S → Prop) (B : String → S → State → Prop) (A : Nat → Prop) : String → State → State → Prop := fun E st t => ∃ u : S, px u ∧ B E u t ∧ va_F A st t
section Runs
variable {p : Program} {l : Launch} {e : Env} {R : Room} {s : State} {m : MethodId} {args : Array Value} {below : List Frame} {meth : Method} {c : Code} {H : Heap} {locs : List Loc} {cells slots : Nat}
variable {y : MethodName} {bytes cc : ByteArray} {maxL nL mc ms n index : Nat} {ret : Option FieldType} {ws : List Cond} {rm : Room} {Pc : Array Value → State → Prop} {Qc : Array Value → State → Outcome → State → Prop} {XC : String → State → State → Prop} {free : Addr → Prop} {Ts : List Cond} {own C : String} {b : Addr} {As rest : List Value} {g : JFrame}
theorem vx_callBack (cb : CallB R s args own index y bytes maxL ret ws rm mc ms n) (hM : vx_Met l y ws rm Pc Qc XC mc ms free) (hbl : FrameBlind Pc) : vx_Back l R p e below s args y 3 8 (PreOf R mc ms Pc) (PostOf Qc mc ms free) (vx_Post XC mc ms free) := by
  obtain ⟨hrc, hrs, hfr, hlo, hws, hcw, -, hini, -⟩ := cb
  exact vx_back (bytes := bytes) (maxL := maxL) (ret := ret) hM hbl hrc hrs hfr hlo hws hcw (fun a' U hW => word_at hW (Or.inl (by first | rfl | simp [Cond.onTables, Cond.keeps, Cond.steady])) hini)
theorem vx_runV (S : CallFix p m c cc nL s args Ts own) (hM : vx_Met l y ws rm Pc Qc XC mc ms free) (cw : CallW R s args own C index y bytes maxL ret ws rm mc ms n) (hp : PreV s H C b Pc As)
    (hg : g.method = m) (hn : As.length = n) (hsize : g.locals.size = nL) (hstack : g.stack = As.reverse ++ .ref b :: rest) (hW : 2 * g.monitorRoom + (rest.map fun v => v.category).sum ≤ 8) (hdg : decode cc g.pc = .ok (.invokevirtual index, 3)) (hf : cells + mc ≤ R.cells ∧ slots + ms ≤ R.slots) :
    vx_Run p l e R s m args below meth c H locs cells slots mc ms g rest (Qc (Value.ref b :: As).toArray) XC free := by
  have hK : vx_Back l R p e below s args y 3 8 (PreOf R mc ms Pc) (PostOf Qc mc ms free) (vx_Post XC mc ms free) := vx_callBack cw.1 hM hp.1
  obtain ⟨⟨-, -, -, -, -, -, hcode, -, hy, hlen, hl⟩, hin, hse⟩ := cw
  obtain ⟨hx, hb, hml, ho, -⟩ := S
  obtain ⟨-, ⟨cellB, hcB, hoB, hclB⟩, hPc⟩ := hp
  intro T hT X
  rcases vx_callV X hx (C := C) (bytes := bytes) (maxL := maxL) (ret := ret) ho hl hin hse hcode hy hK (by rw [hT]; exact hcB) hoB hclB hg (hsize.trans hml.symm) (argsL := As) (rest := rest) (fun sig h => hn.trans (hlen sig h)) hstack hW (by rw [hb]; exact hdg)
    (fun vm₁ hW₁ => ⟨hf.1, hf.2, hPc (T.setVm vm₁) hT hW₁⟩) with ⟨v, vm₁, ⟨U', l2, c2, s2⟩, hW₁, X', ⟨g', mk, t, L, e1, e2, hq, h1, hL, h2, h3⟩, st⟩ | ⟨q, vm₁, ⟨U', l2, c2, s2⟩, hW₁, X', ⟨g', mk, t, L, E, ce, e1, e2, hq, hce, hcv, hcl, h1, hL, h2, h3⟩, st⟩
  · dsimp only [Pt.U, Pt.locs, Pt.cells, Pt.slots] at X' e1 e2 h1 h2 h3 st
    subst h1; subst h2; subst h3
    exact Or.inl ⟨v, (T.setVm vm₁).calling g' mk (Value.ref b :: As).toArray, t, U', L, hT, X', hL, e1, e2, hq, st⟩
  · dsimp only [Pt.U, Pt.locs, Pt.cells, Pt.slots] at X' e1 e2 h1 h2 h3 st hcl
    subst h1; subst h2; subst h3
    exact Or.inr ⟨q, (T.setVm vm₁).calling g' mk (Value.ref b :: As).toArray, t, U', L, E, ce, hT, X', hL, e1, e2, hq, hce, hcv, vx_cls hW₁ hcl, st⟩
theorem vx_runS (S : CallFix p m c cc nL s args Ts own) (hM : vx_Met l y ws rm Pc Qc XC mc ms free) (cw : CallB R s args own index y bytes maxL ret ws rm mc ms n ∧ (Cond.static y).before args s = true) (hp : PreS s H Pc As)
    (hg : g.method = m) (hn : As.length = n) (hsize : g.locals.size = nL) (hstack : g.stack = As.reverse ++ rest) (hW : 2 * g.monitorRoom + (rest.map fun v => v.category).sum ≤ 8) (hdg : decode cc g.pc = .ok (.invokestatic index, 3)) (hf : cells + mc ≤ R.cells ∧ slots + ms ≤ R.slots) :
    vx_Run p l e R s m args below meth c H locs cells slots mc ms g rest (Qc As.toArray) XC free := by
  have hK : vx_Back l R p e below s args y 3 8 (PreOf R mc ms Pc) (PostOf Qc mc ms free) (vx_Post XC mc ms free) := vx_callBack cw.1 hM hp.1
  obtain ⟨⟨-, -, -, -, -, -, hcode, hini, hy, hlen, hl⟩, hstt⟩ := cw
  obtain ⟨hx, hb, hml, ho, -⟩ := S
  intro T hT X
  rcases vx_callS X hx (bytes := bytes) (maxL := maxL) (ret := ret) ho hl hstt hini hcode hy hK hg (hsize.trans hml.symm) (argsL := As) (rest := rest) (fun sig h => hn.trans (hlen sig h)) hstack hW (by rw [hb]; exact hdg)
    (fun vm₁ hW₁ => ⟨hf.1, hf.2, hp.2 (T.setVm vm₁) hT hW₁⟩) with ⟨v, vm₁, ⟨U', l2, c2, s2⟩, hW₁, X', ⟨g', mk, t, L, e1, e2, hq, h1, hL, h2, h3⟩, st⟩ | ⟨q, vm₁, ⟨U', l2, c2, s2⟩, hW₁, X', ⟨g', mk, t, L, E, ce, e1, e2, hq, hce, hcv, hcl, h1, hL, h2, h3⟩, st⟩
  · dsimp only [Pt.U, Pt.locs, Pt.cells, Pt.slots] at X' e1 e2 h1 h2 h3 st
    subst h1; subst h2; subst h3
    exact Or.inl ⟨v, (T.setVm vm₁).calling g' mk As.toArray, t, U', L, hT, X', hL, e1, e2, hq, st⟩
  · dsimp only [Pt.U, Pt.locs, Pt.cells, Pt.slots] at X' e1 e2 h1 h2 h3 st hcl
    subst h1; subst h2; subst h3
    exact Or.inr ⟨q, (T.setVm vm₁).calling g' mk As.toArray, t, U', L, E, ce, hT, X', hL, e1, e2, hq, hce, hcv, vx_cls hW₁ hcl, st⟩
end Runs
section Rows
variable {p : Program} {l : Launch} {e : Env} {R : Room} {s : State} {m : MethodId} {args : Array Value} {below : List Frame} {meth : Method} {c : Code} {H : Heap} {locs : List Loc} {cells slots : Nat} {Q : State → Prop}
variable {mc ms : Nat} {free : Addr → Prop} {A0 A1 : Nat → Prop} {H0 : Heap} {a : Array Value} {pc : Nat} {ls : Array Slot} {st0 rest : List Value}
theorem vx_keep {st₀ t T' : State} {L : List Loc} (h0 : st₀.heap = H) (e1 : T'.heap = t.heap) (hS : va_S A0 H0 H locs) (hA : ∀ q, q < H.size → A1 q → A0 q) (hf : ∀ q, free q → A0 q) (hL : ∀ q ∈ L, free q.base) (hF : va_F A1 st₀ t) :
    H.size ≤ T'.heap.size ∧ (∀ q : Nat, q < H.size → ¬ A1 q → T'.heap[q]? = H[q]?) ∧ va_S A0 H0 T'.heap (locs ++ L) := by
  obtain ⟨hz, hk⟩ := hF
  rw [h0] at hz hk
  exact ⟨by rw [e1]; exact hz, fun q h1 h2 => by rw [e1]; exact hk q h1 h2,
    ⟨Nat.le_trans hS.1 (by rw [e1]; exact hz), fun q h1 h2 => by rw [e1, hk q (Nat.lt_of_lt_of_le h1 hS.1) (fun z => h2 (hA q (Nat.lt_of_lt_of_le h1 hS.1) z))]; exact hS.2.1 q h1 h2, fun q hq => by
      rcases List.mem_append.mp hq with h | h
      · exact hS.2.2 q h
      · exact hf _ (hL q h)⟩⟩
theorem vx_calli {S SX : Type} {post : Int32 → S → Prop} {px : SX → Prop} {B : S → State → Prop} {BX : String → SX → State → Prop} {AX : Nat → Prop} (hr : vx_Run p l e R s m args below meth c H locs cells slots mc ms (F0 m pc ls st0) rest (va_Qi post B A1 a) (vx_X px BX AX) free) (hS : va_S A0 H0 H locs) (hA : ∀ q, q < H.size → A1 q → A0 q) (hf : ∀ q, free q → A0 q) (hAX : ∀ q, q < H.size → AX q → A0 q)
    (kx : ∀ (E : String) (ce : Cell) (q9 : Addr) (u : SX) (t : State) (H1 : Heap) (locs1 : List Loc), t.heap = H1 → s.vm.Alike t.vm → px u → BX E u t → H.size ≤ H1.size → (∀ q : Nat, q < H.size → ¬ AX q → H1[q]? = H[q]?) → va_S A0 H0 H1 locs1 → H1[q9]? = some ce → ce.vm = .none → s.vm.findClass E = some ce.cls → vx_W p l e R s m args below meth c H1 locs1 (cells + mc) (slots + ms) Q (F0 m pc ls rest) q9)
    (kk : ∀ (r : Int32) (u : S) (t : State) (H1 : Heap) (locs1 : List Loc), t.heap = H1 → s.vm.Alike t.vm → post r u → B u t → H.size ≤ H1.size → (∀ q : Nat, q < H.size → ¬ A1 q → H1[q]? = H[q]?) → va_S A0 H0 H1 locs1 → W p l e R s m args below meth c H1 locs1 (cells + mc) (slots + ms) Q (F0 m (pc + 3) ls (.int r :: rest))) : W p l e R s m args below meth c H locs cells slots Q (F0 m pc ls st0) := by
  intro T hT X
  rcases hr T hT X with ⟨v, st₀, t, T', L, h0, X', hL, e1, e2, ⟨⟨r, u, hv, hp, hb⟩, hF⟩, st⟩ | ⟨q, st₀, t, T', L, E, ce, h0, X', hL, e1, e2, ⟨u, hp, hb, hF⟩, hce, hcv, hcl, st⟩
  · cases hv
    obtain ⟨k1, k2, k3⟩ := vx_keep h0 e1 hS hA hf hL hF
    obtain ⟨t2, a1, b1⟩ := kk r u t T'.heap (locs ++ L) e1.symm (by rw [← e2]; exact X'.warmed.alike) hp hb k1 k2 k3 T' rfl X'
    exact ⟨t2, st t2 a1, b1⟩
  · obtain ⟨k1, k2, k3⟩ := vx_keep h0 e1 hS hAX hf hL hF
    obtain ⟨t2, a1, b1⟩ := kx E ce q u t T'.heap (locs ++ L) e1.symm (by rw [← e2]; exact X'.warmed.alike) hp hb k1 k2 k3 (by rw [e1]; exact hce) hcv hcl T' rfl X'
    exact ⟨t2, st.trans a1, b1⟩
theorem vx_calll {S SX : Type} {post : Int64 → S → Prop} {px : SX → Prop} {B : S → State → Prop} {BX : String → SX → State → Prop} {AX : Nat → Prop} (hr : vx_Run p l e R s m args below meth c H locs cells slots mc ms (F0 m pc ls st0) rest (va_Ql post B A1 a) (vx_X px BX AX) free) (hS : va_S A0 H0 H locs) (hA : ∀ q, q < H.size → A1 q → A0 q) (hf : ∀ q, free q → A0 q) (hAX : ∀ q, q < H.size → AX q → A0 q)
    (kx : ∀ (E : String) (ce : Cell) (q9 : Addr) (u : SX) (t : State) (H1 : Heap) (locs1 : List Loc), t.heap = H1 → s.vm.Alike t.vm → px u → BX E u t → H.size ≤ H1.size → (∀ q : Nat, q < H.size → ¬ AX q → H1[q]? = H[q]?) → va_S A0 H0 H1 locs1 → H1[q9]? = some ce → ce.vm = .none → s.vm.findClass E = some ce.cls → vx_W p l e R s m args below meth c H1 locs1 (cells + mc) (slots + ms) Q (F0 m pc ls rest) q9)
    (kk : ∀ (r : Int64) (u : S) (t : State) (H1 : Heap) (locs1 : List Loc), t.heap = H1 → s.vm.Alike t.vm → post r u → B u t → H.size ≤ H1.size → (∀ q : Nat, q < H.size → ¬ A1 q → H1[q]? = H[q]?) → va_S A0 H0 H1 locs1 → W p l e R s m args below meth c H1 locs1 (cells + mc) (slots + ms) Q (F0 m (pc + 3) ls (.long r :: rest))) : W p l e R s m args below meth c H locs cells slots Q (F0 m pc ls st0) := by
  intro T hT X
  rcases hr T hT X with ⟨v, st₀, t, T', L, h0, X', hL, e1, e2, ⟨⟨r, u, hv, hp, hb⟩, hF⟩, st⟩ | ⟨q, st₀, t, T', L, E, ce, h0, X', hL, e1, e2, ⟨u, hp, hb, hF⟩, hce, hcv, hcl, st⟩
  · cases hv
    obtain ⟨k1, k2, k3⟩ := vx_keep h0 e1 hS hA hf hL hF
    obtain ⟨t2, a1, b1⟩ := kk r u t T'.heap (locs ++ L) e1.symm (by rw [← e2]; exact X'.warmed.alike) hp hb k1 k2 k3 T' rfl X'
    exact ⟨t2, st t2 a1, b1⟩
  · obtain ⟨k1, k2, k3⟩ := vx_keep h0 e1 hS hAX hf hL hF
    obtain ⟨t2, a1, b1⟩ := kx E ce q u t T'.heap (locs ++ L) e1.symm (by rw [← e2]; exact X'.warmed.alike) hp hb k1 k2 k3 (by rw [e1]; exact hce) hcv hcl T' rfl X'
    exact ⟨t2, st.trans a1, b1⟩
theorem vx_callf {S SX : Type} {post : UInt32 → S → Prop} {px : SX → Prop} {B : S → State → Prop} {BX : String → SX → State → Prop} {AX : Nat → Prop} (hr : vx_Run p l e R s m args below meth c H locs cells slots mc ms (F0 m pc ls st0) rest (va_Qf post B A1 a) (vx_X px BX AX) free) (hS : va_S A0 H0 H locs) (hA : ∀ q, q < H.size → A1 q → A0 q) (hf : ∀ q, free q → A0 q) (hAX : ∀ q, q < H.size → AX q → A0 q)
    (kx : ∀ (E : String) (ce : Cell) (q9 : Addr) (u : SX) (t : State) (H1 : Heap) (locs1 : List Loc), t.heap = H1 → s.vm.Alike t.vm → px u → BX E u t → H.size ≤ H1.size → (∀ q : Nat, q < H.size → ¬ AX q → H1[q]? = H[q]?) → va_S A0 H0 H1 locs1 → H1[q9]? = some ce → ce.vm = .none → s.vm.findClass E = some ce.cls → vx_W p l e R s m args below meth c H1 locs1 (cells + mc) (slots + ms) Q (F0 m pc ls rest) q9)
    (kk : ∀ (r : UInt32) (u : S) (t : State) (H1 : Heap) (locs1 : List Loc), t.heap = H1 → s.vm.Alike t.vm → post r u → B u t → H.size ≤ H1.size → (∀ q : Nat, q < H.size → ¬ A1 q → H1[q]? = H[q]?) → va_S A0 H0 H1 locs1 → W p l e R s m args below meth c H1 locs1 (cells + mc) (slots + ms) Q (F0 m (pc + 3) ls (.float r :: rest))) : W p l e R s m args below meth c H locs cells slots Q (F0 m pc ls st0) := by
  intro T hT X
  rcases hr T hT X with ⟨v, st₀, t, T', L, h0, X', hL, e1, e2, ⟨⟨r, u, hv, hp, hb⟩, hF⟩, st⟩ | ⟨q, st₀, t, T', L, E, ce, h0, X', hL, e1, e2, ⟨u, hp, hb, hF⟩, hce, hcv, hcl, st⟩
  · cases hv
    obtain ⟨k1, k2, k3⟩ := vx_keep h0 e1 hS hA hf hL hF
    obtain ⟨t2, a1, b1⟩ := kk r u t T'.heap (locs ++ L) e1.symm (by rw [← e2]; exact X'.warmed.alike) hp hb k1 k2 k3 T' rfl X'
    exact ⟨t2, st t2 a1, b1⟩
  · obtain ⟨k1, k2, k3⟩ := vx_keep h0 e1 hS hAX hf hL hF
    obtain ⟨t2, a1, b1⟩ := kx E ce q u t T'.heap (locs ++ L) e1.symm (by rw [← e2]; exact X'.warmed.alike) hp hb k1 k2 k3 (by rw [e1]; exact hce) hcv hcl T' rfl X'
    exact ⟨t2, st.trans a1, b1⟩
theorem vx_calld {S SX : Type} {post : UInt64 → S → Prop} {px : SX → Prop} {B : S → State → Prop} {BX : String → SX → State → Prop} {AX : Nat → Prop} (hr : vx_Run p l e R s m args below meth c H locs cells slots mc ms (F0 m pc ls st0) rest (va_Qd post B A1 a) (vx_X px BX AX) free) (hS : va_S A0 H0 H locs) (hA : ∀ q, q < H.size → A1 q → A0 q) (hf : ∀ q, free q → A0 q) (hAX : ∀ q, q < H.size → AX q → A0 q)
    (kx : ∀ (E : String) (ce : Cell) (q9 : Addr) (u : SX) (t : State) (H1 : Heap) (locs1 : List Loc), t.heap = H1 → s.vm.Alike t.vm → px u → BX E u t → H.size ≤ H1.size → (∀ q : Nat, q < H.size → ¬ AX q → H1[q]? = H[q]?) → va_S A0 H0 H1 locs1 → H1[q9]? = some ce → ce.vm = .none → s.vm.findClass E = some ce.cls → vx_W p l e R s m args below meth c H1 locs1 (cells + mc) (slots + ms) Q (F0 m pc ls rest) q9)
    (kk : ∀ (r : UInt64) (u : S) (t : State) (H1 : Heap) (locs1 : List Loc), t.heap = H1 → s.vm.Alike t.vm → post r u → B u t → H.size ≤ H1.size → (∀ q : Nat, q < H.size → ¬ A1 q → H1[q]? = H[q]?) → va_S A0 H0 H1 locs1 → W p l e R s m args below meth c H1 locs1 (cells + mc) (slots + ms) Q (F0 m (pc + 3) ls (.double r :: rest))) : W p l e R s m args below meth c H locs cells slots Q (F0 m pc ls st0) := by
  intro T hT X
  rcases hr T hT X with ⟨v, st₀, t, T', L, h0, X', hL, e1, e2, ⟨⟨r, u, hv, hp, hb⟩, hF⟩, st⟩ | ⟨q, st₀, t, T', L, E, ce, h0, X', hL, e1, e2, ⟨u, hp, hb, hF⟩, hce, hcv, hcl, st⟩
  · cases hv
    obtain ⟨k1, k2, k3⟩ := vx_keep h0 e1 hS hA hf hL hF
    obtain ⟨t2, a1, b1⟩ := kk r u t T'.heap (locs ++ L) e1.symm (by rw [← e2]; exact X'.warmed.alike) hp hb k1 k2 k3 T' rfl X'
    exact ⟨t2, st t2 a1, b1⟩
  · obtain ⟨k1, k2, k3⟩ := vx_keep h0 e1 hS hAX hf hL hF
    obtain ⟨t2, a1, b1⟩ := kx E ce q u t T'.heap (locs ++ L) e1.symm (by rw [← e2]; exact X'.warmed.alike) hp hb k1 k2 k3 (by rw [e1]; exact hce) hcv hcl T' rfl X'
    exact ⟨t2, st.trans a1, b1⟩
theorem vx_callv {S SX : Type} {post : S → Prop} {px : SX → Prop} {B : S → State → Prop} {BX : String → SX → State → Prop} {AX : Nat → Prop} (hr : vx_Run p l e R s m args below meth c H locs cells slots mc ms (F0 m pc ls st0) rest (va_Qv post B A1 a) (vx_X px BX AX) free) (hS : va_S A0 H0 H locs) (hA : ∀ q, q < H.size → A1 q → A0 q) (hf : ∀ q, free q → A0 q) (hAX : ∀ q, q < H.size → AX q → A0 q)
    (kx : ∀ (E : String) (ce : Cell) (q9 : Addr) (u : SX) (t : State) (H1 : Heap) (locs1 : List Loc), t.heap = H1 → s.vm.Alike t.vm → px u → BX E u t → H.size ≤ H1.size → (∀ q : Nat, q < H.size → ¬ AX q → H1[q]? = H[q]?) → va_S A0 H0 H1 locs1 → H1[q9]? = some ce → ce.vm = .none → s.vm.findClass E = some ce.cls → vx_W p l e R s m args below meth c H1 locs1 (cells + mc) (slots + ms) Q (F0 m pc ls rest) q9)
    (kk : ∀ (u : S) (t : State) (H1 : Heap) (locs1 : List Loc), t.heap = H1 → s.vm.Alike t.vm → post u → B u t → H.size ≤ H1.size → (∀ q : Nat, q < H.size → ¬ A1 q → H1[q]? = H[q]?) → va_S A0 H0 H1 locs1 → W p l e R s m args below meth c H1 locs1 (cells + mc) (slots + ms) Q (F0 m (pc + 3) ls (rest))) : W p l e R s m args below meth c H locs cells slots Q (F0 m pc ls st0) := by
  intro T hT X
  rcases hr T hT X with ⟨v, st₀, t, T', L, h0, X', hL, e1, e2, ⟨⟨u, hv, hp, hb⟩, hF⟩, st⟩ | ⟨q, st₀, t, T', L, E, ce, h0, X', hL, e1, e2, ⟨u, hp, hb, hF⟩, hce, hcv, hcl, st⟩
  · cases hv
    obtain ⟨k1, k2, k3⟩ := vx_keep h0 e1 hS hA hf hL hF
    obtain ⟨t2, a1, b1⟩ := kk u t T'.heap (locs ++ L) e1.symm (by rw [← e2]; exact X'.warmed.alike) hp hb k1 k2 k3 T' rfl X'
    exact ⟨t2, st t2 a1, b1⟩
  · obtain ⟨k1, k2, k3⟩ := vx_keep h0 e1 hS hAX hf hL hF
    obtain ⟨t2, a1, b1⟩ := kx E ce q u t T'.heap (locs ++ L) e1.symm (by rw [← e2]; exact X'.warmed.alike) hp hb k1 k2 k3 (by rw [e1]; exact hce) hcv hcl T' rfl X'
    exact ⟨t2, st.trans a1, b1⟩
/-- caught by the row x of this method's table; the rows ahead don't take it -/
theorem vx_catch {own name : String} {E : String} {ce : Cell} {q : Addr} (hown : s.vm.findClass own = some m.cls) (pre : List ExceptionTableEntry) (x : ExceptionTableEntry) (suf : List ExceptionTableEntry) (hsplit : c.exceptionTable.toList = pre ++ x :: suf)
    (hpass : ∀ z ∈ pre, covers z pc = false ∨ (z.catchType ≠ 0 ∧ ∃ nm : String, (Cond.classLink own z.catchType nm).before args s = true ∧ va_Nc E nm s)) (hx : covers x pc = true) (h0 : x.catchType ≠ 0)
    (hlink : (Cond.classLink own x.catchType name).before args s = true) (hcast : (Cond.castable E name).before args s = true) (hcell : H[q]? = some ce) (hv : ce.vm = .none) (hcl : s.vm.findClass E = some ce.cls)
    (kk : W p l e R s m args below meth c H locs cells slots Q (F0 m x.handlerPc ls [.ref q])) : vx_W p l e R s m args below meth c H locs cells slots Q (F0 m pc ls rest) q := by
  intro T hT X
  have hpl : e.platform.magicAccessors = ({} : Platform).magicAccessors := by rw [X.admits.platform]
  obtain ⟨c3, c4, hc3, hc4, hasg⟩ := Cond.castable_spec hcast
  cases Option.some.inj (hc3.symm.trans hcl)
  obtain ⟨c5, hc5, hcl5⟩ := Cond.classLink_spec hown hlink e.platform hpl
  cases Option.some.inj (hc4.symm.trans hc5)
  obtain ⟨vm', X', st⟩ := X.thenCaughtThrough q (g := F0 m pc ls rest) rfl (Steps.refl _) (by rw [hT]; exact hcell) (by rw [hv]; rfl) (by obtain ⟨k9, h9, -⟩ := Vm.findClass_spec hcl; exact ⟨k9, h9⟩) pre x suf hsplit
    (fun z hz => by
      rcases hpass z hz with h | ⟨hz0, nm, hl1, hn1⟩
      · exact Or.inl h
      · obtain ⟨c6, hc6, hcl6⟩ := Cond.classLink_spec hown hl1 e.platform hpl
        obtain ⟨a8, b8, h1, h2, h3⟩ := hn1
        cases Option.some.inj (h1.symm.trans hcl)
        cases Option.some.inj (h2.symm.trans hc6)
        exact Or.inr ⟨hz0, _, hcl6, h3⟩) hx (Or.inr ⟨h0, c4, hcl5, hasg⟩)
  obtain ⟨t, a1, b1⟩ := kk (T.setVm vm') hT X'
  exact ⟨t, st.trans a1, b1⟩
end Rows
section Ends
variable {p : Program} {l : Launch} {e : Env} {R : Room} {s : State} {m : MethodId} {args : Array Value} {below : List Frame} {meth : Method} {c : Code} {H : Heap} {locs : List Loc} {cells slots : Nat} {Q : State → Prop}
variable {mc ms : Nat} {free : Addr → Prop} {A0 A1 : Nat → Prop} {H0 : Heap} {a : Array Value} {ls : Array Slot} {st0 rest : List Value}
variable {Qc : Array Value → State → Outcome → State → Prop} {XC : String → State → State → Prop}
/-- what a body that may throw owes at its end -/
def vx_MQ (below : List Frame) (Qc : Array Value → State → Outcome → State → Prop) (XC : String → State → State → Prop) (a : Array Value) (s : State) (mc ms : Nat) (free : Addr → Prop) : State → Prop := fun t =>
  ∃ o, t.status = .running ∧ Ended t below o ∧ vx_Q Qc XC mc ms free a s o t
theorem vx_ret {g : JFrame} {mc ms : Nat} (k : W p l e R s m args below meth c H locs cells slots (MQ below Qc args s mc ms free) g) : W p l e R s m args below meth c H locs cells slots (vx_MQ below Qc XC args s mc ms free) g := by
  intro T hT X
  obtain ⟨t, a1, o, b1, b2, b3, b4⟩ := k T hT X
  exact ⟨t, a1, o, b1, b2, Or.inl ⟨b3, b4⟩⟩
/-- not caught here: it goes on to the caller -/
theorem vx_widen {g : JFrame} {q : Addr} {k n : Nat} (h1 : cells ≤ k) (h2 : slots ≤ n) (kk : vx_W p l e R s m args below meth c H locs k n Q g q) : vx_W p l e R s m args below meth c H locs cells slots Q g q := fun T hT X => kk T hT (stand_widen X h1 h2)
theorem vx_out {pc : Nat} {E : String} {ce : Cell} {q : Addr} {mc ms : Nat} (hout : ∀ x ∈ c.exceptionTable.toList, covers x pc = false) (hlocks : meth.locks = false) (hcell : H[q]? = some ce) (hv : ce.vm = .none) (hcl : s.vm.findClass E = some ce.cls)
    (hx : ∀ t : State, t.heap = H → s.vm.Alike t.vm → XC E s t) (hf : ∀ z ∈ locs, free z.base) (hc : cells ≤ mc) (hs : slots ≤ ms) :
    vx_W p l e R s m args below meth c H locs cells slots (vx_MQ below Qc XC args s mc ms free) (F0 m pc ls rest) q := by
  intro T hT X
  obtain ⟨st1, hrun, hend, hW, hsm⟩ := X.leaveThrown q (g := F0 m pc ls rest) rfl rfl rfl hout hlocks
  have hcell9 : (T.setFrames (.throwing q :: below)).heap[q]? = some ce := by
    show T.heap[q]? = some ce
    rw [hT]; exact hcell
  exact ⟨_, st1, .threw q, hrun, hend, Or.inr ⟨q, rfl, E, ce, locs, hx _ hT hW.alike, hcell9, hv, hcl, hW, hsm.mono hc hs, hf⟩⟩
theorem vx_frame {U : State} {k n : Nat} (h : s.sameButNew ({ U with vm := s.vm } : State) locs k n) : s.heap.size ≤ U.heap.size ∧ ∀ q : Nat, q < s.heap.size → (∀ z ∈ locs, z.base ≠ q) → U.heap[q]? = s.heap[q]? := by
  obtain ⟨-, h2, -, -, -, h6⟩ := h
  refine ⟨h2, fun q hq hz => ?_⟩
  obtain ⟨c9, e1, e2, e3, e4⟩ := h6 q _ (Array.getElem?_eq_getElem hq)
  have hs : c9.slots = (s.heap[q]).slots := Array.ext_getElem? fun i => e4 i fun hm => hz _ hm rfl
  have h9 : c9 = s.heap[q] := by
    rw [hs] at e2
    exact e2
  have e5 : U.heap[q]? = some c9 := e1
  rw [e5, h9, Array.getElem?_eq_getElem hq]
/-- the words of a throw but the four that speak of the heap -/
def vx_no (w : Cond) : Bool := decide (w ≠ .isRef (.static Bundle.tN "UNASSIGNED_STACK" Bundle.steD)) && decide (w ≠ .isRef (.static Bundle.tN "SUPPRESSED_SENTINEL" Bundle.listD)) && decide (w ≠ .laysStatic Bundle.tN "UNASSIGNED_STACK" Bundle.steD) && decide (w ≠ .laysStatic Bundle.tN "SUPPRESSED_SENTINEL" Bundle.listD)
def vx_at0 (own : String) (ic : Nat) (X : String) (names : List String) : List Cond := (Bundle.ownAtoms0 own ic X names).filter vx_no
def vx_atS (own : String) (ic : Nat) (X : String) (names : List String) : List Cond := (Bundle.ownAtoms own ic X names).filter vx_no
/-- a word that the tables alone decide, or a good one -/
def vx_ot (w : Cond) : Bool := w.onTables || goodWord w
theorem vx_ot_at {args a' : Array Value} {s U : State} {w : Cond} (hW : s.WarmedH U.vm) (hvm : s.vm = U.vm) (hg : vx_ot w = true) (h : w.before args s = true) : w.before a' U = true := by
  simp only [vx_ot, Bool.or_eq_true] at hg
  rcases hg with hg | hg
  · exact va_tabs hg hvm h
  · exact word_at hW (good_of_word hg) h
/-- a list's words: the good ones out of the method's own list, the others by premises of their own -/
theorem vx_hat {args : Array Value} {s : State} {L B : List Cond} (h1 : ∀ w ∈ L.filter goodWord, w.before args s = true) (h2 : ∀ w ∈ L.filter (fun w => !goodWord w), w ∈ B) (h3 : ∀ w ∈ B, w.before args s = true) : ∀ w ∈ L, w.before args s = true := by
  intro w hw
  by_cases g : goodWord w = true
  · exact h1 w (List.mem_filter.mpr ⟨hw, g⟩)
  · refine h3 w (h2 w (List.mem_filter.mpr ⟨hw, ?_⟩))
    show (!goodWord w) = true
    cases hgw : goodWord w
    · rfl
    · exact absurd hgw g
theorem vx_c {args : Array Value} {s : State} {w : Cond} {B : List Cond} (h : w.before args s = true) (t : ∀ w ∈ B, w.before args s = true) : ∀ w' ∈ w :: B, w'.before args s = true := fun w' h' => (List.mem_cons.mp h').elim (fun e => by rw [e]; exact h) (t w')
theorem vx_n {args : Array Value} {s : State} : ∀ w ∈ ([] : List Cond), w.before args s = true := fun _ h => nomatch h
theorem vx_own {args : Array Value} {s : State} {L : List Cond} (h1 : ∀ w ∈ L.filter vx_no, w.before args s = true)
    (hU : (Cond.isRef (.static Bundle.tN "UNASSIGNED_STACK" Bundle.steD)).before args s = true) (hN : (Cond.isRef (.static Bundle.tN "SUPPRESSED_SENTINEL" Bundle.listD)).before args s = true)
    (lU : (Cond.laysStatic Bundle.tN "UNASSIGNED_STACK" Bundle.steD).before args s = true) (lN : (Cond.laysStatic Bundle.tN "SUPPRESSED_SENTINEL" Bundle.listD).before args s = true) : ∀ w ∈ L, w.before args s = true := by
  intro w hw
  by_cases e1 : w = .isRef (.static Bundle.tN "UNASSIGNED_STACK" Bundle.steD)
  · rw [e1]; exact hU
  · by_cases e2 : w = .isRef (.static Bundle.tN "SUPPRESSED_SENTINEL" Bundle.listD)
    · rw [e2]; exact hN
    · by_cases e3 : w = .laysStatic Bundle.tN "UNASSIGNED_STACK" Bundle.steD
      · rw [e3]; exact lU
      · by_cases e4 : w = .laysStatic Bundle.tN "SUPPRESSED_SENTINEL" Bundle.listD
        · rw [e4]; exact lN
        · exact h1 w (List.mem_filter.mpr ⟨hw, by unfold vx_no; rw [decide_eq_true e1, decide_eq_true e2, decide_eq_true e3, decide_eq_true e4]; rfl⟩)
/-- where a static field lies, its class's statics cell in H -/
def vx_L (C n d : String) (A : Nat → Prop) (U : State) (H : Heap) : Prop := ∃ (c : ClassId) (k : Class) (i : Nat) (f : Field) (a : Nat) (cell : Cell), U.vm.findClass C = some c ∧ U.fieldFound? C n d = some (c, k, i, f) ∧ f.isStatic = true ∧ k.statics = some a ∧ H[a]? = some cell ∧ cell.vm.isStatics = true ∧ cell.cls = c ∧ f.slot < cell.slots.size ∧ k.staticTypes[f.slot]? = some f.type ∧ ¬ A a
theorem vx_L.moved {C n d : String} {A : Nat → Prop} {u U : State} {H : Heap} (hvm : u.vm.Alike U.vm) (h : vx_L C n d A u H) : vx_L C n d A U H := by
  obtain ⟨c, k, i, f, a, cell, h1, h2, h3, h4, h5, h6, h7, h8, h9, h10⟩ := h
  obtain ⟨k', hi', he⟩ := State.fieldFound?_setVm hvm h2
  exact ⟨c, k', i, f, a, cell, by rw [hvm.findClass]; exact h1, hi', h3, by rw [he]; exact h4, h5, h6, h7, h8, by rw [he]; exact h9, h10⟩
theorem vx_L.kept {C n d : String} {A : Nat → Prop} {U : State} {H H1 : Heap} (h : vx_L C n d A U H) (hq : ∀ a : Nat, a < H.size → ¬ A a → H1[a]? = H[a]?) : vx_L C n d A U H1 := by
  obtain ⟨c, k, i, f, a, cell, h1, h2, h3, h4, h5, h6, h7, h8, h9, h10⟩ := h
  exact ⟨c, k, i, f, a, cell, h1, h2, h3, h4, by rw [hq a (Array.getElem?_eq_some_iff.mp h5).1 h10]; exact h5, h6, h7, h8, h9, h10⟩
theorem vx_L.narrow {C n d : String} {A B : Nat → Prop} {U : State} {H : Heap} (h : vx_L C n d A U H) (hAB : ∀ q, B q → A q) : vx_L C n d B U H := by
  obtain ⟨c, k, i, f, a, cell, h1, h2, h3, h4, h5, h6, h7, h8, h9, h10⟩ := h
  exact ⟨c, k, i, f, a, cell, h1, h2, h3, h4, h5, h6, h7, h8, h9, fun z => h10 (hAB _ z)⟩
theorem vx_L.word {C n d : String} {A : Nat → Prop} {s : State} {args : Array Value} (h : vx_L C n d A s s.heap) : (Cond.laysStatic C n d).before args s = true := by
  obtain ⟨c, k, i, f, a, cell, h1, h2, h3, h4, h5, h6, h7, h8, h9, -⟩ := h
  show (Cond.laysStatic C n d).holds args s none s [] = true
  exact Cond.laysStatic_of h1 h2 h3 h4 h5 h6 h7 h8 h9
/-- .. and what it holds: null or some reference -/
def vx_Zq (C n d : String) (A : Nat → Prop) (U : State) (H : Heap) : Prop := va_Zq C n d A U H ∧ vx_L C n d A U H
theorem vx_Zq.moved {C n d : String} {A : Nat → Prop} {u U : State} {H : Heap} (hvm : u.vm.Alike U.vm) (h : vx_Zq C n d A u H) : vx_Zq C n d A U H := ⟨va_Zq.moved hvm h.1, vx_L.moved hvm h.2⟩
theorem vx_Zq.kept {C n d : String} {A : Nat → Prop} {U : State} {H H1 : Heap} (h : vx_Zq C n d A U H) (hq : ∀ a : Nat, a < H.size → ¬ A a → H1[a]? = H[a]?) : vx_Zq C n d A U H1 := ⟨va_Zq.kept h.1 hq, vx_L.kept h.2 hq⟩
theorem vx_Zq.narrow {C n d : String} {A B : Nat → Prop} {U : State} {H : Heap} (h : vx_Zq C n d A U H) (hAB : ∀ q, B q → A q) : vx_Zq C n d B U H := ⟨va_Zq.narrow h.1 hAB, vx_L.narrow h.2 hAB⟩
theorem vx_Zqof {args : Array Value} {s : State} {C n d : String} {A : Nat → Prop} (hl : (Cond.laysStatic C n d).before args s = true) (hini : (Cond.initialized C).before args s = true) (h : (Cond.isRef (.static C n d)).before args s = true) (hA : ∀ a : Nat, a < s.heap.size → ¬ A a) : vx_Zq C n d A s s.heap := by
  refine ⟨va_Zqof hl hini h hA, ?_⟩
  obtain ⟨c, k, i, f, a, cell, h1, h2, h3, h4, h5, h6, h7, h8, h9⟩ := Cond.laysStatic_spec hl
  exact ⟨c, k, i, f, a, cell, h1, h2, h3, h4, h5, h6, h7, h8, h9, hA a (Array.getElem?_eq_some_iff.mp h5).1⟩
theorem vx_isRef {C n d : String} {v : Value} {A : Nat → Prop} {s : State} {args : Array Value} (h : va_Z C n d v A s s.heap) (hv : v.isRef = true) : (Cond.isRef (.static C n d)).before args s = true := by
  obtain ⟨cf, kf, fi, f, a, cell, h1, h2, h3, h4, h5, h6, h7, -⟩ := h
  have he : (Term.static C n d).eval args s none [] s = some v := by
    simp [Term.eval, State.fieldNamed?, h1, h2, h4, h5, h6, h7]
  simp only [Cond.before, Cond.holds, Cond.value, he]
  cases v <;> simp_all [Value.isRef]
theorem vx_isRefq {C n d : String} {A : Nat → Prop} {s : State} {args : Array Value} (h : va_Zq C n d A s s.heap) : (Cond.isRef (.static C n d)).before args s = true := by
  rcases h with h | ⟨t, h⟩
  · exact vx_isRef h rfl
  · exact vx_isRef h rfl
/-- the same frame, seen from here: as if the method were called anew in this heap -/
theorem vx_rebase {T : State} (X : Stand p l e R s m args below meth c T locs cells slots) {R' : Room} (hf : R'.frames ≤ R.frames) (hl : R'.locals ≤ R.locals) (hc : cells + R'.cells ≤ R.cells) (hs : slots + R'.slots ≤ R.slots) :
    Stand p l e R' ((T.setVm s.vm).setFrames (.invoking m args :: below)) m args below meth c T [] 0 0 := by
  have htop : (T.setVm s.vm).topJava?.isSome := X.here.top
  have hF : ((T.setVm s.vm).setFrames (.invoking m args :: below)).frames = .invoking m args :: below := State.frames_setFrames _ (State.cur_lt_of_top htop)
  obtain ⟨g₀, hg0⟩ := Option.isSome_iff_exists.mp htop
  obtain ⟨r, hr⟩ := State.topJava?_eq_some.mp hg0
  have hl9 : e.platform.stackLimits (T.setVm s.vm).me = e.platform.stackLimits s.me := X.limits
  have hb9 : (T.setVm s.vm).me.stackBytes = s.me.stackBytes := X.bytes
  refine ⟨X.admits, X.cas, X.clock, hF, ?_, X.hears, X.method, X.code, X.here, X.tail, X.warmed, ?_, ?_, ?_⟩
  · have h := X.room
    have hU : ((T.setVm s.vm).setFrames (.invoking m args :: below)).localsInUse = s.localsInUse := by
      rw [State.localsInUse_invoking hF (meth := meth) (c := c) X.method X.code, State.localsInUse_invoking X.frames X.method X.code]
    simp only [State.hasRoom, Bool.and_eq_true, decide_eq_true_eq] at h ⊢
    obtain ⟨⟨⟨⟨h1, h2, h3, h4, h5, h6⟩, h7⟩, h8⟩, h9⟩ := h
    rw [X.frames, List.length_cons] at h2 h3
    have q1 := X.heapSize
    have q2 := X.used
    simp only [hF, hU, List.length_cons, State.stackLimits_setFrames, State.stackBytes_setFrames, hl9, hb9]
    refine ⟨⟨⟨⟨by omega, by omega, by omega, by omega, by omega, h6⟩, ?_⟩, ?_⟩, X.book⟩
    · show T.heap.size + R'.cells ≤ e.platform.maxCells
      omega
    · show T.slotsUsed + R'.slots ≤ e.platform.maxSlots
      omega
  · rw [State.stackLimits_setFrames]; rfl
  · rw [State.stackBytes_setFrames]; rfl
  · refine ⟨?_, Nat.le_refl _, Nat.le_refl _, ?_, ?_, fun a c9 h9 => ⟨c9, h9, rfl, rfl, fun _ _ => rfl⟩⟩
    · obtain ⟨t, ht, -⟩ := State.frames_cons hr
      show T.setVm s.vm = { ((T.setVm s.vm).setFrames (.invoking m args :: below)).setFrames (T.setVm s.vm).frames with heap := T.heap, slotsUsed := T.slotsUsed }
      rw [State.setFrames_setFrames, State.setFrames_self ht]
      rfl
    · show T.slotsUsed = T.slotsUsed + ((T.heap.toList.drop T.heap.size).map (·.slots.size)).sum
      rw [List.drop_eq_nil_of_le (Nat.le_of_eq Array.length_toList)]
      rfl
    · show ((T.heap.toList.drop T.heap.size).map (·.slots.size)).sum ≤ 0
      rw [List.drop_eq_nil_of_le (Nat.le_of_eq Array.length_toList)]
      exact Nat.le_refl _
/-- 'throw new E()': new; dup; invokespecial; athrow -/
theorem vx_throw0 {cc : ByteArray} {pc : Nat} (hexec : p.tables.exec = Jvm.exec) (hb : c.code = cc) (hl : l.stackTraces = false) {own cls : String} {names : List String} {ik ic mc ms : Nat} {A : Nat → Prop}
    (hown : s.vm.findClass own = some m.cls) (hcls : Bundle.fit cls = true) (hnames : ∀ n ∈ names, Bundle.fit n = true)
    (hk : (Cond.classLink own ik cls).before args s = true) (hini : (Cond.initialized cls).before args s = true) (hat : ∀ w ∈ vx_at0 own ic cls names, w.before args s = true)
    (hgood : ∀ w ∈ Cond.classLink own ik cls :: Cond.initialized cls :: vx_at0 own ic cls names, vx_ot w = true)
    (hU : vx_Zq Bundle.tN "UNASSIGNED_STACK" Bundle.steD A s s.heap) (hN : vx_Zq Bundle.tN "SUPPRESSED_SENTINEL" Bundle.listD A s s.heap) (hS : va_S A s.heap H locs) (hsize : ls.size = c.maxLocals)
    (d0 : decode cc pc = .ok (.new ik, 3)) (d3 : decode cc (pc + 3) = .ok (.dup, 1)) (d4 : decode cc (pc + 4) = .ok (.invokespecial ic, 3)) (d7 : decode cc (pc + 7) = .ok (.athrow, 1))
    (hout : ∀ x ∈ c.exceptionTable.toList, covers x (pc + 7) = false)
    (hRframes : names.length + 3 < R.frames) (hRlocals : (rest.map fun v => v.category).sum + (13 * (names.length + 1) + 42) ≤ R.locals) (hRcells : cells + 1 ≤ R.cells) (hRslots : slots + 6 ≤ R.slots) (hlocks : meth.locks = false)
    (hx : ∀ t : State, s.vm.Alike t.vm → H.size ≤ t.heap.size → (∀ q : Nat, q < H.size → t.heap[q]? = H[q]?) → XC cls s t)
    (hf : ∀ z ∈ locs, free z.base) (hc : cells + 1 ≤ mc) (hs : slots + 6 ≤ ms) :
    W p l e R s m args below meth c H locs cells slots (vx_MQ below Qc XC args s mc ms free) (F0 m pc ls rest) := by
  intro T hT X
  have htr : e.platform.stackTraces = false := (show e.platform.stackTraces = l.stackTraces by rw [X.admits.platform]).trans hl
  have Y := vx_rebase X (R' := { frames := R.frames, locals := R.locals, cells := 1, slots := 6 }) (Nat.le_refl _) (Nat.le_refl _) hRcells hRslots
  obtain ⟨s', hA⟩ : ∃ z, z = (T.setVm s.vm).setFrames (.invoking m args :: below) := ⟨_, rfl⟩
  rw [← hA] at Y
  have hvm : s'.vm = s.vm := by rw [hA]; rfl
  have hhp : s'.heap = H := by rw [hA]; exact hT
  have hW0 : s.WarmedH s'.vm := by rw [hvm]; exact State.WarmedH.refl s
  have hat' : ∀ w ∈ vx_at0 own ic cls names, w.before args s' = true := fun w hw => vx_ot_at hW0 hvm.symm (hgood w (List.mem_cons_of_mem _ (List.mem_cons_of_mem _ hw))) (hat w hw)
  have hk' : (Cond.classLink own ik cls).before args s' = true := vx_ot_at hW0 hvm.symm (hgood _ List.mem_cons_self) hk
  have hini' : (Cond.initialized cls).before args s' = true := vx_ot_at hW0 hvm.symm (hgood _ (List.mem_cons_of_mem _ List.mem_cons_self)) hini
  have hU' : vx_Zq Bundle.tN "UNASSIGNED_STACK" Bundle.steD A s' s'.heap := by rw [hhp]; exact vx_Zq.moved hW0.alike (hU.kept hS.2.1)
  have hN' : vx_Zq Bundle.tN "SUPPRESSED_SENTINEL" Bundle.listD A s' s'.heap := by rw [hhp]; exact vx_Zq.moved hW0.alike (hN.kept hS.2.1)
  have h : ∀ w ∈ Bundle.ownAtoms0 own ic cls names, w.before args s' = true := vx_own hat' (vx_isRefq hU'.1) (vx_isRefq hN'.1) hU'.2.word hN'.2.word
  have hown' : s'.vm.findClass own = some m.cls := by rw [hvm]; exact hown
  have hins : (Cond.instantiable cls 6).before args s' = true := h _ (by simp [Bundle.ownAtoms0])
  obtain ⟨vm₁, cX, kX, hfX, hkX, -, -, X₁, st1⟩ := Y.newCold hexec (own := own) (C := cls) (index := ik) (n := 6) hown' hk' hins hini'
    (g := F0 m pc ls rest) rfl (by rw [hb]; exact d0) (Nat.le_refl _) (Nat.le_refl _)
  generalize hT1 : (T.setVm vm₁).pushCell { cls := cX, slots := kX.instanceTypes.map defaultValue, vm := .none } = T1 at X₁ st1
  have hcat : (Value.ref T.heap.size).category = 1 := rfl
  have hcellA : T1.heap[T.heap.size]? = some (freshCell cX kX) := by rw [← hT1]; exact State.heap_pushCell_size _ _
  have d3' : decode c.code (pc + 3) = .ok (.dup, 1) := by rw [hb]; exact d3
  obtain ⟨U, hsteps, hrun, hend, hW, hsame, ce, hce, hO⟩ := X₁.ctorThrow0 hexec htr (own := own) (cls := cls) (names := names) (ic := ic) hown' hcls hnames h (fun x hx => nomatch hx) hfX hkX hcellA (by rw [hhp, hT]; exact Nat.le_refl _)
    (g := { method := m, pc := pc + 4, locals := ls, stack := .ref T.heap.size :: .ref T.heap.size :: rest, locked := none }) rfl hsize rfl rfl (rest := rest) rfl
    (by rw [hb]; exact d4) (by rw [hb]; exact d7) hout hRframes (by simp only [List.map_cons, List.sum_cons, hcat]; omega) hlocks
  obtain ⟨f1, f2⟩ := vx_frame hsame
  rw [hhp] at f1 f2
  have hWs : s.WarmedH U.vm := State.WarmedH.trans hW0 hW
  have hcl : s.vm.findClass cls = some ce.cls := by
    have h9 := hO.cls
    rw [hvm] at h9
    exact h9
  have hall : s.sameButNew ({ U with vm := s.vm } : State) locs mc ms := by
    subst hA
    obtain ⟨e1, e2⟩ := hsame
    rw [State.setFrames_setFrames] at e1
    have h2 : (T.setVm s.vm).sameButNew ({ U with vm := s.vm } : State) [] (0 + 1) (0 + 6) := ⟨e1, e2⟩
    have h3 := X.same.trans h2
    rw [List.append_nil] at h3
    exact h3.mono hc hs
  refine ⟨U, ?_, .threw T.heap.size, hrun, hend, Or.inr ⟨T.heap.size, rfl, cls, ce, locs, hx U hWs.alike f1 (fun q hq => f2 q hq (fun z hz => nomatch hz)), hce, hO.vm, hcl, hWs, hall, hf⟩⟩
  refine st1 _ ?_
  show Steps p.tables e below (T1.setTop { method := m, pc := pc + 3, locals := ls, stack := .ref T.heap.size :: rest, locked := none }) _
  jvm_step X₁.here [X₁.here.top, hexec, d3', Value.category]
  exact hsteps
/-- 'throw new E("text")': new; dup; ldc; invokespecial; athrow -/
theorem vx_throwS {cc : ByteArray} {pc : Nat} (hexec : p.tables.exec = Jvm.exec) (hb : c.code = cc) (hl : l.stackTraces = false) {own cls text : String} {names : List String} {ik is ic mc ms sa : Nat} {A : Nat → Prop}
    (hown : s.vm.findClass own = some m.cls) (hcls : Bundle.fit cls = true) (hnames : ∀ n ∈ names, Bundle.fit n = true)
    (hk : (Cond.classLink own ik cls).before args s = true) (hini : (Cond.initialized cls).before args s = true) (hstr : vk_R own is text sa s) (hat : ∀ w ∈ vx_atS own ic cls names, w.before args s = true)
    (hgood : ∀ w ∈ Cond.classLink own ik cls :: Cond.initialized cls :: vx_atS own ic cls names, vx_ot w = true)
    (hU : vx_Zq Bundle.tN "UNASSIGNED_STACK" Bundle.steD A s s.heap) (hN : vx_Zq Bundle.tN "SUPPRESSED_SENTINEL" Bundle.listD A s s.heap) (hS : va_S A s.heap H locs) (hsize : ls.size = c.maxLocals)
    (d0 : decode cc pc = .ok (.new ik, 3)) (d3 : decode cc (pc + 3) = .ok (.dup, 1)) (d4 : decode cc (pc + 4) = .ok (.ldc is, 2)) (d6 : decode cc (pc + 6) = .ok (.invokespecial ic, 3)) (d9 : decode cc (pc + 9) = .ok (.athrow, 1))
    (hout : ∀ x ∈ c.exceptionTable.toList, covers x (pc + 9) = false)
    (hRframes : names.length + 3 < R.frames) (hRlocals : (rest.map fun v => v.category).sum + (13 * (names.length + 1) + 43) ≤ R.locals) (hRcells : cells + 1 ≤ R.cells) (hRslots : slots + 6 ≤ R.slots) (hlocks : meth.locks = false)
    (hx : ∀ t : State, s.vm.Alike t.vm → H.size ≤ t.heap.size → (∀ q : Nat, q < H.size → t.heap[q]? = H[q]?) → XC cls s t)
    (hf : ∀ z ∈ locs, free z.base) (hc : cells + 1 ≤ mc) (hs : slots + 6 ≤ ms) :
    W p l e R s m args below meth c H locs cells slots (vx_MQ below Qc XC args s mc ms free) (F0 m pc ls rest) := by
  intro T hT X
  have htr : e.platform.stackTraces = false := (show e.platform.stackTraces = l.stackTraces by rw [X.admits.platform]).trans hl
  have Y := vx_rebase X (R' := { frames := R.frames, locals := R.locals, cells := 1, slots := 6 }) (Nat.le_refl _) (Nat.le_refl _) hRcells hRslots
  obtain ⟨s', hA⟩ : ∃ z, z = (T.setVm s.vm).setFrames (.invoking m args :: below) := ⟨_, rfl⟩
  rw [← hA] at Y
  have hvm : s'.vm = s.vm := by rw [hA]; rfl
  have hhp : s'.heap = H := by rw [hA]; exact hT
  have hW0 : s.WarmedH s'.vm := by rw [hvm]; exact State.WarmedH.refl s
  have hat' : ∀ w ∈ vx_atS own ic cls names, w.before args s' = true := fun w hw => vx_ot_at hW0 hvm.symm (hgood w (List.mem_cons_of_mem _ (List.mem_cons_of_mem _ hw))) (hat w hw)
  have hk' : (Cond.classLink own ik cls).before args s' = true := vx_ot_at hW0 hvm.symm (hgood _ List.mem_cons_self) hk
  have hini' : (Cond.initialized cls).before args s' = true := vx_ot_at hW0 hvm.symm (hgood _ (List.mem_cons_of_mem _ List.mem_cons_self)) hini
  have hU' : vx_Zq Bundle.tN "UNASSIGNED_STACK" Bundle.steD A s' s'.heap := by rw [hhp]; exact vx_Zq.moved hW0.alike (hU.kept hS.2.1)
  have hN' : vx_Zq Bundle.tN "SUPPRESSED_SENTINEL" Bundle.listD A s' s'.heap := by rw [hhp]; exact vx_Zq.moved hW0.alike (hN.kept hS.2.1)
  have h : ∀ w ∈ Bundle.ownAtoms own ic cls names, w.before args s' = true := vx_own hat' (vx_isRefq hU'.1) (vx_isRefq hN'.1) hU'.2.word hN'.2.word
  have hown' : s'.vm.findClass own = some m.cls := by rw [hvm]; exact hown
  have hins : (Cond.instantiable cls 6).before args s' = true := h _ (by simp [Bundle.ownAtoms])
  obtain ⟨vm₁, cX, kX, hfX, hkX, -, -, X₁, st1⟩ := Y.newCold hexec (own := own) (C := cls) (index := ik) (n := 6) hown' hk' hins hini'
    (g := F0 m pc ls rest) rfl (by rw [hb]; exact d0) (Nat.le_refl _) (Nat.le_refl _)
  generalize hT1 : (T.setVm vm₁).pushCell { cls := cX, slots := kX.instanceTypes.map defaultValue, vm := .none } = T1 at X₁ st1
  have hcat : (Value.ref T.heap.size).category = 1 := rfl
  have hcellA : T1.heap[T.heap.size]? = some (freshCell cX kX) := by rw [← hT1]; exact State.heap_pushCell_size _ _
  have d3' : decode c.code (pc + 3) = .ok (.dup, 1) := by rw [hb]; exact d3
  have d4' : decode c.code (pc + 4) = .ok (.ldc is, 2) := by rw [hb]; exact d4
  have hstr' : vk_R own is text sa s' := vk_R.warm hW0 hstr
  obtain ⟨U, hsteps, hrun, hend, hW, hsame, ce, hce, hO⟩ := X₁.ctorThrowS hexec htr (own := own) (cls := cls) (names := names) (ic := ic) hown' hcls hnames h (fun x hx => nomatch hx) hfX hkX hcellA (by rw [hhp, hT]; exact Nat.le_refl _) (msg := .ref sa) rfl
    (g := { method := m, pc := pc + 6, locals := ls, stack := .ref sa :: .ref T.heap.size :: .ref T.heap.size :: rest, locked := none }) rfl hsize rfl rfl (rest := rest) rfl
    (by rw [hb]; exact d6) (by rw [hb]; exact d9) hout hRframes (by simp only [List.map_cons, List.sum_cons, hcat]; omega) hlocks
  obtain ⟨f1, f2⟩ := vx_frame hsame
  rw [hhp] at f1 f2
  have hWs : s.WarmedH U.vm := State.WarmedH.trans hW0 hW
  have hcl : s.vm.findClass cls = some ce.cls := by
    have h9 := hO.cls
    rw [hvm] at h9
    exact h9
  have hall : s.sameButNew ({ U with vm := s.vm } : State) locs mc ms := by
    subst hA
    obtain ⟨e1, e2⟩ := hsame
    rw [State.setFrames_setFrames] at e1
    have h2 : (T.setVm s.vm).sameButNew ({ U with vm := s.vm } : State) [] (0 + 1) (0 + 6) := ⟨e1, e2⟩
    have h3 := X.same.trans h2
    rw [List.append_nil] at h3
    exact h3.mono hc hs
  refine ⟨U, ?_, .threw T.heap.size, hrun, hend, Or.inr ⟨T.heap.size, rfl, cls, ce, locs, hx U hWs.alike f1 (fun q hq => f2 q hq (fun z hz => nomatch hz)), hce, hO.vm, hcl, hWs, hall, hf⟩⟩
  refine st1 _ ?_
  show Steps p.tables e below (T1.setTop { method := m, pc := pc + 3, locals := ls, stack := .ref T.heap.size :: rest, locked := none }) _
  jvm_step X₁.here [X₁.here.top, hexec, d3', Value.category]
  exact X₁.ldcString hexec (own := own) (text := text) (index := is) (a := sa) hown' hstr'.1 hstr'.2
    (g := { method := m, pc := pc + 4, locals := ls, stack := .ref T.heap.size :: .ref T.heap.size :: rest, locked := none }) rfl d4' _ hsteps
/-- 'throw new E("text")', the text by a wide index -/
theorem vx_throwSW {cc : ByteArray} {pc : Nat} (hexec : p.tables.exec = Jvm.exec) (hb : c.code = cc) (hl : l.stackTraces = false) {own cls text : String} {names : List String} {ik is ic mc ms sa : Nat} {A : Nat → Prop}
    (hown : s.vm.findClass own = some m.cls) (hcls : Bundle.fit cls = true) (hnames : ∀ n ∈ names, Bundle.fit n = true)
    (hk : (Cond.classLink own ik cls).before args s = true) (hini : (Cond.initialized cls).before args s = true) (hstr : vk_R own is text sa s) (hat : ∀ w ∈ vx_atS own ic cls names, w.before args s = true)
    (hgood : ∀ w ∈ Cond.classLink own ik cls :: Cond.initialized cls :: vx_atS own ic cls names, vx_ot w = true)
    (hU : vx_Zq Bundle.tN "UNASSIGNED_STACK" Bundle.steD A s s.heap) (hN : vx_Zq Bundle.tN "SUPPRESSED_SENTINEL" Bundle.listD A s s.heap) (hS : va_S A s.heap H locs) (hsize : ls.size = c.maxLocals)
    (d0 : decode cc pc = .ok (.new ik, 3)) (d3 : decode cc (pc + 3) = .ok (.dup, 1)) (d4 : decode cc (pc + 4) = .ok (.ldc_w is, 3)) (d7 : decode cc (pc + 7) = .ok (.invokespecial ic, 3)) (d10 : decode cc (pc + 10) = .ok (.athrow, 1))
    (hout : ∀ x ∈ c.exceptionTable.toList, covers x (pc + 10) = false)
    (hRframes : names.length + 3 < R.frames) (hRlocals : (rest.map fun v => v.category).sum + (13 * (names.length + 1) + 43) ≤ R.locals) (hRcells : cells + 1 ≤ R.cells) (hRslots : slots + 6 ≤ R.slots) (hlocks : meth.locks = false)
    (hx : ∀ t : State, s.vm.Alike t.vm → H.size ≤ t.heap.size → (∀ q : Nat, q < H.size → t.heap[q]? = H[q]?) → XC cls s t)
    (hf : ∀ z ∈ locs, free z.base) (hc : cells + 1 ≤ mc) (hs : slots + 6 ≤ ms) :
    W p l e R s m args below meth c H locs cells slots (vx_MQ below Qc XC args s mc ms free) (F0 m pc ls rest) := by
  intro T hT X
  have htr : e.platform.stackTraces = false := (show e.platform.stackTraces = l.stackTraces by rw [X.admits.platform]).trans hl
  have Y := vx_rebase X (R' := { frames := R.frames, locals := R.locals, cells := 1, slots := 6 }) (Nat.le_refl _) (Nat.le_refl _) hRcells hRslots
  obtain ⟨s', hA⟩ : ∃ z, z = (T.setVm s.vm).setFrames (.invoking m args :: below) := ⟨_, rfl⟩
  rw [← hA] at Y
  have hvm : s'.vm = s.vm := by rw [hA]; rfl
  have hhp : s'.heap = H := by rw [hA]; exact hT
  have hW0 : s.WarmedH s'.vm := by rw [hvm]; exact State.WarmedH.refl s
  have hat' : ∀ w ∈ vx_atS own ic cls names, w.before args s' = true := fun w hw => vx_ot_at hW0 hvm.symm (hgood w (List.mem_cons_of_mem _ (List.mem_cons_of_mem _ hw))) (hat w hw)
  have hk' : (Cond.classLink own ik cls).before args s' = true := vx_ot_at hW0 hvm.symm (hgood _ List.mem_cons_self) hk
  have hini' : (Cond.initialized cls).before args s' = true := vx_ot_at hW0 hvm.symm (hgood _ (List.mem_cons_of_mem _ List.mem_cons_self)) hini
  have hU' : vx_Zq Bundle.tN "UNASSIGNED_STACK" Bundle.steD A s' s'.heap := by rw [hhp]; exact vx_Zq.moved hW0.alike (hU.kept hS.2.1)
  have hN' : vx_Zq Bundle.tN "SUPPRESSED_SENTINEL" Bundle.listD A s' s'.heap := by rw [hhp]; exact vx_Zq.moved hW0.alike (hN.kept hS.2.1)
  have h : ∀ w ∈ Bundle.ownAtoms own ic cls names, w.before args s' = true := vx_own hat' (vx_isRefq hU'.1) (vx_isRefq hN'.1) hU'.2.word hN'.2.word
  have hown' : s'.vm.findClass own = some m.cls := by rw [hvm]; exact hown
  have hins : (Cond.instantiable cls 6).before args s' = true := h _ (by simp [Bundle.ownAtoms])
  obtain ⟨vm₁, cX, kX, hfX, hkX, -, -, X₁, st1⟩ := Y.newCold hexec (own := own) (C := cls) (index := ik) (n := 6) hown' hk' hins hini'
    (g := F0 m pc ls rest) rfl (by rw [hb]; exact d0) (Nat.le_refl _) (Nat.le_refl _)
  generalize hT1 : (T.setVm vm₁).pushCell { cls := cX, slots := kX.instanceTypes.map defaultValue, vm := .none } = T1 at X₁ st1
  have hcat : (Value.ref T.heap.size).category = 1 := rfl
  have hcellA : T1.heap[T.heap.size]? = some (freshCell cX kX) := by rw [← hT1]; exact State.heap_pushCell_size _ _
  have d3' : decode c.code (pc + 3) = .ok (.dup, 1) := by rw [hb]; exact d3
  have d4' : decode c.code (pc + 4) = .ok (.ldc_w is, 3) := by rw [hb]; exact d4
  have hstr' : vk_R own is text sa s' := vk_R.warm hW0 hstr
  obtain ⟨U, hsteps, hrun, hend, hW, hsame, ce, hce, hO⟩ := X₁.ctorThrowS hexec htr (own := own) (cls := cls) (names := names) (ic := ic) hown' hcls hnames h (fun x hx => nomatch hx) hfX hkX hcellA (by rw [hhp, hT]; exact Nat.le_refl _) (msg := .ref sa) rfl
    (g := { method := m, pc := pc + 7, locals := ls, stack := .ref sa :: .ref T.heap.size :: .ref T.heap.size :: rest, locked := none }) rfl hsize rfl rfl (rest := rest) rfl
    (by rw [hb]; exact d7) (by rw [hb]; exact d10) hout hRframes (by simp only [List.map_cons, List.sum_cons, hcat]; omega) hlocks
  obtain ⟨f1, f2⟩ := vx_frame hsame
  rw [hhp] at f1 f2
  have hWs : s.WarmedH U.vm := State.WarmedH.trans hW0 hW
  have hcl : s.vm.findClass cls = some ce.cls := by
    have h9 := hO.cls
    rw [hvm] at h9
    exact h9
  have hall : s.sameButNew ({ U with vm := s.vm } : State) locs mc ms := by
    subst hA
    obtain ⟨e1, e2⟩ := hsame
    rw [State.setFrames_setFrames] at e1
    have h2 : (T.setVm s.vm).sameButNew ({ U with vm := s.vm } : State) [] (0 + 1) (0 + 6) := ⟨e1, e2⟩
    have h3 := X.same.trans h2
    rw [List.append_nil] at h3
    exact h3.mono hc hs
  refine ⟨U, ?_, .threw T.heap.size, hrun, hend, Or.inr ⟨T.heap.size, rfl, cls, ce, locs, hx U hWs.alike f1 (fun q hq => f2 q hq (fun z hz => nomatch hz)), hce, hO.vm, hcl, hWs, hall, hf⟩⟩
  refine st1 _ ?_
  show Steps p.tables e below (T1.setTop { method := m, pc := pc + 3, locals := ls, stack := .ref T.heap.size :: rest, locked := none }) _
  jvm_step X₁.here [X₁.here.top, hexec, d3', Value.category]
  exact X₁.ldcStringW hexec (own := own) (text := text) (index := is) (a := sa) hown' hstr'.1 hstr'.2
    (g := { method := m, pc := pc + 4, locals := ls, stack := .ref T.heap.size :: .ref T.heap.size :: rest, locked := none }) rfl d4' _ hsteps
end Ends
section Bodies
variable {l : Launch}
theorem vx_ofW {y : MethodName} {ws ws' : List Cond} {rm : Room} {Pc : Array Value → State → Prop} {Qc : Array Value → State → Outcome → State → Prop} {XC : String → State → State → Prop} {mc ms : Nat} {free : Addr → Prop} {cc : ByteArray} {maxL : Nat} {ret : Option FieldType}
    (hy : plainName y.cls = true) (hw : ws = Cond.code y cc maxL ret :: ws')
    (body : ∀ p e s m args below meth c s₁, BodyLoose p l y (headSpec ws rm) cc maxL ret e s m args below meth c s₁ → c.maxLocals = maxL → (∀ x ∈ c.exceptionTable.toList, False) → Pc args s →
      W p l e (headSpec ws rm).room s m args below meth c s.heap [] 0 0 (vx_MQ below Qc XC args s mc ms free) (entryFrame m args maxL)) : vx_Met l y ws rm Pc Qc XC mc ms free := by
  refine MetFree.of_bodyS (code := cc) (maxLocals := maxL) (ret := ret) hy ?_ ?_
  · intro args s m h hn
    obtain ⟨meth, c, h1, h2, h3, h4, h5, h6, -, -⟩ := Cond.code_spec hn (atoms_spec (ws := ws) h _ (by rw [hw]; exact List.mem_cons_self))
    exact ⟨meth, c, h1, h2, h3, h4, h5, h6⟩
  · intro p e s m args below meth c s₁ B hml hP _
    have hh0 : s₁.heap = s.heap := by rw [B.state]; rfl
    have ht : ∀ x ∈ c.exceptionTable.toList, False := by
      obtain ⟨meth9, c9, h1, h2, -, -, -, -, h7, -⟩ := Cond.code_spec B.named (atoms_spec (ws := ws) B.pre _ (by rw [hw]; exact List.mem_cons_self))
      cases Option.some.inj (h1.symm.trans B.method)
      cases Option.some.inj (h2.symm.trans (Stand.of_body B).code)
      intro x hx
      rw [Array.isEmpty_iff.mp h7] at hx
      cases hx
    obtain ⟨t, a1, o, b1, b2, b3⟩ := body p e s m args below meth c s₁ B hml ht hP s₁ hh0 (Stand.of_body B)
    exact ⟨t, o, a1, b1, b2, b3⟩
/-- the table of a body with handlers -/
theorem vx_table {p : Program} {x y : MethodName} {S : Spec} {cc bytes : ByteArray} {maxL maxL' : Nat} {ret ret' : Option FieldType} {e : Env} {s s₁ : State} {m : MethodId} {args : Array Value} {below : List Frame} {meth : Method} {c : Code} {hh : List (Nat × Nat × Nat × Nat)}
    (B : BodyLoose p l y S cc maxL ret e s m args below meth c s₁) (h : (Cond.codeWith y bytes maxL' ret' hh).before args s = true) : c.exceptionTable.toList = tableOf hh := by
  obtain ⟨m9, meth9, c9, hn9, h1, h2, -, -, h6, -⟩ := Cond.codeWith_spec h
  cases Option.some.inj (hn9.symm.trans B.named)
  cases Option.some.inj (h1.symm.trans B.method)
  cases Option.some.inj (h2.symm.trans (Stand.of_body B).code)
  rw [← h6, table_eq]
end Bodies
end VXA
/-! ===== END ===== -/
/-! ===== BEGIN a static call of a method with an exception table ===== -/
section VXS
variable {p : Program} {l : Launch} {e : Env} {R : Room} {s : State} {m : MethodId} {args : Array Value} {below : List Frame} {meth : Method} {c : Code} {T : State} {H : Heap} {locs : List Loc} {cells slots : Nat}
abbrev vx_CSW (R : Room) (s : State) (args : Array Value) (own : String) (index : Nat) (y : MethodName) (bytes : ByteArray) (maxL : Nat) (ret : Option FieldType) (hh : List (Nat × Nat × Nat × Nat)) (ws : List Cond) (rm : Room) (mc ms n : Nat) : Prop :=
  (rm.cells = mc ∧ rm.slots = ms ∧ rm.frames + 1 ≤ R.frames ∧ 8 + (maxL + 11) + rm.locals ≤ R.locals ∧ (∀ w ∈ ws, ∀ (a' : Array Value) (U : State), s.WarmedH U.vm → w.before a' U = true) ∧ Cond.codeWith y bytes maxL ret hh ∈ ws) ∧
  (Cond.codeWith y bytes maxL ret hh).before args s = true ∧ (Cond.initialized y.cls).before args s = true ∧ (y.cls ≠ "java/lang/invoke/MethodHandle" ∧ y.cls ≠ "java/lang/invoke/VarHandle") ∧
  (∀ sig, parseMethodDescriptor y.desc = some sig → n = sig.parameters.length) ∧ (Cond.methodLink own index y).before args s = true ∧ (Cond.static y).before args s = true
theorem vx_cwSW {own : String} {index maxL mc ms : Nat} {y : MethodName} {bytes : ByteArray} {ret : Option FieldType} {hh : List (Nat × Nat × Nat × Nat)} {Ts ws ws' : List Cond} {rm : Room} (n : Nat) (ht : ∀ w ∈ Ts, w.before args s = true) (hT : GoodIn Ts (va_wsS own index y ws)) (hw : ws = Cond.codeWith y bytes maxL ret hh :: ws') (hrc : rm.cells = mc) (hrs : rm.slots = ms)
    (hd : y.cls ≠ "java/lang/invoke/MethodHandle" ∧ y.cls ≠ "java/lang/invoke/VarHandle" ∧ (parseMethodDescriptor y.desc).map (fun d => d.parameters.length) = some n) (hR : rm.frames + 1 ≤ R.frames ∧ 8 + (maxL + 11) + rm.locals ≤ R.locals) :
    vx_CSW R s args own index y bytes maxL ret hh ws rm mc ms n := by
  have ok : ∀ w ∈ va_wsS own index y ws, w.before args s = true := fun w h => ht w (hT w h).1
  have hG : GoodIn Ts ws := fun w h => hT w (by unfold va_wsS; exact List.mem_append_right _ h)
  have hc : Cond.codeWith y bytes maxL ret hh ∈ ws := by rw [hw]; exact List.mem_cons_self
  refine ⟨⟨hrc, hrs, hR.1, hR.2, pay_in ht hG, hc⟩, ht _ (hG _ hc).1, ok _ (by simp [va_wsS]), ⟨hd.1, hd.2.1⟩, fun sig h => ?_, ok _ (by simp [va_wsS]), ok _ (by simp [va_wsS])⟩
  have h2 := hd.2.2
  rw [h] at h2
  exact (Option.some.inj h2).symm
theorem vx_callSW (X : Stand p l e R s m args below meth c T locs cells slots) (hexec : p.tables.exec = Jvm.exec) {own : String} {index : Nat} {y : MethodName} {bytes : ByteArray} {maxL : Nat} {ret : Option FieldType} {hh : List (Nat × Nat × Nat × Nat)}
    (hown : s.vm.findClass own = some m.cls) (hlink : (Cond.methodLink own index y).before args s = true) (hstat : (Cond.static y).before args s = true) (hinit : (Cond.initialized y.cls).before args s = true)
    (hcode : (Cond.codeWith y bytes maxL ret hh).before args s = true) (hy : y.cls ≠ "java/lang/invoke/MethodHandle" ∧ y.cls ≠ "java/lang/invoke/VarHandle")
    {W9 : Nat} {Pre : Pt → Array Value → Prop} {Post : Pt → Array Value → Option Value → Pt → Prop} (hK : Back l R p e below s args y 3 W9 Pre Post)
    {g : JFrame} (hg : g.method = m) (hsize : g.locals.size = c.maxLocals) {argsL rest : List Value} (hlen : ∀ sig, parseMethodDescriptor y.desc = some sig → argsL.length = sig.parameters.length)
    (hstack : g.stack = argsL.reverse ++ rest) (hW : 2 * g.monitorRoom + (rest.map fun v => v.category).sum ≤ W9) (hdg : decode c.code g.pc = .ok (.invokestatic index, 3))
    (hpre : ∀ vm₁, s.WarmedH vm₁ → Pre ⟨T.setVm vm₁, locs, cells, slots⟩ argsL.toArray) :
    ∃ (v : Option Value) (vm₁ : Vm) (B : Pt), s.WarmedH vm₁ ∧ Stand p l e R s m args below meth c B.U B.locs B.cells B.slots ∧ Post ⟨T.setVm vm₁, locs, cells, slots⟩ argsL.toArray v B ∧
      ∀ target, Steps p.tables e below (B.U.setTop { g with pc := g.pc + 3, stack := v.toList ++ rest }) target → Steps p.tables e below (T.setTop g) target := by
  obtain ⟨mk, methM, cM, hnamed, hmethM, -, -, -, -, -, -, hsigM⟩ := Cond.codeWith_spec hcode
  have hstatic : methM.isStatic = true := Cond.static_spec hnamed hmethM hstat
  obtain ⟨kP, hkP, -⟩ := className_of_methodNamed hnamed
  have hinitP : kP.init = .initialized := Cond.initialized_spec (findClass_of_methodNamed hnamed) hkP hinit
  obtain ⟨vm₁, X₁, hstep₁⟩ := X.invokestatic hexec hown hlink hnamed hmethM hstatic hkP hinitP hy (g := g) hg (argsL := argsL) (rest := rest) (hlen _ hsigM) hstack hdg
  obtain ⟨v, B, X', hpost, hsteps⟩ := hK m meth c ⟨T.setVm vm₁, locs, cells, slots⟩ { g with stack := rest } (.invokestatic index) mk argsL.toArray X₁ hg hsize hdg hW (X₁.named hnamed) (hpre vm₁ X₁.warmed)
  exact ⟨v, vm₁, B, X₁.warmed, X', hpost, fun target h => hstep₁ _ fun acts => by rw [doInvoke_state]; exact hsteps.trans h⟩
theorem vx_runSW {y : MethodName} {bytes cc : ByteArray} {maxL nL mc ms n index : Nat} {ret : Option FieldType} {hh : List (Nat × Nat × Nat × Nat)} {ws : List Cond} {rm : Room} {Pc : Array Value → State → Prop} {Qc : Array Value → State → Outcome → State → Prop} {free : Addr → Prop} {Ts : List Cond} {own : String} {As rest : List Value} {g : JFrame}
    (S : CallFix p m c cc nL s args Ts own) (hM : Met l y ws rm Pc Qc mc ms free) (cw : vx_CSW R s args own index y bytes maxL ret hh ws rm mc ms n) (hp : PreS s H Pc As)
    (hg : g.method = m) (hn : As.length = n) (hsize : g.locals.size = nL) (hstack : g.stack = As.reverse ++ rest) (hW : 2 * g.monitorRoom + (rest.map fun v => v.category).sum ≤ 8) (hdg : decode cc g.pc = .ok (.invokestatic index, 3)) (hf : cells + mc ≤ R.cells ∧ slots + ms ≤ R.slots) :
    va_Run p l e R s m args below meth c H locs cells slots mc ms g rest (Qc As.toArray) (free) := by
  obtain ⟨⟨hrc, hrs, hfr, hlo, hws, hcw⟩, hcode, hini, hy, hlen, hl, hstt⟩ := cw
  have hK : Back l R p e below s args y 3 8 (PreOf R mc ms Pc) (PostOf Qc mc ms free) := va_backW (hh := hh) (bytes := bytes) (maxL := maxL) (ret := ret) hM hp.1 hrc hrs hfr hlo hws hcw (fun a' U hW => word_at hW (Or.inl (by first | rfl | simp [Cond.onTables, Cond.keeps, Cond.steady])) hini)
  obtain ⟨hx, hb, hml, ho, -⟩ := S
  intro T hT X
  obtain ⟨v, vm₁, ⟨U', l2, c2, s2⟩, hW₁, X', ⟨g', mk, t, L, e1, e2, hq, h1, hL, h2, h3⟩, st⟩ := vx_callSW X hx (hh := hh) (bytes := bytes) (maxL := maxL) (ret := ret) ho hl hstt hini hcode hy hK hg (hsize.trans hml.symm) (argsL := As) (rest := rest) (fun sig h => hn.trans (hlen sig h)) hstack hW (by rw [hb]; exact hdg)
    (fun vm₁ hW₁ => ⟨hf.1, hf.2, hp.2 (T.setVm vm₁) hT hW₁⟩)
  dsimp only [Pt.U, Pt.locs, Pt.cells, Pt.slots] at X' e1 e2 h1 h2 h3 st
  subst h1; subst h2; subst h3
  exact ⟨v, (T.setVm vm₁).calling g' mk As.toArray, t, U', L, hT, X', hL, e1, e2, hq, st⟩
/-- not caught here, past rows that name other classes: it goes on to the caller -/
theorem vx_outP {p : Program} {l : Launch} {e : Env} {R : Room} {s : State} {m : MethodId} {args : Array Value} {below : List Frame} {meth : Method} {c : Code} {H : Heap} {locs : List Loc} {cells slots : Nat} {free : Addr → Prop} {ls : Array Slot} {rest : List Value} {Qc : Array Value → State → Outcome → State → Prop} {XC : String → State → State → Prop}
    {pc : Nat} {own E : String} {ce : Cell} {q : Addr} {mc ms : Nat} (hown : s.vm.findClass own = some m.cls) (hlocks : meth.locks = false)
    (hpass : ∀ z ∈ c.exceptionTable.toList, covers z pc = false ∨ (z.catchType ≠ 0 ∧ ∃ nm : String, (Cond.classLink own z.catchType nm).before args s = true ∧ va_Nc E nm s)) (hcell : H[q]? = some ce) (hv : ce.vm = .none) (hcl : s.vm.findClass E = some ce.cls)
    (hx : ∀ t : State, t.heap = H → s.vm.Alike t.vm → XC E s t) (hf : ∀ z ∈ locs, free z.base) (hc : cells ≤ mc) (hs : slots ≤ ms) :
    vx_W p l e R s m args below meth c H locs cells slots (vx_MQ below Qc XC args s mc ms free) (F0 m pc ls rest) q := by
  intro T hT X
  have hpl : e.platform.magicAccessors = ({} : Platform).magicAccessors := by rw [X.admits.platform]
  obtain ⟨vm', hW', X', st⟩ := X.outThrough hlocks q (g := F0 m pc ls rest) rfl rfl rfl (cell := ce) (by rw [hT]; exact hcell) (by rw [hv]; rfl)
    (by obtain ⟨k9, h9, -⟩ := Vm.findClass_spec hcl; exact ⟨k9, h9⟩) (fun z hz => by
      rcases hpass z hz with h | ⟨hz0, nm, hl1, hn1⟩
      · exact Or.inl h
      · obtain ⟨c6, hc6, hcl6⟩ := Cond.classLink_spec hown hl1 e.platform hpl
        obtain ⟨a8, b8, h1, h2, h3⟩ := hn1
        cases Option.some.inj (h1.symm.trans hcl)
        cases Option.some.inj (h2.symm.trans hc6)
        exact Or.inr ⟨hz0, _, hcl6, h3⟩)
  obtain ⟨g₀, hfr⟩ := X'.frames_eq
  have hcell9 : ((T.setVm vm').setFrames (.throwing q :: below)).heap[q]? = some ce := by
    show T.heap[q]? = some ce
    rw [hT]; exact hcell
  have hend : Ended ((T.setVm vm').setFrames (.throwing q :: below)) below (.threw q) := State.frames_setFrames _ (State.cur_lt_of_frames hfr)
  refine ⟨(T.setVm vm').setFrames (.throwing q :: below), ?_, .threw q, X'.here.running, hend, Or.inr ⟨q, rfl, E, ce, locs, hx _ hT (X'.ends _).1.alike, hcell9, hv, hcl, (X'.ends _).1, (X'.ends _).2.mono hc hs, hf⟩⟩
  rw [X.pushThrowing_eq]
  exact st
/-- a thing of a world lies in the heap -/
theorem vx_lt {D : va_G} {cl : List vw_C} {ws : va_W} {H1 : Heap} (h : va_P D cl ws H1) {k : Nat} {q : Nat × va_E} (hk : ws[k]? = some q) : q.1 < H1.size := (h k q hk).lt
end VXS
/-! ===== END ===== -/
/-! ===== BEGIN methods with a table of their own: called by a name, returning or throwing ===== -/
section VXH
/-! vx_backW, vx_callVX, vx_callSX, vx_callVW, vx_runVW, vx_runVX, vx_runSX, vx_ofWH follow the same proofs as their sisters above (Free/Laws.lean, Shelf42/LK1.lean); vx_outP calls Shelf42/NT130.lean (outThrough). -/
section
variable {l : Launch} {R : Room} {p : Program} {e : Env} {below : List Frame} {s : State} {sargs : Array Value} {y : MethodName} {len W9 : Nat}
theorem vx_backW {ws : List Cond} {rm : Room} {Pc : Array Value → State → Prop} {Qc : Array Value → State → Outcome → State → Prop} {XC : String → State → State → Prop} {mc ms : Nat} {free : Addr → Prop} {bytes : ByteArray} {maxL : Nat} {ret : Option FieldType} {hh : List (Nat × Nat × Nat × Nat)}
    (hM : vx_Met l y ws rm Pc Qc XC mc ms free) (hblind : FrameBlind Pc) (hrc : rm.cells = mc) (hrs : rm.slots = ms)
    (hframes : rm.frames + 1 ≤ R.frames) (hlocals : W9 + (maxL + 11) + rm.locals ≤ R.locals)
    (hws : ∀ w ∈ ws, ∀ a' U, s.WarmedH U.vm → w.before a' U = true) (hcode : Cond.codeWith y bytes maxL ret hh ∈ ws) (hinit : ∀ a' U, s.WarmedH U.vm → (Cond.initialized y.cls).before a' U = true) :
    vx_Back l R p e below s sargs y len W9 (PreOf R mc ms Pc) (PostOf Qc mc ms free) (vx_Post XC mc ms free) := by
  intro m meth c A g ig mk a X hg hsize hdg hW hn hp
  have h1 : (headSpec ws rm).pre.before a A.U = true := atoms_intro fun w hw => hws w hw _ _ X.warmed
  have h2 : (Cond.codeWith y bytes maxL ret hh).before a A.U = true := hws _ hcode _ _ X.warmed
  have h3 : (Cond.initialized y.cls).before a A.U = true := hinit _ _ X.warmed
  have h4 : A.cells + (headSpec ws rm).room.cells ≤ R.cells := by rw [show (headSpec ws rm).room.cells = mc from hrc]; exact hp.1
  have h5 : A.slots + (headSpec ws rm).room.slots ≤ R.slots := by rw [show (headSpec ws rm).room.slots = ms from hrs]; exact hp.2.1
  have hPc : Pc a (A.U.calling g mk a) := hblind _ _ _ _ hp.2.2
  obtain ⟨U, Ls, c0, s0⟩ := A
  dsimp only [Pt.U, Pt.locs, Pt.cells, Pt.slots] at h1 h2 h3 h4 h5 X hn hPc ⊢
  obtain ⟨m9, methY, cY, hn9, hmY, hcY, -, hlY, -⟩ := Cond.codeWith_spec h2
  cases Option.some.inj (hn9.symm.trans hn)
  obtain ⟨kY, hkY, -⟩ := className_of_methodNamed hn
  have hinitY : kY.init = .initialized := Cond.initialized_spec (findClass_of_methodNamed hn) hkY h3
  have h : At U g.method c below := by rw [hg]; exact X.here
  have hlocals9 : W9 + (maxL + 11) + (headSpec ws rm).room.locals ≤ R.locals := hlocals
  have happ : (headSpec ws rm).appliesLoose y e.platform (U.calling g mk a) = true :=
    Spec.appliesLoose_calling (g := g) h hdg hn hkY hinitY
      (X.room_calling (g := g) (R' := (headSpec ws rm).room) hsize hmY hcY hframes (by rw [hlY]; omega) h4 h5) h1
  obtain ⟨mid, hmid⟩ := h.above
  have hfr : (U.setTop g).frames = (.java g :: mid) ++ below := by rw [State.frames_setTop' g h.top, hmid]; rfl
  obtain ⟨o, s₂, hsteps, -, hend, hq⟩ := Steps.callFree hM p X.admits X.cas X.clock (acts := []) hfr happ hPc trivial
  have hq' : vx_Q Qc XC mc ms free a (U.calling g mk a) o s₂ := hq
  rw [State.frames_setTop' g h.top] at hend
  obtain ⟨g₀, hg0⟩ := Option.isSome_iff_exists.mp h.top
  obtain ⟨r, hr⟩ := State.topJava?_eq_some.mp hg0
  have hr' : (({ U with heap := s₂.heap, slotsUsed := s₂.slotsUsed } : State).setVm s₂.vm).frames = .java g₀ :: r := hr
  rcases hq' with ⟨hqc, L, hfe, hL⟩ | ⟨q, rfl, E, ce, L, hx, hce, hcv, hcl, hW₂, hsm, hL⟩
  · obtain ⟨⟨v, rfl⟩, hW₂, e2, q2, q3, q4, q5, q6⟩ := id hfe
    have e3 : s₂ = ({ (U.calling g mk a).setFrames s₂.frames with heap := s₂.heap, slotsUsed := s₂.slotsUsed } : State).setVm s₂.vm := by
      have : s₂ = ({ s₂ with vm := (U.calling g mk a).vm } : State).setVm s₂.vm := rfl
      rw [e2] at this
      exact this
    obtain ⟨c₂, i₂, len₂, hc₂, hd₂, hf₂⟩ := hend
    have hW' : U.WarmedH s₂.vm := hW₂
    have hcc : c₂ = c := by
      have h1 : s₂.code? g.method = U.code? g.method := by
        rw [State.code?_eq, State.code?_eq, hW'.alike.method?]
      exact Option.some.inj (hc₂.symm.trans (h1.trans h.code))
    subst hcc
    have hlen : len₂ = len := by rw [hdg] at hd₂; cases hd₂; rfl
    subst hlen
    have hs₂ : s₂ = (({ U with heap := s₂.heap, slotsUsed := s₂.slotsUsed } : State).setVm s₂.vm).setTop { g with pc := g.pc + len₂, stack := v.toList ++ g.stack } := by
      refine e3.trans ?_
      rw [hf₂, State.calling_eq h.top, State.setFrames_setFrames, State.setTop_of_frames _ hr', hr]
      rfl
    have hsame : U.sameButNew ({ U with heap := s₂.heap, slotsUsed := s₂.slotsUsed } : State) L mc ms := by
      refine ⟨?_, q2, q3, q4, q5, q6⟩
      obtain ⟨t, ht, -⟩ := State.frames_cons hr
      show ({ U with heap := s₂.heap, slotsUsed := s₂.slotsUsed } : State) = { U.setFrames U.frames with heap := s₂.heap, slotsUsed := s₂.slotsUsed }
      rw [State.setFrames_self ht]
    subst hg
    refine Or.inl ⟨v, ⟨(({ U with heap := s₂.heap, slotsUsed := s₂.slotsUsed } : State).setVm s₂.vm), Ls ++ L, c0 + mc, s0 + ms⟩,
      ⟨X.admits, X.cas, X.clock, X.frames, X.room, X.hears, X.method, X.code, (X.here.setHeapUsed s₂.heap s₂.slotsUsed).setVm hW'.alike, X.tail, State.WarmedH.trans X.warmed hW', X.limits, X.bytes, X.same.trans (hsame.setVm s.vm)⟩,
      ⟨g, mk, s₂, L, rfl, rfl, hqc, rfl, hL, rfl, rfl⟩, ?_⟩
    show Steps p.tables e below _ ((({ U with heap := s₂.heap, slotsUsed := s₂.slotsUsed } : State).setVm s₂.vm).setTop { g with pc := g.pc + len₂, stack := v.toList ++ g.stack })
    rw [← hs₂]
    exact hsteps
  · obtain ⟨e2, q2, q3, q4, q5, q6⟩ := id hsm
    have e3 : s₂ = ({ (U.calling g mk a).setFrames s₂.frames with heap := s₂.heap, slotsUsed := s₂.slotsUsed } : State).setVm s₂.vm := by
      have : s₂ = ({ s₂ with vm := (U.calling g mk a).vm } : State).setVm s₂.vm := rfl
      rw [e2] at this
      exact this
    have hf₂ : s₂.frames = .throwing q :: .java g :: U.frames.tail := hend
    have hW' : U.WarmedH s₂.vm := hW₂
    have hs₂ : s₂ = ((({ U with heap := s₂.heap, slotsUsed := s₂.slotsUsed } : State).setVm s₂.vm).setTop g).pushFrame (.throwing q) := by
      refine e3.trans ?_
      rw [hf₂, State.calling_eq h.top, State.setFrames_setFrames, State.pushFrame, State.frames_setTop _ hr', State.setTop_of_frames _ hr', State.setFrames_setFrames, hr]
      rfl
    have hsame : U.sameButNew ({ U with heap := s₂.heap, slotsUsed := s₂.slotsUsed } : State) L mc ms := by
      refine ⟨?_, q2, q3, q4, q5, q6⟩
      obtain ⟨t, ht, -⟩ := State.frames_cons hr
      show ({ U with heap := s₂.heap, slotsUsed := s₂.slotsUsed } : State) = { U.setFrames U.frames with heap := s₂.heap, slotsUsed := s₂.slotsUsed }
      rw [State.setFrames_self ht]
    subst hg
    refine Or.inr ⟨q, ⟨(({ U with heap := s₂.heap, slotsUsed := s₂.slotsUsed } : State).setVm s₂.vm), Ls ++ L, c0 + mc, s0 + ms⟩,
      ⟨X.admits, X.cas, X.clock, X.frames, X.room, X.hears, X.method, X.code, (X.here.setHeapUsed s₂.heap s₂.slotsUsed).setVm hW'.alike, X.tail, State.WarmedH.trans X.warmed hW', X.limits, X.bytes, X.same.trans (hsame.setVm s.vm)⟩,
      ⟨g, mk, s₂, L, E, ce, rfl, rfl, hx, hce, hcv, hcl, rfl, hL, rfl, rfl⟩, ?_⟩
    show Steps p.tables e below _ (((({ U with heap := s₂.heap, slotsUsed := s₂.slotsUsed } : State).setVm s₂.vm).setTop g).pushFrame (.throwing q))
    rw [← hs₂]
    exact hsteps
end
variable {p : Program} {l : Launch} {e : Env} {R : Room} {s : State} {m : MethodId} {args : Array Value} {below : List Frame} {meth : Method} {c : Code} {T : State} {H : Heap} {locs : List Loc} {cells slots : Nat}
theorem vx_callVX (X : Stand p l e R s m args below meth c T locs cells slots) (hexec : p.tables.exec = Jvm.exec) {own C : String} {index : Nat} {y : MethodName} {bytes : ByteArray} {maxL : Nat} {ret : Option FieldType} {hh : List (Nat × Nat × Nat × Nat)}
    (hown : s.vm.findClass own = some m.cls) (hlink : (Cond.methodLink own index y).before args s = true) (hinst : (Cond.instanceMethod y).before args s = true) (hsel : (Cond.selects C y y).before args s = true)
    (hcode : (Cond.codeWith y bytes maxL ret hh).before args s = true) (hy : y.cls ≠ "java/lang/invoke/MethodHandle" ∧ y.cls ≠ "java/lang/invoke/VarHandle")
    {W9 : Nat} {Pre : Pt → Array Value → Prop} {Post : Pt → Array Value → Option Value → Pt → Prop} {PostX : Pt → Array Value → Addr → Pt → Prop} (hK : vx_Back l R p e below s args y 3 W9 Pre Post PostX)
    {b : Addr} {cellB : Cell} (hcell : T.heap[b]? = some cellB) (hobj : cellB.vm.isStatics = false) (hcls : s.vm.findClass C = some cellB.cls)
    {g : JFrame} (hg : g.method = m) (hsize : g.locals.size = c.maxLocals) {argsL rest : List Value} (hlen : ∀ sig, parseMethodDescriptor y.desc = some sig → argsL.length = sig.parameters.length)
    (hstack : g.stack = argsL.reverse ++ .ref b :: rest) (hW : 2 * g.monitorRoom + (rest.map fun v => v.category).sum ≤ W9) (hdg : decode c.code g.pc = .ok (.invokevirtual index, 3))
    (hpre : ∀ vm₁, s.WarmedH vm₁ → Pre ⟨T.setVm vm₁, locs, cells, slots⟩ (Value.ref b :: argsL).toArray) :
    (∃ (v : Option Value) (vm₁ : Vm) (B : Pt), s.WarmedH vm₁ ∧ Stand p l e R s m args below meth c B.U B.locs B.cells B.slots ∧ Post ⟨T.setVm vm₁, locs, cells, slots⟩ (Value.ref b :: argsL).toArray v B ∧
      ∀ target, Steps p.tables e below (B.U.setTop { g with pc := g.pc + 3, stack := v.toList ++ rest }) target → Steps p.tables e below (T.setTop g) target) ∨
    (∃ (q : Addr) (vm₁ : Vm) (B : Pt), s.WarmedH vm₁ ∧ Stand p l e R s m args below meth c B.U B.locs B.cells B.slots ∧ PostX ⟨T.setVm vm₁, locs, cells, slots⟩ (Value.ref b :: argsL).toArray q B ∧
      Steps p.tables e below (T.setTop g) ((B.U.setTop { g with stack := rest }).pushFrame (.throwing q))) := by
  obtain ⟨mk, methM, hnamed, hmethM, hstM, habM⟩ := Cond.instanceMethod_spec hinst
  obtain ⟨m8, methM', cM, hn8, hmethM', -, -, -, -, -, -, hsigM⟩ := Cond.codeWith_spec hcode
  cases Option.some.inj (hn8.symm.trans hnamed)
  cases hmethM.symm.trans hmethM'
  obtain ⟨c2, r2, m2, q1, q2, q3, q4, kP, hkP, hkPi⟩ := Cond.selects_spec hsel
  cases hcls.symm.trans q1
  cases (State.methodFound?_of_named hnamed hy).symm.trans q2
  cases hnamed.symm.trans q3
  have hselP : selectMethod e.platform s.vm cellB.cls mk = .method mk := by rw [Launch.admits_selectMethod X.admits]; exact q4
  obtain ⟨vm₁, X₁, hstep₁⟩ := X.invokevirtual hexec hown hlink hnamed hmethM hstM hkP hkPi hy (a := b) (cell := cellB) hcell
    (fun z h => by rw [h] at hobj; cases hobj) hselP hmethM habM hkP hkPi (g := g) hg (argsL := argsL) (rest := rest) (hlen _ hsigM) hstack hdg
  rcases hK m meth c ⟨T.setVm vm₁, locs, cells, slots⟩ { g with stack := rest } (.invokevirtual index) mk (Value.ref b :: argsL).toArray X₁ hg hsize hdg hW (X₁.named hnamed) (hpre vm₁ X₁.warmed) with ⟨v, B, X', hpost, hsteps⟩ | ⟨q, B, X', hpost, hsteps⟩
  · exact Or.inl ⟨v, vm₁, B, X₁.warmed, X', hpost, fun target h => hstep₁ _ fun acts => by rw [doInvoke_state]; exact hsteps.trans h⟩
  · exact Or.inr ⟨q, vm₁, B, X₁.warmed, X', hpost, hstep₁ _ fun acts => by rw [doInvoke_state]; exact hsteps⟩
theorem vx_callSX (X : Stand p l e R s m args below meth c T locs cells slots) (hexec : p.tables.exec = Jvm.exec) {own : String} {index : Nat} {y : MethodName} {bytes : ByteArray} {maxL : Nat} {ret : Option FieldType} {hh : List (Nat × Nat × Nat × Nat)}
    (hown : s.vm.findClass own = some m.cls) (hlink : (Cond.methodLink own index y).before args s = true) (hstat : (Cond.static y).before args s = true) (hinit : (Cond.initialized y.cls).before args s = true)
    (hcode : (Cond.codeWith y bytes maxL ret hh).before args s = true) (hy : y.cls ≠ "java/lang/invoke/MethodHandle" ∧ y.cls ≠ "java/lang/invoke/VarHandle")
    {W9 : Nat} {Pre : Pt → Array Value → Prop} {Post : Pt → Array Value → Option Value → Pt → Prop} {PostX : Pt → Array Value → Addr → Pt → Prop} (hK : vx_Back l R p e below s args y 3 W9 Pre Post PostX)
    {g : JFrame} (hg : g.method = m) (hsize : g.locals.size = c.maxLocals) {argsL rest : List Value} (hlen : ∀ sig, parseMethodDescriptor y.desc = some sig → argsL.length = sig.parameters.length)
    (hstack : g.stack = argsL.reverse ++ rest) (hW : 2 * g.monitorRoom + (rest.map fun v => v.category).sum ≤ W9) (hdg : decode c.code g.pc = .ok (.invokestatic index, 3))
    (hpre : ∀ vm₁, s.WarmedH vm₁ → Pre ⟨T.setVm vm₁, locs, cells, slots⟩ argsL.toArray) :
    (∃ (v : Option Value) (vm₁ : Vm) (B : Pt), s.WarmedH vm₁ ∧ Stand p l e R s m args below meth c B.U B.locs B.cells B.slots ∧ Post ⟨T.setVm vm₁, locs, cells, slots⟩ argsL.toArray v B ∧
      ∀ target, Steps p.tables e below (B.U.setTop { g with pc := g.pc + 3, stack := v.toList ++ rest }) target → Steps p.tables e below (T.setTop g) target) ∨
    (∃ (q : Addr) (vm₁ : Vm) (B : Pt), s.WarmedH vm₁ ∧ Stand p l e R s m args below meth c B.U B.locs B.cells B.slots ∧ PostX ⟨T.setVm vm₁, locs, cells, slots⟩ argsL.toArray q B ∧
      Steps p.tables e below (T.setTop g) ((B.U.setTop { g with stack := rest }).pushFrame (.throwing q))) := by
  obtain ⟨mk, methM, cM, hnamed, hmethM, -, -, -, -, -, -, hsigM⟩ := Cond.codeWith_spec hcode
  have hstatic : methM.isStatic = true := Cond.static_spec hnamed hmethM hstat
  obtain ⟨kP, hkP, -⟩ := className_of_methodNamed hnamed
  have hinitP : kP.init = .initialized := Cond.initialized_spec (findClass_of_methodNamed hnamed) hkP hinit
  obtain ⟨vm₁, X₁, hstep₁⟩ := X.invokestatic hexec hown hlink hnamed hmethM hstatic hkP hinitP hy (g := g) hg (argsL := argsL) (rest := rest) (hlen _ hsigM) hstack hdg
  rcases hK m meth c ⟨T.setVm vm₁, locs, cells, slots⟩ { g with stack := rest } (.invokestatic index) mk argsL.toArray X₁ hg hsize hdg hW (X₁.named hnamed) (hpre vm₁ X₁.warmed) with ⟨v, B, X', hpost, hsteps⟩ | ⟨q, B, X', hpost, hsteps⟩
  · exact Or.inl ⟨v, vm₁, B, X₁.warmed, X', hpost, fun target h => hstep₁ _ fun acts => by rw [doInvoke_state]; exact hsteps.trans h⟩
  · exact Or.inr ⟨q, vm₁, B, X₁.warmed, X', hpost, hstep₁ _ fun acts => by rw [doInvoke_state]; exact hsteps⟩
theorem vx_callVW (X : Stand p l e R s m args below meth c T locs cells slots) (hexec : p.tables.exec = Jvm.exec) {own C : String} {index : Nat} {y : MethodName} {bytes : ByteArray} {maxL : Nat} {ret : Option FieldType} {hh : List (Nat × Nat × Nat × Nat)}
    (hown : s.vm.findClass own = some m.cls) (hlink : (Cond.methodLink own index y).before args s = true) (hinst : (Cond.instanceMethod y).before args s = true) (hsel : (Cond.selects C y y).before args s = true)
    (hcode : (Cond.codeWith y bytes maxL ret hh).before args s = true) (hy : y.cls ≠ "java/lang/invoke/MethodHandle" ∧ y.cls ≠ "java/lang/invoke/VarHandle")
    {W9 : Nat} {Pre : Pt → Array Value → Prop} {Post : Pt → Array Value → Option Value → Pt → Prop} (hK : Back l R p e below s args y 3 W9 Pre Post)
    {b : Addr} {cellB : Cell} (hcell : T.heap[b]? = some cellB) (hobj : cellB.vm.isStatics = false) (hcls : s.vm.findClass C = some cellB.cls)
    {g : JFrame} (hg : g.method = m) (hsize : g.locals.size = c.maxLocals) {argsL rest : List Value} (hlen : ∀ sig, parseMethodDescriptor y.desc = some sig → argsL.length = sig.parameters.length)
    (hstack : g.stack = argsL.reverse ++ .ref b :: rest) (hW : 2 * g.monitorRoom + (rest.map fun v => v.category).sum ≤ W9) (hdg : decode c.code g.pc = .ok (.invokevirtual index, 3))
    (hpre : ∀ vm₁, s.WarmedH vm₁ → Pre ⟨T.setVm vm₁, locs, cells, slots⟩ (Value.ref b :: argsL).toArray) :
    ∃ (v : Option Value) (vm₁ : Vm) (B : Pt), s.WarmedH vm₁ ∧ Stand p l e R s m args below meth c B.U B.locs B.cells B.slots ∧ Post ⟨T.setVm vm₁, locs, cells, slots⟩ (Value.ref b :: argsL).toArray v B ∧
      ∀ target, Steps p.tables e below (B.U.setTop { g with pc := g.pc + 3, stack := v.toList ++ rest }) target → Steps p.tables e below (T.setTop g) target := by
  obtain ⟨mk, methM, hnamed, hmethM, hstM, habM⟩ := Cond.instanceMethod_spec hinst
  obtain ⟨m8, methM', cM, hn8, hmethM', -, -, -, -, -, -, hsigM⟩ := Cond.codeWith_spec hcode
  cases Option.some.inj (hn8.symm.trans hnamed)
  cases hmethM.symm.trans hmethM'
  obtain ⟨c2, r2, m2, q1, q2, q3, q4, kP, hkP, hkPi⟩ := Cond.selects_spec hsel
  cases hcls.symm.trans q1
  cases (State.methodFound?_of_named hnamed hy).symm.trans q2
  cases hnamed.symm.trans q3
  have hselP : selectMethod e.platform s.vm cellB.cls mk = .method mk := by rw [Launch.admits_selectMethod X.admits]; exact q4
  obtain ⟨vm₁, X₁, hstep₁⟩ := X.invokevirtual hexec hown hlink hnamed hmethM hstM hkP hkPi hy (a := b) (cell := cellB) hcell
    (fun z h => by rw [h] at hobj; cases hobj) hselP hmethM habM hkP hkPi (g := g) hg (argsL := argsL) (rest := rest) (hlen _ hsigM) hstack hdg
  obtain ⟨v, B, X', hpost, hsteps⟩ := hK m meth c ⟨T.setVm vm₁, locs, cells, slots⟩ { g with stack := rest } (.invokevirtual index) mk (Value.ref b :: argsL).toArray X₁ hg hsize hdg hW (X₁.named hnamed) (hpre vm₁ X₁.warmed)
  exact ⟨v, vm₁, B, X₁.warmed, X', hpost, fun target h => hstep₁ _ fun acts => by rw [doInvoke_state]; exact hsteps.trans h⟩
abbrev vx_CVW (R : Room) (s : State) (args : Array Value) (own C : String) (index : Nat) (y : MethodName) (bytes : ByteArray) (maxL : Nat) (ret : Option FieldType) (hh : List (Nat × Nat × Nat × Nat)) (ws : List Cond) (rm : Room) (mc ms n : Nat) : Prop :=
  (rm.cells = mc ∧ rm.slots = ms ∧ rm.frames + 1 ≤ R.frames ∧ 8 + (maxL + 11) + rm.locals ≤ R.locals ∧ (∀ w ∈ ws, ∀ (a' : Array Value) (U : State), s.WarmedH U.vm → w.before a' U = true) ∧ Cond.codeWith y bytes maxL ret hh ∈ ws) ∧
  (Cond.codeWith y bytes maxL ret hh).before args s = true ∧ (Cond.initialized y.cls).before args s = true ∧ (y.cls ≠ "java/lang/invoke/MethodHandle" ∧ y.cls ≠ "java/lang/invoke/VarHandle") ∧
  (∀ sig, parseMethodDescriptor y.desc = some sig → n = sig.parameters.length) ∧ (Cond.methodLink own index y).before args s = true ∧ (Cond.instanceMethod y).before args s = true ∧ (Cond.selects C y y).before args s = true
theorem vx_cwVW {own C : String} {index maxL mc ms : Nat} {y : MethodName} {bytes : ByteArray} {ret : Option FieldType} {hh : List (Nat × Nat × Nat × Nat)} {Ts ws ws' : List Cond} {rm : Room} (n : Nat) (ht : ∀ w ∈ Ts, w.before args s = true) (hT : GoodIn Ts (wsV own index C y ws)) (hw : ws = Cond.codeWith y bytes maxL ret hh :: ws') (hrc : rm.cells = mc) (hrs : rm.slots = ms)
    (hd : y.cls = C ∧ y.cls ≠ "java/lang/invoke/MethodHandle" ∧ y.cls ≠ "java/lang/invoke/VarHandle" ∧ (parseMethodDescriptor y.desc).map (fun d => d.parameters.length) = some n) (hR : rm.frames + 1 ≤ R.frames ∧ 8 + (maxL + 11) + rm.locals ≤ R.locals) :
    vx_CVW R s args own C index y bytes maxL ret hh ws rm mc ms n := by
  obtain ⟨hC, hd⟩ := hd
  subst hC
  have ok : ∀ w ∈ wsV own index y.cls y ws, w.before args s = true := fun w h => ht w (hT w h).1
  have hG : GoodIn Ts ws := fun w h => hT w (by unfold wsV; exact List.mem_append_right _ h)
  have hc : Cond.codeWith y bytes maxL ret hh ∈ ws := by rw [hw]; exact List.mem_cons_self
  refine ⟨⟨hrc, hrs, hR.1, hR.2, pay_in ht hG, hc⟩, ht _ (hG _ hc).1, ok _ (by simp [wsV]), ⟨hd.1, hd.2.1⟩, fun sig h => ?_, ok _ (by simp [wsV]), ok _ (by simp [wsV]), ok _ (by simp [wsV])⟩
  have h2 := hd.2.2
  rw [h] at h2
  exact (Option.some.inj h2).symm
theorem vx_runVW {y : MethodName} {bytes cc : ByteArray} {maxL nL mc ms n index : Nat} {ret : Option FieldType} {hh : List (Nat × Nat × Nat × Nat)} {ws : List Cond} {rm : Room} {Pc : Array Value → State → Prop} {Qc : Array Value → State → Outcome → State → Prop} {free : Addr → Prop} {Ts : List Cond} {own C : String} {b : Addr} {As rest : List Value} {g : JFrame}
    (S : CallFix p m c cc nL s args Ts own) (hM : Met l y ws rm Pc Qc mc ms free) (cw : vx_CVW R s args own C index y bytes maxL ret hh ws rm mc ms n) (hp : PreV s H C b Pc As)
    (hg : g.method = m) (hn : As.length = n) (hsize : g.locals.size = nL) (hstack : g.stack = As.reverse ++ .ref b :: rest) (hW : 2 * g.monitorRoom + (rest.map fun v => v.category).sum ≤ 8) (hdg : decode cc g.pc = .ok (.invokevirtual index, 3)) (hf : cells + mc ≤ R.cells ∧ slots + ms ≤ R.slots) :
    va_Run p l e R s m args below meth c H locs cells slots mc ms g rest (Qc (Value.ref b :: As).toArray) free := by
  obtain ⟨⟨hrc, hrs, hfr, hlo, hws, hcw⟩, hcode, hini, hy, hlen, hl, hin, hse⟩ := cw
  have hK : Back l R p e below s args y 3 8 (PreOf R mc ms Pc) (PostOf Qc mc ms free) := va_backW (hh := hh) (bytes := bytes) (maxL := maxL) (ret := ret) hM hp.1 hrc hrs hfr hlo hws hcw (fun a' U hW => word_at hW (Or.inl (by first | rfl | simp [Cond.onTables, Cond.keeps, Cond.steady])) hini)
  obtain ⟨hx, hb, hml, ho, -⟩ := S
  obtain ⟨-, ⟨cellB, hcB, hoB, hclB⟩, hPc⟩ := hp
  intro T hT X
  obtain ⟨v, vm₁, ⟨U', l2, c2, s2⟩, hW₁, X', ⟨g', mk, t, L, e1, e2, hq, h1, hL, h2, h3⟩, st⟩ := vx_callVW X hx (C := C) (hh := hh) (bytes := bytes) (maxL := maxL) (ret := ret) ho hl hin hse hcode hy hK (by rw [hT]; exact hcB) hoB hclB hg (hsize.trans hml.symm) (argsL := As) (rest := rest) (fun sig h => hn.trans (hlen sig h)) hstack hW (by rw [hb]; exact hdg)
    (fun vm₁ hW₁ => ⟨hf.1, hf.2, hPc (T.setVm vm₁) hT hW₁⟩)
  dsimp only [Pt.U, Pt.locs, Pt.cells, Pt.slots] at X' e1 e2 h1 h2 h3 st
  subst h1; subst h2; subst h3
  exact ⟨v, (T.setVm vm₁).calling g' mk (Value.ref b :: As).toArray, t, U', L, hT, X', hL, e1, e2, hq, st⟩
section
variable {y : MethodName} {bytes cc : ByteArray} {maxL nL mc ms n index : Nat} {ret : Option FieldType} {ws : List Cond} {rm : Room} {Pc : Array Value → State → Prop} {Qc : Array Value → State → Outcome → State → Prop} {XC : String → State → State → Prop} {free : Addr → Prop} {Ts : List Cond} {own C : String} {b : Addr} {As rest : List Value} {g : JFrame}
theorem vx_runVX {hh : List (Nat × Nat × Nat × Nat)} (S : CallFix p m c cc nL s args Ts own) (hM : vx_Met l y ws rm Pc Qc XC mc ms free) (cw : vx_CVW R s args own C index y bytes maxL ret hh ws rm mc ms n) (hp : PreV s H C b Pc As)
    (hg : g.method = m) (hn : As.length = n) (hsize : g.locals.size = nL) (hstack : g.stack = As.reverse ++ .ref b :: rest) (hW : 2 * g.monitorRoom + (rest.map fun v => v.category).sum ≤ 8) (hdg : decode cc g.pc = .ok (.invokevirtual index, 3)) (hf : cells + mc ≤ R.cells ∧ slots + ms ≤ R.slots) :
    vx_Run p l e R s m args below meth c H locs cells slots mc ms g rest (Qc (Value.ref b :: As).toArray) XC free := by
  obtain ⟨⟨hrc, hrs, hfr, hlo, hws, hcw⟩, hcode, hini, hy, hlen, hl, hin, hse⟩ := cw
  have hK : vx_Back l R p e below s args y 3 8 (PreOf R mc ms Pc) (PostOf Qc mc ms free) (vx_Post XC mc ms free) := vx_backW (hh := hh) (bytes := bytes) (maxL := maxL) (ret := ret) hM hp.1 hrc hrs hfr hlo hws hcw (fun a' U hW => word_at hW (Or.inl (by first | rfl | simp [Cond.onTables, Cond.keeps, Cond.steady])) hini)
  obtain ⟨hx, hb, hml, ho, -⟩ := S
  obtain ⟨-, ⟨cellB, hcB, hoB, hclB⟩, hPc⟩ := hp
  intro T hT X
  rcases vx_callVX X hx (C := C) (hh := hh) (bytes := bytes) (maxL := maxL) (ret := ret) ho hl hin hse hcode hy hK (by rw [hT]; exact hcB) hoB hclB hg (hsize.trans hml.symm) (argsL := As) (rest := rest) (fun sig h => hn.trans (hlen sig h)) hstack hW (by rw [hb]; exact hdg)
    (fun vm₁ hW₁ => ⟨hf.1, hf.2, hPc (T.setVm vm₁) hT hW₁⟩) with ⟨v, vm₁, ⟨U', l2, c2, s2⟩, hW₁, X', ⟨g', mk, t, L, e1, e2, hq, h1, hL, h2, h3⟩, st⟩ | ⟨q, vm₁, ⟨U', l2, c2, s2⟩, hW₁, X', ⟨g', mk, t, L, E, ce, e1, e2, hq, hce, hcv, hcl, h1, hL, h2, h3⟩, st⟩
  · dsimp only [Pt.U, Pt.locs, Pt.cells, Pt.slots] at X' e1 e2 h1 h2 h3 st
    subst h1; subst h2; subst h3
    exact Or.inl ⟨v, (T.setVm vm₁).calling g' mk (Value.ref b :: As).toArray, t, U', L, hT, X', hL, e1, e2, hq, st⟩
  · dsimp only [Pt.U, Pt.locs, Pt.cells, Pt.slots] at X' e1 e2 h1 h2 h3 st hcl
    subst h1; subst h2; subst h3
    exact Or.inr ⟨q, (T.setVm vm₁).calling g' mk (Value.ref b :: As).toArray, t, U', L, E, ce, hT, X', hL, e1, e2, hq, hce, hcv, vx_cls hW₁ hcl, st⟩
theorem vx_runSX {hh : List (Nat × Nat × Nat × Nat)} (S : CallFix p m c cc nL s args Ts own) (hM : vx_Met l y ws rm Pc Qc XC mc ms free) (cw : vx_CSW R s args own index y bytes maxL ret hh ws rm mc ms n) (hp : PreS s H Pc As)
    (hg : g.method = m) (hn : As.length = n) (hsize : g.locals.size = nL) (hstack : g.stack = As.reverse ++ rest) (hW : 2 * g.monitorRoom + (rest.map fun v => v.category).sum ≤ 8) (hdg : decode cc g.pc = .ok (.invokestatic index, 3)) (hf : cells + mc ≤ R.cells ∧ slots + ms ≤ R.slots) :
    vx_Run p l e R s m args below meth c H locs cells slots mc ms g rest (Qc As.toArray) XC free := by
  obtain ⟨⟨hrc, hrs, hfr, hlo, hws, hcw⟩, hcode, hini, hy, hlen, hl, hstt⟩ := cw
  have hK : vx_Back l R p e below s args y 3 8 (PreOf R mc ms Pc) (PostOf Qc mc ms free) (vx_Post XC mc ms free) := vx_backW (hh := hh) (bytes := bytes) (maxL := maxL) (ret := ret) hM hp.1 hrc hrs hfr hlo hws hcw (fun a' U hW => word_at hW (Or.inl (by first | rfl | simp [Cond.onTables, Cond.keeps, Cond.steady])) hini)
  obtain ⟨hx, hb, hml, ho, -⟩ := S
  intro T hT X
  rcases vx_callSX X hx (hh := hh) (bytes := bytes) (maxL := maxL) (ret := ret) ho hl hstt hini hcode hy hK hg (hsize.trans hml.symm) (argsL := As) (rest := rest) (fun sig h => hn.trans (hlen sig h)) hstack hW (by rw [hb]; exact hdg)
    (fun vm₁ hW₁ => ⟨hf.1, hf.2, hp.2 (T.setVm vm₁) hT hW₁⟩) with ⟨v, vm₁, ⟨U', l2, c2, s2⟩, hW₁, X', ⟨g', mk, t, L, e1, e2, hq, h1, hL, h2, h3⟩, st⟩ | ⟨q, vm₁, ⟨U', l2, c2, s2⟩, hW₁, X', ⟨g', mk, t, L, E, ce, e1, e2, hq, hce, hcv, hcl, h1, hL, h2, h3⟩, st⟩
  · dsimp only [Pt.U, Pt.locs, Pt.cells, Pt.slots] at X' e1 e2 h1 h2 h3 st
    subst h1; subst h2; subst h3
    exact Or.inl ⟨v, (T.setVm vm₁).calling g' mk As.toArray, t, U', L, hT, X', hL, e1, e2, hq, st⟩
  · dsimp only [Pt.U, Pt.locs, Pt.cells, Pt.slots] at X' e1 e2 h1 h2 h3 st hcl
    subst h1; subst h2; subst h3
    exact Or.inr ⟨q, (T.setVm vm₁).calling g' mk As.toArray, t, U', L, E, ce, hT, X', hL, e1, e2, hq, hce, hcv, vx_cls hW₁ hcl, st⟩
end
end VXH
theorem vx_ofWH {l : Launch} {y : MethodName} {ws ws' : List Cond} {rm : Room} {Pc : Array Value → State → Prop} {Qc : Array Value → State → Outcome → State → Prop} {XC : String → State → State → Prop} {mc ms : Nat} {free : Addr → Prop} {cc : ByteArray} {maxL : Nat} {ret : Option FieldType} {hh : List (Nat × Nat × Nat × Nat)}
    (hy : plainName y.cls = true) (hw : ws = Cond.codeWith y cc maxL ret hh :: ws')
    (body : ∀ p e s m args below meth c s₁, BodyLoose p l y (headSpec ws rm) cc maxL ret e s m args below meth c s₁ → c.maxLocals = maxL → Pc args s →
      W p l e (headSpec ws rm).room s m args below meth c s.heap [] 0 0 (vx_MQ below Qc XC args s mc ms free) (entryFrame m args maxL)) : vx_Met l y ws rm Pc Qc XC mc ms free := by
  refine MetFree.of_bodyS (code := cc) (maxLocals := maxL) (ret := ret) hy ?_ ?_
  · intro args s m h hn
    obtain ⟨m9, meth, c, hn9, h1, h2, h3, h4, -, h5, h6, -⟩ := Cond.codeWith_spec (atoms_spec (ws := ws) h _ (by rw [hw]; exact List.mem_cons_self))
    cases hn.symm.trans hn9
    exact ⟨meth, c, h1, h2, h3, h4, h5, h6⟩
  · intro p e s m args below meth c s₁ B hml hP _
    have hh0 : s₁.heap = s.heap := by rw [B.state]; rfl
    obtain ⟨t, a1, o, b1, b2, b3⟩ := body p e s m args below meth c s₁ B hml hP s₁ hh0 (Stand.of_body B)
    exact ⟨t, o, a1, b1, b2, b3⟩
/-! ===== END ===== -/
end
section
def tt_G : u_T := fun k => match k with
  | 0 => ("StoneRings$Pairing", "costs", "[I", true)
  | 1 => ("StoneRings$Pairing", "partners", "[I", true)
  | 2 => ("StoneRings$Pairing", "size", "I", false)
  | _ => ("StoneRings$Pairing", "made", "Z", false)
def ty_G : Nat → FieldType := fun k => match k with
  | 0 => .array .int
  | 1 => .array .int
  | 2 => .int
  | _ => .boolean
theorem nm_G : ∀ a, a < 4 → ∀ b, b < 4 → a ≠ b → (tt_G a).2.1 ≠ (tt_G b).2.1 := by decide +kernel
theorem tyk_G : ∀ k, k < 4 → parseFieldDescriptor (tt_G k).2.2.1 = some (ty_G k) := by decide +kernel
def tt_P : u_T := fun k => match k with
  | 0 => ("StoneRings$Picture", "width", "I", true)
  | 1 => ("StoneRings$Picture", "height", "I", true)
  | 2 => ("StoneRings$Picture", "pixels", "[I", true)
  | 3 => ("StoneRings$Picture", "sum", "I", false)
  | 4 => ("StoneRings$Picture", "sumX", "I", false)
  | _ => ("StoneRings$Picture", "sumY", "I", false)
def ty_P : Nat → FieldType := fun k => match k with
  | 0 => .int
  | 1 => .int
  | 2 => .array .int
  | 3 => .int
  | 4 => .int
  | _ => .int
theorem nm_P : ∀ a, a < 6 → ∀ b, b < 6 → a ≠ b → (tt_P a).2.1 ≠ (tt_P b).2.1 := by decide +kernel
theorem tyk_P : ∀ k, k < 6 → parseFieldDescriptor (tt_P k).2.2.1 = some (ty_P k) := by decide +kernel
def tt_D : u_T := fun k => match k with
  | 0 => ("StoneRings$Readings", "counts", "[I", true)
  | 1 => ("StoneRings$Readings", "ranks", "[I", true)
  | _ => ("StoneRings$Readings", "size", "I", false)
def ty_D : Nat → FieldType := fun k => match k with
  | 0 => .array .int
  | 1 => .array .int
  | _ => .int
theorem nm_D : ∀ a, a < 3 → ∀ b, b < 3 → a ≠ b → (tt_D a).2.1 ≠ (tt_D b).2.1 := by decide +kernel
theorem tyk_D : ∀ k, k < 3 → parseFieldDescriptor (tt_D k).2.2.1 = some (ty_D k) := by decide +kernel
def tt_T : u_T := fun k => match k with
  | 0 => ("StoneRings$Trace", "values", "[I", true)
  | 1 => ("StoneRings$Trace", "evens", "[I", true)
  | 2 => ("StoneRings$Trace", "places", "[I", true)
  | 3 => ("StoneRings$Trace", "length", "I", false)
  | _ => ("StoneRings$Trace", "found", "I", false)
def ty_T : Nat → FieldType := fun k => match k with
  | 0 => .array .int
  | 1 => .array .int
  | 2 => .array .int
  | 3 => .int
  | _ => .int
theorem nm_T : ∀ a, a < 5 → ∀ b, b < 5 → a ≠ b → (tt_T a).2.1 ≠ (tt_T b).2.1 := by decide +kernel
theorem tyk_T : ∀ k, k < 5 → parseFieldDescriptor (tt_T k).2.2.1 = some (ty_T k) := by decide +kernel
def tt_S : u_T := fun k => match k with
  | 0 => ("StoneRings", "picture", "LStoneRings$Picture;", true)
  | 1 => ("StoneRings", "across", "[I", true)
  | 2 => ("StoneRings", "down", "[I", true)
  | 3 => ("StoneRings", "first", "LStoneRings$Trace;", true)
  | 4 => ("StoneRings", "second", "LStoneRings$Trace;", true)
  | 5 => ("StoneRings", "pairing", "LStoneRings$Pairing;", true)
  | 6 => ("StoneRings", "readings", "LStoneRings$Readings;", true)
  | 7 => ("StoneRings", "rayCount", "I", false)
  | 8 => ("StoneRings", "apartRule", "I", false)
  | _ => ("StoneRings", "highRule", "I", false)
def ty_S : Nat → FieldType := fun k => match k with
  | 0 => .object "StoneRings$Picture"
  | 1 => .array .int
  | 2 => .array .int
  | 3 => .object "StoneRings$Trace"
  | 4 => .object "StoneRings$Trace"
  | 5 => .object "StoneRings$Pairing"
  | 6 => .object "StoneRings$Readings"
  | 7 => .int
  | 8 => .int
  | _ => .int
theorem nm_S : ∀ a, a < 10 → ∀ b, b < 10 → a ≠ b → (tt_S a).2.1 ≠ (tt_S b).2.1 := by decide +kernel
theorem tyk_S : ∀ k, k < 10 → parseFieldDescriptor (tt_S k).2.2.1 = some (ty_S k) := by decide +kernel
def tt_M : u_T := fun k => match k with
  | 0 => ("StoneRingsModel", "thrown", "I", false)
  | 1 => ("StoneRingsModel", "wide", "I", true)
  | 2 => ("StoneRingsModel", "high", "I", true)
  | 3 => ("StoneRingsModel", "pixels", "[I", true)
  | 4 => ("StoneRingsModel", "rays", "I", false)
  | 5 => ("StoneRingsModel", "dxs", "[I", true)
  | 6 => ("StoneRingsModel", "dys", "[I", true)
  | 7 => ("StoneRingsModel", "apart", "I", false)
  | 8 => ("StoneRingsModel", "more", "I", false)
  | 9 => ("StoneRingsModel", "many", "I", false)
  | 10 => ("StoneRingsModel", "row", "[I", true)
  | 11 => ("StoneRingsModel", "even", "[I", true)
  | 12 => ("StoneRingsModel", "rings", "I", false)
  | 13 => ("StoneRingsModel", "places", "[I", true)
  | 14 => ("StoneRingsModel", "others", "I", false)
  | 15 => ("StoneRingsModel", "otherPlaces", "[I", true)
  | 16 => ("StoneRingsModel", "costs", "[I", true)
  | 17 => ("StoneRingsModel", "hasJoined", "Z", false)
  | 18 => ("StoneRingsModel", "joinedMany", "I", false)
  | 19 => ("StoneRingsModel", "partners", "[I", true)
  | _ => ("StoneRingsModel", "counts", "[I", true)
def ty_M : Nat → FieldType := fun k => match k with
  | 0 => .int
  | 1 => .int
  | 2 => .int
  | 3 => .array .int
  | 4 => .int
  | 5 => .array .int
  | 6 => .array .int
  | 7 => .int
  | 8 => .int
  | 9 => .int
  | 10 => .array .int
  | 11 => .array .int
  | 12 => .int
  | 13 => .array .int
  | 14 => .int
  | 15 => .array .int
  | 16 => .array .int
  | 17 => .boolean
  | 18 => .int
  | 19 => .array .int
  | _ => .array .int
theorem nm_M : ∀ a, a < 21 → ∀ b, b < 21 → a ≠ b → (tt_M a).2.1 ≠ (tt_M b).2.1 := by decide +kernel
theorem tyk_M : ∀ k, k < 21 → parseFieldDescriptor (tt_M k).2.2.1 = some (ty_M k) := by decide +kernel
abbrev sr_cl : List vw_C := [("StoneRings$Pairing", tt_G, 4), ("StoneRings$Picture", tt_P, 6), ("StoneRings$Readings", tt_D, 3), ("StoneRings$Trace", tt_T, 5), ("StoneRings", tt_S, 10), ("StoneRingsModel", tt_M, 21)]
def yy_S_init : MethodName := ⟨"StoneRings", "<init>", "(II)V"⟩
def yy_T_init : MethodName := ⟨"StoneRings$Trace", "<init>", "()V"⟩
def yy_G_init : MethodName := ⟨"StoneRings$Pairing", "<init>", "()V"⟩
def yy_D_init : MethodName := ⟨"StoneRings$Readings", "<init>", "()V"⟩
def yy_A_fill : MethodName := ⟨"java/util/Arrays", "fill", "([II)V"⟩
def yy_S_nearestSide : MethodName := ⟨"StoneRings", "nearestSide", "(I)I"⟩
def yy_H_min : MethodName := ⟨"java/lang/Math", "min", "(II)I"⟩
def yy_H_max : MethodName := ⟨"java/lang/Math", "max", "(II)I"⟩
def yy_P_init : MethodName := ⟨"StoneRings$Picture", "<init>", "(II)V"⟩
def yy_S_count : MethodName := ⟨"StoneRings", "count", "(I)I"⟩
def yy_D_stonesWithCounts : MethodName := ⟨"StoneRings$Readings", "stonesWithCounts", "()I"⟩
def yy_D_mostTold : MethodName := ⟨"StoneRings$Readings", "mostTold", "(I)I"⟩
def yy_D_of : MethodName := ⟨"StoneRings$Readings", "of", "(II)I"⟩
def yy_D_votesFor : MethodName := ⟨"StoneRings$Readings", "votesFor", "(II)I"⟩
def yy_L_cell : MethodName := ⟨"StoneRingsLaw", "cell", "([II)I"⟩
def yy_L_pixel : MethodName := ⟨"StoneRingsLaw", "pixel", "(LStoneRings;III[J)I"⟩
def yy_S_pixel : MethodName := ⟨"StoneRings", "pixel", "(III)Z"⟩
def yy_P_holds : MethodName := ⟨"StoneRings$Picture", "holds", "(II)Z"⟩
def yy_S_needNumber : MethodName := ⟨"StoneRings", "needNumber", "(III)V"⟩
def yy_P_put : MethodName := ⟨"StoneRings$Picture", "put", "(III)Z"⟩
def yy_P_at : MethodName := ⟨"StoneRings$Picture", "at", "(II)I"⟩
def yy_L_middle : MethodName := ⟨"StoneRingsLaw", "middle", "(LStoneRings;I[J)I"⟩
def yy_S_middle : MethodName := ⟨"StoneRings", "middle", "(I)I"⟩
def yy_S_needPlace : MethodName := ⟨"StoneRings", "needPlace", "(II)V"⟩
def yy_P_centreX : MethodName := ⟨"StoneRings$Picture", "centreX", "()I"⟩
def yy_S_floorOf : MethodName := ⟨"StoneRings", "floorOf", "(II)I"⟩
def yy_H_floorDiv : MethodName := ⟨"java/lang/Math", "floorDiv", "(II)I"⟩
def yy_P_centreY : MethodName := ⟨"StoneRings$Picture", "centreY", "()I"⟩
def yy_L_ray : MethodName := ⟨"StoneRingsLaw", "ray", "(LStoneRings;II[J)I"⟩
def yy_S_ray : MethodName := ⟨"StoneRings", "ray", "(II)I"⟩
def yy_L_samples : MethodName := ⟨"StoneRingsLaw", "samples", "(LStoneRings;I[J)I"⟩
def yy_S_samples : MethodName := ⟨"StoneRings", "samples", "(I)I"⟩
def yy_S_follow : MethodName := ⟨"StoneRings", "follow", "(ILStoneRings$Trace;)V"⟩
def yy_T_walk : MethodName := ⟨"StoneRings$Trace", "walk", "(LStoneRings$Picture;II)V"⟩
def yy_H_abs : MethodName := ⟨"java/lang/Math", "abs", "(I)I"⟩
def yy_T_evenOut : MethodName := ⟨"StoneRings$Trace", "evenOut", "()V"⟩
def yy_T_findRings : MethodName := ⟨"StoneRings$Trace", "findRings", "(II)V"⟩
def yy_L_sample : MethodName := ⟨"StoneRingsLaw", "sample", "(LStoneRings;IIZ[J)I"⟩
def yy_S_sample : MethodName := ⟨"StoneRings", "sample", "(IIZ)I"⟩
def yy_L_rule : MethodName := ⟨"StoneRingsLaw", "rule", "(LStoneRings;II)I"⟩
def yy_S_rule : MethodName := ⟨"StoneRings", "rule", "(II)V"⟩
def yy_L_rings : MethodName := ⟨"StoneRingsLaw", "rings", "(LStoneRings;I[J)I"⟩
def yy_S_rings : MethodName := ⟨"StoneRings", "rings", "(I)I"⟩
def yy_L_ring : MethodName := ⟨"StoneRingsLaw", "ring", "(LStoneRings;III[J)I"⟩
def yy_S_ring : MethodName := ⟨"StoneRings", "ring", "(III)I"⟩
def yy_T_widthOf : MethodName := ⟨"StoneRings$Trace", "widthOf", "(I)I"⟩
def yy_T_isFalse : MethodName := ⟨"StoneRings$Trace", "isFalse", "(I)Z"⟩
def yy_L_join : MethodName := ⟨"StoneRingsLaw", "join", "(LStoneRings;III[J)I"⟩
def yy_S_join : MethodName := ⟨"StoneRings", "join", "(III)I"⟩
def yy_G_pair : MethodName := ⟨"StoneRings$Pairing", "pair", "(LStoneRings$Trace;LStoneRings$Trace;I)I"⟩
def yy_G_fillCosts : MethodName := ⟨"StoneRings$Pairing", "fillCosts", "(LStoneRings$Trace;LStoneRings$Trace;I)V"⟩
def yy_G_leastFrom : MethodName := ⟨"StoneRings$Pairing", "leastFrom", "(LStoneRings$Trace;LStoneRings$Trace;III)I"⟩
def yy_G_together : MethodName := ⟨"StoneRings$Pairing", "together", "(LStoneRings$Trace;LStoneRings$Trace;II)I"⟩
def yy_G_choosePartners : MethodName := ⟨"StoneRings$Pairing", "choosePartners", "(LStoneRings$Trace;LStoneRings$Trace;I)V"⟩
def yy_L_joined : MethodName := ⟨"StoneRingsLaw", "joined", "(LStoneRings;I[J)I"⟩
def yy_S_joined : MethodName := ⟨"StoneRings", "joined", "(I)I"⟩
def yy_L_back : MethodName := ⟨"StoneRingsLaw", "back", "(LStoneRings;III[J)I"⟩
def yy_S_back : MethodName := ⟨"StoneRings", "back", "(III)I"⟩
def yy_L_tell : MethodName := ⟨"StoneRingsLaw", "tell", "(LStoneRings;III)I"⟩
def yy_S_tell : MethodName := ⟨"StoneRings", "tell", "(III)V"⟩
def yy_D_has : MethodName := ⟨"StoneRings$Readings", "has", "(II)Z"⟩
def yy_D_put : MethodName := ⟨"StoneRings$Readings", "put", "(III)V"⟩
def yy_L_may : MethodName := ⟨"StoneRingsLaw", "may", "(LStoneRings;II[J)I"⟩
def yy_S_may : MethodName := ⟨"StoneRings", "may", "(II)Z"⟩
def yy_L_seen : MethodName := ⟨"StoneRingsLaw", "seen", "(LStoneRings;III[J)I"⟩
def yy_S_seen : MethodName := ⟨"StoneRings", "seen", "(III)I"⟩
def yy_L_agree : MethodName := ⟨"StoneRingsLaw", "agree", "(LStoneRings;III[J)I"⟩
def yy_S_agree : MethodName := ⟨"StoneRings", "agree", "(III)I"⟩
def yy_S_needPair : MethodName := ⟨"StoneRings", "needPair", "(III)V"⟩
def yy_D_alike : MethodName := ⟨"StoneRings$Readings", "alike", "(II)I"⟩
def yy_D_bothTold : MethodName := ⟨"StoneRings$Readings", "bothTold", "(III)Z"⟩
def yy_D_shared : MethodName := ⟨"StoneRings$Readings", "shared", "(II)I"⟩
def yy_S_fractionPart : MethodName := ⟨"StoneRings", "fractionPart", "(III)I"⟩
def yy_S_commonDivisor : MethodName := ⟨"StoneRings", "commonDivisor", "(II)I"⟩
def yy_L_bias : MethodName := ⟨"StoneRingsLaw", "bias", "(LStoneRings;III[J)I"⟩
def yy_S_bias : MethodName := ⟨"StoneRings", "bias", "(III)I"⟩
def yy_D_excess : MethodName := ⟨"StoneRings$Readings", "excess", "(II)I"⟩
def yy_L_told : MethodName := ⟨"StoneRingsLaw", "told", "(LStoneRings;I[J)I"⟩
def yy_S_told : MethodName := ⟨"StoneRings", "told", "(I)I"⟩
def yy_L_right : MethodName := ⟨"StoneRingsLaw", "right", "(LStoneRings;I[J)I"⟩
def yy_S_right : MethodName := ⟨"StoneRings", "right", "(I)I"⟩
def yy_D_hits : MethodName := ⟨"StoneRings$Readings", "hits", "(I)I"⟩
def yy_L_best : MethodName := ⟨"StoneRingsLaw", "best", "(LStoneRings;I[J)I"⟩
def yy_S_best : MethodName := ⟨"StoneRings", "best", "(I)I"⟩
def yy_D_readerAt : MethodName := ⟨"StoneRings$Readings", "readerAt", "(I)I"⟩
def yy_D_readersBefore : MethodName := ⟨"StoneRings$Readings", "readersBefore", "(I)I"⟩
def yy_L_age : MethodName := ⟨"StoneRingsLaw", "age", "(LStoneRings;III[J)I"⟩
def yy_S_age : MethodName := ⟨"StoneRings", "age", "(III)I"⟩
def yy_L_twin : MethodName := ⟨"StoneRingsLaw", "twin", "(LStoneRings;II[J)I"⟩
def yy_S_twin : MethodName := ⟨"StoneRings", "twin", "(II)Z"⟩
def yy_T_sameValues : MethodName := ⟨"StoneRings$Trace", "sameValues", "(LStoneRings$Trace;)Z"⟩
def yy_M_init : MethodName := ⟨"StoneRingsModel", "<init>", "(II)V"⟩
def yy_M_thrown : MethodName := ⟨"StoneRingsModel", "thrown", "()I"⟩
def yy_M_pixel : MethodName := ⟨"StoneRingsModel", "pixel", "(III)Z"⟩
def yy_M_isThere : MethodName := ⟨"StoneRingsModel", "isThere", "(II)Z"⟩
def yy_M_isIn : MethodName := ⟨"StoneRingsModel", "isIn", "(III)Z"⟩
def yy_M_middle : MethodName := ⟨"StoneRingsModel", "middle", "(I)I"⟩
def yy_M_middleOf : MethodName := ⟨"StoneRingsModel", "middleOf", "(I)I"⟩
def yy_M_sumOf : MethodName := ⟨"StoneRingsModel", "sumOf", "(I)I"⟩
def yy_M_ray : MethodName := ⟨"StoneRingsModel", "ray", "(II)I"⟩
def yy_M_samples : MethodName := ⟨"StoneRingsModel", "samples", "(I)I"⟩
def yy_M_noRay : MethodName := ⟨"StoneRingsModel", "noRay", "(I)Z"⟩
def yy_M_lay : MethodName := ⟨"StoneRingsModel", "lay", "(I)V"⟩
def yy_M_size : MethodName := ⟨"StoneRingsModel", "size", "(I)I"⟩
def yy_M_down : MethodName := ⟨"StoneRingsModel", "down", "(II)I"⟩
def yy_M_sample : MethodName := ⟨"StoneRingsModel", "sample", "(IIZ)I"⟩
def yy_M_rule : MethodName := ⟨"StoneRingsModel", "rule", "(II)V"⟩
def yy_M_rings : MethodName := ⟨"StoneRingsModel", "rings", "(I)I"⟩
def yy_M_ring : MethodName := ⟨"StoneRingsModel", "ring", "(III)I"⟩
def yy_M_widthOf : MethodName := ⟨"StoneRingsModel", "widthOf", "(I)I"⟩
def yy_M_join : MethodName := ⟨"StoneRingsModel", "join", "(III)I"⟩
def yy_M_together : MethodName := ⟨"StoneRingsModel", "together", "(II)I"⟩
def yy_M_joined : MethodName := ⟨"StoneRingsModel", "joined", "(I)I"⟩
def yy_M_back : MethodName := ⟨"StoneRingsModel", "back", "(III)I"⟩
def yy_M_tell : MethodName := ⟨"StoneRingsModel", "tell", "(III)V"⟩
def yy_M_noOne : MethodName := ⟨"StoneRingsModel", "noOne", "(II)Z"⟩
def yy_M_may : MethodName := ⟨"StoneRingsModel", "may", "(II)Z"⟩
def yy_M_seen : MethodName := ⟨"StoneRingsModel", "seen", "(III)I"⟩
def yy_M_agree : MethodName := ⟨"StoneRingsModel", "agree", "(III)I"⟩
def yy_M_noTwo : MethodName := ⟨"StoneRingsModel", "noTwo", "(III)Z"⟩
def yy_M_both : MethodName := ⟨"StoneRingsModel", "both", "(III)Z"⟩
def yy_M_part : MethodName := ⟨"StoneRingsModel", "part", "(III)I"⟩
def yy_M_bias : MethodName := ⟨"StoneRingsModel", "bias", "(III)I"⟩
def yy_M_told : MethodName := ⟨"StoneRingsModel", "told", "(I)I"⟩
def yy_M_toldOf : MethodName := ⟨"StoneRingsModel", "toldOf", "(I)I"⟩
def yy_M_right : MethodName := ⟨"StoneRingsModel", "right", "(I)I"⟩
def yy_M_rightOf : MethodName := ⟨"StoneRingsModel", "rightOf", "(I)I"⟩
def yy_M_best : MethodName := ⟨"StoneRingsModel", "best", "(I)I"⟩
def yy_M_age : MethodName := ⟨"StoneRingsModel", "age", "(III)I"⟩
def yy_M_twin : MethodName := ⟨"StoneRingsModel", "twin", "(II)Z"⟩
def yy_M_count : MethodName := ⟨"StoneRingsModel", "count", "(I)I"⟩
def yy_L_law : MethodName := ⟨"StoneRingsLaw", "law", "([I)Z"⟩
def sr_ts : List Cond := lw_tbl.filter goodWord
theorem sr_mem {w : Cond} (i : Nat) (h : lw_tbl[i]? = some w) (hg : goodWord w = true) : w ∈ sr_ts := List.mem_filter.mpr ⟨List.mem_of_getElem? h, hg⟩
theorem sr_goodIn : GoodIn sr_ts sr_ts := fun w h => ⟨h, good_of_word (List.mem_filter.mp h).2⟩
def sr_strs : List (String × Nat × String) := [("StoneRings", 69, "no such pixel"), ("StoneRings", 214, "a number outside its bounds"), ("StoneRings", 212, "no such place"), ("StoneRings", 94, "a ray without a direction"), ("StoneRings", 99, "no room for another ray"), ("StoneRings", 136, "no rays were joined"), ("StoneRings", 152, "the reader told a count of that stone before"), ("StoneRings", 156, "the reader told no count of that stone yet")]
def sr_bad : List Cond := [.methodLinkNest "StoneRings" (18 : Nat) yy_T_init "StoneRings", .methodLinkNest "StoneRings" (28 : Nat) yy_G_init "StoneRings", .castable "java/lang/IndexOutOfBoundsException" "java/lang/IndexOutOfBoundsException", .declares ({ cls := "java/lang/RuntimeException", name := "<init>", desc := "()V" } : Jvm.MethodName), .declares ({ cls := "java/lang/RuntimeException", name := "<init>", desc := "(Ljava/lang/String;)V" } : Jvm.MethodName), .declares ({ cls := "java/lang/Exception", name := "<init>", desc := "()V" } : Jvm.MethodName), .declares ({ cls := "java/lang/Exception", name := "<init>", desc := "(Ljava/lang/String;)V" } : Jvm.MethodName), .declares ({ cls := "java/lang/Throwable", name := "<init>", desc := "()V" } : Jvm.MethodName), .declares ({ cls := "java/lang/Throwable", name := "<init>", desc := "(Ljava/lang/String;)V" } : Jvm.MethodName), .castable "java/lang/IllegalArgumentException" "java/lang/IllegalArgumentException", .methodLinkNest "StoneRings$Picture" (39 : Nat) yy_S_floorOf "StoneRings", .castable "java/lang/IllegalStateException" "java/lang/IllegalStateException", .methodLinkNest "StoneRings$Trace" (50 : Nat) yy_S_floorOf "StoneRings"]
theorem sr_bad_tab : ∀ w ∈ sr_bad, w.onTables = true := by decide +kernel
theorem sr_bad_in : ∀ w ∈ sr_bad, w ∈ lw_tbl := by decide +kernel
theorem sr_bad_warm {s U : State} (hW : s.WarmedH U.vm) (h : ∀ w ∈ sr_bad, va_Nw w s) : ∀ w ∈ sr_bad, va_Nw w U := by
  intro w hw
  have h := h w hw
  simp only [sr_bad, List.mem_cons, List.not_mem_nil, or_false] at hw
  rcases hw with rfl | rfl | rfl | rfl | rfl | rfl | rfl | rfl | rfl | rfl | rfl | rfl | rfl
  · exact va_Nw.warmM hW h
  · exact va_Nw.warmM hW h
  · exact va_Nw.warmC hW h
  · exact va_Nw.warmD hW h
  · exact va_Nw.warmD hW h
  · exact va_Nw.warmD hW h
  · exact va_Nw.warmD hW h
  · exact va_Nw.warmD hW h
  · exact va_Nw.warmD hW h
  · exact va_Nw.warmC hW h
  · exact va_Nw.warmM hW h
  · exact va_Nw.warmC hW h
  · exact va_Nw.warmM hW h
def sr_ncs : List (String × String) := [("java/lang/IndexOutOfBoundsException", "java/lang/IllegalArgumentException"), ("java/lang/IndexOutOfBoundsException", "java/lang/IllegalStateException"), ("java/lang/IllegalArgumentException", "java/lang/IndexOutOfBoundsException"), ("java/lang/IllegalArgumentException", "java/lang/IllegalStateException"), ("java/lang/IllegalStateException", "java/lang/IndexOutOfBoundsException"), ("java/lang/IllegalStateException", "java/lang/IllegalArgumentException")]
theorem in_G : ∀ w ∈ u_ws "StoneRings$Pairing" tt_G 4, w ∈ sr_ts := by decide +kernel
theorem in_P : ∀ w ∈ u_ws "StoneRings$Picture" tt_P 6, w ∈ sr_ts := by decide +kernel
theorem in_D : ∀ w ∈ u_ws "StoneRings$Readings" tt_D 3, w ∈ sr_ts := by decide +kernel
theorem in_T : ∀ w ∈ u_ws "StoneRings$Trace" tt_T 5, w ∈ sr_ts := by decide +kernel
theorem in_S : ∀ w ∈ u_ws "StoneRings" tt_S 10, w ∈ sr_ts := by decide +kernel
theorem in_M : ∀ w ∈ u_ws "StoneRingsModel" tt_M 21, w ∈ sr_ts := by decide +kernel
end
section
/-! WHOLE NUMBERS FOR INTS, ONE MEMORY FOR THE WORLD, AND THE WALK OVER THEM.
sx_i a: the machine's int of the whole number a. A memory μ: cell, place ↦ whole number. sx_W: the world (a list of cells) that a layout and a memory give.
sx_V: 'the walk from pc, with these locals, this stack, this memory, comes to Q'. Each row turns sx_V at an instruction into sx_V at the next. -/
section SXN
def sx_i (a : Int) : Int32 := Int32.ofInt a
def sx_j (a : Int) : Int64 := Int64.ofInt a
abbrev sx_R (a : Int) : Prop := -2147483648 ≤ a ∧ a ≤ 2147483647
theorem sx_toInt {a : Int} (h : sx_R a) : (sx_i a).toInt = a := Int32.toInt_ofInt_of_le (by have := h.1; omega) (by have := h.2; omega)
theorem sx_of (x : Int32) : sx_i x.toInt = x := Int32.ofInt_toInt x
theorem sx_rg (x : Int32) : sx_R x.toInt := ⟨by have := x.le_toInt; omega, by have := x.toInt_lt; omega⟩
theorem sx_add (a b : Int) : sx_i a + sx_i b = sx_i (a + b) := (Int32.ofInt_add a b).symm
theorem sx_sub (a b : Int) : sx_i a - sx_i b = sx_i (a - b) := (Int32.ofInt_sub a b).symm
theorem sx_mul (a b : Int) : sx_i a * sx_i b = sx_i (a * b) := (Int32.ofInt_mul a b).symm
theorem sx_neg (a : Int) : -sx_i a = sx_i (-a) := (Int32.ofInt_neg a).symm
theorem sx_0 : sx_i 0 = 0 := by decide
theorem sx_lt {a b : Int} (ha : sx_R a) (hb : sx_R b) : sx_i a < sx_i b ↔ a < b := by
  rw [Int32.lt_iff_toInt_lt, sx_toInt ha, sx_toInt hb]
theorem sx_le {a b : Int} (ha : sx_R a) (hb : sx_R b) : sx_i a ≤ sx_i b ↔ a ≤ b := by
  rw [Int32.le_iff_toInt_le, sx_toInt ha, sx_toInt hb]
theorem sx_eq {a b : Int} (ha : sx_R a) (hb : sx_R b) : sx_i a = sx_i b ↔ a = b := by
  rw [← Int32.toInt_inj, sx_toInt ha, sx_toInt hb]
theorem sx_tdiv {a b : Int} (h0 : 0 < b) : -(if a < 0 then -a else a) ≤ a.tdiv b ∧ a.tdiv b ≤ (if a < 0 then -a else a) := by
  have key : ∀ c : Int, 0 ≤ c → 0 ≤ c.tdiv b ∧ c.tdiv b ≤ c := fun c hc => by
    rw [Int.tdiv_eq_ediv_of_nonneg hc]
    exact ⟨Int.ediv_nonneg hc (Int.le_of_lt h0), Int.ediv_le_self b hc⟩
  by_cases ha : a < 0
  · have h := key (-a) (by omega)
    rw [Int.neg_tdiv] at h
    rw [if_pos ha]
    omega
  · have h := key a (by omega)
    rw [if_neg ha]
    omega
theorem sx_divR {a b : Int} (ha : sx_R a) (h0 : 0 < b) (hm : -2147483648 < a) : sx_R (a.tdiv b) := by
  have h := sx_tdiv (a := a) h0
  have h1 := ha.1
  have h2 := ha.2
  by_cases hn : a < 0
  · rw [if_pos hn] at h
    exact ⟨by omega, by omega⟩
  · rw [if_neg hn] at h
    exact ⟨by omega, by omega⟩
theorem sx_ne1 {b : Int} (hb : sx_R b) (h0 : 0 < b) : sx_i b ≠ -1 := by
  intro h
  have h1 := congrArg Int32.toInt h
  rw [sx_toInt hb] at h1
  have h2 : (-1 : Int32).toInt = -1 := by decide
  rw [h2] at h1
  omega
theorem sx_nz {b : Int} (hb : sx_R b) (h0 : 0 < b) : ¬ sx_i b = 0 := by
  rw [← sx_0, sx_eq hb ⟨by omega, by omega⟩]
  omega
theorem sx_div {a b : Int} (ha : sx_R a) (hb : sx_R b) (h0 : 0 < b) (hm : -2147483648 < a) : sx_i a / sx_i b = sx_i (a.tdiv b) := by
  rw [← Int32.toInt_inj, Int32.toInt_div_of_ne_right _ _ (sx_ne1 hb h0), sx_toInt ha, sx_toInt hb, sx_toInt (sx_divR ha h0 hm)]
theorem sx_rem {a b : Int} (ha : sx_R a) (hb : sx_R b) (h0 : 0 < b) (hm : -2147483648 < a) : sx_i a - sx_i a / sx_i b * sx_i b = sx_i (a.tmod b) := by
  rw [sx_div ha hb h0 hm, sx_mul, sx_sub, Int.tmod_def, Int.mul_comm]
def sx_xor (a b : Int) : Int := (sx_i a ^^^ sx_i b).toInt
def sx_and (a b : Int) : Int := (sx_i a &&& sx_i b).toInt
theorem sx_in {j : Int} {n : Nat} (hn : n < 2147483648) (h : 0 ≤ j ∧ j < n) : vp_in (sx_i j) n ∧ (sx_i j).toNatClampNeg = j.toNat ∧ ((j.toNat : Nat) : Int) = j := by
  have hr : sx_R j := ⟨by omega, by omega⟩
  refine ⟨vp_in_iff.mpr (by rw [sx_toInt hr]; exact h), ?_, by omega⟩
  show (Int32.ofInt j).toNatClampNeg = j.toNat
  exact Int32.toNatClampNeg_ofInt_of_le (by omega) (by omega)
/-- what lcmp says -/
def sx_cmp (a b : Int) : Int := if b < a then 1 else if a = b then 0 else -1
theorem sx_jT {a : Int} (h : sx_R a) : (sx_j a).toInt = a := Int64.toInt_ofInt_of_le (by have := h.1; omega) (by have := h.2; omega)
theorem sx_lcmp {a b : Int} (ha : sx_R a) (hb : sx_R b) : lg_cmp (sx_j a) (sx_j b) = sx_i (sx_cmp a b) := by
  unfold lg_cmp sx_cmp
  have h1 : (sx_j a > sx_j b) ↔ b < a := by
    show sx_j b < sx_j a ↔ b < a
    rw [Int64.lt_iff_toInt_lt, sx_jT ha, sx_jT hb]
  have h2 : (sx_j a = sx_j b) ↔ a = b := by rw [← Int64.toInt_inj, sx_jT ha, sx_jT hb]
  by_cases c1 : b < a
  · rw [if_pos (h1.mpr c1), if_pos c1]; rfl
  · rw [if_neg (fun q => c1 (h1.mp q)), if_neg c1]
    by_cases c2 : a = b
    · rw [if_pos (h2.mpr c2), if_pos c2]; rfl
    · rw [if_neg (fun q => c2 (h2.mp q)), if_neg c2]; rfl
theorem sx_i2l {a : Int} (h : sx_R a) : (sx_i a).toInt64 = sx_j a := by
  rw [← Int64.toInt_inj, Int32.toInt_toInt64, sx_toInt h, sx_jT h]
end SXN
section SXW
abbrev sx_M : Type := Nat → Int → Int
def sx_up (μ : sx_M) (c : Nat) (k v : Int) : sx_M := fun c' k' => if c' = c ∧ k' = k then v else μ c' k'
/-- a cell's layout: an object (its class's number; a field: a reference to a cell, or an int), an array of ints, of longs -/
abbrev sx_L : Type := (Nat × List (Option Nat)) ⊕ (Nat ⊕ Nat)
def sx_fv (ad : Nat → Nat) (f : Int → Int) (q : Option Nat × Nat) : Value := match q.1 with
  | some j => .ref (ad j)
  | none => .int (sx_i (f (q.2 : Nat)))
def sx_e (cI cJ : ClassId) (ad : Nat → Nat) (f : Int → Int) (d : sx_L) : va_E := match d with
  | .inl o => .inr (o.1, o.2.zipIdx.map (sx_fv ad f))
  | .inr (.inl n) => .inl (cI, n, .inl (fun i => sx_i (f (i : Nat))))
  | .inr (.inr n) => .inl (cJ, n, .inr (.inl (fun i => sx_j (f (i : Nat)))))
def sx_W (lay : List sx_L) (cI cJ : ClassId) (ad : Nat → Nat) (μ : sx_M) : va_W := lay.zipIdx.map (fun q => (ad q.2, sx_e cI cJ ad (μ q.2) q.1))
variable {lay : List sx_L} {cI cJ : ClassId} {ad : Nat → Nat} {μ : sx_M}
theorem sx_get (i : Nat) : (sx_W lay cI cJ ad μ)[i]? = (lay[i]?).map (fun d => (ad i, sx_e cI cJ ad (μ i) d)) := by
  unfold sx_W
  rw [List.getElem?_map, List.getElem?_zipIdx]
  cases lay[i]? with
  | none => rfl
  | some d => simp
theorem sx_at {c : Nat} {d : sx_L} (h : lay[c]? = some d) : (sx_W lay cI cJ ad μ)[c]? = some (ad c, sx_e cI cJ ad (μ c) d) := by
  rw [sx_get, h]; rfl
theorem sx_up_ne {c i : Nat} (k v : Int) (h : i ≠ c) : sx_up μ c k v i = μ i := by
  funext k'
  simp [sx_up, h]
theorem sx_set {c : Nat} {d : sx_L} {e : va_E} {k v : Int} (h : lay[c]? = some d) (he : sx_e cI cJ ad (sx_up μ c k v c) d = e) : (sx_W lay cI cJ ad μ).set c (ad c, e) = sx_W lay cI cJ ad (sx_up μ c k v) := by
  apply List.ext_getElem?
  intro i
  by_cases hi : i = c
  · subst hi
    rw [List.getElem?_set_self (by have := (List.getElem?_eq_some_iff.mp (sx_at (cI := cI) (cJ := cJ) (ad := ad) (μ := μ) h)).1; exact this), sx_at h, he]
  · rw [List.getElem?_set_ne (Ne.symm hi), sx_get, sx_get, sx_up_ne k v hi]
theorem sx_setF {fl : List (Option Nat)} {ad : Nat → Nat} {f : Int → Int} {k : Nat} {v : Int} (h : fl[k]? = some none) : fl.zipIdx.map (sx_fv ad (fun q => if q = (k : Int) then v else f q)) = (fl.zipIdx.map (sx_fv ad f)).set k (.int (sx_i v)) := by
  apply List.ext_getElem?
  intro i
  by_cases hi : i = k
  · subst hi
    rw [List.getElem?_set_self (by rw [List.length_map, List.length_zipIdx]; exact (List.getElem?_eq_some_iff.mp h).1), List.getElem?_map, List.getElem?_zipIdx, h]
    simp [sx_fv]
  · rw [List.getElem?_set_ne (Ne.symm hi), List.getElem?_map, List.getElem?_map, List.getElem?_zipIdx]
    cases fl[i]? with
    | none => rfl
    | some o =>
      cases o with
      | some j => simp [sx_fv]
      | none =>
        have hne : ¬ ((i : Nat) : Int) = (k : Int) := by omega
        simp [sx_fv, hne]
theorem sx_up_self {c : Nat} (k v : Int) : sx_up μ c k v c = fun q => if q = k then v else μ c q := by
  funext q
  simp [sx_up]
theorem sx_putI {c ci k : Nat} {fl : List (Option Nat)} {v : Int} (h : lay[c]? = some (.inl (ci, fl))) (hk : fl[k]? = some none) : (sx_W lay cI cJ ad μ).set c (ad c, .inr (ci, (fl.zipIdx.map (sx_fv ad (μ c))).set k (.int (sx_i v)))) = sx_W lay cI cJ ad (sx_up μ c (k : Int) v) :=
  sx_set h (by rw [sx_up_self]; show Sum.inr (ci, _) = _; rw [sx_setF hk])
theorem sx_putA {c n : Nat} {j v : Int} (h : lay[c]? = some (.inr (.inl n))) (hj : 0 ≤ j) : (sx_W lay cI cJ ad μ).set c (ad c, .inl (cI, n, .inl (upd (fun i => sx_i (μ c (i : Nat))) j.toNat (sx_i v)))) = sx_W lay cI cJ ad (sx_up μ c j v) :=
  sx_set h (by
    rw [sx_up_self]
    show Sum.inl (cI, n, Sum.inl _) = _
    congr 4
    funext i
    by_cases hi : i = j.toNat
    · subst hi
      have : ((j.toNat : Nat) : Int) = j := by omega
      simp [upd, this]
    · have : ¬ ((i : Nat) : Int) = j := by omega
      simp [upd, this, hi])
theorem sx_putL {c n : Nat} {j v : Int} (h : lay[c]? = some (.inr (.inr n))) (hj : 0 ≤ j) : (sx_W lay cI cJ ad μ).set c (ad c, .inl (cJ, n, .inr (.inl (vp_updL (fun i => sx_j (μ c (i : Nat))) j.toNat (sx_j v))))) = sx_W lay cI cJ ad (sx_up μ c j v) :=
  sx_set h (by
    rw [sx_up_self]
    show Sum.inl (cJ, n, Sum.inr (Sum.inl _)) = _
    congr 5
    funext i
    by_cases hi : i = j.toNat
    · subst hi
      have : ((j.toNat : Nat) : Int) = j := by omega
      simp [vp_updL, this]
    · have : ¬ ((i : Nat) : Int) = j := by omega
      simp [vp_updL, this, hi])
/-- the cells are apart -/
def sx_J (lay : List sx_L) (ad : Nat → Nat) : Prop := ∀ i j : Nat, i < lay.length → j < lay.length → ad i = ad j → i = j
/-- the addresses that a method may change: its world's, and all that come -/
def sx_A (lay : List sx_L) (ad : Nat → Nat) (sz : Nat) : Nat → Prop := fun q => (∃ i, i < lay.length ∧ q = ad i) ∨ sz ≤ q
theorem sx_len {i : Nat} {q : Nat × va_E} (h : (sx_W lay cI cJ ad μ)[i]? = some q) : i < lay.length ∧ q.1 = ad i := by
  rw [sx_get] at h
  cases hl : lay[i]? with
  | none => rw [hl] at h; cases h
  | some d =>
    rw [hl] at h
    cases h
    exact ⟨(List.getElem?_eq_some_iff.mp hl).1, rfl⟩
theorem sx_D {A : Nat → Prop} (hJ : sx_J lay ad) (hA : ∀ i, i < lay.length → A (ad i)) (μ : sx_M) : va_D A (sx_W lay cI cJ ad μ) := by
  refine ⟨fun i j p q hi hj hpq => ?_, fun k q hk => ?_⟩
  · obtain ⟨h1, h2⟩ := sx_len hi
    obtain ⟨h3, h4⟩ := sx_len hj
    exact hJ i j h1 h3 (h2.symm.trans (hpq.trans h4))
  · obtain ⟨h1, h2⟩ := sx_len hk
    rw [h2]
    exact hA k h1
end SXW
end
section
section SXV
/-- what a method's walk stands on -/
def sx_C (lay : List sx_L) (cl : List vw_C) (D : va_G) (cI cJ : ClassId) (ad : Nat → Nat) (A : Nat → Prop) (nL : Nat) (own : String) (cc : ByteArray) (Ts : List Cond) (p : Program) (s : State) (m : MethodId) (args : Array Value) (c : Code) : Prop :=
  p.tables.exec = Jvm.exec ∧ c.code = cc ∧ c.maxLocals = nL ∧ s.vm.findClass own = some m.cls ∧ (∀ w ∈ Ts, w.before args s = true) ∧ va_K D cl [(cI, .int), (cJ, .long)] s ∧ (∀ q : Nat, s.heap.size ≤ q → A q) ∧ sx_J lay ad ∧ ∀ i, i < lay.length → A (ad i)
/-- from pc, with these locals, this stack, this memory, the walk comes to Q -/
def sx_V (lay : List sx_L) (cl : List vw_C) (D : va_G) (cI cJ : ClassId) (ad : Nat → Nat) (A : Nat → Prop) (nL : Nat) (p : Program) (l : Launch) (e : Env) (R : Room) (s : State) (m : MethodId) (args : Array Value) (below : List Frame) (meth : Method) (c : Code) (Q : State → Prop) (cells slots : Nat) (μ : sx_M) (pc : Nat) (lv : List (Nat × Value)) (st : List Value) : Prop :=
  ∀ (H : Heap) (locs : List Loc) (ls : Array Slot), va_P D cl (sx_W lay cI cJ ad μ) H → va_S A s.heap H locs → lv_has ls nL lv → W p l e R s m args below meth c H locs cells slots Q (F0 m pc ls st)
variable {lay : List sx_L} {cl : List vw_C} {D : va_G} {cI cJ : ClassId} {ad : Nat → Nat} {A : Nat → Prop} {nL : Nat} {own : String} {cc : ByteArray} {Ts : List Cond} {p : Program} {l : Launch} {e : Env} {R : Room} {s : State} {m : MethodId} {args : Array Value} {below : List Frame} {meth : Method} {c : Code} {Q : State → Prop} {cells slots : Nat} {μ : sx_M} {pc : Nat} {lv : List (Nat × Value)} {st : List Value}

theorem sx_iconst (C : sx_C lay cl D cI cJ ad A nL own cc Ts p s m args c) {n v : Int} (hd : decode cc pc = .ok (.iconst n, 1)) (hv : n = v) (k : sx_V lay cl D cI cJ ad A nL p l e R s m args below meth c Q cells slots μ (pc + 1) lv (.int (sx_i v) :: st)) : sx_V lay cl D cI cJ ad A nL p l e R s m args below meth c Q cells slots μ (pc) lv (st) := by
  intro H locs ls hP hS hl
  subst hv
  exact lv_iconst C.1 C.2.1 hd rfl (k H locs ls hP hS hl)

theorem sx_bipush (C : sx_C lay cl D cI cJ ad A nL own cc Ts p s m args c) {n v : Int} (hd : decode cc pc = .ok (.bipush n, 2)) (hv : (Int8.ofInt n).toInt32 = sx_i v) (k : sx_V lay cl D cI cJ ad A nL p l e R s m args below meth c Q cells slots μ (pc + 2) lv (.int (sx_i v) :: st)) : sx_V lay cl D cI cJ ad A nL p l e R s m args below meth c Q cells slots μ (pc) lv (st) := by
  intro H locs ls hP hS hl
  exact lv_bipush C.1 C.2.1 hd hv (k H locs ls hP hS hl)

theorem sx_sipush (C : sx_C lay cl D cI cJ ad A nL own cc Ts p s m args c) {n v : Int} (hd : decode cc pc = .ok (.sipush n, 3)) (hv : (Int16.ofInt n).toInt32 = sx_i v) (k : sx_V lay cl D cI cJ ad A nL p l e R s m args below meth c Q cells slots μ (pc + 3) lv (.int (sx_i v) :: st)) : sx_V lay cl D cI cJ ad A nL p l e R s m args below meth c Q cells slots μ (pc) lv (st) := by
  intro H locs ls hP hS hl
  exact lv_sipush C.1 C.2.1 hd hv (k H locs ls hP hS hl)

theorem sx_ldc (C : sx_C lay cl D cI cJ ad A nL own cc Ts p s m args c) {index : Nat} {v : Int} (hd : decode cc pc = .ok (.ldc index, 2)) (hw : Jvm.Cond.constant own index (sx_i v) ∈ Ts) (k : sx_V lay cl D cI cJ ad A nL p l e R s m args below meth c Q cells slots μ (pc + 2) lv (.int (sx_i v) :: st)) : sx_V lay cl D cI cJ ad A nL p l e R s m args below meth c Q cells slots μ (pc) lv (st) := by
  intro H locs ls hP hS hl
  exact lv_ldc C.1 C.2.1 C.2.2.2.1 (C.2.2.2.2.1 _ hw) hd (k H locs ls hP hS hl)

theorem sx_lconst (C : sx_C lay cl D cI cJ ad A nL own cc Ts p s m args c) {n : Fin 2} {v : Int} (hd : decode cc pc = .ok (.lconst n, 1)) (hv : Int64.ofNat (n : Nat) = sx_j v) (k : sx_V lay cl D cI cJ ad A nL p l e R s m args below meth c Q cells slots μ (pc + 1) lv (.long (sx_j v) :: st)) : sx_V lay cl D cI cJ ad A nL p l e R s m args below meth c Q cells slots μ (pc) lv (st) := by
  intro H locs ls hP hS hl
  exact lv_lconst C.1 C.2.1 hd hv (k H locs ls hP hS hl)

theorem sx_iload_n (C : sx_C lay cl D cI cJ ad A nL own cc Ts p s m args c) {q : Fin 4} {i : Nat} {x : Int} (n : Nat) (hd : decode cc pc = .ok (.iload_n q, 1)) (hi : (q : Nat) = i) (hv : lv[n]? = some (i, .int (sx_i x))) (k : sx_V lay cl D cI cJ ad A nL p l e R s m args below meth c Q cells slots μ (pc + 1) lv (.int (sx_i x) :: st)) : sx_V lay cl D cI cJ ad A nL p l e R s m args below meth c Q cells slots μ (pc) lv (st) := by
  intro H locs ls hP hS hl
  exact lv_iload_n C.1 C.2.1 hd hi (lv_at hl n hv) (k H locs ls hP hS hl)

theorem sx_iload (C : sx_C lay cl D cI cJ ad A nL own cc Ts p s m args c) {i : Nat} {x : Int} (n : Nat) (hd : decode cc pc = .ok (.iload i, 2)) (hv : lv[n]? = some (i, .int (sx_i x))) (k : sx_V lay cl D cI cJ ad A nL p l e R s m args below meth c Q cells slots μ (pc + 2) lv (.int (sx_i x) :: st)) : sx_V lay cl D cI cJ ad A nL p l e R s m args below meth c Q cells slots μ (pc) lv (st) := by
  intro H locs ls hP hS hl
  exact lv_iload C.1 C.2.1 hd (lv_at hl n hv) (k H locs ls hP hS hl)

theorem sx_aload_n (C : sx_C lay cl D cI cJ ad A nL own cc Ts p s m args c) {q : Fin 4} {i a : Nat} (n : Nat) (hd : decode cc pc = .ok (.aload_n q, 1)) (hi : (q : Nat) = i) (hv : lv[n]? = some (i, .ref a)) (k : sx_V lay cl D cI cJ ad A nL p l e R s m args below meth c Q cells slots μ (pc + 1) lv (.ref a :: st)) : sx_V lay cl D cI cJ ad A nL p l e R s m args below meth c Q cells slots μ (pc) lv (st) := by
  intro H locs ls hP hS hl
  exact lv_aload_n C.1 C.2.1 hd hi (lv_at hl n hv) (k H locs ls hP hS hl)

theorem sx_aload (C : sx_C lay cl D cI cJ ad A nL own cc Ts p s m args c) {i a : Nat} (n : Nat) (hd : decode cc pc = .ok (.aload i, 2)) (hv : lv[n]? = some (i, .ref a)) (k : sx_V lay cl D cI cJ ad A nL p l e R s m args below meth c Q cells slots μ (pc + 2) lv (.ref a :: st)) : sx_V lay cl D cI cJ ad A nL p l e R s m args below meth c Q cells slots μ (pc) lv (st) := by
  intro H locs ls hP hS hl
  exact lv_aload C.1 C.2.1 hd (lv_at hl n hv) (k H locs ls hP hS hl)

theorem sx_istore_n (C : sx_C lay cl D cI cJ ad A nL own cc Ts p s m args c) {q : Fin 4} {i : Nat} {x : Int} {lu : List (Nat × Value)} (hd : decode cc pc = .ok (.istore_n q, 1)) (hi : (q : Nat) = i) (hn : i < nL) (hv : (i, Value.int (sx_i x)) :: lv.filter (fun q => !(q.1 == i) && !(q.1 + 1 == i && q.2.category == 2)) = lu) (k : sx_V lay cl D cI cJ ad A nL p l e R s m args below meth c Q cells slots μ (pc + 1) lu (st)) : sx_V lay cl D cI cJ ad A nL p l e R s m args below meth c Q cells slots μ (pc) lv (.int (sx_i x) :: st) := by
  intro H locs ls hP hS hl
  exact lv_istore_n C.1 C.2.1 hd hi hl hn hv (fun ls' hl' => k H locs ls' hP hS hl')

theorem sx_istore (C : sx_C lay cl D cI cJ ad A nL own cc Ts p s m args c) {i : Nat} {x : Int} {lu : List (Nat × Value)} (hd : decode cc pc = .ok (.istore i, 2)) (hn : i < nL) (hv : (i, Value.int (sx_i x)) :: lv.filter (fun q => !(q.1 == i) && !(q.1 + 1 == i && q.2.category == 2)) = lu) (k : sx_V lay cl D cI cJ ad A nL p l e R s m args below meth c Q cells slots μ (pc + 2) lu (st)) : sx_V lay cl D cI cJ ad A nL p l e R s m args below meth c Q cells slots μ (pc) lv (.int (sx_i x) :: st) := by
  intro H locs ls hP hS hl
  exact lv_istore C.1 C.2.1 hd hl hn hv (fun ls' hl' => k H locs ls' hP hS hl')

theorem sx_astore_n (C : sx_C lay cl D cI cJ ad A nL own cc Ts p s m args c) {q : Fin 4} {i a : Nat} {lu : List (Nat × Value)} (hd : decode cc pc = .ok (.astore_n q, 1)) (hi : (q : Nat) = i) (hn : i < nL) (hv : (i, Value.ref a) :: lv.filter (fun q => !(q.1 == i) && !(q.1 + 1 == i && q.2.category == 2)) = lu) (k : sx_V lay cl D cI cJ ad A nL p l e R s m args below meth c Q cells slots μ (pc + 1) lu (st)) : sx_V lay cl D cI cJ ad A nL p l e R s m args below meth c Q cells slots μ (pc) lv (.ref a :: st) := by
  intro H locs ls hP hS hl
  exact lv_astore_n C.1 C.2.1 hd hi hl hn hv (fun ls' hl' => k H locs ls' hP hS hl')

theorem sx_astore (C : sx_C lay cl D cI cJ ad A nL own cc Ts p s m args c) {i a : Nat} {lu : List (Nat × Value)} (hd : decode cc pc = .ok (.astore i, 2)) (hn : i < nL) (hv : (i, Value.ref a) :: lv.filter (fun q => !(q.1 == i) && !(q.1 + 1 == i && q.2.category == 2)) = lu) (k : sx_V lay cl D cI cJ ad A nL p l e R s m args below meth c Q cells slots μ (pc + 2) lu (st)) : sx_V lay cl D cI cJ ad A nL p l e R s m args below meth c Q cells slots μ (pc) lv (.ref a :: st) := by
  intro H locs ls hP hS hl
  exact lv_astore C.1 C.2.1 hd hl hn hv (fun ls' hl' => k H locs ls' hP hS hl')

theorem sx_iinc (C : sx_C lay cl D cI cJ ad A nL own cc Ts p s m args c) {i : Nat} {n x : Int} {lu : List (Nat × Value)} (q : Nat) (hd : decode cc pc = .ok (.iinc i n, 3)) (hx : lv[q]? = some (i, .int (sx_i x))) (hn : i < nL) (hv : (i, Value.int (sx_i (x + n))) :: lv.filter (fun q => !(q.1 == i) && !(q.1 + 1 == i && q.2.category == 2)) = lu) (k : sx_V lay cl D cI cJ ad A nL p l e R s m args below meth c Q cells slots μ (pc + 3) lu (st)) : sx_V lay cl D cI cJ ad A nL p l e R s m args below meth c Q cells slots μ (pc) lv (st) := by
  intro H locs ls hP hS hl
  exact lv_iinc C.1 C.2.1 hd hl hx (sx_add x n) hn hv (fun ls' hl' => k H locs ls' hP hS hl')

theorem sx_less (C : sx_C lay cl D cI cJ ad A nL own cc Ts p s m args c) {lu : List (Nat × Value)} (ks : List Nat) (hv : lv_pick lv ks = lu) (k : sx_V lay cl D cI cJ ad A nL p l e R s m args below meth c Q cells slots μ (pc) lu (st)) : sx_V lay cl D cI cJ ad A nL p l e R s m args below meth c Q cells slots μ (pc) lv (st) := by
  intro H locs ls hP hS hl
  exact k H locs ls hP hS (lv_sub hl ks hv)

theorem sx_wide (C : sx_C lay cl D cI cJ ad A nL own cc Ts p s m args c) {cells2 slots2 : Nat} (h1 : cells ≤ cells2) (h2 : slots ≤ slots2) (k : sx_V lay cl D cI cJ ad A nL p l e R s m args below meth c Q cells2 slots2 μ (pc) lv (st)) : sx_V lay cl D cI cJ ad A nL p l e R s m args below meth c Q cells slots μ (pc) lv (st) := by
  intro H locs ls hP hS hl
  exact W.widen h1 h2 (k H locs ls hP hS hl)

theorem sx_iadd (C : sx_C lay cl D cI cJ ad A nL own cc Ts p s m args c) {x y : Int} (hd : decode cc pc = .ok (.iadd, 1)) (k : sx_V lay cl D cI cJ ad A nL p l e R s m args below meth c Q cells slots μ (pc + 1) lv (.int (sx_i (x + y)) :: st)) : sx_V lay cl D cI cJ ad A nL p l e R s m args below meth c Q cells slots μ (pc) lv (.int (sx_i y) :: .int (sx_i x) :: st) := by
  intro H locs ls hP hS hl
  refine lv_iadd C.1 C.2.1 hd ?_
  rw [sx_add]
  exact k H locs ls hP hS hl

theorem sx_isub (C : sx_C lay cl D cI cJ ad A nL own cc Ts p s m args c) {x y : Int} (hd : decode cc pc = .ok (.isub, 1)) (k : sx_V lay cl D cI cJ ad A nL p l e R s m args below meth c Q cells slots μ (pc + 1) lv (.int (sx_i (x - y)) :: st)) : sx_V lay cl D cI cJ ad A nL p l e R s m args below meth c Q cells slots μ (pc) lv (.int (sx_i y) :: .int (sx_i x) :: st) := by
  intro H locs ls hP hS hl
  refine lv_isub C.1 C.2.1 hd ?_
  rw [sx_sub]
  exact k H locs ls hP hS hl

theorem sx_imul (C : sx_C lay cl D cI cJ ad A nL own cc Ts p s m args c) {x y : Int} (hd : decode cc pc = .ok (.imul, 1)) (k : sx_V lay cl D cI cJ ad A nL p l e R s m args below meth c Q cells slots μ (pc + 1) lv (.int (sx_i (x * y)) :: st)) : sx_V lay cl D cI cJ ad A nL p l e R s m args below meth c Q cells slots μ (pc) lv (.int (sx_i y) :: .int (sx_i x) :: st) := by
  intro H locs ls hP hS hl
  refine lv_imul C.1 C.2.1 hd ?_
  rw [sx_mul]
  exact k H locs ls hP hS hl

theorem sx_ineg (C : sx_C lay cl D cI cJ ad A nL own cc Ts p s m args c) {x : Int} (hd : decode cc pc = .ok (.ineg, 1)) (k : sx_V lay cl D cI cJ ad A nL p l e R s m args below meth c Q cells slots μ (pc + 1) lv (.int (sx_i (-x)) :: st)) : sx_V lay cl D cI cJ ad A nL p l e R s m args below meth c Q cells slots μ (pc) lv (.int (sx_i x) :: st) := by
  intro H locs ls hP hS hl
  refine lv_ineg C.1 C.2.1 hd ?_
  rw [sx_neg]
  exact k H locs ls hP hS hl

theorem sx_ixor (C : sx_C lay cl D cI cJ ad A nL own cc Ts p s m args c) {x y : Int} (hd : decode cc pc = .ok (.ixor, 1)) (k : sx_V lay cl D cI cJ ad A nL p l e R s m args below meth c Q cells slots μ (pc + 1) lv (.int (sx_i (sx_xor x y)) :: st)) : sx_V lay cl D cI cJ ad A nL p l e R s m args below meth c Q cells slots μ (pc) lv (.int (sx_i y) :: .int (sx_i x) :: st) := by
  intro H locs ls hP hS hl
  refine lv_ixor C.1 C.2.1 hd ?_
  rw [← sx_of (sx_i x ^^^ sx_i y)]
  exact k H locs ls hP hS hl

theorem sx_iand (C : sx_C lay cl D cI cJ ad A nL own cc Ts p s m args c) {x y : Int} (hd : decode cc pc = .ok (.iand, 1)) (k : sx_V lay cl D cI cJ ad A nL p l e R s m args below meth c Q cells slots μ (pc + 1) lv (.int (sx_i (sx_and x y)) :: st)) : sx_V lay cl D cI cJ ad A nL p l e R s m args below meth c Q cells slots μ (pc) lv (.int (sx_i y) :: .int (sx_i x) :: st) := by
  intro H locs ls hP hS hl
  refine lv_iand C.1 C.2.1 hd ?_
  rw [← sx_of (sx_i x &&& sx_i y)]
  exact k H locs ls hP hS hl

theorem sx_idiv (C : sx_C lay cl D cI cJ ad A nL own cc Ts p s m args c) {x y : Int} {B : Prop} (hd : decode cc pc = .ok (.idiv, 1)) (h : (sx_R x ∧ sx_R y ∧ 0 < y ∧ -2147483648 < x) ∧ B) (k : B → sx_V lay cl D cI cJ ad A nL p l e R s m args below meth c Q cells slots μ (pc + 1) lv (.int (sx_i (x.tdiv y)) :: st)) : sx_V lay cl D cI cJ ad A nL p l e R s m args below meth c Q cells slots μ (pc) lv (.int (sx_i y) :: .int (sx_i x) :: st) := by
  intro H locs ls hP hS hl
  obtain ⟨⟨h1, h2, h3, h4⟩, hB⟩ := h
  refine lv_idiv C.1 C.2.1 hd (sx_nz h2 h3) ?_
  rw [sx_div h1 h2 h3 h4]
  exact k hB H locs ls hP hS hl

theorem sx_irem (C : sx_C lay cl D cI cJ ad A nL own cc Ts p s m args c) {x y : Int} {B : Prop} (hd : decode cc pc = .ok (.irem, 1)) (h : (sx_R x ∧ sx_R y ∧ 0 < y ∧ -2147483648 < x) ∧ B) (k : B → sx_V lay cl D cI cJ ad A nL p l e R s m args below meth c Q cells slots μ (pc + 1) lv (.int (sx_i (x.tmod y)) :: st)) : sx_V lay cl D cI cJ ad A nL p l e R s m args below meth c Q cells slots μ (pc) lv (.int (sx_i y) :: .int (sx_i x) :: st) := by
  intro H locs ls hP hS hl
  obtain ⟨⟨h1, h2, h3, h4⟩, hB⟩ := h
  refine lv_irem C.1 C.2.1 hd (sx_nz h2 h3) ?_
  rw [sx_rem h1 h2 h3 h4]
  exact k hB H locs ls hP hS hl

theorem sx_toL (C : sx_C lay cl D cI cJ ad A nL own cc Ts p s m args c) {x : Int} {B : Prop} (hd : decode cc pc = .ok (.i2l, 1)) (h : sx_R x ∧ B) (k : B → sx_V lay cl D cI cJ ad A nL p l e R s m args below meth c Q cells slots μ (pc + 1) lv (.long (sx_j x) :: st)) : sx_V lay cl D cI cJ ad A nL p l e R s m args below meth c Q cells slots μ (pc) lv (.int (sx_i x) :: st) := by
  intro H locs ls hP hS hl
  exact lv_i2l C.1 C.2.1 hd (sx_i2l h.1) (k h.2 H locs ls hP hS hl)

theorem sx_cmpL (C : sx_C lay cl D cI cJ ad A nL own cc Ts p s m args c) {x y : Int} {B : Prop} (hd : decode cc pc = .ok (.lcmp, 1)) (h : (sx_R x ∧ sx_R y) ∧ B) (k : B → sx_V lay cl D cI cJ ad A nL p l e R s m args below meth c Q cells slots μ (pc + 1) lv (.int (sx_i (sx_cmp x y)) :: st)) : sx_V lay cl D cI cJ ad A nL p l e R s m args below meth c Q cells slots μ (pc) lv (.long (sx_j y) :: .long (sx_j x) :: st) := by
  intro H locs ls hP hS hl
  refine W.lcmp C.1 C.2.1 hd ?_
  rw [sx_lcmp h.1.1 h.1.2]
  exact k h.2 H locs ls hP hS hl

theorem sx_dup (C : sx_C lay cl D cI cJ ad A nL own cc Ts p s m args c) {v : Value} (hd : decode cc pc = .ok (.dup, 1)) (hc : v.category = 1) (k : sx_V lay cl D cI cJ ad A nL p l e R s m args below meth c Q cells slots μ (pc + 1) lv (v :: v :: st)) : sx_V lay cl D cI cJ ad A nL p l e R s m args below meth c Q cells slots μ (pc) lv (v :: st) := by
  intro H locs ls hP hS hl
  exact lv_dup C.1 C.2.1 hd hc (k H locs ls hP hS hl)

theorem sx_dup_x1 (C : sx_C lay cl D cI cJ ad A nL own cc Ts p s m args c) {v w : Value} (hd : decode cc pc = .ok (.dup_x1, 1)) (hc : v.category = 1) (hw : w.category = 1) (k : sx_V lay cl D cI cJ ad A nL p l e R s m args below meth c Q cells slots μ (pc + 1) lv (v :: w :: v :: st)) : sx_V lay cl D cI cJ ad A nL p l e R s m args below meth c Q cells slots μ (pc) lv (v :: w :: st) := by
  intro H locs ls hP hS hl
  exact lv_dup_x1 C.1 C.2.1 hd hc hw (k H locs ls hP hS hl)

theorem sx_dup2 (C : sx_C lay cl D cI cJ ad A nL own cc Ts p s m args c) {v w : Value} (hd : decode cc pc = .ok (.dup2, 1)) (hc : v.category = 1) (hw : w.category = 1) (k : sx_V lay cl D cI cJ ad A nL p l e R s m args below meth c Q cells slots μ (pc + 1) lv (v :: w :: v :: w :: st)) : sx_V lay cl D cI cJ ad A nL p l e R s m args below meth c Q cells slots μ (pc) lv (v :: w :: st) := by
  intro H locs ls hP hS hl
  exact lv_dup2_11 C.1 C.2.1 hd hc hw (k H locs ls hP hS hl)

theorem sx_pop (C : sx_C lay cl D cI cJ ad A nL own cc Ts p s m args c) {v : Value} (hd : decode cc pc = .ok (.pop, 1)) (hc : v.category = 1) (k : sx_V lay cl D cI cJ ad A nL p l e R s m args below meth c Q cells slots μ (pc + 1) lv (st)) : sx_V lay cl D cI cJ ad A nL p l e R s m args below meth c Q cells slots μ (pc) lv (v :: st) := by
  intro H locs ls hP hS hl
  exact lv_pop C.1 C.2.1 hd hc (k H locs ls hP hS hl)

theorem sx_goto (C : sx_C lay cl D cI cJ ad A nL own cc Ts p s m args c) {off : Int} {tgt : Nat} (hd : decode cc pc = .ok (.goto off, 3)) (ht : (pc : Int) + off = (tgt : Int)) (k : sx_V lay cl D cI cJ ad A nL p l e R s m args below meth c Q cells slots μ (tgt) lv (st)) : sx_V lay cl D cI cJ ad A nL p l e R s m args below meth c Q cells slots μ (pc) lv (st) := by
  intro H locs ls hP hS hl
  exact lv_goto C.1 C.2.1 hd ht (k H locs ls hP hS hl)

theorem sx_icmp_eq (C : sx_C lay cl D cI cJ ad A nL own cc Ts p s m args c) {x y off : Int} {tgt : Nat} {A0 B0 : Prop} (hd : decode cc pc = .ok (.if_icmp .eq off, 3)) (ht : (pc : Int) + off = (tgt : Int)) (h : (sx_R x ∧ sx_R y) ∧ (x = y → A0) ∧ (¬ x = y → B0)) (kt : A0 → sx_V lay cl D cI cJ ad A nL p l e R s m args below meth c Q cells slots μ (tgt) lv (st)) (kf : B0 → sx_V lay cl D cI cJ ad A nL p l e R s m args below meth c Q cells slots μ (pc + 3) lv (st)) : sx_V lay cl D cI cJ ad A nL p l e R s m args below meth c Q cells slots μ (pc) lv (.int (sx_i y) :: .int (sx_i x) :: st) := by
  intro H locs ls hP hS hl
  obtain ⟨⟨h1, h2⟩, hA, hB⟩ := h
  exact lv_icmp_eq C.1 C.2.1 hd ht (fun q => kt (hA ((sx_eq h1 h2).mp q)) H locs ls hP hS hl) (fun q => kf (hB (fun z => q ((sx_eq h1 h2).mpr z))) H locs ls hP hS hl)

theorem sx_if_eq (C : sx_C lay cl D cI cJ ad A nL own cc Ts p s m args c) {x off : Int} {tgt : Nat} {A0 B0 : Prop} (hd : decode cc pc = .ok (.ifCond .eq off, 3)) (ht : (pc : Int) + off = (tgt : Int)) (h : sx_R x ∧ (x = 0 → A0) ∧ (¬ x = 0 → B0)) (kt : A0 → sx_V lay cl D cI cJ ad A nL p l e R s m args below meth c Q cells slots μ (tgt) lv (st)) (kf : B0 → sx_V lay cl D cI cJ ad A nL p l e R s m args below meth c Q cells slots μ (pc + 3) lv (st)) : sx_V lay cl D cI cJ ad A nL p l e R s m args below meth c Q cells slots μ (pc) lv (.int (sx_i x) :: st) := by
  intro H locs ls hP hS hl
  obtain ⟨h1, hA, hB⟩ := h
  have h2 : sx_R 0 := ⟨by omega, by omega⟩
  exact lv_if_eq C.1 C.2.1 hd ht (by rw [← sx_0]; exact fun q => kt (hA ((sx_eq h1 h2).mp q)) H locs ls hP hS hl) (by rw [← sx_0]; exact fun q => kf (hB (fun z => q ((sx_eq h1 h2).mpr z))) H locs ls hP hS hl)

theorem sx_icmp_ne (C : sx_C lay cl D cI cJ ad A nL own cc Ts p s m args c) {x y off : Int} {tgt : Nat} {A0 B0 : Prop} (hd : decode cc pc = .ok (.if_icmp .ne off, 3)) (ht : (pc : Int) + off = (tgt : Int)) (h : (sx_R x ∧ sx_R y) ∧ (¬ x = y → A0) ∧ (x = y → B0)) (kt : A0 → sx_V lay cl D cI cJ ad A nL p l e R s m args below meth c Q cells slots μ (tgt) lv (st)) (kf : B0 → sx_V lay cl D cI cJ ad A nL p l e R s m args below meth c Q cells slots μ (pc + 3) lv (st)) : sx_V lay cl D cI cJ ad A nL p l e R s m args below meth c Q cells slots μ (pc) lv (.int (sx_i y) :: .int (sx_i x) :: st) := by
  intro H locs ls hP hS hl
  obtain ⟨⟨h1, h2⟩, hA, hB⟩ := h
  exact lv_icmp_ne C.1 C.2.1 hd ht (fun q => kt (hA (fun z => q ((sx_eq h1 h2).mpr z))) H locs ls hP hS hl) (fun q => kf (hB ((sx_eq h1 h2).mp q)) H locs ls hP hS hl)

theorem sx_if_ne (C : sx_C lay cl D cI cJ ad A nL own cc Ts p s m args c) {x off : Int} {tgt : Nat} {A0 B0 : Prop} (hd : decode cc pc = .ok (.ifCond .ne off, 3)) (ht : (pc : Int) + off = (tgt : Int)) (h : sx_R x ∧ (¬ x = 0 → A0) ∧ (x = 0 → B0)) (kt : A0 → sx_V lay cl D cI cJ ad A nL p l e R s m args below meth c Q cells slots μ (tgt) lv (st)) (kf : B0 → sx_V lay cl D cI cJ ad A nL p l e R s m args below meth c Q cells slots μ (pc + 3) lv (st)) : sx_V lay cl D cI cJ ad A nL p l e R s m args below meth c Q cells slots μ (pc) lv (.int (sx_i x) :: st) := by
  intro H locs ls hP hS hl
  obtain ⟨h1, hA, hB⟩ := h
  have h2 : sx_R 0 := ⟨by omega, by omega⟩
  exact lv_if_ne C.1 C.2.1 hd ht (by rw [← sx_0]; exact fun q => kt (hA (fun z => q ((sx_eq h1 h2).mpr z))) H locs ls hP hS hl) (by rw [← sx_0]; exact fun q => kf (hB ((sx_eq h1 h2).mp q)) H locs ls hP hS hl)

theorem sx_icmp_lt (C : sx_C lay cl D cI cJ ad A nL own cc Ts p s m args c) {x y off : Int} {tgt : Nat} {A0 B0 : Prop} (hd : decode cc pc = .ok (.if_icmp .lt off, 3)) (ht : (pc : Int) + off = (tgt : Int)) (h : (sx_R x ∧ sx_R y) ∧ (x < y → A0) ∧ (y ≤ x → B0)) (kt : A0 → sx_V lay cl D cI cJ ad A nL p l e R s m args below meth c Q cells slots μ (tgt) lv (st)) (kf : B0 → sx_V lay cl D cI cJ ad A nL p l e R s m args below meth c Q cells slots μ (pc + 3) lv (st)) : sx_V lay cl D cI cJ ad A nL p l e R s m args below meth c Q cells slots μ (pc) lv (.int (sx_i y) :: .int (sx_i x) :: st) := by
  intro H locs ls hP hS hl
  obtain ⟨⟨h1, h2⟩, hA, hB⟩ := h
  exact lv_icmp_lt C.1 C.2.1 hd ht (fun q => kt (hA ((sx_lt h1 h2).mp q)) H locs ls hP hS hl) (fun q => kf (hB (by have z := (not_congr (sx_lt h1 h2)).mp q; omega)) H locs ls hP hS hl)

theorem sx_if_lt (C : sx_C lay cl D cI cJ ad A nL own cc Ts p s m args c) {x off : Int} {tgt : Nat} {A0 B0 : Prop} (hd : decode cc pc = .ok (.ifCond .lt off, 3)) (ht : (pc : Int) + off = (tgt : Int)) (h : sx_R x ∧ (x < 0 → A0) ∧ (0 ≤ x → B0)) (kt : A0 → sx_V lay cl D cI cJ ad A nL p l e R s m args below meth c Q cells slots μ (tgt) lv (st)) (kf : B0 → sx_V lay cl D cI cJ ad A nL p l e R s m args below meth c Q cells slots μ (pc + 3) lv (st)) : sx_V lay cl D cI cJ ad A nL p l e R s m args below meth c Q cells slots μ (pc) lv (.int (sx_i x) :: st) := by
  intro H locs ls hP hS hl
  obtain ⟨h1, hA, hB⟩ := h
  have h2 : sx_R 0 := ⟨by omega, by omega⟩
  exact lv_if_lt C.1 C.2.1 hd ht (by rw [← sx_0]; exact fun q => kt (hA ((sx_lt h1 h2).mp q)) H locs ls hP hS hl) (by rw [← sx_0]; exact fun q => kf (hB (by have z := (not_congr (sx_lt h1 h2)).mp q; omega)) H locs ls hP hS hl)

theorem sx_icmp_ge (C : sx_C lay cl D cI cJ ad A nL own cc Ts p s m args c) {x y off : Int} {tgt : Nat} {A0 B0 : Prop} (hd : decode cc pc = .ok (.if_icmp .ge off, 3)) (ht : (pc : Int) + off = (tgt : Int)) (h : (sx_R x ∧ sx_R y) ∧ (y ≤ x → A0) ∧ (x < y → B0)) (kt : A0 → sx_V lay cl D cI cJ ad A nL p l e R s m args below meth c Q cells slots μ (tgt) lv (st)) (kf : B0 → sx_V lay cl D cI cJ ad A nL p l e R s m args below meth c Q cells slots μ (pc + 3) lv (st)) : sx_V lay cl D cI cJ ad A nL p l e R s m args below meth c Q cells slots μ (pc) lv (.int (sx_i y) :: .int (sx_i x) :: st) := by
  intro H locs ls hP hS hl
  obtain ⟨⟨h1, h2⟩, hA, hB⟩ := h
  exact lv_icmp_ge C.1 C.2.1 hd ht (fun q => kt (hA ((sx_le h2 h1).mp q)) H locs ls hP hS hl) (fun q => kf (hB (by have z := (not_congr (sx_le h2 h1)).mp q; omega)) H locs ls hP hS hl)

theorem sx_if_ge (C : sx_C lay cl D cI cJ ad A nL own cc Ts p s m args c) {x off : Int} {tgt : Nat} {A0 B0 : Prop} (hd : decode cc pc = .ok (.ifCond .ge off, 3)) (ht : (pc : Int) + off = (tgt : Int)) (h : sx_R x ∧ (0 ≤ x → A0) ∧ (x < 0 → B0)) (kt : A0 → sx_V lay cl D cI cJ ad A nL p l e R s m args below meth c Q cells slots μ (tgt) lv (st)) (kf : B0 → sx_V lay cl D cI cJ ad A nL p l e R s m args below meth c Q cells slots μ (pc + 3) lv (st)) : sx_V lay cl D cI cJ ad A nL p l e R s m args below meth c Q cells slots μ (pc) lv (.int (sx_i x) :: st) := by
  intro H locs ls hP hS hl
  obtain ⟨h1, hA, hB⟩ := h
  have h2 : sx_R 0 := ⟨by omega, by omega⟩
  exact lv_if_ge C.1 C.2.1 hd ht (by rw [← sx_0]; exact fun q => kt (hA ((sx_le h2 h1).mp q)) H locs ls hP hS hl) (by rw [← sx_0]; exact fun q => kf (hB (by have z := (not_congr (sx_le h2 h1)).mp q; omega)) H locs ls hP hS hl)

theorem sx_icmp_gt (C : sx_C lay cl D cI cJ ad A nL own cc Ts p s m args c) {x y off : Int} {tgt : Nat} {A0 B0 : Prop} (hd : decode cc pc = .ok (.if_icmp .gt off, 3)) (ht : (pc : Int) + off = (tgt : Int)) (h : (sx_R x ∧ sx_R y) ∧ (y < x → A0) ∧ (x ≤ y → B0)) (kt : A0 → sx_V lay cl D cI cJ ad A nL p l e R s m args below meth c Q cells slots μ (tgt) lv (st)) (kf : B0 → sx_V lay cl D cI cJ ad A nL p l e R s m args below meth c Q cells slots μ (pc + 3) lv (st)) : sx_V lay cl D cI cJ ad A nL p l e R s m args below meth c Q cells slots μ (pc) lv (.int (sx_i y) :: .int (sx_i x) :: st) := by
  intro H locs ls hP hS hl
  obtain ⟨⟨h1, h2⟩, hA, hB⟩ := h
  exact lv_icmp_gt C.1 C.2.1 hd ht (fun q => kt (hA ((sx_lt h2 h1).mp q)) H locs ls hP hS hl) (fun q => kf (hB (by have z := (not_congr (sx_lt h2 h1)).mp q; omega)) H locs ls hP hS hl)

theorem sx_if_gt (C : sx_C lay cl D cI cJ ad A nL own cc Ts p s m args c) {x off : Int} {tgt : Nat} {A0 B0 : Prop} (hd : decode cc pc = .ok (.ifCond .gt off, 3)) (ht : (pc : Int) + off = (tgt : Int)) (h : sx_R x ∧ (0 < x → A0) ∧ (x ≤ 0 → B0)) (kt : A0 → sx_V lay cl D cI cJ ad A nL p l e R s m args below meth c Q cells slots μ (tgt) lv (st)) (kf : B0 → sx_V lay cl D cI cJ ad A nL p l e R s m args below meth c Q cells slots μ (pc + 3) lv (st)) : sx_V lay cl D cI cJ ad A nL p l e R s m args below meth c Q cells slots μ (pc) lv (.int (sx_i x) :: st) := by
  intro H locs ls hP hS hl
  obtain ⟨h1, hA, hB⟩ := h
  have h2 : sx_R 0 := ⟨by omega, by omega⟩
  exact lv_if_gt C.1 C.2.1 hd ht (by rw [← sx_0]; exact fun q => kt (hA ((sx_lt h2 h1).mp q)) H locs ls hP hS hl) (by rw [← sx_0]; exact fun q => kf (hB (by have z := (not_congr (sx_lt h2 h1)).mp q; omega)) H locs ls hP hS hl)

theorem sx_icmp_le (C : sx_C lay cl D cI cJ ad A nL own cc Ts p s m args c) {x y off : Int} {tgt : Nat} {A0 B0 : Prop} (hd : decode cc pc = .ok (.if_icmp .le off, 3)) (ht : (pc : Int) + off = (tgt : Int)) (h : (sx_R x ∧ sx_R y) ∧ (x ≤ y → A0) ∧ (y < x → B0)) (kt : A0 → sx_V lay cl D cI cJ ad A nL p l e R s m args below meth c Q cells slots μ (tgt) lv (st)) (kf : B0 → sx_V lay cl D cI cJ ad A nL p l e R s m args below meth c Q cells slots μ (pc + 3) lv (st)) : sx_V lay cl D cI cJ ad A nL p l e R s m args below meth c Q cells slots μ (pc) lv (.int (sx_i y) :: .int (sx_i x) :: st) := by
  intro H locs ls hP hS hl
  obtain ⟨⟨h1, h2⟩, hA, hB⟩ := h
  exact lv_icmp_le C.1 C.2.1 hd ht (fun q => kt (hA ((sx_le h1 h2).mp q)) H locs ls hP hS hl) (fun q => kf (hB (by have z := (not_congr (sx_le h1 h2)).mp q; omega)) H locs ls hP hS hl)

theorem sx_if_le (C : sx_C lay cl D cI cJ ad A nL own cc Ts p s m args c) {x off : Int} {tgt : Nat} {A0 B0 : Prop} (hd : decode cc pc = .ok (.ifCond .le off, 3)) (ht : (pc : Int) + off = (tgt : Int)) (h : sx_R x ∧ (x ≤ 0 → A0) ∧ (0 < x → B0)) (kt : A0 → sx_V lay cl D cI cJ ad A nL p l e R s m args below meth c Q cells slots μ (tgt) lv (st)) (kf : B0 → sx_V lay cl D cI cJ ad A nL p l e R s m args below meth c Q cells slots μ (pc + 3) lv (st)) : sx_V lay cl D cI cJ ad A nL p l e R s m args below meth c Q cells slots μ (pc) lv (.int (sx_i x) :: st) := by
  intro H locs ls hP hS hl
  obtain ⟨h1, hA, hB⟩ := h
  have h2 : sx_R 0 := ⟨by omega, by omega⟩
  exact lv_if_le C.1 C.2.1 hd ht (by rw [← sx_0]; exact fun q => kt (hA ((sx_le h1 h2).mp q)) H locs ls hP hS hl) (by rw [← sx_0]; exact fun q => kf (hB (by have z := (not_congr (sx_le h1 h2)).mp q; omega)) H locs ls hP hS hl)

theorem sx_tableIn (C : sx_C lay cl D cI cJ ad A nL own cc Ts p s m args c) {dflt lo hi off x : Int} {offs : Array Int} {len tgt : Nat} (hd : decode cc pc = .ok (.tableswitch dflt lo hi offs, len)) (hR : sx_R x) (h1 : ¬ x < lo) (h2 : ¬ hi < x) (ho : offs[(x - lo).toNat]? = some off) (ht : (pc : Int) + off = (tgt : Int)) (k : sx_V lay cl D cI cJ ad A nL p l e R s m args below meth c Q cells slots μ (tgt) lv (st)) : sx_V lay cl D cI cJ ad A nL p l e R s m args below meth c Q cells slots μ (pc) lv (.int (sx_i x) :: st) := by
  intro H locs ls hP hS hl
  exact lv_tableIn C.1 C.2.1 hd (by rw [sx_toInt hR]; exact h1) (by rw [sx_toInt hR]; exact h2) (by rw [sx_toInt hR]; exact ho) ht (k H locs ls hP hS hl)

theorem sx_tableOut (C : sx_C lay cl D cI cJ ad A nL own cc Ts p s m args c) {dflt lo hi x : Int} {offs : Array Int} {len tgt : Nat} (hd : decode cc pc = .ok (.tableswitch dflt lo hi offs, len)) (hR : sx_R x) (h : x < lo ∨ hi < x) (ht : (pc : Int) + dflt = (tgt : Int)) (k : sx_V lay cl D cI cJ ad A nL p l e R s m args below meth c Q cells slots μ (tgt) lv (st)) : sx_V lay cl D cI cJ ad A nL p l e R s m args below meth c Q cells slots μ (pc) lv (.int (sx_i x) :: st) := by
  intro H locs ls hP hS hl
  exact lv_tableOut C.1 C.2.1 hd (by rw [sx_toInt hR]; exact h) ht (k H locs ls hP hS hl)

theorem sx_geti (C : sx_C lay cl D cI cJ ad A nL own cc Ts p s m args c) {C0 ref : String} {T : u_T} {N ci index : Nat} {fl : List (Option Nat)} (c0 k0 : Nat) (hlay : lay[c0]? = some (.inl (ci, fl))) (hf : fl[k0]? = some none) (hcl : cl[ci]? = some (C0, T, N)) (hk : k0 < N) (hin : ∀ w ∈ u_ws C0 T N, w ∈ Ts) (hw : Cond.fieldLink own index ref (T k0).2.1 (T k0).2.2.1 ∈ Ts) (hr : (T k0).1 = ref) (hd : decode cc pc = .ok (.getfield index, 3)) (k : sx_V lay cl D cI cJ ad A nL p l e R s m args below meth c Q cells slots μ (pc + 3) lv (.int (sx_i (μ c0 (k0 : Nat))) :: st)) : sx_V lay cl D cI cJ ad A nL p l e R s m args below meth c Q cells slots μ (pc) lv (.ref (ad c0) :: st) := by
  intro H locs ls hP hS hl
  refine va_get (D := D) C.1 C.2.1 C.2.2.2.2.1 hin C.2.2.2.1 C.2.2.2.2.2.1 hP c0 (sx_at hlay) hcl k0 hk (C.2.2.2.2.1 _ hw) (fun _ h9 => by rw [hr] at h9; exact h9) (v := .int (sx_i (μ c0 (k0 : Nat)))) ?_ hd (k H locs ls hP hS hl)
  rw [List.getElem?_map, List.getElem?_zipIdx, hf]
  simp [sx_fv]

theorem sx_getr (C : sx_C lay cl D cI cJ ad A nL own cc Ts p s m args c) {C0 ref : String} {T : u_T} {N ci index j0 : Nat} {fl : List (Option Nat)} (c0 k0 : Nat) (hlay : lay[c0]? = some (.inl (ci, fl))) (hf : fl[k0]? = some (some j0)) (hcl : cl[ci]? = some (C0, T, N)) (hk : k0 < N) (hin : ∀ w ∈ u_ws C0 T N, w ∈ Ts) (hw : Cond.fieldLink own index ref (T k0).2.1 (T k0).2.2.1 ∈ Ts) (hr : (T k0).1 = ref) (hd : decode cc pc = .ok (.getfield index, 3)) (k : sx_V lay cl D cI cJ ad A nL p l e R s m args below meth c Q cells slots μ (pc + 3) lv (.ref (ad j0) :: st)) : sx_V lay cl D cI cJ ad A nL p l e R s m args below meth c Q cells slots μ (pc) lv (.ref (ad c0) :: st) := by
  intro H locs ls hP hS hl
  refine va_get (D := D) C.1 C.2.1 C.2.2.2.2.1 hin C.2.2.2.1 C.2.2.2.2.2.1 hP c0 (sx_at hlay) hcl k0 hk (C.2.2.2.2.1 _ hw) (fun _ h9 => by rw [hr] at h9; exact h9) (v := .ref (ad j0)) ?_ hd (k H locs ls hP hS hl)
  rw [List.getElem?_map, List.getElem?_zipIdx, hf]
  simp [sx_fv]

theorem sx_puti (C : sx_C lay cl D cI cJ ad A nL own cc Ts p s m args c) {C0 ref : String} {T : u_T} {N ci index : Nat} {fl : List (Option Nat)} {x : Int} {ty : FieldType} (c0 k0 : Nat) (hlay : lay[c0]? = some (.inl (ci, fl))) (hf : fl[k0]? = some none) (hcl : cl[ci]? = some (C0, T, N)) (hk : k0 < N) (hin : ∀ w ∈ u_ws C0 T N, w ∈ Ts) (ty0 : Nat → FieldType) (hty : ∀ k, k < N → parseFieldDescriptor (T k).2.2.1 = some (ty0 k)) (hnm : ∀ a, a < N → ∀ b, b < N → a ≠ b → (T a).2.1 ≠ (T b).2.1) (hw : Cond.fieldLink own index ref (T k0).2.1 (T k0).2.2.1 ∈ Ts) (hr : (T k0).1 = ref) (hfin : (T k0).2.2.2 = false) (hdt : parseFieldDescriptor (T k0).2.2.1 = some ty) (hnr : narrow ty (.int (sx_i x)) = .int (sx_i x)) (hft : fits ty (.int (sx_i x)) = true) (hd : decode cc pc = .ok (.putfield index, 3)) (k : sx_V lay cl D cI cJ ad A nL p l e R s m args below meth c Q cells slots (sx_up μ c0 (k0 : Nat) x) (pc + 3) lv (st)) : sx_V lay cl D cI cJ ad A nL p l e R s m args below meth c Q cells slots μ (pc) lv (.int (sx_i x) :: .ref (ad c0) :: st) := by
  intro H locs ls hP hS hl
  have hD := sx_D (cI := cI) (cJ := cJ) C.2.2.2.2.2.2.2.1 C.2.2.2.2.2.2.2.2 μ
  refine va_put (D := D) C.1 C.2.1 C.2.2.2.2.1 hin ty0 hty hnm C.2.2.2.1 C.2.2.2.2.2.1 hP hD hS c0 (sx_at hlay) hcl k0 hk (C.2.2.2.2.1 _ hw) (fun _ h9 => by rw [hr] at h9; exact h9) hfin hdt hnr hft (by rw [List.length_map, List.length_zipIdx]; exact (List.getElem?_eq_some_iff.mp hf).1) hd (fun H1 locs1 hP1 hD1 hS1 => ?_)
  rw [sx_putI hlay hf] at hP1
  exact k H1 locs1 ls hP1 hS1 hl

theorem sx_iald (C : sx_C lay cl D cI cJ ad A nL own cc Ts p s m args c) {n : Nat} {j : Int} {B : Prop} (c0 : Nat) (hlay : lay[c0]? = some (.inr (.inl n))) (hn : n < 2147483648) (hd : decode cc pc = .ok (.iaload, 1)) (h : (0 ≤ j ∧ j < n) ∧ B) (k : B → sx_V lay cl D cI cJ ad A nL p l e R s m args below meth c Q cells slots μ (pc + 1) lv (.int (sx_i (μ c0 j)) :: st)) : sx_V lay cl D cI cJ ad A nL p l e R s m args below meth c Q cells slots μ (pc) lv (.int (sx_i j) :: .ref (ad c0) :: st) := by
  intro H locs ls hP hS hl
  obtain ⟨q1, q2, q3⟩ := sx_in hn h.1
  refine va_iald (D := D) C.1 C.2.1 C.2.2.2.2.2.1 hP c0 0 (sx_at hlay) rfl q1 hd ?_
  rw [q2, q3]
  exact k h.2 H locs ls hP hS hl

theorem sx_lald (C : sx_C lay cl D cI cJ ad A nL own cc Ts p s m args c) {n : Nat} {j : Int} {B : Prop} (c0 : Nat) (hlay : lay[c0]? = some (.inr (.inr n))) (hn : n < 2147483648) (hd : decode cc pc = .ok (.laload, 1)) (h : (0 ≤ j ∧ j < n) ∧ B) (k : B → sx_V lay cl D cI cJ ad A nL p l e R s m args below meth c Q cells slots μ (pc + 1) lv (.long (sx_j (μ c0 j)) :: st)) : sx_V lay cl D cI cJ ad A nL p l e R s m args below meth c Q cells slots μ (pc) lv (.int (sx_i j) :: .ref (ad c0) :: st) := by
  intro H locs ls hP hS hl
  obtain ⟨q1, q2, q3⟩ := sx_in hn h.1
  refine va_lald (D := D) C.1 C.2.1 C.2.2.2.2.2.1 hP c0 1 (sx_at hlay) rfl q1 hd ?_
  rw [q2, q3]
  exact k h.2 H locs ls hP hS hl

theorem sx_iast (C : sx_C lay cl D cI cJ ad A nL own cc Ts p s m args c) {n : Nat} {j x : Int} {B : Prop} (c0 : Nat) (hlay : lay[c0]? = some (.inr (.inl n))) (hn : n < 2147483648) (hd : decode cc pc = .ok (.iastore, 1)) (h : (0 ≤ j ∧ j < n) ∧ B) (k : B → sx_V lay cl D cI cJ ad A nL p l e R s m args below meth c Q cells slots (sx_up μ c0 j x) (pc + 1) lv (st)) : sx_V lay cl D cI cJ ad A nL p l e R s m args below meth c Q cells slots μ (pc) lv (.int (sx_i x) :: .int (sx_i j) :: .ref (ad c0) :: st) := by
  intro H locs ls hP hS hl
  obtain ⟨q1, q2, q3⟩ := sx_in hn h.1
  have hD := sx_D (cI := cI) (cJ := cJ) C.2.2.2.2.2.2.2.1 C.2.2.2.2.2.2.2.2 μ
  refine va_iast (D := D) C.1 C.2.1 C.2.2.2.2.2.1 hP hD hS c0 0 (sx_at hlay) rfl q1 hd (fun H1 locs1 hP1 hD1 hS1 => ?_)
  rw [q2, sx_putA hlay h.1.1] at hP1
  exact k h.2 H1 locs1 ls hP1 hS1 hl

theorem sx_last (C : sx_C lay cl D cI cJ ad A nL own cc Ts p s m args c) {n : Nat} {j x : Int} {B : Prop} (c0 : Nat) (hlay : lay[c0]? = some (.inr (.inr n))) (hn : n < 2147483648) (hd : decode cc pc = .ok (.lastore, 1)) (h : (0 ≤ j ∧ j < n) ∧ B) (k : B → sx_V lay cl D cI cJ ad A nL p l e R s m args below meth c Q cells slots (sx_up μ c0 j x) (pc + 1) lv (st)) : sx_V lay cl D cI cJ ad A nL p l e R s m args below meth c Q cells slots μ (pc) lv (.long (sx_j x) :: .int (sx_i j) :: .ref (ad c0) :: st) := by
  intro H locs ls hP hS hl
  obtain ⟨q1, q2, q3⟩ := sx_in hn h.1
  have hD := sx_D (cI := cI) (cJ := cJ) C.2.2.2.2.2.2.2.1 C.2.2.2.2.2.2.2.2 μ
  refine va_last (D := D) C.1 C.2.1 C.2.2.2.2.2.1 hP hD hS c0 1 (sx_at hlay) rfl q1 hd (fun H1 locs1 hP1 hD1 hS1 => ?_)
  rw [q2, sx_putL hlay h.1.1] at hP1
  exact k h.2 H1 locs1 ls hP1 hS1 hl

end SXV
end
section
/-! CONTRACTS over one memory, ends of methods, calls. QQ: what holds of the answer and the memory behind a return; XX: of the exception's class and the memory behind a throw. -/
section SXK
/-- what the machine must hold beside the tables' good words: Throwable's two statics, the texts, words that travel by rows of their own, pairs that are not castable -/
def sx_Z (A : Nat → Prop) (U : State) (H : Heap) : Prop := vx_Zq Bundle.tN "UNASSIGNED_STACK" Bundle.steD A U H ∧ vx_Zq Bundle.tN "SUPPRESSED_SENTINEL" Bundle.listD A U H ∧ (∀ q ∈ sr_strs, ∃ sa, vk_R q.1 q.2.1 q.2.2 sa U) ∧ (∀ w ∈ sr_bad, va_Nw w U) ∧ ∀ q ∈ sr_ncs, va_Nc q.1 q.2 U
theorem sx_Z.go {A B : Nat → Prop} {s U : State} {H : Heap} {locs : List Loc} (h : sx_Z A s s.heap) (hS : va_S A s.heap H locs) (hW : s.WarmedH U.vm) (hAB : ∀ q, B q → A q) : sx_Z B U H :=
  ⟨((h.1.kept hS.2.1).moved hW.alike).narrow hAB, ((h.2.1.kept hS.2.1).moved hW.alike).narrow hAB, fun q hq => by
    obtain ⟨sa, hs⟩ := h.2.2.1 q hq
    exact ⟨sa, vk_R.warm hW hs⟩, sr_bad_warm hW h.2.2.2.1, fun q hq => (h.2.2.2.2 q hq).moved hW.alike⟩
theorem sx_Z.call {A : Nat → Prop} {U : State} {g : JFrame} {mk : MethodId} {a : Array Value} (h : sx_Z A U U.heap) : sx_Z A (U.calling g mk a) U.heap :=
  ⟨h.1.moved (Vm.Alike.refl U.vm), h.2.1.moved (Vm.Alike.refl U.vm), fun q hq => by
    obtain ⟨sa, hs⟩ := h.2.2.1 q hq
    exact ⟨sa, vk_R.same (u := U) rfl hs⟩, fun w hw => va_Nw.same (sr_bad_tab w hw) (u := U) rfl (h.2.2.2.1 w hw), fun q hq => (h.2.2.2.2 q hq).moved (Vm.Alike.refl U.vm)⟩
/-- no cell came, none changed its size -/
def sx_same (H H1 : Heap) : Prop := H1.size = H.size ∧ ∀ (a : Nat) (c : Cell), H[a]? = some c → ∃ c2 : Cell, H1[a]? = some c2 ∧ c2.slots.size = c.slots.size
theorem sx_fold {H H1 : Heap} (h : sx_same H H1) : H1.foldl (fun n c => n + c.slots.size) 0 = H.foldl (fun n c => n + c.slots.size) 0 := by
  have e : H1.map (fun c => c.slots.size) = H.map (fun c => c.slots.size) := by
    apply Array.ext_getElem?
    intro i
    rw [Array.getElem?_map, Array.getElem?_map]
    cases hc : H[i]? with
    | none =>
      have h1 : H.size ≤ i := by simpa using hc
      have h2 : H1[i]? = none := by simp; rw [h.1]; exact h1
      rw [h2]
    | some c =>
      obtain ⟨c2, h1, h2⟩ := h.2 i c hc
      rw [h1]
      simp [h2]
  have f : ∀ X : Heap, X.foldl (fun n c => n + c.slots.size) 0 = (X.map (fun c => c.slots.size)).foldl (fun n k => n + k) 0 := fun X => by rw [Array.foldl_map]
  rw [f, f, e]
theorem sx_tight {p : Program} {l : Launch} {e : Env} {R : Room} {s : State} {m : MethodId} {args : Array Value} {below : List Frame} {meth : Method} {c : Code} {T T2 : State} {locs locs2 : List Loc} {cells slots cells2 slots2 : Nat}
    (X : Stand p l e R s m args below meth c T locs cells slots) (X2 : Stand p l e R s m args below meth c T2 locs2 cells2 slots2) (h : sx_same T.heap T2.heap) : Stand p l e R s m args below meth c T2 locs2 cells slots := by
  have b1 := X.book
  have b2 := X2.book
  simp only [State.slotsTrue, beq_iff_eq] at b1 b2
  have hf := sx_fold h
  obtain ⟨-, -, q3, q4, q5, -⟩ := X.same
  obtain ⟨r1, r2, r3, r4, r5, r6⟩ := X2.same
  have q3 : T.heap.size ≤ s.heap.size + cells := q3
  have q4 : T.slotsUsed = s.slotsUsed + ((T.heap.toList.drop s.heap.size).map (·.slots.size)).sum := q4
  have q5 : ((T.heap.toList.drop s.heap.size).map (·.slots.size)).sum ≤ slots := q5
  have r4' : T2.slotsUsed = s.slotsUsed + ((T2.heap.toList.drop s.heap.size).map (·.slots.size)).sum := r4
  have h1 := h.1
  refine { X2 with same := ⟨r1, r2, ?_, r4, ?_, r6⟩ }
  · show T2.heap.size ≤ s.heap.size + cells
    omega
  · show ((T2.heap.toList.drop s.heap.size).map (·.slots.size)).sum ≤ slots
    omega
/-- .. and behind a return it is said so -/
def sx_T (Qc : Array Value → State → Outcome → State → Prop) : Array Value → State → Outcome → State → Prop := fun a st o t => Qc a st o t ∧ sx_same st.heap t.heap
theorem sx_same_of {st t : State} {o : Outcome} {L : List Loc} (h : FrameEnd st o t L 0 0) : sx_same st.heap t.heap := by
  obtain ⟨-, -, -, h2, h3, -, -, h6⟩ := h
  have h2 : st.heap.size ≤ t.heap.size := h2
  have h3 : t.heap.size ≤ st.heap.size + 0 := h3
  refine ⟨by omega, fun a c hc => ?_⟩
  obtain ⟨c2, e1, -, e3, -⟩ := h6 a c hc
  exact ⟨c2, e1, e3⟩
theorem sx_ret0 {p : Program} {l : Launch} {e : Env} {R : Room} {s : State} {m : MethodId} {args : Array Value} {below : List Frame} {meth : Method} {c : Code} {H : Heap} {locs : List Loc} {cells slots mc ms : Nat} {free : Addr → Prop} {Qc : Array Value → State → Outcome → State → Prop} {XC : String → State → State → Prop} {g : JFrame}
    (k : W p l e R s m args below meth c H locs cells slots (MQ below Qc args s 0 0 free) g) : W p l e R s m args below meth c H locs cells slots (vx_MQ below (sx_T Qc) XC args s mc ms free) g := by
  intro T hT X
  obtain ⟨t, a1, o, b1, b2, b3, L, hF, hL⟩ := k T hT X
  exact ⟨t, a1, o, b1, b2, Or.inl ⟨⟨b3, sx_same_of hF⟩, L, ⟨hF.1, hF.2.1, hF.2.2.mono (Nat.zero_le _) (Nat.zero_le _)⟩, hL⟩⟩
def sx_pi (QQ : Int → sx_M → Prop) : Int32 → sx_M → Prop := fun r μ => ∃ z : Int, r = sx_i z ∧ QQ z μ
def sx_pv (QQ : Int → sx_M → Prop) : sx_M → Prop := fun μ => QQ 0 μ
def sx_B (lay : List sx_L) (cl : List vw_C) (D : va_G) (cI cJ : ClassId) (ad : Nat → Nat) : sx_M → State → Prop := fun μ t => va_P D cl (sx_W lay cI cJ ad μ) t.heap
def sx_BX (lay : List sx_L) (cl : List vw_C) (D : va_G) (cI cJ : ClassId) (ad : Nat → Nat) (XX : String → sx_M → Prop) : String → sx_M → State → Prop := fun E μ t => XX E μ ∧ va_P D cl (sx_W lay cI cJ ad μ) t.heap
def sx_Pre (lay : List sx_L) (cl : List vw_C) (D : va_G) (cI cJ : ClassId) (ad : Nat → Nat) (μ : sx_M) (sz : Nat) : State → Prop := fun U => U.heap.size = sz ∧ va_P D cl (sx_W lay cI cJ ad μ) U.heap ∧ va_K D cl [(cI, .int), (cJ, .long)] U ∧ sx_J lay ad ∧ sx_Z (sx_A lay ad sz) U U.heap
abbrev sx_QI (lay : List sx_L) (cl : List vw_C) (D : va_G) (cI cJ : ClassId) (ad : Nat → Nat) (QQ : Int → sx_M → Prop) (sz : Nat) := va_Qi (sx_pi QQ) (sx_B lay cl D cI cJ ad) (sx_A lay ad sz)
abbrev sx_QV (lay : List sx_L) (cl : List vw_C) (D : va_G) (cI cJ : ClassId) (ad : Nat → Nat) (QQ : Int → sx_M → Prop) (sz : Nat) := va_Qv (sx_pv QQ) (sx_B lay cl D cI cJ ad) (sx_A lay ad sz)
abbrev sx_XC (lay : List sx_L) (cl : List vw_C) (D : va_G) (cI cJ : ClassId) (ad : Nat → Nat) (XX : String → sx_M → Prop) (sz : Nat) := vx_X (fun _ => True) (sx_BX lay cl D cI cJ ad XX) (sx_A lay ad sz)
/-- a method that answers an int (or a boolean): behind a return no cell has come; a void method; one that may have made cells -/
def sx_MI (l : Launch) (y : MethodName) (ws : List Cond) (rm : Room) (lay : List sx_L) (cl : List vw_C) (D : va_G) (cI cJ : ClassId) (ad : Nat → Nat) (av : List Value) (μ : sx_M) (QQ : Int → sx_M → Prop) (XX : String → sx_M → Prop) (mc ms sz : Nat) : Prop :=
  vx_Met l y ws rm (va_Pc av (sx_Pre lay cl D cI cJ ad μ sz)) (sx_T (sx_QI lay cl D cI cJ ad QQ sz)) (sx_XC lay cl D cI cJ ad XX sz) mc ms (sx_A lay ad sz)
def sx_MV (l : Launch) (y : MethodName) (ws : List Cond) (rm : Room) (lay : List sx_L) (cl : List vw_C) (D : va_G) (cI cJ : ClassId) (ad : Nat → Nat) (av : List Value) (μ : sx_M) (QQ : Int → sx_M → Prop) (XX : String → sx_M → Prop) (mc ms sz : Nat) : Prop :=
  vx_Met l y ws rm (va_Pc av (sx_Pre lay cl D cI cJ ad μ sz)) (sx_T (sx_QV lay cl D cI cJ ad QQ sz)) (sx_XC lay cl D cI cJ ad XX sz) mc ms (sx_A lay ad sz)
def sx_ML (l : Launch) (y : MethodName) (ws : List Cond) (rm : Room) (lay : List sx_L) (cl : List vw_C) (D : va_G) (cI cJ : ClassId) (ad : Nat → Nat) (av : List Value) (μ : sx_M) (QQ : Int → sx_M → Prop) (mc ms sz : Nat) : Prop :=
  Met l y ws rm (va_Pc av (sx_Pre lay cl D cI cJ ad μ sz)) (sx_QI lay cl D cI cJ ad QQ sz) mc ms (sx_A lay ad sz)
variable {lay : List sx_L} {cl : List vw_C} {D : va_G} {cI cJ : ClassId} {ad : Nat → Nat} {A : Nat → Prop} {nL : Nat} {own : String} {cc : ByteArray} {Ts : List Cond} {p : Program} {l : Launch} {e : Env} {R : Room} {s : State} {m : MethodId} {args : Array Value} {below : List Frame} {meth : Method} {c : Code} {Q : State → Prop} {cells slots : Nat} {μ : sx_M} {pc : Nat} {lv : List (Nat × Value)} {st : List Value}
variable {QQ : Int → sx_M → Prop} {XX XX2 : String → sx_M → Prop} {mc ms sz : Nat} {Qc : Array Value → State → Outcome → State → Prop} {XC : String → State → State → Prop}
/-- a contract out of the walk of its body -/
theorem sx_body {y : MethodName} {ws ws' : List Cond} {rm : Room} {av : List Value} {maxL : Nat} {ret : Option FieldType} (hy : plainName y.cls = true) (hw : ws = Cond.code y cc maxL ret :: ws') (hav : (lg_sl av).length ≤ maxL)
    (body : ∀ (p : Program) (e : Env) (s : State) (m : MethodId) (below : List Frame) (meth : Method) (c : Code), sx_C lay cl D cI cJ ad (sx_A lay ad sz) maxL y.cls cc ws' p s m av.toArray c → sx_Z (sx_A lay ad sz) s s.heap → meth.sig.returnType = ret → meth.locks = false → (∀ x ∈ c.exceptionTable.toList, False) →
      sx_V lay cl D cI cJ ad (sx_A lay ad sz) maxL p l e rm s m av.toArray below meth c (vx_MQ below Qc XC av.toArray s mc ms (sx_A lay ad sz)) 0 0 μ 0 (lv_args 0 av) []) :
    vx_Met l y ws rm (va_Pc av (sx_Pre lay cl D cI cJ ad μ sz)) Qc XC mc ms (sx_A lay ad sz) := by
  refine vx_ofW hy hw ?_
  intro p e s m args below meth c s₁ B hml ht hv
  obtain ⟨rfl, hsz, hP, hK, hJ, hZ⟩ := hv
  have hts := atoms_spec (ws := ws) B.pre
  have hown : s.vm.findClass y.cls = some m.cls := findClass_of_methodNamed B.named
  have key := body p e s m below meth c ⟨B.exec, B.bytes, hml, hown, fun w h => hts w (by rw [hw]; exact List.mem_cons_of_mem _ h), hK, fun q h => Or.inr (by rw [← hsz]; exact h), hJ, fun i hi => Or.inl ⟨i, hi, rfl⟩⟩ hZ B.returns B.notSynchronized ht
  rw [lg_entry_eq]
  exact key s.heap [] _ hP va_S.rf (lv_entry av hav)
theorem sx_iret (C : sx_C lay cl D cI cJ ad (sx_A lay ad sz) nL own cc Ts p s m args c) {x : Int} (hr : meth.sig.returnType = some .int) (hlk : meth.locks = false) (hd : decode cc pc = .ok (.ireturn, 1)) (h : QQ x μ) :
    sx_V lay cl D cI cJ ad (sx_A lay ad sz) nL p l e R s m args below meth c (vx_MQ below (sx_T (sx_QI lay cl D cI cJ ad QQ sz)) XC args s mc ms (sx_A lay ad sz)) 0 0 μ pc lv [.int (sx_i x)] := by
  intro H locs ls hP hS hl
  refine sx_ret0 ?_
  exact W.iret C.1 C.2.1 hr (fun t ht hW => ⟨⟨sx_i x, μ, rfl, ⟨x, rfl, h⟩, by show va_P _ _ _ t.heap; rw [ht]; exact hP⟩, hS.F ht⟩) hS.2.2 hd hlk
theorem sx_iretL (C : sx_C lay cl D cI cJ ad (sx_A lay ad sz) nL own cc Ts p s m args c) {x : Int} (hr : meth.sig.returnType = some .int) (hlk : meth.locks = false) (hc : cells ≤ mc) (hs : slots ≤ ms) (hd : decode cc pc = .ok (.ireturn, 1)) (h : QQ x μ) :
    sx_V lay cl D cI cJ ad (sx_A lay ad sz) nL p l e R s m args below meth c (MQ below (sx_QI lay cl D cI cJ ad QQ sz) args s mc ms (sx_A lay ad sz)) cells slots μ pc lv [.int (sx_i x)] := by
  intro H locs ls hP hS hl
  refine W.widen hc hs ?_
  exact W.iret C.1 C.2.1 hr (fun t ht hW => ⟨⟨sx_i x, μ, rfl, ⟨x, rfl, h⟩, by show va_P _ _ _ t.heap; rw [ht]; exact hP⟩, hS.F ht⟩) hS.2.2 hd hlk
theorem sx_bool {x : Int} (h : x = 0 ∨ x = 1) : narrow .boolean (.int (sx_i x)) = .int (sx_i x) ∧ fits .boolean (.int (sx_i x)) = true := by
  rcases h with rfl | rfl <;> exact ⟨by decide +kernel, by decide +kernel⟩
theorem sx_zret (C : sx_C lay cl D cI cJ ad (sx_A lay ad sz) nL own cc Ts p s m args c) {x : Int} (hr : meth.sig.returnType = some .boolean) (hlk : meth.locks = false) (hd : decode cc pc = .ok (.ireturn, 1)) (h : (x = 0 ∨ x = 1) ∧ QQ x μ) :
    sx_V lay cl D cI cJ ad (sx_A lay ad sz) nL p l e R s m args below meth c (vx_MQ below (sx_T (sx_QI lay cl D cI cJ ad QQ sz)) XC args s mc ms (sx_A lay ad sz)) 0 0 μ pc lv [.int (sx_i x)] := by
  intro H locs ls hP hS hl
  refine sx_ret0 ?_
  exact W.zret C.1 C.2.1 hr (sx_bool h.1).1 (fun t ht hW => ⟨⟨sx_i x, μ, rfl, ⟨x, rfl, h.2⟩, by show va_P _ _ _ t.heap; rw [ht]; exact hP⟩, hS.F ht⟩) hS.2.2 hd hlk
theorem sx_vret (C : sx_C lay cl D cI cJ ad (sx_A lay ad sz) nL own cc Ts p s m args c) (hr : meth.sig.returnType = none) (hlk : meth.locks = false) (hd : decode cc pc = .ok (.return_, 1)) (h : QQ 0 μ) :
    sx_V lay cl D cI cJ ad (sx_A lay ad sz) nL p l e R s m args below meth c (vx_MQ below (sx_T (sx_QV lay cl D cI cJ ad QQ sz)) XC args s mc ms (sx_A lay ad sz)) 0 0 μ pc lv [] := by
  intro H locs ls hP hS hl
  refine sx_ret0 ?_
  exact W.vret C.1 C.2.1 hr (fun t ht hW => ⟨⟨μ, rfl, h, by show va_P _ _ _ t.heap; rw [ht]; exact hP⟩, hS.F ht⟩) hS.2.2 hd hlk
/-- throw new E("text"): it leaves the method -/
theorem sx_throw (C : sx_C lay cl D cI cJ ad (sx_A lay ad sz) nL own cc Ts p s m args c) (hlf : l.stackTraces = false) (hZ : sx_Z (sx_A lay ad sz) s s.heap) (hlk : meth.locks = false) (ht : ∀ x ∈ c.exceptionTable.toList, False) {cls text : String} {names : List String} {ik is ic : Nat}
    (hcls : Bundle.fit cls = true) (hnames : ∀ n ∈ names, Bundle.fit n = true) (hk : Cond.classLink own ik cls ∈ Ts) (hini : Cond.initialized cls ∈ Ts) (hstr : (own, is, text) ∈ sr_strs) (hat : ∀ w ∈ vx_atS own ic cls names, w ∈ Ts ∨ w ∈ sr_bad)
    (hgood : ∀ w ∈ Cond.classLink own ik cls :: Cond.initialized cls :: vx_atS own ic cls names, vx_ot w = true)
    (d0 : decode cc pc = .ok (.new ik, 3)) (d3 : decode cc (pc + 3) = .ok (.dup, 1)) (d4 : decode cc (pc + 4) = .ok (.ldc is, 2)) (d6 : decode cc (pc + 6) = .ok (.invokespecial ic, 3)) (d9 : decode cc (pc + 9) = .ok (.athrow, 1))
    (hRf : names.length + 3 < R.frames) (hRl : (st.map fun v => v.category).sum + (13 * (names.length + 1) + 43) ≤ R.locals) (hRc : cells + 1 ≤ R.cells) (hRs : slots + 6 ≤ R.slots) (hc : cells + 1 ≤ mc) (hs : slots + 6 ≤ ms) (h : XX cls μ) :
    sx_V lay cl D cI cJ ad (sx_A lay ad sz) nL p l e R s m args below meth c (vx_MQ below Qc (sx_XC lay cl D cI cJ ad XX sz) args s mc ms (sx_A lay ad sz)) cells slots μ pc lv st := by
  intro H locs ls hP hS hl
  obtain ⟨sa, hsa⟩ := hZ.2.2.1 _ hstr
  exact vx_throwS C.1 C.2.1 hlf C.2.2.2.1 hcls hnames (C.2.2.2.2.1 _ hk) (C.2.2.2.2.1 _ hini) hsa (fun w hw => (hat w hw).elim (C.2.2.2.2.1 w) (fun hb => va_Nw.use (sr_bad_tab w hb) (hZ.2.2.2.1 w hb))) hgood hZ.1 hZ.2.1 hS (hl.1.trans C.2.2.1.symm) d0 d3 d4 d6 d9 (fun x hx => (ht x hx).elim) hRf hRl hRc hRs hlk
    (fun t _ h1 h2 => ⟨μ, trivial, ⟨h, hP.kept (fun k q hq => h2 q.1 (hP k q hq).lt)⟩, Nat.le_trans hS.1 h1, fun q g1 g2 => (h2 q (Nat.lt_of_lt_of_le g1 hS.1)).trans (hS.2.1 q g1 g2)⟩) hS.2.2 hc hs
/-- where a call at pc has thrown -/
def sx_VX (lay : List sx_L) (cl : List vw_C) (D : va_G) (cI cJ : ClassId) (ad : Nat → Nat) (A : Nat → Prop) (nL : Nat) (p : Program) (l : Launch) (e : Env) (R : Room) (s : State) (m : MethodId) (args : Array Value) (below : List Frame) (meth : Method) (c : Code) (Q : State → Prop) (cells slots : Nat) (XX : String → sx_M → Prop) (pc : Nat) (lv : List (Nat × Value)) (st : List Value) : Prop :=
  ∀ (E : String) (μ : sx_M) (H : Heap) (locs : List Loc) (ls : Array Slot) (ce : Cell) (q : Addr), XX E μ → va_P D cl (sx_W lay cI cJ ad μ) H → va_S A s.heap H locs → lv_has ls nL lv → H[q]? = some ce → ce.vm = .none → s.vm.findClass E = some ce.cls → vx_W p l e R s m args below meth c H locs cells slots Q (F0 m pc ls st) q
theorem sx_noX : sx_VX lay cl D cI cJ ad A nL p l e R s m args below meth c Q cells slots (fun _ _ => False) pc lv st := fun _ _ _ _ _ _ _ h => h.elim
/-- it goes on to the caller -/
theorem sx_prop (hlk : meth.locks = false) (ht : ∀ x ∈ c.exceptionTable.toList, False) (hc : cells ≤ mc) (hs : slots ≤ ms) :
    sx_VX lay cl D cI cJ ad (sx_A lay ad sz) nL p l e R s m args below meth c (vx_MQ below Qc (sx_XC lay cl D cI cJ ad XX sz) args s mc ms (sx_A lay ad sz)) cells slots XX pc lv st := by
  intro E μ H locs ls ce q h hP hS hl h1 h2 h3
  exact vx_out (fun x hx => (ht x hx).elim) hlk h1 h2 h3 (fun t ht' hW => ⟨μ, trivial, ⟨h, by rw [ht']; exact hP⟩, hS.F ht'⟩) hS.2.2 hc hs
theorem sx_sb {H : Heap} {locs : List Loc} (C : sx_C lay cl D cI cJ ad A nL own cc Ts p s m args c) (hS : va_S A s.heap H locs) : ∀ q, sx_A lay ad H.size q → A q := by
  intro q h
  rcases h with ⟨i, hi, rfl⟩ | h
  · exact C.2.2.2.2.2.2.2.2 i hi
  · exact C.2.2.2.2.2.2.1 q (Nat.le_trans hS.1 h)
theorem sx_callI (C : sx_C lay cl D cI cJ ad A nL own cc Ts p s m args c) {a : Array Value} {rest : List Value}
    (hr : ∀ (H : Heap) (locs : List Loc) (ls : Array Slot), va_P D cl (sx_W lay cI cJ ad μ) H → va_S A s.heap H locs → lv_has ls nL lv → vx_Run p l e R s m args below meth c H locs cells slots mc ms (F0 m pc ls st) rest (sx_T (sx_QI lay cl D cI cJ ad QQ H.size) a) (sx_XC lay cl D cI cJ ad XX H.size) (sx_A lay ad H.size))
    (kx : sx_VX lay cl D cI cJ ad A nL p l e R s m args below meth c Q (cells + mc) (slots + ms) XX pc lv rest)
    (kk : ∀ (x : Int) (μ2 : sx_M), QQ x μ2 → sx_V lay cl D cI cJ ad A nL p l e R s m args below meth c Q cells slots μ2 (pc + 3) lv (.int (sx_i x) :: rest)) :
    sx_V lay cl D cI cJ ad A nL p l e R s m args below meth c Q cells slots μ pc lv st := by
  intro H locs ls hP hS hl T hT X
  have hf := sx_sb C hS
  rcases hr H locs ls hP hS hl T hT X with ⟨v, st₀, t, T', L, h0, X', hL, e1, e2, ⟨⟨⟨r, u, hv, ⟨x, hxe, hq⟩, hB⟩, hF⟩, hsm⟩, go⟩ | ⟨q, st₀, t, T', L, E, ce, h0, X', hL, e1, e2, ⟨u, -, hB, hF⟩, hce, hcv, hcl, go⟩
  · cases hv
    cases hxe
    obtain ⟨k1, k2, k3⟩ := vx_keep h0 e1 hS (fun q _ h => hf q h) hf hL hF
    have X2 := sx_tight X X' (by rw [hT, e1, ← h0]; exact hsm)
    obtain ⟨t2, a1, b1⟩ := kk x u hq T'.heap (locs ++ L) ls (by rw [e1]; exact hB) k3 hl T' rfl X2
    exact ⟨t2, go t2 a1, b1⟩
  · obtain ⟨k1, k2, k3⟩ := vx_keep h0 e1 hS (fun q _ h => hf q h) hf hL hF
    obtain ⟨t2, a1, b1⟩ := kx E u T'.heap (locs ++ L) ls ce q hB.1 (by rw [e1]; exact hB.2) k3 hl (by rw [e1]; exact hce) hcv hcl T' rfl X'
    exact ⟨t2, go.trans a1, b1⟩
theorem sx_callV (C : sx_C lay cl D cI cJ ad A nL own cc Ts p s m args c) {a : Array Value} {rest : List Value}
    (hr : ∀ (H : Heap) (locs : List Loc) (ls : Array Slot), va_P D cl (sx_W lay cI cJ ad μ) H → va_S A s.heap H locs → lv_has ls nL lv → vx_Run p l e R s m args below meth c H locs cells slots mc ms (F0 m pc ls st) rest (sx_T (sx_QV lay cl D cI cJ ad QQ H.size) a) (sx_XC lay cl D cI cJ ad XX H.size) (sx_A lay ad H.size))
    (kx : sx_VX lay cl D cI cJ ad A nL p l e R s m args below meth c Q (cells + mc) (slots + ms) XX pc lv rest)
    (kk : ∀ (x : Int) (μ2 : sx_M), QQ x μ2 → sx_V lay cl D cI cJ ad A nL p l e R s m args below meth c Q cells slots μ2 (pc + 3) lv rest) :
    sx_V lay cl D cI cJ ad A nL p l e R s m args below meth c Q cells slots μ pc lv st := by
  intro H locs ls hP hS hl T hT X
  have hf := sx_sb C hS
  rcases hr H locs ls hP hS hl T hT X with ⟨v, st₀, t, T', L, h0, X', hL, e1, e2, ⟨⟨⟨u, hv, hq, hB⟩, hF⟩, hsm⟩, go⟩ | ⟨q, st₀, t, T', L, E, ce, h0, X', hL, e1, e2, ⟨u, -, hB, hF⟩, hce, hcv, hcl, go⟩
  · cases hv
    obtain ⟨k1, k2, k3⟩ := vx_keep h0 e1 hS (fun q _ h => hf q h) hf hL hF
    have X2 := sx_tight X X' (by rw [hT, e1, ← h0]; exact hsm)
    obtain ⟨t2, a1, b1⟩ := kk 0 u hq T'.heap (locs ++ L) ls (by rw [e1]; exact hB) k3 hl T' rfl X2
    exact ⟨t2, go t2 a1, b1⟩
  · obtain ⟨k1, k2, k3⟩ := vx_keep h0 e1 hS (fun q _ h => hf q h) hf hL hF
    obtain ⟨t2, a1, b1⟩ := kx E u T'.heap (locs ++ L) ls ce q hB.1 (by rw [e1]; exact hB.2) k3 hl (by rw [e1]; exact hce) hcv hcl T' rfl X'
    exact ⟨t2, go.trans a1, b1⟩
/-- the callee's start at a call -/
theorem sx_pre (C : sx_C lay cl D cI cJ ad A nL own cc Ts p s m args c) (hZ : sx_Z A s s.heap) {H : Heap} {locs : List Loc} (hP : va_P D cl (sx_W lay cI cJ ad μ) H) (hS : va_S A s.heap H locs) (av : List Value) :
    PreS s H (va_Pc av (sx_Pre lay cl D cI cJ ad μ H.size)) av :=
  ⟨fun a U g mk q => by
    obtain ⟨q0, q1, qP, qK, qJ, qZ⟩ := q
    exact ⟨q0, q1, qP, va_K.moved (u := U) (U := U.calling g mk a) (Vm.Alike.refl U.vm) qK, qJ, sx_Z.call qZ⟩,
   fun U hU hW => ⟨rfl, by rw [hU], by rw [hU]; exact hP, va_K.moved hW.alike C.2.2.2.2.2.1, C.2.2.2.2.2.2.2.1, by rw [hU]; exact hZ.go hS hW (sx_sb C hS)⟩⟩
theorem sx_preV (C : sx_C lay cl D cI cJ ad A nL own cc Ts p s m args c) (hZ : sx_Z A s s.heap) {H : Heap} {locs : List Loc} (hP : va_P D cl (sx_W lay cI cJ ad μ) H) (hS : va_S A s.heap H locs) {c0 ci : Nat} {fl : List (Option Nat)} {q : vw_C} (hlay : lay[c0]? = some (.inl (ci, fl))) (hcl : cl[ci]? = some q) (As : List Value) :
    PreV s H q.1 (ad c0) (va_Pc (.ref (ad c0) :: As) (sx_Pre lay cl D cI cJ ad μ H.size)) As :=
  ⟨(sx_pre C hZ hP hS _).1, va_recv C.2.2.2.2.2.1 hP hcl (sx_at hlay), (sx_pre C hZ hP hS (.ref (ad c0) :: As)).2⟩
theorem sx_invI (C : sx_C lay cl D cI cJ ad A nL own cc Ts p s m args c) (hZ : sx_Z A s s.heap) {y : MethodName} {ws2 : List Cond} {rm2 : Room} {C0 : String} {T : u_T} {N ci index maxL n c0 : Nat} {fl : List (Option Nat)} {bytes : ByteArray} {ret : Option FieldType} {rest : List Value} (As : List Value)
    (hM : ∀ sz2, sx_MI l y ws2 rm2 lay cl D cI cJ ad (.ref (ad c0) :: As) μ QQ XX mc ms sz2) (cw : CallW R s args own C0 index y bytes maxL ret ws2 rm2 mc ms n) (hlay : lay[c0]? = some (.inl (ci, fl))) (hcl : cl[ci]? = some (C0, T, N))
    (hn : As.length = n) (hst : st = As.reverse ++ .ref (ad c0) :: rest) (hW : (rest.map fun v => v.category).sum ≤ 8) (hd : decode cc pc = .ok (.invokevirtual index, 3)) (hf : cells + mc ≤ R.cells ∧ slots + ms ≤ R.slots)
    (kx : sx_VX lay cl D cI cJ ad A nL p l e R s m args below meth c Q (cells + mc) (slots + ms) XX pc lv rest)
    (kk : ∀ (x : Int) (μ2 : sx_M), QQ x μ2 → sx_V lay cl D cI cJ ad A nL p l e R s m args below meth c Q cells slots μ2 (pc + 3) lv (.int (sx_i x) :: rest)) :
    sx_V lay cl D cI cJ ad A nL p l e R s m args below meth c Q cells slots μ pc lv st :=
  sx_callI C (fun H locs ls hP hS hl => vx_runV (As := As) (rest := rest) (nL := nL) ⟨C.1, C.2.1, C.2.2.1, C.2.2.2.1, C.2.2.2.2.1⟩ (hM H.size) cw (sx_preV C hZ hP hS hlay hcl As) rfl hn hl.1 hst (lv_room hW) hd hf) kx kk
theorem sx_invV (C : sx_C lay cl D cI cJ ad A nL own cc Ts p s m args c) (hZ : sx_Z A s s.heap) {y : MethodName} {ws2 : List Cond} {rm2 : Room} {C0 : String} {T : u_T} {N ci index maxL n c0 : Nat} {fl : List (Option Nat)} {bytes : ByteArray} {ret : Option FieldType} {rest : List Value} (As : List Value)
    (hM : ∀ sz2, sx_MV l y ws2 rm2 lay cl D cI cJ ad (.ref (ad c0) :: As) μ QQ XX mc ms sz2) (cw : CallW R s args own C0 index y bytes maxL ret ws2 rm2 mc ms n) (hlay : lay[c0]? = some (.inl (ci, fl))) (hcl : cl[ci]? = some (C0, T, N))
    (hn : As.length = n) (hst : st = As.reverse ++ .ref (ad c0) :: rest) (hW : (rest.map fun v => v.category).sum ≤ 8) (hd : decode cc pc = .ok (.invokevirtual index, 3)) (hf : cells + mc ≤ R.cells ∧ slots + ms ≤ R.slots)
    (kx : sx_VX lay cl D cI cJ ad A nL p l e R s m args below meth c Q (cells + mc) (slots + ms) XX pc lv rest)
    (kk : ∀ (x : Int) (μ2 : sx_M), QQ x μ2 → sx_V lay cl D cI cJ ad A nL p l e R s m args below meth c Q cells slots μ2 (pc + 3) lv (rest)) :
    sx_V lay cl D cI cJ ad A nL p l e R s m args below meth c Q cells slots μ pc lv st :=
  sx_callV C (fun H locs ls hP hS hl => vx_runV (As := As) (rest := rest) (nL := nL) ⟨C.1, C.2.1, C.2.2.1, C.2.2.2.1, C.2.2.2.2.1⟩ (hM H.size) cw (sx_preV C hZ hP hS hlay hcl As) rfl hn hl.1 hst (lv_room hW) hd hf) kx kk
theorem sx_stcI (C : sx_C lay cl D cI cJ ad A nL own cc Ts p s m args c) (hZ : sx_Z A s s.heap) {y : MethodName} {ws2 : List Cond} {rm2 : Room} {index maxL n : Nat} {bytes : ByteArray} {ret : Option FieldType} {rest : List Value} (As : List Value)
    (hM : ∀ sz2, sx_MI l y ws2 rm2 lay cl D cI cJ ad As μ QQ XX mc ms sz2) (cw : CallB R s args own index y bytes maxL ret ws2 rm2 mc ms n ∧ (Cond.static y).before args s = true)
    (hn : As.length = n) (hst : st = As.reverse ++ rest) (hW : (rest.map fun v => v.category).sum ≤ 8) (hd : decode cc pc = .ok (.invokestatic index, 3)) (hf : cells + mc ≤ R.cells ∧ slots + ms ≤ R.slots)
    (kx : sx_VX lay cl D cI cJ ad A nL p l e R s m args below meth c Q (cells + mc) (slots + ms) XX pc lv rest)
    (kk : ∀ (x : Int) (μ2 : sx_M), QQ x μ2 → sx_V lay cl D cI cJ ad A nL p l e R s m args below meth c Q cells slots μ2 (pc + 3) lv (.int (sx_i x) :: rest)) :
    sx_V lay cl D cI cJ ad A nL p l e R s m args below meth c Q cells slots μ pc lv st :=
  sx_callI C (fun H locs ls hP hS hl => vx_runS (As := As) (rest := rest) (nL := nL) ⟨C.1, C.2.1, C.2.2.1, C.2.2.2.1, C.2.2.2.2.1⟩ (hM H.size) cw (sx_pre C hZ hP hS As) rfl hn hl.1 hst (lv_room hW) hd hf) kx kk
theorem sx_stcV (C : sx_C lay cl D cI cJ ad A nL own cc Ts p s m args c) (hZ : sx_Z A s s.heap) {y : MethodName} {ws2 : List Cond} {rm2 : Room} {index maxL n : Nat} {bytes : ByteArray} {ret : Option FieldType} {rest : List Value} (As : List Value)
    (hM : ∀ sz2, sx_MV l y ws2 rm2 lay cl D cI cJ ad As μ QQ XX mc ms sz2) (cw : CallB R s args own index y bytes maxL ret ws2 rm2 mc ms n ∧ (Cond.static y).before args s = true)
    (hn : As.length = n) (hst : st = As.reverse ++ rest) (hW : (rest.map fun v => v.category).sum ≤ 8) (hd : decode cc pc = .ok (.invokestatic index, 3)) (hf : cells + mc ≤ R.cells ∧ slots + ms ≤ R.slots)
    (kx : sx_VX lay cl D cI cJ ad A nL p l e R s m args below meth c Q (cells + mc) (slots + ms) XX pc lv rest)
    (kk : ∀ (x : Int) (μ2 : sx_M), QQ x μ2 → sx_V lay cl D cI cJ ad A nL p l e R s m args below meth c Q cells slots μ2 (pc + 3) lv (rest)) :
    sx_V lay cl D cI cJ ad A nL p l e R s m args below meth c Q cells slots μ pc lv st :=
  sx_callV C (fun H locs ls hP hS hl => vx_runS (As := As) (rest := rest) (nL := nL) ⟨C.1, C.2.1, C.2.2.1, C.2.2.2.1, C.2.2.2.2.1⟩ (hM H.size) cw (sx_pre C hZ hP hS As) rfl hn hl.1 hst (lv_room hW) hd hf) kx kk
/-- a method that never throws, as the kit's plain contract -/
theorem sx_plain {y : MethodName} {ws2 : List Cond} {rm2 : Room} {av : List Value} (h : sx_MI l y ws2 rm2 lay cl D cI cJ ad av μ QQ (fun _ _ => False) mc ms sz) : Met l y ws2 rm2 (va_Pc av (sx_Pre lay cl D cI cJ ad μ sz)) (sx_T (sx_QI lay cl D cI cJ ad QQ sz)) mc ms (sx_A lay ad sz) := by
  intro p e ha hc hk s m args below hf happ hP hK
  obtain ⟨n, o, h1, h2, h3, h4⟩ := h p e ha hc hk s m args below hf happ hP hK
  refine ⟨n, o, h1, h2, h3, ?_⟩
  rcases h4 with h4 | ⟨q, rfl, E, ce, L, ⟨u, -, hu, -⟩, -⟩
  · exact h4
  · exact hu.1.elim
/-- invokestatic of a nest mate's own method that never throws -/
theorem sx_nstI (C : sx_C lay cl D cI cJ ad A nL own cc Ts p s m args c) (hZ : sx_Z A s s.heap) {y : MethodName} {host : String} {ws2 : List Cond} {rm2 : Room} {index maxL n : Nat} {bytes : ByteArray} {ret : Option FieldType} {rest : List Value} (As : List Value)
    (hM : ∀ sz2, sx_MI l y ws2 rm2 lay cl D cI cJ ad As μ QQ (fun _ _ => False) mc ms sz2) (cw : va_CN R s args own index y host bytes maxL ret ws2 rm2 mc ms n ∧ (Cond.static y).before args s = true ∧ True)
    (hn : As.length = n) (hst : st = As.reverse ++ rest) (hW : (rest.map fun v => v.category).sum ≤ 8) (hd : decode cc pc = .ok (.invokestatic index, 3)) (hf : cells + mc ≤ R.cells ∧ slots + ms ≤ R.slots)
    (kk : ∀ (x : Int) (μ2 : sx_M), QQ x μ2 → sx_V lay cl D cI cJ ad A nL p l e R s m args below meth c Q cells slots μ2 (pc + 3) lv (.int (sx_i x) :: rest)) :
    sx_V lay cl D cI cJ ad A nL p l e R s m args below meth c Q cells slots μ pc lv st := by
  intro H locs ls hP hS hl T hT X
  have hfr := sx_sb C hS
  obtain ⟨v, st₀, t, T', L, h0, X', hL, e1, e2, ⟨⟨⟨r, u, hv, ⟨x, hxe, hq⟩, hB⟩, hF⟩, hsm⟩, go⟩ := va_runSN (As := As) (rest := rest) (nL := nL) ⟨C.1, C.2.1, C.2.2.1, C.2.2.2.1, C.2.2.2.2.1⟩ (sx_plain (hM H.size)) cw (sx_pre C hZ hP hS As) rfl hn hl.1 hst (lv_room hW) hd hf T hT X
  cases hv
  cases hxe
  obtain ⟨k1, k2, k3⟩ := vx_keep h0 e1 hS (fun q _ h => hfr q h) hfr hL hF
  have X2 := sx_tight X X' (by rw [hT, e1, ← h0]; exact hsm)
  obtain ⟨t2, a1, b1⟩ := kk x u hq T'.heap (locs ++ L) ls (by rw [e1]; exact hB) k3 hl T' rfl X2
  exact ⟨t2, go t2 a1, b1⟩
/-- the words of a call out of the one list -/
theorem sx_good {w : Cond} {y : MethodName} {b : ByteArray} {n : Nat} {r : Option FieldType} (hc : Cond.code y b n r ∈ sr_ts) : GoodIn sr_ts (Cond.code y b n r :: sr_ts) := fun w h => (List.mem_cons.mp h).elim (fun q => by rw [q]; exact sr_goodIn _ hc) (sr_goodIn w)
theorem sx_cwV {index maxL n : Nat} {y : MethodName} {C0 : String} {bytes : ByteArray} {ret : Option FieldType} {rm2 : Room} (ht : ∀ w ∈ sr_ts, w.before args s = true) (hc : Cond.code y bytes maxL ret ∈ sr_ts) (h1 : Cond.methodLink own index y ∈ sr_ts) (h2 : Cond.instanceMethod y ∈ sr_ts) (h3 : Cond.selects C0 y y ∈ sr_ts) (h4 : Cond.initialized C0 ∈ sr_ts) (hrc : rm2.cells = mc) (hrs : rm2.slots = ms)
    (hd : y.cls = C0 ∧ y.cls ≠ "java/lang/invoke/MethodHandle" ∧ y.cls ≠ "java/lang/invoke/VarHandle" ∧ (parseMethodDescriptor y.desc).map (fun d => d.parameters.length) = some n) (hR : rm2.frames + 1 ≤ R.frames ∧ 8 + (maxL + 11) + rm2.locals ≤ R.locals) :
    CallW R s args own C0 index y bytes maxL ret (Cond.code y bytes maxL ret :: sr_ts) rm2 mc ms n :=
  cwV n ht (fun w h => by
    rcases List.mem_append.mp h with h | h
    · simp only [List.mem_cons, List.not_mem_nil, or_false] at h
      rcases h with rfl | rfl | rfl | rfl
      · exact sr_goodIn _ h1
      · exact sr_goodIn _ h2
      · exact sr_goodIn _ h3
      · exact sr_goodIn _ h4
    · exact sx_good (w := w) hc w h) rfl hrc hrs hd hR
theorem sx_cwS {index maxL n : Nat} {y : MethodName} {bytes : ByteArray} {ret : Option FieldType} {rm2 : Room} (ht : ∀ w ∈ sr_ts, w.before args s = true) (hc : Cond.code y bytes maxL ret ∈ sr_ts) (h1 : Cond.methodLink own index y ∈ sr_ts) (h2 : Cond.static y ∈ sr_ts) (h4 : Cond.initialized y.cls ∈ sr_ts) (hrc : rm2.cells = mc) (hrs : rm2.slots = ms)
    (hd : y.cls ≠ "java/lang/invoke/MethodHandle" ∧ y.cls ≠ "java/lang/invoke/VarHandle" ∧ (parseMethodDescriptor y.desc).map (fun d => d.parameters.length) = some n) (hR : rm2.frames + 1 ≤ R.frames ∧ 8 + (maxL + 11) + rm2.locals ≤ R.locals) :
    CallB R s args own index y bytes maxL ret (Cond.code y bytes maxL ret :: sr_ts) rm2 mc ms n ∧ (Cond.static y).before args s = true :=
  va_cwS n ht (fun w h => by
    rcases List.mem_append.mp h with h | h
    · simp only [List.mem_cons, List.not_mem_nil, or_false] at h
      rcases h with rfl | rfl | rfl
      · exact sr_goodIn _ h1
      · exact sr_goodIn _ h2
      · exact sr_goodIn _ h4
    · exact sx_good (w := w) hc w h) rfl hrc hrs hd hR
theorem sx_cwN {index maxL n : Nat} {y : MethodName} {host : String} {bytes : ByteArray} {ret : Option FieldType} {rm2 : Room} (ht : ∀ w ∈ sr_ts, w.before args s = true) (hZ : sx_Z A s s.heap) (hc : Cond.code y bytes maxL ret ∈ sr_ts) (h1 : Cond.methodLinkNest own index y host ∈ sr_bad) (h2 : Cond.static y ∈ sr_ts) (h4 : Cond.initialized y.cls ∈ sr_ts) (hrc : rm2.cells = mc) (hrs : rm2.slots = ms)
    (hd : y.cls ≠ "java/lang/invoke/MethodHandle" ∧ y.cls ≠ "java/lang/invoke/VarHandle" ∧ (parseMethodDescriptor y.desc).map (fun d => d.parameters.length) = some n) (hR : rm2.frames + 1 ≤ R.frames ∧ 8 + (maxL + 11) + rm2.locals ≤ R.locals) :
    va_CN R s args own index y host bytes maxL ret (Cond.code y bytes maxL ret :: sr_ts) rm2 mc ms n ∧ (Cond.static y).before args s = true ∧ True :=
  ⟨va_cnB n ht (fun w h => sx_good (w := w) hc w h) rfl hrc hrs (hZ.2.2.2.1 _ h1) (ht _ h4) hd hR, ht _ h2, trivial⟩
/-- Math.max, min, abs -/
theorem sx_max (C : sx_C lay cl D cI cJ ad A nL own cc Ts p s m args c) {index : Nat} {x y : Int} {B0 : Prop} (h1 : Cond.methodLink own index Lib.Math.max.name ∈ Ts) (h2 : Cond.static Lib.Math.max.name ∈ Ts) (h3 : Cond.initialized "java/lang/Math" ∈ Ts) (h4 : Cond.code Lib.Math.max.name Lib.Math.max.code 2 (some .int) ∈ Ts) (hRf : 1 ≤ R.frames) (hRl : (st.map fun v => v.category).sum + 13 ≤ R.locals) (hc : cells ≤ R.cells) (hs : slots ≤ R.slots) (hd : decode cc pc = .ok (.invokestatic index, 3)) (h : (sx_R x ∧ sx_R y) ∧ B0)
    (k : B0 → sx_V lay cl D cI cJ ad A nL p l e R s m args below meth c Q cells slots μ (pc + 3) lv (.int (sx_i (if x < y then y else x)) :: st)) : sx_V lay cl D cI cJ ad A nL p l e R s m args below meth c Q cells slots μ pc lv (.int (sx_i y) :: .int (sx_i x) :: st) := by
  intro H locs ls hP hS hl
  refine va_mmax C.1 C.2.1 (C.2.2.1.trans hl.1.symm) C.2.2.2.1 (C.2.2.2.2.1 _ h1) (C.2.2.2.2.1 _ h2) (C.2.2.2.2.1 _ h3) (C.2.2.2.2.1 _ h4) hRf hRl hc hs hd ?_
  have hq : (if sx_i x < sx_i y then sx_i y else sx_i x) = sx_i (if x < y then y else x) := by
    have := sx_lt h.1.1 h.1.2
    by_cases z : x < y
    · rw [if_pos z, if_pos (this.mpr z)]
    · rw [if_neg z, if_neg (fun w => z (this.mp w))]
  rw [hq]
  exact k h.2 H locs ls hP hS hl
theorem sx_min (C : sx_C lay cl D cI cJ ad A nL own cc Ts p s m args c) {index : Nat} {x y : Int} {B0 : Prop} (h1 : Cond.methodLink own index Lib.Math.min.name ∈ Ts) (h2 : Cond.static Lib.Math.min.name ∈ Ts) (h3 : Cond.initialized "java/lang/Math" ∈ Ts) (h4 : Cond.code Lib.Math.min.name Lib.Math.min.code 2 (some .int) ∈ Ts) (hRf : 1 ≤ R.frames) (hRl : (st.map fun v => v.category).sum + 13 ≤ R.locals) (hc : cells ≤ R.cells) (hs : slots ≤ R.slots) (hd : decode cc pc = .ok (.invokestatic index, 3)) (h : (sx_R x ∧ sx_R y) ∧ B0)
    (k : B0 → sx_V lay cl D cI cJ ad A nL p l e R s m args below meth c Q cells slots μ (pc + 3) lv (.int (sx_i (if y < x then y else x)) :: st)) : sx_V lay cl D cI cJ ad A nL p l e R s m args below meth c Q cells slots μ pc lv (.int (sx_i y) :: .int (sx_i x) :: st) := by
  intro H locs ls hP hS hl
  refine va_mmin C.1 C.2.1 (C.2.2.1.trans hl.1.symm) C.2.2.2.1 (C.2.2.2.2.1 _ h1) (C.2.2.2.2.1 _ h2) (C.2.2.2.2.1 _ h3) (C.2.2.2.2.1 _ h4) hRf hRl hc hs hd ?_
  have hq : (if sx_i y < sx_i x then sx_i y else sx_i x) = sx_i (if y < x then y else x) := by
    have := sx_lt h.1.2 h.1.1
    by_cases z : y < x
    · rw [if_pos z, if_pos (this.mpr z)]
    · rw [if_neg z, if_neg (fun w => z (this.mp w))]
  rw [hq]
  exact k h.2 H locs ls hP hS hl
theorem sx_abs (C : sx_C lay cl D cI cJ ad A nL own cc Ts p s m args c) {index : Nat} {x : Int} {B0 : Prop} (h1 : Cond.methodLink own index Lib.Math.abs.name ∈ Ts) (h2 : Cond.static Lib.Math.abs.name ∈ Ts) (h3 : Cond.initialized "java/lang/Math" ∈ Ts) (h4 : Cond.code Lib.Math.abs.name Lib.Math.abs.code 1 (some .int) ∈ Ts) (hRf : 1 ≤ R.frames) (hRl : (st.map fun v => v.category).sum + 13 ≤ R.locals) (hc : cells ≤ R.cells) (hs : slots ≤ R.slots) (hd : decode cc pc = .ok (.invokestatic index, 3)) (h : sx_R x ∧ B0)
    (k : B0 → sx_V lay cl D cI cJ ad A nL p l e R s m args below meth c Q cells slots μ (pc + 3) lv (.int (sx_i (if 0 ≤ x then x else -x)) :: st)) : sx_V lay cl D cI cJ ad A nL p l e R s m args below meth c Q cells slots μ pc lv (.int (sx_i x) :: st) := by
  intro H locs ls hP hS hl
  refine va_mabs C.1 C.2.1 (C.2.2.1.trans hl.1.symm) C.2.2.2.1 (C.2.2.2.2.1 _ h1) (C.2.2.2.2.1 _ h2) (C.2.2.2.2.1 _ h3) (C.2.2.2.2.1 _ h4) hRf hRl hc hs hd ?_
  have hq : (if 0 ≤ sx_i x then sx_i x else 0 - sx_i x) = sx_i (if 0 ≤ x then x else -x) := by
    rw [← sx_0]
    have := sx_le (a := 0) (b := x) ⟨by omega, by omega⟩ h.1
    by_cases z : 0 ≤ x
    · rw [if_pos z, if_pos (this.mpr z)]
    · rw [if_neg z, if_neg (fun w => z (this.mp w)), sx_sub]
      congr 1
      omega
  rw [hq]
  exact k h.2 H locs ls hP hS hl
end SXK
end
