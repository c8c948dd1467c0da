section SXG
variable {D : va_G} {cI cJ : ClassId} {ad : Nat → Nat} {sz : Nat} {p : Program} {l : Launch} {e : Env} {s : State} {m : MethodId} {args : Array Value} {below : List Frame} {meth : Method} {c : Code} {Q : Int → sx_M → Prop} {X : String → sx_M → Prop}
def rm_D_shared : Room := { frames := 3, cells := 0, slots := 0, locals := 67 }
set_option maxHeartbeats 4000000 in
set_option maxRecDepth 100000 in
theorem sm_D_shared_26 (C : sx_C sr_lay sr_cl D cI cJ ad (sx_A sr_lay ad sz) 5 "StoneRings$Readings" prog_4_method_6_code sr_ts p s m args c) (hZ : sx_Z (sx_A sr_lay ad sz) s s.heap) (hr : meth.sig.returnType = (some .int)) (hlk : meth.locks = false) (ht : ∀ x ∈ c.exceptionTable.toList, False) (hlf : l.stackTraces = false) {r5 : Int → Int → Int → Int → sx_M → Prop} (hr5 : ∀ (x1 x2 x3 x4 : Int) (μ : sx_M), r5 x1 x2 x3 x4 μ → sx_V sr_lay sr_cl D cI cJ ad (sx_A sr_lay ad sz) 5 p l e rm_D_shared s m args below meth c (vx_MQ below (sx_T (sx_QI sr_lay sr_cl D cI cJ ad Q sz)) (sx_XC sr_lay sr_cl D cI cJ ad (fun _ _ => False) sz) args s 0 0 (sx_A sr_lay ad sz)) 0 0 μ 5 [(0, .ref (ad 16)), (1, .int (sx_i x1)), (2, .int (sx_i x2)), (3, .int (sx_i x3)), (4, .int (sx_i x4))] []) {x1 x2 x3 x4 : Int} {μ : sx_M} (h : sw_D_shared_26 Q r5 x1 x2 x3 x4 μ) : sx_V sr_lay sr_cl D cI cJ ad (sx_A sr_lay ad sz) 5 p l e rm_D_shared s m args below meth c (vx_MQ below (sx_T (sx_QI sr_lay sr_cl D cI cJ ad Q sz)) (sx_XC sr_lay sr_cl D cI cJ ad (fun _ _ => False) sz) args s 0 0 (sx_A sr_lay ad sz)) 0 0 μ 26 [(0, .ref (ad 16)), (1, .int (sx_i x1)), (2, .int (sx_i x2)), (3, .int (sx_i x3)), (4, .int (sx_i x4))] [] := by
  unfold sw_D_shared_26 at h
  refine sx_iinc (lu := [(4, .int (sx_i (x4 + 1))), (0, .ref (ad 16)), (1, .int (sx_i x1)), (2, .int (sx_i x2)), (3, .int (sx_i x3))]) C 4 dd_D_shared_26 rfl (by decide) rfl ?_
  refine sx_goto (tgt := 5) C dd_D_shared_29 (by decide) ?_
  refine sx_less (lu := [(0, .ref (ad 16)), (1, .int (sx_i x1)), (2, .int (sx_i x2)), (3, .int (sx_i x3)), (4, .int (sx_i (x4 + 1)))]) C [1, 2, 3, 4, 0] rfl ?_
  exact hr5 _ _ _ _ _ h
set_option maxHeartbeats 4000000 in
set_option maxRecDepth 100000 in
theorem sm_D_shared_5 (C : sx_C sr_lay sr_cl D cI cJ ad (sx_A sr_lay ad sz) 5 "StoneRings$Readings" prog_4_method_6_code sr_ts p s m args c) (hZ : sx_Z (sx_A sr_lay ad sz) s s.heap) (hr : meth.sig.returnType = (some .int)) (hlk : meth.locks = false) (ht : ∀ x ∈ c.exceptionTable.toList, False) (hlf : l.stackTraces = false) : ∀ (n : Nat) (x1 x2 x3 x4 : Int) (μ : sx_M), sw_D_shared_5 Q n x1 x2 x3 x4 μ → sx_V sr_lay sr_cl D cI cJ ad (sx_A sr_lay ad sz) 5 p l e rm_D_shared s m args below meth c (vx_MQ below (sx_T (sx_QI sr_lay sr_cl D cI cJ ad Q sz)) (sx_XC sr_lay sr_cl D cI cJ ad (fun _ _ => False) sz) args s 0 0 (sx_A sr_lay ad sz)) 0 0 μ 5 [(0, .ref (ad 16)), (1, .int (sx_i x1)), (2, .int (sx_i x2)), (3, .int (sx_i x3)), (4, .int (sx_i x4))] [] := by
  intro n
  induction n with
  | zero =>
    intro x1 x2 x3 x4 μ h
    exact h.elim
  | succ n ih =>
    intro x1 x2 x3 x4 μ h
    have hr5 := ih
    unfold sw_D_shared_5 at h
    refine sx_iload C 4 dd_D_shared_5 rfl ?_
    refine sx_bipush (v := 20) C dd_D_shared_7 (by decide +kernel) ?_
    refine sx_icmp_ge (tgt := 32) C dd_D_shared_9 (by decide) h (fun h => ?_) (fun h => ?_)
    · refine sx_iload_n C 3 dd_D_shared_32 rfl rfl ?_
      exact sx_iret C hr hlk dd_D_shared_33 h
    · refine sx_aload_n C 0 dd_D_shared_12 rfl rfl ?_
      refine sx_iload_n C 1 dd_D_shared_13 rfl rfl ?_
      refine sx_iload_n C 2 dd_D_shared_14 rfl rfl ?_
      refine sx_iload C 4 dd_D_shared_15 rfl ?_
      refine sx_invI (c0 := 16) C hZ [.int (sx_i x1), .int (sx_i x2), .int (sx_i x4)] (fun sz2 => sm_D_bothTold hlf h sz2) (sx_cwV (n := 3) C.2.2.2.2.1 wd_509 wd_506 wd_507 wd_508 wd_4 rfl rfl (by decide +kernel) ⟨by decide, by decide⟩) rfl (rfl : sr_cl[2]? = some ("StoneRings$Readings", tt_D, 3)) rfl rfl (Nat.le_of_ble_eq_true rfl) dd_D_shared_17 ⟨(Nat.le_of_ble_eq_true rfl), (Nat.le_of_ble_eq_true rfl)⟩ sx_noX (fun v1 μ1 h => ?_)
      refine sx_if_eq (tgt := 26) C dd_D_shared_20 (by decide) h (fun h => ?_) (fun h => ?_)
      · exact sm_D_shared_26 C hZ hr hlk ht hlf hr5 h
      · refine sx_iinc (lu := [(3, .int (sx_i (x3 + 1))), (0, .ref (ad 16)), (1, .int (sx_i x1)), (2, .int (sx_i x2)), (4, .int (sx_i x4))]) C 3 dd_D_shared_23 rfl (by decide) rfl ?_
        refine sx_less (lu := [(0, .ref (ad 16)), (1, .int (sx_i x1)), (2, .int (sx_i x2)), (3, .int (sx_i (x3 + 1))), (4, .int (sx_i x4))]) C [1, 2, 3, 0, 4] rfl ?_
        exact sm_D_shared_26 C hZ hr hlk ht hlf hr5 h
set_option maxHeartbeats 4000000 in
set_option maxRecDepth 100000 in
theorem sm_D_shared {l : Launch} {D : va_G} {cI cJ : ClassId} {ad : Nat → Nat} {Q : Int → sx_M → Prop} (hlf : l.stackTraces = false) {μ : sx_M} {a1 a2 : Int} (h : sw_D_shared Q μ a1 a2) (sz : Nat) : sx_MI l yy_D_shared (Cond.code yy_D_shared prog_4_method_6_code 5 (some .int) :: sr_ts) rm_D_shared sr_lay sr_cl D cI cJ ad [.ref (ad 16), .int (sx_i a1), .int (sx_i a2)] μ Q (fun _ _ => False) 0 0 sz := by
  refine sx_body (plainFor_of_name (by decide +kernel)) rfl (Nat.le_of_ble_eq_true rfl) ?_
  intro p e s m below meth c C hZ hr hlk ht
  unfold sw_D_shared at h
  show sx_V sr_lay sr_cl D cI cJ ad (sx_A sr_lay ad sz) 5 p l e rm_D_shared s m _ below meth c (vx_MQ below (sx_T (sx_QI sr_lay sr_cl D cI cJ ad Q sz)) (sx_XC sr_lay sr_cl D cI cJ ad (fun _ _ => False) sz) _ s 0 0 (sx_A sr_lay ad sz)) 0 0 μ 0 [(0, .ref (ad 16)), (1, .int (sx_i a1)), (2, .int (sx_i a2))] []
  refine sx_iconst C dd_D_shared_0 rfl ?_
  refine sx_istore_n (lu := [(3, .int (sx_i 0)), (0, .ref (ad 16)), (1, .int (sx_i a1)), (2, .int (sx_i a2))]) C dd_D_shared_1 rfl (by decide) rfl ?_
  refine sx_iconst C dd_D_shared_2 rfl ?_
  refine sx_istore (lu := [(4, .int (sx_i 0)), (3, .int (sx_i 0)), (0, .ref (ad 16)), (1, .int (sx_i a1)), (2, .int (sx_i a2))]) C dd_D_shared_3 (by decide) rfl ?_
  refine sx_less (lu := [(0, .ref (ad 16)), (1, .int (sx_i a1)), (2, .int (sx_i a2)), (3, .int (sx_i 0)), (4, .int (sx_i 0))]) C [2, 3, 4, 1, 0] rfl ?_
  exact sm_D_shared_5 C hZ hr hlk ht hlf 600 _ _ _ _ _ h
def rm_S_commonDivisor : Room := { frames := 0, cells := 0, slots := 0, locals := 0 }
set_option maxHeartbeats 4000000 in
set_option maxRecDepth 100000 in
theorem sm_S_commonDivisor_34 (C : sx_C sr_lay sr_cl D cI cJ ad (sx_A sr_lay ad sz) 6 "StoneRings" prog_1_method_31_code sr_ts p s m args c) (hZ : sx_Z (sx_A sr_lay ad sz) s s.heap) (hr : meth.sig.returnType = (some .int)) (hlk : meth.locks = false) (ht : ∀ x ∈ c.exceptionTable.toList, False) (hlf : l.stackTraces = false) {x2 : Int} {μ : sx_M} (h : sw_S_commonDivisor_34 Q x2 μ) : sx_V sr_lay sr_cl D cI cJ ad (sx_A sr_lay ad sz) 6 p l e rm_S_commonDivisor s m args below meth c (vx_MQ below (sx_T (sx_QI sr_lay sr_cl D cI cJ ad Q sz)) (sx_XC sr_lay sr_cl D cI cJ ad (fun _ _ => False) sz) args s 0 0 (sx_A sr_lay ad sz)) 0 0 μ 34 [(2, .int (sx_i x2))] [] := by
  unfold sw_S_commonDivisor_34 at h
  refine sx_iload_n C 0 dd_S_commonDivisor_34 rfl rfl ?_
  exact sx_iret C hr hlk dd_S_commonDivisor_35 h
set_option maxHeartbeats 4000000 in
set_option maxRecDepth 100000 in
theorem sm_S_commonDivisor_7 (C : sx_C sr_lay sr_cl D cI cJ ad (sx_A sr_lay ad sz) 6 "StoneRings" prog_1_method_31_code sr_ts p s m args c) (hZ : sx_Z (sx_A sr_lay ad sz) s s.heap) (hr : meth.sig.returnType = (some .int)) (hlk : meth.locks = false) (ht : ∀ x ∈ c.exceptionTable.toList, False) (hlf : l.stackTraces = false) : ∀ (n : Nat) (x2 x3 x4 : Int) (μ : sx_M), sw_S_commonDivisor_7 Q n x2 x3 x4 μ → sx_V sr_lay sr_cl D cI cJ ad (sx_A sr_lay ad sz) 6 p l e rm_S_commonDivisor s m args below meth c (vx_MQ below (sx_T (sx_QI sr_lay sr_cl D cI cJ ad Q sz)) (sx_XC sr_lay sr_cl D cI cJ ad (fun _ _ => False) sz) args s 0 0 (sx_A sr_lay ad sz)) 0 0 μ 7 [(2, .int (sx_i x2)), (3, .int (sx_i x3)), (4, .int (sx_i x4))] [] := by
  intro n
  induction n with
  | zero =>
    intro x2 x3 x4 μ h
    exact h.elim
  | succ n ih =>
    intro x2 x3 x4 μ h
    have hr7 := ih
    unfold sw_S_commonDivisor_7 at h
    refine sx_iload C 2 dd_S_commonDivisor_7 rfl ?_
    refine sx_bipush (v := 64) C dd_S_commonDivisor_9 (by decide +kernel) ?_
    refine sx_icmp_ge (tgt := 34) C dd_S_commonDivisor_11 (by decide) h (fun h => ?_) (fun h => ?_)
    · refine sx_less (lu := [(2, .int (sx_i x2))]) C [0] rfl ?_
      exact sm_S_commonDivisor_34 C hZ hr hlk ht hlf h
    · refine sx_iload_n C 1 dd_S_commonDivisor_14 rfl rfl ?_
      refine sx_if_eq (tgt := 34) C dd_S_commonDivisor_15 (by decide) h (fun h => ?_) (fun h => ?_)
      · refine sx_less (lu := [(2, .int (sx_i x2))]) C [0] rfl ?_
        exact sm_S_commonDivisor_34 C hZ hr hlk ht hlf h
      · refine sx_iload_n C 0 dd_S_commonDivisor_18 rfl rfl ?_
        refine sx_iload_n C 1 dd_S_commonDivisor_19 rfl rfl ?_
        refine sx_irem C dd_S_commonDivisor_20 h (fun h => ?_)
        refine sx_istore (lu := [(5, .int (sx_i (x2.tmod x3))), (2, .int (sx_i x2)), (3, .int (sx_i x3)), (4, .int (sx_i x4))]) C dd_S_commonDivisor_21 (by decide) rfl ?_
        refine sx_iload_n C 2 dd_S_commonDivisor_23 rfl rfl ?_
        refine sx_istore_n (lu := [(2, .int (sx_i x3)), (5, .int (sx_i (x2.tmod x3))), (3, .int (sx_i x3)), (4, .int (sx_i x4))]) C dd_S_commonDivisor_24 rfl (by decide) rfl ?_
        refine sx_iload C 1 dd_S_commonDivisor_25 rfl ?_
        refine sx_istore_n (lu := [(3, .int (sx_i (x2.tmod x3))), (2, .int (sx_i x3)), (5, .int (sx_i (x2.tmod x3))), (4, .int (sx_i x4))]) C dd_S_commonDivisor_27 rfl (by decide) rfl ?_
        refine sx_iinc (lu := [(4, .int (sx_i (x4 + 1))), (3, .int (sx_i (x2.tmod x3))), (2, .int (sx_i x3)), (5, .int (sx_i (x2.tmod x3)))]) C 3 dd_S_commonDivisor_28 rfl (by decide) rfl ?_
        refine sx_goto (tgt := 7) C dd_S_commonDivisor_31 (by decide) ?_
        refine sx_less (lu := [(2, .int (sx_i x3)), (3, .int (sx_i (x2.tmod x3))), (4, .int (sx_i (x4 + 1)))]) C [2, 1, 0] rfl ?_
        exact hr7 _ _ _ _ h
set_option maxHeartbeats 4000000 in
set_option maxRecDepth 100000 in
theorem sm_S_commonDivisor {l : Launch} {D : va_G} {cI cJ : ClassId} {ad : Nat → Nat} {Q : Int → sx_M → Prop} (hlf : l.stackTraces = false) {μ : sx_M} {a0 a1 : Int} (h : sw_S_commonDivisor Q μ a0 a1) (sz : Nat) : sx_MI l yy_S_commonDivisor (Cond.code yy_S_commonDivisor prog_1_method_31_code 6 (some .int) :: sr_ts) rm_S_commonDivisor sr_lay sr_cl D cI cJ ad [.int (sx_i a0), .int (sx_i a1)] μ Q (fun _ _ => False) 0 0 sz := by
  refine sx_body (plainFor_of_name (by decide +kernel)) rfl (Nat.le_of_ble_eq_true rfl) ?_
  intro p e s m below meth c C hZ hr hlk ht
  unfold sw_S_commonDivisor at h
  show sx_V sr_lay sr_cl D cI cJ ad (sx_A sr_lay ad sz) 6 p l e rm_S_commonDivisor s m _ below meth c (vx_MQ below (sx_T (sx_QI sr_lay sr_cl D cI cJ ad Q sz)) (sx_XC sr_lay sr_cl D cI cJ ad (fun _ _ => False) sz) _ s 0 0 (sx_A sr_lay ad sz)) 0 0 μ 0 [(0, .int (sx_i a0)), (1, .int (sx_i a1))] []
  refine sx_iload_n C 0 dd_S_commonDivisor_0 rfl rfl ?_
  refine sx_istore_n (lu := [(2, .int (sx_i a0)), (0, .int (sx_i a0)), (1, .int (sx_i a1))]) C dd_S_commonDivisor_1 rfl (by decide) rfl ?_
  refine sx_iload_n C 2 dd_S_commonDivisor_2 rfl rfl ?_
  refine sx_istore_n (lu := [(3, .int (sx_i a1)), (2, .int (sx_i a0)), (0, .int (sx_i a0)), (1, .int (sx_i a1))]) C dd_S_commonDivisor_3 rfl (by decide) rfl ?_
  refine sx_iconst C dd_S_commonDivisor_4 rfl ?_
  refine sx_istore (lu := [(4, .int (sx_i 0)), (3, .int (sx_i a1)), (2, .int (sx_i a0)), (0, .int (sx_i a0)), (1, .int (sx_i a1))]) C dd_S_commonDivisor_5 (by decide) rfl ?_
  refine sx_less (lu := [(2, .int (sx_i a0)), (3, .int (sx_i a1)), (4, .int (sx_i 0))]) C [2, 1, 0] rfl ?_
  exact sm_S_commonDivisor_7 C hZ hr hlk ht hlf 600 _ _ _ _ h
def rm_S_fractionPart : Room := { frames := 1, cells := 0, slots := 0, locals := 25 }
set_option maxHeartbeats 4000000 in
set_option maxRecDepth 100000 in
theorem sm_S_fractionPart_14 (C : sx_C sr_lay sr_cl D cI cJ ad (sx_A sr_lay ad sz) 5 "StoneRings" prog_1_method_30_code sr_ts p s m args c) (hZ : sx_Z (sx_A sr_lay ad sz) s s.heap) (hr : meth.sig.returnType = (some .int)) (hlk : meth.locks = false) (ht : ∀ x ∈ c.exceptionTable.toList, False) (hlf : l.stackTraces = false) {y0 : Int} {μ : sx_M} (h : sw_S_fractionPart_14 Q y0 μ) : sx_V sr_lay sr_cl D cI cJ ad (sx_A sr_lay ad sz) 5 p l e rm_S_fractionPart s m args below meth c (vx_MQ below (sx_T (sx_QI sr_lay sr_cl D cI cJ ad Q sz)) (sx_XC sr_lay sr_cl D cI cJ ad (fun _ _ => False) sz) args s 0 0 (sx_A sr_lay ad sz)) 0 0 μ 14 [] [.int (sx_i y0)] := by
  unfold sw_S_fractionPart_14 at h
  exact sx_iret C hr hlk dd_S_fractionPart_14 h
set_option maxHeartbeats 4000000 in
set_option maxRecDepth 100000 in
theorem sm_S_fractionPart_49 (C : sx_C sr_lay sr_cl D cI cJ ad (sx_A sr_lay ad sz) 5 "StoneRings" prog_1_method_30_code sr_ts p s m args c) (hZ : sx_Z (sx_A sr_lay ad sz) s s.heap) (hr : meth.sig.returnType = (some .int)) (hlk : meth.locks = false) (ht : ∀ x ∈ c.exceptionTable.toList, False) (hlf : l.stackTraces = false) {y0 : Int} {μ : sx_M} (h : sw_S_fractionPart_49 Q y0 μ) : sx_V sr_lay sr_cl D cI cJ ad (sx_A sr_lay ad sz) 5 p l e rm_S_fractionPart s m args below meth c (vx_MQ below (sx_T (sx_QI sr_lay sr_cl D cI cJ ad Q sz)) (sx_XC sr_lay sr_cl D cI cJ ad (fun _ _ => False) sz) args s 0 0 (sx_A sr_lay ad sz)) 0 0 μ 49 [] [.int (sx_i y0)] := by
  unfold sw_S_fractionPart_49 at h
  exact sx_iret C hr hlk dd_S_fractionPart_49 h
set_option maxHeartbeats 4000000 in
set_option maxRecDepth 100000 in
theorem sm_S_fractionPart_33 (C : sx_C sr_lay sr_cl D cI cJ ad (sx_A sr_lay ad sz) 5 "StoneRings" prog_1_method_30_code sr_ts p s m args c) (hZ : sx_Z (sx_A sr_lay ad sz) s s.heap) (hr : meth.sig.returnType = (some .int)) (hlk : meth.locks = false) (ht : ∀ x ∈ c.exceptionTable.toList, False) (hlf : l.stackTraces = false) {x3 y0 : Int} {μ : sx_M} (h : sw_S_fractionPart_33 Q x3 y0 μ) : sx_V sr_lay sr_cl D cI cJ ad (sx_A sr_lay ad sz) 5 p l e rm_S_fractionPart s m args below meth c (vx_MQ below (sx_T (sx_QI sr_lay sr_cl D cI cJ ad Q sz)) (sx_XC sr_lay sr_cl D cI cJ ad (fun _ _ => False) sz) args s 0 0 (sx_A sr_lay ad sz)) 0 0 μ 33 [(3, .int (sx_i x3))] [.int (sx_i y0)] := by
  unfold sw_S_fractionPart_33 at h
  refine sx_istore (lu := [(4, .int (sx_i y0)), (3, .int (sx_i x3))]) C dd_S_fractionPart_33 (by decide) rfl ?_
  refine sx_iload_n C 1 dd_S_fractionPart_35 rfl rfl ?_
  refine sx_iconst C dd_S_fractionPart_36 rfl ?_
  refine sx_icmp_ge (tgt := 45) C dd_S_fractionPart_37 (by decide) h (fun h => ?_) (fun h => ?_)
  · refine sx_iload C 0 dd_S_fractionPart_45 rfl ?_
    refine sx_iload_n C 1 dd_S_fractionPart_47 rfl rfl ?_
    refine sx_idiv C dd_S_fractionPart_48 h (fun h => ?_)
    refine sx_less (lu := []) C [] rfl ?_
    exact sm_S_fractionPart_49 C hZ hr hlk ht hlf h
  · refine sx_iload C 0 dd_S_fractionPart_40 rfl ?_
    refine sx_goto (tgt := 49) C dd_S_fractionPart_42 (by decide) ?_
    refine sx_less (lu := []) C [] rfl ?_
    exact sm_S_fractionPart_49 C hZ hr hlk ht hlf h
set_option maxHeartbeats 4000000 in
set_option maxRecDepth 100000 in
theorem sm_S_fractionPart {l : Launch} {D : va_G} {cI cJ : ClassId} {ad : Nat → Nat} {Q : Int → sx_M → Prop} (hlf : l.stackTraces = false) {μ : sx_M} {a0 a1 a2 : Int} (h : sw_S_fractionPart Q μ a0 a1 a2) (sz : Nat) : sx_MI l yy_S_fractionPart (Cond.code yy_S_fractionPart prog_1_method_30_code 5 (some .int) :: sr_ts) rm_S_fractionPart sr_lay sr_cl D cI cJ ad [.int (sx_i a0), .int (sx_i a1), .int (sx_i a2)] μ Q (fun _ _ => False) 0 0 sz := by
  refine sx_body (plainFor_of_name (by decide +kernel)) rfl (Nat.le_of_ble_eq_true rfl) ?_
  intro p e s m below meth c C hZ hr hlk ht
  unfold sw_S_fractionPart at h
  show sx_V sr_lay sr_cl D cI cJ ad (sx_A sr_lay ad sz) 5 p l e rm_S_fractionPart s m _ below meth c (vx_MQ below (sx_T (sx_QI sr_lay sr_cl D cI cJ ad Q sz)) (sx_XC sr_lay sr_cl D cI cJ ad (fun _ _ => False) sz) _ s 0 0 (sx_A sr_lay ad sz)) 0 0 μ 0 [(0, .int (sx_i a0)), (1, .int (sx_i a1)), (2, .int (sx_i a2))] []
  refine sx_iload_n C 1 dd_S_fractionPart_0 rfl rfl ?_
  refine sx_iconst C dd_S_fractionPart_1 rfl ?_
  refine sx_icmp_ge (tgt := 15) C dd_S_fractionPart_2 (by decide) h (fun h => ?_) (fun h => ?_)
  · refine sx_iload_n C 0 dd_S_fractionPart_15 rfl rfl ?_
    refine sx_abs C wl_S_222 wm_abs_s wd_7 wm_abs_c (by decide) (Nat.le_of_ble_eq_true rfl) (by decide) (by decide) dd_S_fractionPart_16 h (fun h => ?_)
    refine sx_iload_n C 1 dd_S_fractionPart_19 rfl rfl ?_
    refine sx_stcI C hZ [.int (sx_i (if 0 ≤ a0 then a0 else -a0)), .int (sx_i a1)] (fun sz2 => sm_S_commonDivisor hlf h sz2) (sx_cwS (n := 2) C.2.2.2.2.1 wd_521 wd_519 wd_520 wd_1 rfl rfl (by decide +kernel) ⟨by decide, by decide⟩) rfl rfl (Nat.le_of_ble_eq_true rfl) dd_S_fractionPart_20 ⟨(Nat.le_of_ble_eq_true rfl), (Nat.le_of_ble_eq_true rfl)⟩ sx_noX (fun v1 μ1 h => ?_)
    refine sx_istore_n (lu := [(3, .int (sx_i v1)), (0, .int (sx_i a0)), (1, .int (sx_i a1)), (2, .int (sx_i a2))]) C dd_S_fractionPart_23 rfl (by decide) rfl ?_
    refine sx_iload_n C 3 dd_S_fractionPart_24 rfl rfl ?_
    refine sx_if_ne (tgt := 32) C dd_S_fractionPart_25 (by decide) h (fun h => ?_) (fun h => ?_)
    · refine sx_iload_n C 2 dd_S_fractionPart_32 rfl rfl ?_
      refine sx_less (lu := [(3, .int (sx_i v1))]) C [0] rfl ?_
      exact sm_S_fractionPart_33 C hZ hr hlk ht hlf h
    · refine sx_iload_n C 1 dd_S_fractionPart_28 rfl rfl ?_
      refine sx_goto (tgt := 33) C dd_S_fractionPart_29 (by decide) ?_
      refine sx_less (lu := [(3, .int (sx_i v1))]) C [0] rfl ?_
      exact sm_S_fractionPart_33 C hZ hr hlk ht hlf h
  · refine sx_iload_n C 2 dd_S_fractionPart_5 rfl rfl ?_
    refine sx_if_ne (tgt := 13) C dd_S_fractionPart_6 (by decide) h (fun h => ?_) (fun h => ?_)
    · refine sx_iconst C dd_S_fractionPart_13 rfl ?_
      refine sx_less (lu := []) C [] rfl ?_
      exact sm_S_fractionPart_14 C hZ hr hlk ht hlf h
    · refine sx_iconst C dd_S_fractionPart_9 rfl ?_
      refine sx_goto (tgt := 14) C dd_S_fractionPart_10 (by decide) ?_
      refine sx_less (lu := []) C [] rfl ?_
      exact sm_S_fractionPart_14 C hZ hr hlk ht hlf h
def rm_S_agree : Room := { frames := 8, cells := 1, slots := 6, locals := 125 }
set_option maxHeartbeats 4000000 in
set_option maxRecDepth 100000 in
theorem sm_S_agree {l : Launch} {D : va_G} {cI cJ : ClassId} {ad : Nat → Nat} {Q : Int → sx_M → Prop} {X : String → sx_M → Prop} (hlf : l.stackTraces = false) {μ : sx_M} {a1 a2 a3 : Int} (h : sw_S_agree Q X μ a1 a2 a3) (sz : Nat) : sx_MI l yy_S_agree (Cond.code yy_S_agree prog_1_method_16_code 4 (some .int) :: sr_ts) rm_S_agree sr_lay sr_cl D cI cJ ad [.ref (ad 0), .int (sx_i a1), .int (sx_i a2), .int (sx_i a3)] μ Q X 1 6 sz := by
  refine sx_body (plainFor_of_name (by decide +kernel)) rfl (Nat.le_of_ble_eq_true rfl) ?_
  intro p e s m below meth c C hZ hr hlk ht
  unfold sw_S_agree at h
  show sx_V sr_lay sr_cl D cI cJ ad (sx_A sr_lay ad sz) 4 p l e rm_S_agree s m _ below meth c (vx_MQ below (sx_T (sx_QI sr_lay sr_cl D cI cJ ad Q sz)) (sx_XC sr_lay sr_cl D cI cJ ad X sz) _ s 1 6 (sx_A sr_lay ad sz)) 0 0 μ 0 [(0, .ref (ad 0)), (1, .int (sx_i a1)), (2, .int (sx_i a2)), (3, .int (sx_i a3))] []
  refine sx_iload_n C 1 dd_S_agree_0 rfl rfl ?_
  refine sx_iload_n C 2 dd_S_agree_1 rfl rfl ?_
  refine sx_iload_n C 3 dd_S_agree_2 rfl rfl ?_
  refine sx_stcV C hZ [.int (sx_i a1), .int (sx_i a2), .int (sx_i a3)] (fun sz2 => sm_S_needPair hlf h sz2) (sx_cwS (n := 3) C.2.2.2.2.1 wd_501 wd_499 wd_500 wd_1 rfl rfl (by decide +kernel) ⟨by decide, by decide⟩) rfl rfl (Nat.le_of_ble_eq_true rfl) dd_S_agree_3 ⟨(Nat.le_of_ble_eq_true rfl), (Nat.le_of_ble_eq_true rfl)⟩ (sx_prop hlk ht (Nat.le_of_ble_eq_true rfl) (Nat.le_of_ble_eq_true rfl)) (fun v1 μ1 h => ?_)
  refine sx_aload_n C 0 dd_S_agree_6 rfl rfl ?_
  refine sx_getr (ref := "StoneRings") C 0 6 rfl rfl (rfl : sr_cl[4]? = some ("StoneRings", tt_S, 10)) (by decide) in_S wd_137 rfl dd_S_agree_7 ?_
  refine sx_iload_n C 1 dd_S_agree_10 rfl rfl ?_
  refine sx_iload_n C 2 dd_S_agree_11 rfl rfl ?_
  refine sx_invI (c0 := 16) C hZ [.int (sx_i a1), .int (sx_i a2)] (fun sz2 => sm_D_alike hlf h sz2) (sx_cwV (n := 2) C.2.2.2.2.1 wd_505 wd_502 wd_503 wd_504 wd_4 rfl rfl (by decide +kernel) ⟨by decide, by decide⟩) rfl (rfl : sr_cl[2]? = some ("StoneRings$Readings", tt_D, 3)) rfl rfl (Nat.le_of_ble_eq_true rfl) dd_S_agree_12 ⟨(Nat.le_of_ble_eq_true rfl), (Nat.le_of_ble_eq_true rfl)⟩ sx_noX (fun v2 μ2 h => ?_)
  refine sx_aload_n C 0 dd_S_agree_15 rfl rfl ?_
  refine sx_getr (ref := "StoneRings") C 0 6 rfl rfl (rfl : sr_cl[4]? = some ("StoneRings", tt_S, 10)) (by decide) in_S wd_137 rfl dd_S_agree_16 ?_
  refine sx_iload_n C 1 dd_S_agree_19 rfl rfl ?_
  refine sx_iload_n C 2 dd_S_agree_20 rfl rfl ?_
  refine sx_invI (c0 := 16) C hZ [.int (sx_i a1), .int (sx_i a2)] (fun sz2 => sm_D_shared hlf h sz2) (sx_cwV (n := 2) C.2.2.2.2.1 wd_514 wd_511 wd_512 wd_513 wd_4 rfl rfl (by decide +kernel) ⟨by decide, by decide⟩) rfl (rfl : sr_cl[2]? = some ("StoneRings$Readings", tt_D, 3)) rfl rfl (Nat.le_of_ble_eq_true rfl) dd_S_agree_21 ⟨(Nat.le_of_ble_eq_true rfl), (Nat.le_of_ble_eq_true rfl)⟩ sx_noX (fun v3 μ3 h => ?_)
  refine sx_iload_n C 3 dd_S_agree_24 rfl rfl ?_
  refine sx_stcI C hZ [.int (sx_i v2), .int (sx_i v3), .int (sx_i a3)] (fun sz2 => sm_S_fractionPart hlf h sz2) (sx_cwS (n := 3) C.2.2.2.2.1 wd_517 wd_515 wd_516 wd_1 rfl rfl (by decide +kernel) ⟨by decide, by decide⟩) rfl rfl (Nat.le_of_ble_eq_true rfl) dd_S_agree_25 ⟨(Nat.le_of_ble_eq_true rfl), (Nat.le_of_ble_eq_true rfl)⟩ sx_noX (fun v4 μ4 h => ?_)
  exact sx_iret C hr hlk dd_S_agree_28 h
def rm_D_excess : Room := { frames := 3, cells := 0, slots := 0, locals := 67 }
set_option maxHeartbeats 4000000 in
set_option maxRecDepth 100000 in
theorem sm_D_excess_41 (C : sx_C sr_lay sr_cl D cI cJ ad (sx_A sr_lay ad sz) 5 "StoneRings$Readings" prog_4_method_8_code sr_ts p s m args c) (hZ : sx_Z (sx_A sr_lay ad sz) s s.heap) (hr : meth.sig.returnType = (some .int)) (hlk : meth.locks = false) (ht : ∀ x ∈ c.exceptionTable.toList, False) (hlf : l.stackTraces = false) {r5 : Int → Int → Int → Int → sx_M → Prop} (hr5 : ∀ (x1 x2 x3 x4 : Int) (μ : sx_M), r5 x1 x2 x3 x4 μ → sx_V sr_lay sr_cl D cI cJ ad (sx_A sr_lay ad sz) 5 p l e rm_D_excess s m args below meth c (vx_MQ below (sx_T (sx_QI sr_lay sr_cl D cI cJ ad Q sz)) (sx_XC sr_lay sr_cl D cI cJ ad (fun _ _ => False) sz) args s 0 0 (sx_A sr_lay ad sz)) 0 0 μ 5 [(0, .ref (ad 16)), (1, .int (sx_i x1)), (2, .int (sx_i x2)), (3, .int (sx_i x3)), (4, .int (sx_i x4))] []) {x1 x2 x3 x4 : Int} {μ : sx_M} (h : sw_D_excess_41 Q r5 x1 x2 x3 x4 μ) : sx_V sr_lay sr_cl D cI cJ ad (sx_A sr_lay ad sz) 5 p l e rm_D_excess s m args below meth c (vx_MQ below (sx_T (sx_QI sr_lay sr_cl D cI cJ ad Q sz)) (sx_XC sr_lay sr_cl D cI cJ ad (fun _ _ => False) sz) args s 0 0 (sx_A sr_lay ad sz)) 0 0 μ 41 [(0, .ref (ad 16)), (1, .int (sx_i x1)), (2, .int (sx_i x2)), (3, .int (sx_i x3)), (4, .int (sx_i x4))] [] := by
  unfold sw_D_excess_41 at h
  refine sx_iinc (lu := [(4, .int (sx_i (x4 + 1))), (0, .ref (ad 16)), (1, .int (sx_i x1)), (2, .int (sx_i x2)), (3, .int (sx_i x3))]) C 4 dd_D_excess_41 rfl (by decide) rfl ?_
  refine sx_goto (tgt := 5) C dd_D_excess_44 (by decide) ?_
  refine sx_less (lu := [(0, .ref (ad 16)), (1, .int (sx_i x1)), (2, .int (sx_i x2)), (3, .int (sx_i x3)), (4, .int (sx_i (x4 + 1)))]) C [1, 2, 3, 4, 0] rfl ?_
  exact hr5 _ _ _ _ _ h
set_option maxHeartbeats 4000000 in
set_option maxRecDepth 100000 in
theorem sm_D_excess_5 (C : sx_C sr_lay sr_cl D cI cJ ad (sx_A sr_lay ad sz) 5 "StoneRings$Readings" prog_4_method_8_code sr_ts p s m args c) (hZ : sx_Z (sx_A sr_lay ad sz) s s.heap) (hr : meth.sig.returnType = (some .int)) (hlk : meth.locks = false) (ht : ∀ x ∈ c.exceptionTable.toList, False) (hlf : l.stackTraces = false) : ∀ (n : Nat) (x1 x2 x3 x4 : Int) (μ : sx_M), sw_D_excess_5 Q n x1 x2 x3 x4 μ → sx_V sr_lay sr_cl D cI cJ ad (sx_A sr_lay ad sz) 5 p l e rm_D_excess s m args below meth c (vx_MQ below (sx_T (sx_QI sr_lay sr_cl D cI cJ ad Q sz)) (sx_XC sr_lay sr_cl D cI cJ ad (fun _ _ => False) sz) args s 0 0 (sx_A sr_lay ad sz)) 0 0 μ 5 [(0, .ref (ad 16)), (1, .int (sx_i x1)), (2, .int (sx_i x2)), (3, .int (sx_i x3)), (4, .int (sx_i x4))] [] := by
  intro n
  induction n with
  | zero =>
    intro x1 x2 x3 x4 μ h
    exact h.elim
  | succ n ih =>
    intro x1 x2 x3 x4 μ h
    have hr5 := ih
    unfold sw_D_excess_5 at h
    refine sx_iload C 4 dd_D_excess_5 rfl ?_
    refine sx_bipush (v := 20) C dd_D_excess_7 (by decide +kernel) ?_
    refine sx_icmp_ge (tgt := 47) C dd_D_excess_9 (by decide) h (fun h => ?_) (fun h => ?_)
    · refine sx_iload_n C 3 dd_D_excess_47 rfl rfl ?_
      exact sx_iret C hr hlk dd_D_excess_48 h
    · refine sx_aload_n C 0 dd_D_excess_12 rfl rfl ?_
      refine sx_iload_n C 1 dd_D_excess_13 rfl rfl ?_
      refine sx_iload_n C 2 dd_D_excess_14 rfl rfl ?_
      refine sx_iload C 4 dd_D_excess_15 rfl ?_
      refine sx_invI (c0 := 16) C hZ [.int (sx_i x1), .int (sx_i x2), .int (sx_i x4)] (fun sz2 => sm_D_bothTold hlf h sz2) (sx_cwV (n := 3) C.2.2.2.2.1 wd_509 wd_506 wd_507 wd_508 wd_4 rfl rfl (by decide +kernel) ⟨by decide, by decide⟩) rfl (rfl : sr_cl[2]? = some ("StoneRings$Readings", tt_D, 3)) rfl rfl (Nat.le_of_ble_eq_true rfl) dd_D_excess_17 ⟨(Nat.le_of_ble_eq_true rfl), (Nat.le_of_ble_eq_true rfl)⟩ sx_noX (fun v1 μ1 h => ?_)
      refine sx_if_eq (tgt := 41) C dd_D_excess_20 (by decide) h (fun h => ?_) (fun h => ?_)
      · exact sm_D_excess_41 C hZ hr hlk ht hlf hr5 h
      · refine sx_iload_n C 3 dd_D_excess_23 rfl rfl ?_
        refine sx_aload_n C 0 dd_D_excess_24 rfl rfl ?_
        refine sx_iload_n C 1 dd_D_excess_25 rfl rfl ?_
        refine sx_iload C 4 dd_D_excess_26 rfl ?_
        refine sx_invI (c0 := 16) C hZ [.int (sx_i x1), .int (sx_i x4)] (fun sz2 => sm_D_of hlf h sz2) (sx_cwV (n := 2) C.2.2.2.2.1 wd_177 wd_174 wd_175 wd_176 wd_4 rfl rfl (by decide +kernel) ⟨by decide, by decide⟩) rfl (rfl : sr_cl[2]? = some ("StoneRings$Readings", tt_D, 3)) rfl rfl (Nat.le_of_ble_eq_true rfl) dd_D_excess_28 ⟨(Nat.le_of_ble_eq_true rfl), (Nat.le_of_ble_eq_true rfl)⟩ sx_noX (fun v2 μ2 h => ?_)
        refine sx_aload_n C 0 dd_D_excess_31 rfl rfl ?_
        refine sx_iload_n C 2 dd_D_excess_32 rfl rfl ?_
        refine sx_iload C 4 dd_D_excess_33 rfl ?_
        refine sx_invI (c0 := 16) C hZ [.int (sx_i x2), .int (sx_i x4)] (fun sz2 => sm_D_of hlf h sz2) (sx_cwV (n := 2) C.2.2.2.2.1 wd_177 wd_174 wd_175 wd_176 wd_4 rfl rfl (by decide +kernel) ⟨by decide, by decide⟩) rfl (rfl : sr_cl[2]? = some ("StoneRings$Readings", tt_D, 3)) rfl rfl (Nat.le_of_ble_eq_true rfl) dd_D_excess_35 ⟨(Nat.le_of_ble_eq_true rfl), (Nat.le_of_ble_eq_true rfl)⟩ sx_noX (fun v3 μ3 h => ?_)
        refine sx_isub C dd_D_excess_38 ?_
        refine sx_iadd C dd_D_excess_39 ?_
        refine sx_istore_n (lu := [(3, .int (sx_i (x3 + (v2 - v3)))), (0, .ref (ad 16)), (1, .int (sx_i x1)), (2, .int (sx_i x2)), (4, .int (sx_i x4))]) C dd_D_excess_40 rfl (by decide) rfl ?_
        refine sx_less (lu := [(0, .ref (ad 16)), (1, .int (sx_i x1)), (2, .int (sx_i x2)), (3, .int (sx_i (x3 + (v2 - v3)))), (4, .int (sx_i x4))]) C [1, 2, 3, 0, 4] rfl ?_
        exact sm_D_excess_41 C hZ hr hlk ht hlf hr5 h
set_option maxHeartbeats 4000000 in
set_option maxRecDepth 100000 in
theorem sm_D_excess {l : Launch} {D : va_G} {cI cJ : ClassId} {ad : Nat → Nat} {Q : Int → sx_M → Prop} (hlf : l.stackTraces = false) {μ : sx_M} {a1 a2 : Int} (h : sw_D_excess Q μ a1 a2) (sz : Nat) : sx_MI l yy_D_excess (Cond.code yy_D_excess prog_4_method_8_code 5 (some .int) :: sr_ts) rm_D_excess sr_lay sr_cl D cI cJ ad [.ref (ad 16), .int (sx_i a1), .int (sx_i a2)] μ Q (fun _ _ => False) 0 0 sz := by
  refine sx_body (plainFor_of_name (by decide +kernel)) rfl (Nat.le_of_ble_eq_true rfl) ?_
  intro p e s m below meth c C hZ hr hlk ht
  unfold sw_D_excess at h
  show sx_V sr_lay sr_cl D cI cJ ad (sx_A sr_lay ad sz) 5 p l e rm_D_excess s m _ below meth c (vx_MQ below (sx_T (sx_QI sr_lay sr_cl D cI cJ ad Q sz)) (sx_XC sr_lay sr_cl D cI cJ ad (fun _ _ => False) sz) _ s 0 0 (sx_A sr_lay ad sz)) 0 0 μ 0 [(0, .ref (ad 16)), (1, .int (sx_i a1)), (2, .int (sx_i a2))] []
  refine sx_iconst C dd_D_excess_0 rfl ?_
  refine sx_istore_n (lu := [(3, .int (sx_i 0)), (0, .ref (ad 16)), (1, .int (sx_i a1)), (2, .int (sx_i a2))]) C dd_D_excess_1 rfl (by decide) rfl ?_
  refine sx_iconst C dd_D_excess_2 rfl ?_
  refine sx_istore (lu := [(4, .int (sx_i 0)), (3, .int (sx_i 0)), (0, .ref (ad 16)), (1, .int (sx_i a1)), (2, .int (sx_i a2))]) C dd_D_excess_3 (by decide) rfl ?_
  refine sx_less (lu := [(0, .ref (ad 16)), (1, .int (sx_i a1)), (2, .int (sx_i a2)), (3, .int (sx_i 0)), (4, .int (sx_i 0))]) C [2, 3, 4, 1, 0] rfl ?_
  exact sm_D_excess_5 C hZ hr hlk ht hlf 600 _ _ _ _ _ h
def rm_S_bias : Room := { frames := 8, cells := 1, slots := 6, locals := 125 }
set_option maxHeartbeats 4000000 in
set_option maxRecDepth 100000 in
theorem sm_S_bias {l : Launch} {D : va_G} {cI cJ : ClassId} {ad : Nat → Nat} {Q : Int → sx_M → Prop} {X : String → sx_M → Prop} (hlf : l.stackTraces = false) {μ : sx_M} {a1 a2 a3 : Int} (h : sw_S_bias Q X μ a1 a2 a3) (sz : Nat) : sx_MI l yy_S_bias (Cond.code yy_S_bias prog_1_method_17_code 4 (some .int) :: sr_ts) rm_S_bias sr_lay sr_cl D cI cJ ad [.ref (ad 0), .int (sx_i a1), .int (sx_i a2), .int (sx_i a3)] μ Q X 1 6 sz := by
  refine sx_body (plainFor_of_name (by decide +kernel)) rfl (Nat.le_of_ble_eq_true rfl) ?_
  intro p e s m below meth c C hZ hr hlk ht
  unfold sw_S_bias at h
  show sx_V sr_lay sr_cl D cI cJ ad (sx_A sr_lay ad sz) 4 p l e rm_S_bias s m _ below meth c (vx_MQ below (sx_T (sx_QI sr_lay sr_cl D cI cJ ad Q sz)) (sx_XC sr_lay sr_cl D cI cJ ad X sz) _ s 1 6 (sx_A sr_lay ad sz)) 0 0 μ 0 [(0, .ref (ad 0)), (1, .int (sx_i a1)), (2, .int (sx_i a2)), (3, .int (sx_i a3))] []
  refine sx_iload_n C 1 dd_S_bias_0 rfl rfl ?_
  refine sx_iload_n C 2 dd_S_bias_1 rfl rfl ?_
  refine sx_iload_n C 3 dd_S_bias_2 rfl rfl ?_
  refine sx_stcV C hZ [.int (sx_i a1), .int (sx_i a2), .int (sx_i a3)] (fun sz2 => sm_S_needPair hlf h sz2) (sx_cwS (n := 3) C.2.2.2.2.1 wd_501 wd_499 wd_500 wd_1 rfl rfl (by decide +kernel) ⟨by decide, by decide⟩) rfl rfl (Nat.le_of_ble_eq_true rfl) dd_S_bias_3 ⟨(Nat.le_of_ble_eq_true rfl), (Nat.le_of_ble_eq_true rfl)⟩ (sx_prop hlk ht (Nat.le_of_ble_eq_true rfl) (Nat.le_of_ble_eq_true rfl)) (fun v1 μ1 h => ?_)
  refine sx_aload_n C 0 dd_S_bias_6 rfl rfl ?_
  refine sx_getr (ref := "StoneRings") C 0 6 rfl rfl (rfl : sr_cl[4]? = some ("StoneRings", tt_S, 10)) (by decide) in_S wd_137 rfl dd_S_bias_7 ?_
  refine sx_iload_n C 1 dd_S_bias_10 rfl rfl ?_
  refine sx_iload_n C 2 dd_S_bias_11 rfl rfl ?_
  refine sx_invI (c0 := 16) C hZ [.int (sx_i a1), .int (sx_i a2)] (fun sz2 => sm_D_excess hlf h sz2) (sx_cwV (n := 2) C.2.2.2.2.1 wd_532 wd_529 wd_530 wd_531 wd_4 rfl rfl (by decide +kernel) ⟨by decide, by decide⟩) rfl (rfl : sr_cl[2]? = some ("StoneRings$Readings", tt_D, 3)) rfl rfl (Nat.le_of_ble_eq_true rfl) dd_S_bias_12 ⟨(Nat.le_of_ble_eq_true rfl), (Nat.le_of_ble_eq_true rfl)⟩ sx_noX (fun v2 μ2 h => ?_)
  refine sx_aload_n C 0 dd_S_bias_15 rfl rfl ?_
  refine sx_getr (ref := "StoneRings") C 0 6 rfl rfl (rfl : sr_cl[4]? = some ("StoneRings", tt_S, 10)) (by decide) in_S wd_137 rfl dd_S_bias_16 ?_
  refine sx_iload_n C 1 dd_S_bias_19 rfl rfl ?_
  refine sx_iload_n C 2 dd_S_bias_20 rfl rfl ?_
  refine sx_invI (c0 := 16) C hZ [.int (sx_i a1), .int (sx_i a2)] (fun sz2 => sm_D_shared hlf h sz2) (sx_cwV (n := 2) C.2.2.2.2.1 wd_514 wd_511 wd_512 wd_513 wd_4 rfl rfl (by decide +kernel) ⟨by decide, by decide⟩) rfl (rfl : sr_cl[2]? = some ("StoneRings$Readings", tt_D, 3)) rfl rfl (Nat.le_of_ble_eq_true rfl) dd_S_bias_21 ⟨(Nat.le_of_ble_eq_true rfl), (Nat.le_of_ble_eq_true rfl)⟩ sx_noX (fun v3 μ3 h => ?_)
  refine sx_iload_n C 3 dd_S_bias_24 rfl rfl ?_
  refine sx_stcI C hZ [.int (sx_i v2), .int (sx_i v3), .int (sx_i a3)] (fun sz2 => sm_S_fractionPart hlf h sz2) (sx_cwS (n := 3) C.2.2.2.2.1 wd_517 wd_515 wd_516 wd_1 rfl rfl (by decide +kernel) ⟨by decide, by decide⟩) rfl rfl (Nat.le_of_ble_eq_true rfl) dd_S_bias_25 ⟨(Nat.le_of_ble_eq_true rfl), (Nat.le_of_ble_eq_true rfl)⟩ sx_noX (fun v4 μ4 h => ?_)
  exact sx_iret C hr hlk dd_S_bias_28 h
def rm_S_told : Room := { frames := 7, cells := 1, slots := 6, locals := 103 }
set_option maxHeartbeats 4000000 in
set_option maxRecDepth 100000 in
theorem sm_S_told {l : Launch} {D : va_G} {cI cJ : ClassId} {ad : Nat → Nat} {Q : Int → sx_M → Prop} {X : String → sx_M → Prop} (hlf : l.stackTraces = false) {μ : sx_M} {a1 : Int} (h : sw_S_told Q X μ a1) (sz : Nat) : sx_MI l yy_S_told (Cond.code yy_S_told prog_1_method_18_code 2 (some .int) :: sr_ts) rm_S_told sr_lay sr_cl D cI cJ ad [.ref (ad 0), .int (sx_i a1)] μ Q X 1 6 sz := by
  refine sx_body (plainFor_of_name (by decide +kernel)) rfl (Nat.le_of_ble_eq_true rfl) ?_
  intro p e s m below meth c C hZ hr hlk ht
  unfold sw_S_told at h
  show sx_V sr_lay sr_cl D cI cJ ad (sx_A sr_lay ad sz) 2 p l e rm_S_told s m _ below meth c (vx_MQ below (sx_T (sx_QI sr_lay sr_cl D cI cJ ad Q sz)) (sx_XC sr_lay sr_cl D cI cJ ad X sz) _ s 1 6 (sx_A sr_lay ad sz)) 0 0 μ 0 [(0, .ref (ad 0)), (1, .int (sx_i a1))] []
  refine sx_iload_n C 1 dd_S_told_0 rfl rfl ?_
  refine sx_bipush (v := 20) C dd_S_told_1 (by decide +kernel) ?_
  refine sx_stcV C hZ [.int (sx_i a1), .int (sx_i 20)] (fun sz2 => sm_S_needPlace hlf h sz2) (sx_cwS (n := 2) C.2.2.2.2.1 wd_303 wd_301 wd_302 wd_1 rfl rfl (by decide +kernel) ⟨by decide, by decide⟩) rfl rfl (Nat.le_of_ble_eq_true rfl) dd_S_told_3 ⟨(Nat.le_of_ble_eq_true rfl), (Nat.le_of_ble_eq_true rfl)⟩ (sx_prop hlk ht (Nat.le_of_ble_eq_true rfl) (Nat.le_of_ble_eq_true rfl)) (fun v1 μ1 h => ?_)
  refine sx_aload_n C 0 dd_S_told_6 rfl rfl ?_
  refine sx_getr (ref := "StoneRings") C 0 6 rfl rfl (rfl : sr_cl[4]? = some ("StoneRings", tt_S, 10)) (by decide) in_S wd_137 rfl dd_S_told_7 ?_
  refine sx_iload_n C 1 dd_S_told_10 rfl rfl ?_
  refine sx_invI (c0 := 16) C hZ [.int (sx_i a1)] (fun sz2 => sm_D_mostTold hlf h sz2) (sx_cwV (n := 1) C.2.2.2.2.1 wd_173 wd_540 wd_171 wd_172 wd_4 rfl rfl (by decide +kernel) ⟨by decide, by decide⟩) rfl (rfl : sr_cl[2]? = some ("StoneRings$Readings", tt_D, 3)) rfl rfl (Nat.le_of_ble_eq_true rfl) dd_S_told_11 ⟨(Nat.le_of_ble_eq_true rfl), (Nat.le_of_ble_eq_true rfl)⟩ sx_noX (fun v2 μ2 h => ?_)
  exact sx_iret C hr hlk dd_S_told_14 h
def rm_D_hits : Room := { frames := 3, cells := 0, slots := 0, locals := 72 }
set_option maxHeartbeats 4000000 in
set_option maxRecDepth 100000 in
theorem sm_D_hits_36 (C : sx_C sr_lay sr_cl D cI cJ ad (sx_A sr_lay ad sz) 4 "StoneRings$Readings" prog_4_method_11_code sr_ts p s m args c) (hZ : sx_Z (sx_A sr_lay ad sz) s s.heap) (hr : meth.sig.returnType = (some .int)) (hlk : meth.locks = false) (ht : ∀ x ∈ c.exceptionTable.toList, False) (hlf : l.stackTraces = false) {r4 : Int → Int → Int → sx_M → Prop} (hr4 : ∀ (x1 x2 x3 : Int) (μ : sx_M), r4 x1 x2 x3 μ → sx_V sr_lay sr_cl D cI cJ ad (sx_A sr_lay ad sz) 4 p l e rm_D_hits s m args below meth c (vx_MQ below (sx_T (sx_QI sr_lay sr_cl D cI cJ ad Q sz)) (sx_XC sr_lay sr_cl D cI cJ ad (fun _ _ => False) sz) args s 0 0 (sx_A sr_lay ad sz)) 0 0 μ 4 [(0, .ref (ad 16)), (1, .int (sx_i x1)), (2, .int (sx_i x2)), (3, .int (sx_i x3))] []) {x1 x2 x3 : Int} {μ : sx_M} (h : sw_D_hits_36 Q r4 x1 x2 x3 μ) : sx_V sr_lay sr_cl D cI cJ ad (sx_A sr_lay ad sz) 4 p l e rm_D_hits s m args below meth c (vx_MQ below (sx_T (sx_QI sr_lay sr_cl D cI cJ ad Q sz)) (sx_XC sr_lay sr_cl D cI cJ ad (fun _ _ => False) sz) args s 0 0 (sx_A sr_lay ad sz)) 0 0 μ 36 [(0, .ref (ad 16)), (1, .int (sx_i x1)), (2, .int (sx_i x2)), (3, .int (sx_i x3))] [] := by
  unfold sw_D_hits_36 at h
  refine sx_iinc (lu := [(3, .int (sx_i (x3 + 1))), (0, .ref (ad 16)), (1, .int (sx_i x1)), (2, .int (sx_i x2))]) C 3 dd_D_hits_36 rfl (by decide) rfl ?_
  refine sx_goto (tgt := 4) C dd_D_hits_39 (by decide) ?_
  refine sx_less (lu := [(0, .ref (ad 16)), (1, .int (sx_i x1)), (2, .int (sx_i x2)), (3, .int (sx_i (x3 + 1)))]) C [1, 2, 3, 0] rfl ?_
  exact hr4 _ _ _ _ h
set_option maxHeartbeats 4000000 in
set_option maxRecDepth 100000 in
theorem sm_D_hits_4 (C : sx_C sr_lay sr_cl D cI cJ ad (sx_A sr_lay ad sz) 4 "StoneRings$Readings" prog_4_method_11_code sr_ts p s m args c) (hZ : sx_Z (sx_A sr_lay ad sz) s s.heap) (hr : meth.sig.returnType = (some .int)) (hlk : meth.locks = false) (ht : ∀ x ∈ c.exceptionTable.toList, False) (hlf : l.stackTraces = false) : ∀ (n : Nat) (x1 x2 x3 : Int) (μ : sx_M), sw_D_hits_4 Q n x1 x2 x3 μ → sx_V sr_lay sr_cl D cI cJ ad (sx_A sr_lay ad sz) 4 p l e rm_D_hits s m args below meth c (vx_MQ below (sx_T (sx_QI sr_lay sr_cl D cI cJ ad Q sz)) (sx_XC sr_lay sr_cl D cI cJ ad (fun _ _ => False) sz) args s 0 0 (sx_A sr_lay ad sz)) 0 0 μ 4 [(0, .ref (ad 16)), (1, .int (sx_i x1)), (2, .int (sx_i x2)), (3, .int (sx_i x3))] [] := by
  intro n
  induction n with
  | zero =>
    intro x1 x2 x3 μ h
    exact h.elim
  | succ n ih =>
    intro x1 x2 x3 μ h
    have hr4 := ih
    unfold sw_D_hits_4 at h
    refine sx_iload_n C 3 dd_D_hits_4 rfl rfl ?_
    refine sx_bipush (v := 20) C dd_D_hits_5 (by decide +kernel) ?_
    refine sx_icmp_ge (tgt := 42) C dd_D_hits_7 (by decide) h (fun h => ?_) (fun h => ?_)
    · refine sx_iload_n C 2 dd_D_hits_42 rfl rfl ?_
      exact sx_iret C hr hlk dd_D_hits_43 h
    · refine sx_aload_n C 0 dd_D_hits_10 rfl rfl ?_
      refine sx_iload_n C 1 dd_D_hits_11 rfl rfl ?_
      refine sx_iload_n C 3 dd_D_hits_12 rfl rfl ?_
      refine sx_invI (c0 := 16) C hZ [.int (sx_i x1), .int (sx_i x3)] (fun sz2 => sm_D_has hlf h sz2) (sx_cwV (n := 2) C.2.2.2.2.1 wd_470 wd_510 wd_468 wd_469 wd_4 rfl rfl (by decide +kernel) ⟨by decide, by decide⟩) rfl (rfl : sr_cl[2]? = some ("StoneRings$Readings", tt_D, 3)) rfl rfl (Nat.le_of_ble_eq_true rfl) dd_D_hits_13 ⟨(Nat.le_of_ble_eq_true rfl), (Nat.le_of_ble_eq_true rfl)⟩ sx_noX (fun v1 μ1 h => ?_)
      refine sx_if_eq (tgt := 36) C dd_D_hits_16 (by decide) h (fun h => ?_) (fun h => ?_)
      · exact sm_D_hits_36 C hZ hr hlk ht hlf hr4 h
      · refine sx_aload_n C 0 dd_D_hits_19 rfl rfl ?_
        refine sx_iload_n C 1 dd_D_hits_20 rfl rfl ?_
        refine sx_iload_n C 3 dd_D_hits_21 rfl rfl ?_
        refine sx_invI (c0 := 16) C hZ [.int (sx_i x1), .int (sx_i x3)] (fun sz2 => sm_D_of hlf h sz2) (sx_cwV (n := 2) C.2.2.2.2.1 wd_177 wd_174 wd_175 wd_176 wd_4 rfl rfl (by decide +kernel) ⟨by decide, by decide⟩) rfl (rfl : sr_cl[2]? = some ("StoneRings$Readings", tt_D, 3)) rfl rfl (Nat.le_of_ble_eq_true rfl) dd_D_hits_22 ⟨(Nat.le_of_ble_eq_true rfl), (Nat.le_of_ble_eq_true rfl)⟩ sx_noX (fun v2 μ2 h => ?_)
        refine sx_aload_n C 0 dd_D_hits_25 rfl rfl ?_
        refine sx_iload_n C 3 dd_D_hits_26 rfl rfl ?_
        refine sx_invI (c0 := 16) C hZ [.int (sx_i x3)] (fun sz2 => sm_D_mostTold hlf h sz2) (sx_cwV (n := 1) C.2.2.2.2.1 wd_173 wd_170 wd_171 wd_172 wd_4 rfl rfl (by decide +kernel) ⟨by decide, by decide⟩) rfl (rfl : sr_cl[2]? = some ("StoneRings$Readings", tt_D, 3)) rfl rfl (Nat.le_of_ble_eq_true rfl) dd_D_hits_27 ⟨(Nat.le_of_ble_eq_true rfl), (Nat.le_of_ble_eq_true rfl)⟩ sx_noX (fun v3 μ3 h => ?_)
        refine sx_icmp_ne (tgt := 36) C dd_D_hits_30 (by decide) h (fun h => ?_) (fun h => ?_)
        · exact sm_D_hits_36 C hZ hr hlk ht hlf hr4 h
        · refine sx_iinc (lu := [(2, .int (sx_i (x2 + 1))), (0, .ref (ad 16)), (1, .int (sx_i x1)), (3, .int (sx_i x3))]) C 2 dd_D_hits_33 rfl (by decide) rfl ?_
          refine sx_less (lu := [(0, .ref (ad 16)), (1, .int (sx_i x1)), (2, .int (sx_i (x2 + 1))), (3, .int (sx_i x3))]) C [1, 2, 0, 3] rfl ?_
          exact sm_D_hits_36 C hZ hr hlk ht hlf hr4 h
set_option maxHeartbeats 4000000 in
set_option maxRecDepth 100000 in
theorem sm_D_hits {l : Launch} {D : va_G} {cI cJ : ClassId} {ad : Nat → Nat} {Q : Int → sx_M → Prop} (hlf : l.stackTraces = false) {μ : sx_M} {a1 : Int} (h : sw_D_hits Q μ a1) (sz : Nat) : sx_MI l yy_D_hits (Cond.code yy_D_hits prog_4_method_11_code 4 (some .int) :: sr_ts) rm_D_hits sr_lay sr_cl D cI cJ ad [.ref (ad 16), .int (sx_i a1)] μ Q (fun _ _ => False) 0 0 sz := by
  refine sx_body (plainFor_of_name (by decide +kernel)) rfl (Nat.le_of_ble_eq_true rfl) ?_
  intro p e s m below meth c C hZ hr hlk ht
  unfold sw_D_hits at h
  show sx_V sr_lay sr_cl D cI cJ ad (sx_A sr_lay ad sz) 4 p l e rm_D_hits s m _ below meth c (vx_MQ below (sx_T (sx_QI sr_lay sr_cl D cI cJ ad Q sz)) (sx_XC sr_lay sr_cl D cI cJ ad (fun _ _ => False) sz) _ s 0 0 (sx_A sr_lay ad sz)) 0 0 μ 0 [(0, .ref (ad 16)), (1, .int (sx_i a1))] []
  refine sx_iconst C dd_D_hits_0 rfl ?_
  refine sx_istore_n (lu := [(2, .int (sx_i 0)), (0, .ref (ad 16)), (1, .int (sx_i a1))]) C dd_D_hits_1 rfl (by decide) rfl ?_
  refine sx_iconst C dd_D_hits_2 rfl ?_
  refine sx_istore_n (lu := [(3, .int (sx_i 0)), (2, .int (sx_i 0)), (0, .ref (ad 16)), (1, .int (sx_i a1))]) C dd_D_hits_3 rfl (by decide) rfl ?_
  refine sx_less (lu := [(0, .ref (ad 16)), (1, .int (sx_i a1)), (2, .int (sx_i 0)), (3, .int (sx_i 0))]) C [2, 3, 1, 0] rfl ?_
  exact sm_D_hits_4 C hZ hr hlk ht hlf 600 _ _ _ _ h
def rm_S_right : Room := { frames := 7, cells := 1, slots := 6, locals := 103 }
set_option maxHeartbeats 4000000 in
set_option maxRecDepth 100000 in
theorem sm_S_right {l : Launch} {D : va_G} {cI cJ : ClassId} {ad : Nat → Nat} {Q : Int → sx_M → Prop} {X : String → sx_M → Prop} (hlf : l.stackTraces = false) {μ : sx_M} {a1 : Int} (h : sw_S_right Q X μ a1) (sz : Nat) : sx_MI l yy_S_right (Cond.code yy_S_right prog_1_method_19_code 2 (some .int) :: sr_ts) rm_S_right sr_lay sr_cl D cI cJ ad [.ref (ad 0), .int (sx_i a1)] μ Q X 1 6 sz := by
  refine sx_body (plainFor_of_name (by decide +kernel)) rfl (Nat.le_of_ble_eq_true rfl) ?_
  intro p e s m below meth c C hZ hr hlk ht
  unfold sw_S_right at h
  show sx_V sr_lay sr_cl D cI cJ ad (sx_A sr_lay ad sz) 2 p l e rm_S_right s m _ below meth c (vx_MQ below (sx_T (sx_QI sr_lay sr_cl D cI cJ ad Q sz)) (sx_XC sr_lay sr_cl D cI cJ ad X sz) _ s 1 6 (sx_A sr_lay ad sz)) 0 0 μ 0 [(0, .ref (ad 0)), (1, .int (sx_i a1))] []
  refine sx_iload_n C 1 dd_S_right_0 rfl rfl ?_
  refine sx_iconst C dd_S_right_1 rfl ?_
  refine sx_stcV C hZ [.int (sx_i a1), .int (sx_i 4)] (fun sz2 => sm_S_needPlace hlf h sz2) (sx_cwS (n := 2) C.2.2.2.2.1 wd_303 wd_301 wd_302 wd_1 rfl rfl (by decide +kernel) ⟨by decide, by decide⟩) rfl rfl (Nat.le_of_ble_eq_true rfl) dd_S_right_2 ⟨(Nat.le_of_ble_eq_true rfl), (Nat.le_of_ble_eq_true rfl)⟩ (sx_prop hlk ht (Nat.le_of_ble_eq_true rfl) (Nat.le_of_ble_eq_true rfl)) (fun v1 μ1 h => ?_)
  refine sx_aload_n C 0 dd_S_right_5 rfl rfl ?_
  refine sx_getr (ref := "StoneRings") C 0 6 rfl rfl (rfl : sr_cl[4]? = some ("StoneRings", tt_S, 10)) (by decide) in_S wd_137 rfl dd_S_right_6 ?_
  refine sx_iload_n C 1 dd_S_right_9 rfl rfl ?_
  refine sx_invI (c0 := 16) C hZ [.int (sx_i a1)] (fun sz2 => sm_D_hits hlf h sz2) (sx_cwV (n := 1) C.2.2.2.2.1 wd_551 wd_548 wd_549 wd_550 wd_4 rfl rfl (by decide +kernel) ⟨by decide, by decide⟩) rfl (rfl : sr_cl[2]? = some ("StoneRings$Readings", tt_D, 3)) rfl rfl (Nat.le_of_ble_eq_true rfl) dd_S_right_10 ⟨(Nat.le_of_ble_eq_true rfl), (Nat.le_of_ble_eq_true rfl)⟩ sx_noX (fun v2 μ2 h => ?_)
  exact sx_iret C hr hlk dd_S_right_13 h
def rm_D_readersBefore : Room := { frames := 0, cells := 0, slots := 0, locals := 0 }
set_option maxHeartbeats 4000000 in
set_option maxRecDepth 100000 in
theorem sm_D_readersBefore_47 (C : sx_C sr_lay sr_cl D cI cJ ad (sx_A sr_lay ad sz) 4 "StoneRings$Readings" prog_4_method_13_code sr_ts p s m args c) (hZ : sx_Z (sx_A sr_lay ad sz) s s.heap) (hr : meth.sig.returnType = (some .int)) (hlk : meth.locks = false) (ht : ∀ x ∈ c.exceptionTable.toList, False) (hlf : l.stackTraces = false) {r4 : Int → Int → Int → sx_M → Prop} (hr4 : ∀ (x1 x2 x3 : Int) (μ : sx_M), r4 x1 x2 x3 μ → sx_V sr_lay sr_cl D cI cJ ad (sx_A sr_lay ad sz) 4 p l e rm_D_readersBefore s m args below meth c (vx_MQ below (sx_T (sx_QI sr_lay sr_cl D cI cJ ad Q sz)) (sx_XC sr_lay sr_cl D cI cJ ad (fun _ _ => False) sz) args s 0 0 (sx_A sr_lay ad sz)) 0 0 μ 4 [(0, .ref (ad 16)), (1, .int (sx_i x1)), (2, .int (sx_i x2)), (3, .int (sx_i x3))] []) {x1 x2 x3 : Int} {μ : sx_M} (h : sw_D_readersBefore_47 Q r4 x1 x2 x3 μ) : sx_V sr_lay sr_cl D cI cJ ad (sx_A sr_lay ad sz) 4 p l e rm_D_readersBefore s m args below meth c (vx_MQ below (sx_T (sx_QI sr_lay sr_cl D cI cJ ad Q sz)) (sx_XC sr_lay sr_cl D cI cJ ad (fun _ _ => False) sz) args s 0 0 (sx_A sr_lay ad sz)) 0 0 μ 47 [(0, .ref (ad 16)), (1, .int (sx_i x1)), (2, .int (sx_i x2)), (3, .int (sx_i x3))] [] := by
  unfold sw_D_readersBefore_47 at h
  refine sx_iinc (lu := [(3, .int (sx_i (x3 + 1))), (0, .ref (ad 16)), (1, .int (sx_i x1)), (2, .int (sx_i x2))]) C 3 dd_D_readersBefore_47 rfl (by decide) rfl ?_
  refine sx_goto (tgt := 4) C dd_D_readersBefore_50 (by decide) ?_
  refine sx_less (lu := [(0, .ref (ad 16)), (1, .int (sx_i x1)), (2, .int (sx_i x2)), (3, .int (sx_i (x3 + 1)))]) C [1, 2, 3, 0] rfl ?_
  exact hr4 _ _ _ _ h
set_option maxHeartbeats 4000000 in
set_option maxRecDepth 100000 in
theorem sm_D_readersBefore_44 (C : sx_C sr_lay sr_cl D cI cJ ad (sx_A sr_lay ad sz) 4 "StoneRings$Readings" prog_4_method_13_code sr_ts p s m args c) (hZ : sx_Z (sx_A sr_lay ad sz) s s.heap) (hr : meth.sig.returnType = (some .int)) (hlk : meth.locks = false) (ht : ∀ x ∈ c.exceptionTable.toList, False) (hlf : l.stackTraces = false) {r4 : Int → Int → Int → sx_M → Prop} (hr4 : ∀ (x1 x2 x3 : Int) (μ : sx_M), r4 x1 x2 x3 μ → sx_V sr_lay sr_cl D cI cJ ad (sx_A sr_lay ad sz) 4 p l e rm_D_readersBefore s m args below meth c (vx_MQ below (sx_T (sx_QI sr_lay sr_cl D cI cJ ad Q sz)) (sx_XC sr_lay sr_cl D cI cJ ad (fun _ _ => False) sz) args s 0 0 (sx_A sr_lay ad sz)) 0 0 μ 4 [(0, .ref (ad 16)), (1, .int (sx_i x1)), (2, .int (sx_i x2)), (3, .int (sx_i x3))] []) {x1 x2 x3 : Int} {μ : sx_M} (h : sw_D_readersBefore_44 Q r4 x1 x2 x3 μ) : sx_V sr_lay sr_cl D cI cJ ad (sx_A sr_lay ad sz) 4 p l e rm_D_readersBefore s m args below meth c (vx_MQ below (sx_T (sx_QI sr_lay sr_cl D cI cJ ad Q sz)) (sx_XC sr_lay sr_cl D cI cJ ad (fun _ _ => False) sz) args s 0 0 (sx_A sr_lay ad sz)) 0 0 μ 44 [(0, .ref (ad 16)), (1, .int (sx_i x1)), (2, .int (sx_i x2)), (3, .int (sx_i x3))] [] := by
  unfold sw_D_readersBefore_44 at h
  refine sx_iinc (lu := [(2, .int (sx_i (x2 + 1))), (0, .ref (ad 16)), (1, .int (sx_i x1)), (3, .int (sx_i x3))]) C 2 dd_D_readersBefore_44 rfl (by decide) rfl ?_
  refine sx_less (lu := [(0, .ref (ad 16)), (1, .int (sx_i x1)), (2, .int (sx_i (x2 + 1))), (3, .int (sx_i x3))]) C [1, 2, 0, 3] rfl ?_
  exact sm_D_readersBefore_47 C hZ hr hlk ht hlf hr4 h
set_option maxHeartbeats 4000000 in
set_option maxRecDepth 100000 in
theorem sm_D_readersBefore_4 (C : sx_C sr_lay sr_cl D cI cJ ad (sx_A sr_lay ad sz) 4 "StoneRings$Readings" prog_4_method_13_code sr_ts p s m args c) (hZ : sx_Z (sx_A sr_lay ad sz) s s.heap) (hr : meth.sig.returnType = (some .int)) (hlk : meth.locks = false) (ht : ∀ x ∈ c.exceptionTable.toList, False) (hlf : l.stackTraces = false) : ∀ (n : Nat) (x1 x2 x3 : Int) (μ : sx_M), sw_D_readersBefore_4 Q n x1 x2 x3 μ → sx_V sr_lay sr_cl D cI cJ ad (sx_A sr_lay ad sz) 4 p l e rm_D_readersBefore s m args below meth c (vx_MQ below (sx_T (sx_QI sr_lay sr_cl D cI cJ ad Q sz)) (sx_XC sr_lay sr_cl D cI cJ ad (fun _ _ => False) sz) args s 0 0 (sx_A sr_lay ad sz)) 0 0 μ 4 [(0, .ref (ad 16)), (1, .int (sx_i x1)), (2, .int (sx_i x2)), (3, .int (sx_i x3))] [] := by
  intro n
  induction n with
  | zero =>
    intro x1 x2 x3 μ h
    exact h.elim
  | succ n ih =>
    intro x1 x2 x3 μ h
    have hr4 := ih
    unfold sw_D_readersBefore_4 at h
    refine sx_iload_n C 3 dd_D_readersBefore_4 rfl rfl ?_
    refine sx_iconst C dd_D_readersBefore_5 rfl ?_
    refine sx_icmp_ge (tgt := 53) C dd_D_readersBefore_6 (by decide) h (fun h => ?_) (fun h => ?_)
    · refine sx_iload_n C 2 dd_D_readersBefore_53 rfl rfl ?_
      exact sx_iret C hr hlk dd_D_readersBefore_54 h
    · refine sx_aload_n C 0 dd_D_readersBefore_9 rfl rfl ?_
      refine sx_getr (ref := "StoneRings$Readings") C 16 1 rfl rfl (rfl : sr_cl[2]? = some ("StoneRings$Readings", tt_D, 3)) (by decide) in_D wd_85 rfl dd_D_readersBefore_10 ?_
      refine sx_iload_n C 3 dd_D_readersBefore_13 rfl rfl ?_
      refine sx_iald (N := 4) C 18 rfl rfl (by decide) dd_D_readersBefore_14 h (fun h => ?_)
      refine sx_aload_n C 0 dd_D_readersBefore_15 rfl rfl ?_
      refine sx_getr (ref := "StoneRings$Readings") C 16 1 rfl rfl (rfl : sr_cl[2]? = some ("StoneRings$Readings", tt_D, 3)) (by decide) in_D wd_85 rfl dd_D_readersBefore_16 ?_
      refine sx_iload_n C 1 dd_D_readersBefore_19 rfl rfl ?_
      refine sx_iald (N := 4) C 18 rfl rfl (by decide) dd_D_readersBefore_20 h (fun h => ?_)
      refine sx_icmp_gt (tgt := 44) C dd_D_readersBefore_21 (by decide) h (fun h => ?_) (fun h => ?_)
      · exact sm_D_readersBefore_44 C hZ hr hlk ht hlf hr4 h
      · refine sx_aload_n C 0 dd_D_readersBefore_24 rfl rfl ?_
        refine sx_getr (ref := "StoneRings$Readings") C 16 1 rfl rfl (rfl : sr_cl[2]? = some ("StoneRings$Readings", tt_D, 3)) (by decide) in_D wd_85 rfl dd_D_readersBefore_25 ?_
        refine sx_iload_n C 3 dd_D_readersBefore_28 rfl rfl ?_
        refine sx_iald (N := 4) C 18 rfl rfl (by decide) dd_D_readersBefore_29 h (fun h => ?_)
        refine sx_aload_n C 0 dd_D_readersBefore_30 rfl rfl ?_
        refine sx_getr (ref := "StoneRings$Readings") C 16 1 rfl rfl (rfl : sr_cl[2]? = some ("StoneRings$Readings", tt_D, 3)) (by decide) in_D wd_85 rfl dd_D_readersBefore_31 ?_
        refine sx_iload_n C 1 dd_D_readersBefore_34 rfl rfl ?_
        refine sx_iald (N := 4) C 18 rfl rfl (by decide) dd_D_readersBefore_35 h (fun h => ?_)
        refine sx_icmp_ne (tgt := 47) C dd_D_readersBefore_36 (by decide) h (fun h => ?_) (fun h => ?_)
        · exact sm_D_readersBefore_47 C hZ hr hlk ht hlf hr4 h
        · refine sx_iload_n C 3 dd_D_readersBefore_39 rfl rfl ?_
          refine sx_iload_n C 1 dd_D_readersBefore_40 rfl rfl ?_
          refine sx_icmp_ge (tgt := 47) C dd_D_readersBefore_41 (by decide) h (fun h => ?_) (fun h => ?_)
          · exact sm_D_readersBefore_47 C hZ hr hlk ht hlf hr4 h
          · exact sm_D_readersBefore_44 C hZ hr hlk ht hlf hr4 h
set_option maxHeartbeats 4000000 in
set_option maxRecDepth 100000 in
theorem sm_D_readersBefore {l : Launch} {D : va_G} {cI cJ : ClassId} {ad : Nat → Nat} {Q : Int → sx_M → Prop} (hlf : l.stackTraces = false) {μ : sx_M} {a1 : Int} (h : sw_D_readersBefore Q μ a1) (sz : Nat) : sx_MI l yy_D_readersBefore (Cond.code yy_D_readersBefore prog_4_method_13_code 4 (some .int) :: sr_ts) rm_D_readersBefore sr_lay sr_cl D cI cJ ad [.ref (ad 16), .int (sx_i a1)] μ Q (fun _ _ => False) 0 0 sz := by
  refine sx_body (plainFor_of_name (by decide +kernel)) rfl (Nat.le_of_ble_eq_true rfl) ?_
  intro p e s m below meth c C hZ hr hlk ht
  unfold sw_D_readersBefore at h
  show sx_V sr_lay sr_cl D cI cJ ad (sx_A sr_lay ad sz) 4 p l e rm_D_readersBefore s m _ below meth c (vx_MQ below (sx_T (sx_QI sr_lay sr_cl D cI cJ ad Q sz)) (sx_XC sr_lay sr_cl D cI cJ ad (fun _ _ => False) sz) _ s 0 0 (sx_A sr_lay ad sz)) 0 0 μ 0 [(0, .ref (ad 16)), (1, .int (sx_i a1))] []
  refine sx_iconst C dd_D_readersBefore_0 rfl ?_
  refine sx_istore_n (lu := [(2, .int (sx_i 0)), (0, .ref (ad 16)), (1, .int (sx_i a1))]) C dd_D_readersBefore_1 rfl (by decide) rfl ?_
  refine sx_iconst C dd_D_readersBefore_2 rfl ?_
  refine sx_istore_n (lu := [(3, .int (sx_i 0)), (2, .int (sx_i 0)), (0, .ref (ad 16)), (1, .int (sx_i a1))]) C dd_D_readersBefore_3 rfl (by decide) rfl ?_
  refine sx_less (lu := [(0, .ref (ad 16)), (1, .int (sx_i a1)), (2, .int (sx_i 0)), (3, .int (sx_i 0))]) C [2, 3, 1, 0] rfl ?_
  exact sm_D_readersBefore_4 C hZ hr hlk ht hlf 600 _ _ _ _ h
def rm_D_readerAt : Room := { frames := 4, cells := 0, slots := 0, locals := 95 }
set_option maxHeartbeats 4000000 in
set_option maxRecDepth 100000 in
theorem sm_D_readerAt_26 (C : sx_C sr_lay sr_cl D cI cJ ad (sx_A sr_lay ad sz) 3 "StoneRings$Readings" prog_4_method_12_code sr_ts p s m args c) (hZ : sx_Z (sx_A sr_lay ad sz) s s.heap) (hr : meth.sig.returnType = (some .int)) (hlk : meth.locks = false) (ht : ∀ x ∈ c.exceptionTable.toList, False) (hlf : l.stackTraces = false) : ∀ (n : Nat) (x1 x2 : Int) (μ : sx_M), sw_D_readerAt_26 Q n x1 x2 μ → sx_V sr_lay sr_cl D cI cJ ad (sx_A sr_lay ad sz) 3 p l e rm_D_readerAt s m args below meth c (vx_MQ below (sx_T (sx_QI sr_lay sr_cl D cI cJ ad Q sz)) (sx_XC sr_lay sr_cl D cI cJ ad (fun _ _ => False) sz) args s 0 0 (sx_A sr_lay ad sz)) 0 0 μ 26 [(0, .ref (ad 16)), (1, .int (sx_i x1)), (2, .int (sx_i x2))] [] := by
  intro n
  induction n with
  | zero =>
    intro x1 x2 μ h
    exact h.elim
  | succ n ih =>
    intro x1 x2 μ h
    have hr26 := ih
    unfold sw_D_readerAt_26 at h
    refine sx_iload_n C 2 dd_D_readerAt_26 rfl rfl ?_
    refine sx_iconst C dd_D_readerAt_27 rfl ?_
    refine sx_icmp_ge (tgt := 48) C dd_D_readerAt_28 (by decide) h (fun h => ?_) (fun h => ?_)
    · refine sx_iconst C dd_D_readerAt_48 rfl ?_
      exact sx_iret C hr hlk dd_D_readerAt_49 h
    · refine sx_aload_n C 0 dd_D_readerAt_31 rfl rfl ?_
      refine sx_iload_n C 2 dd_D_readerAt_32 rfl rfl ?_
      refine sx_invI (c0 := 16) C hZ [.int (sx_i x2)] (fun sz2 => sm_D_readersBefore hlf h sz2) (sx_cwV (n := 1) C.2.2.2.2.1 wd_567 wd_564 wd_565 wd_566 wd_4 rfl rfl (by decide +kernel) ⟨by decide, by decide⟩) rfl (rfl : sr_cl[2]? = some ("StoneRings$Readings", tt_D, 3)) rfl rfl (Nat.le_of_ble_eq_true rfl) dd_D_readerAt_33 ⟨(Nat.le_of_ble_eq_true rfl), (Nat.le_of_ble_eq_true rfl)⟩ sx_noX (fun v1 μ1 h => ?_)
      refine sx_iload_n C 1 dd_D_readerAt_36 rfl rfl ?_
      refine sx_icmp_ne (tgt := 42) C dd_D_readerAt_37 (by decide) h (fun h => ?_) (fun h => ?_)
      · refine sx_iinc (lu := [(2, .int (sx_i (x2 + 1))), (0, .ref (ad 16)), (1, .int (sx_i x1))]) C 2 dd_D_readerAt_42 rfl (by decide) rfl ?_
        refine sx_goto (tgt := 26) C dd_D_readerAt_45 (by decide) ?_
        refine sx_less (lu := [(0, .ref (ad 16)), (1, .int (sx_i x1)), (2, .int (sx_i (x2 + 1)))]) C [1, 2, 0] rfl ?_
        exact hr26 _ _ _ h
      · refine sx_iload_n C 2 dd_D_readerAt_40 rfl rfl ?_
        exact sx_iret C hr hlk dd_D_readerAt_41 h
set_option maxHeartbeats 4000000 in
set_option maxRecDepth 100000 in
theorem sm_D_readerAt_2 (C : sx_C sr_lay sr_cl D cI cJ ad (sx_A sr_lay ad sz) 3 "StoneRings$Readings" prog_4_method_12_code sr_ts p s m args c) (hZ : sx_Z (sx_A sr_lay ad sz) s s.heap) (hr : meth.sig.returnType = (some .int)) (hlk : meth.locks = false) (ht : ∀ x ∈ c.exceptionTable.toList, False) (hlf : l.stackTraces = false) : ∀ (n : Nat) (x1 x2 : Int) (μ : sx_M), sw_D_readerAt_2 Q n x1 x2 μ → sx_V sr_lay sr_cl D cI cJ ad (sx_A sr_lay ad sz) 3 p l e rm_D_readerAt s m args below meth c (vx_MQ below (sx_T (sx_QI sr_lay sr_cl D cI cJ ad Q sz)) (sx_XC sr_lay sr_cl D cI cJ ad (fun _ _ => False) sz) args s 0 0 (sx_A sr_lay ad sz)) 0 0 μ 2 [(0, .ref (ad 16)), (1, .int (sx_i x1)), (2, .int (sx_i x2))] [] := by
  intro n
  induction n with
  | zero =>
    intro x1 x2 μ h
    exact h.elim
  | succ n ih =>
    intro x1 x2 μ h
    have hr2 := ih
    unfold sw_D_readerAt_2 at h
    refine sx_iload_n C 2 dd_D_readerAt_2 rfl rfl ?_
    refine sx_iconst C dd_D_readerAt_3 rfl ?_
    refine sx_icmp_ge (tgt := 24) C dd_D_readerAt_4 (by decide) h (fun h => ?_) (fun h => ?_)
    · refine sx_iconst C dd_D_readerAt_24 rfl ?_
      refine sx_istore_n (lu := [(2, .int (sx_i 0)), (0, .ref (ad 16)), (1, .int (sx_i x1))]) C dd_D_readerAt_25 rfl (by decide) rfl ?_
      refine sx_less (lu := [(0, .ref (ad 16)), (1, .int (sx_i x1)), (2, .int (sx_i 0))]) C [1, 2, 0] rfl ?_
      exact sm_D_readerAt_26 C hZ hr hlk ht hlf 600 _ _ _ h
    · refine sx_aload_n C 0 dd_D_readerAt_7 rfl rfl ?_
      refine sx_getr (ref := "StoneRings$Readings") C 16 1 rfl rfl (rfl : sr_cl[2]? = some ("StoneRings$Readings", tt_D, 3)) (by decide) in_D wd_85 rfl dd_D_readerAt_8 ?_
      refine sx_iload_n C 2 dd_D_readerAt_11 rfl rfl ?_
      refine sx_aload_n C 0 dd_D_readerAt_12 rfl rfl ?_
      refine sx_iload_n C 2 dd_D_readerAt_13 rfl rfl ?_
      refine sx_invI (c0 := 16) C hZ [.int (sx_i x2)] (fun sz2 => sm_D_hits hlf h sz2) (sx_cwV (n := 1) C.2.2.2.2.1 wd_551 wd_563 wd_549 wd_550 wd_4 rfl rfl (by decide +kernel) ⟨by decide, by decide⟩) rfl (rfl : sr_cl[2]? = some ("StoneRings$Readings", tt_D, 3)) rfl rfl (Nat.le_of_ble_eq_true rfl) dd_D_readerAt_14 ⟨(Nat.le_of_ble_eq_true rfl), (Nat.le_of_ble_eq_true rfl)⟩ sx_noX (fun v1 μ1 h => ?_)
      refine sx_iast (N := 4) C 18 rfl rfl (by decide) dd_D_readerAt_17 h (fun h => ?_)
      refine sx_iinc (lu := [(2, .int (sx_i (x2 + 1))), (0, .ref (ad 16)), (1, .int (sx_i x1))]) C 2 dd_D_readerAt_18 rfl (by decide) rfl ?_
      refine sx_goto (tgt := 2) C dd_D_readerAt_21 (by decide) ?_
      refine sx_less (lu := [(0, .ref (ad 16)), (1, .int (sx_i x1)), (2, .int (sx_i (x2 + 1)))]) C [1, 2, 0] rfl ?_
      exact hr2 _ _ _ h
set_option maxHeartbeats 4000000 in
set_option maxRecDepth 100000 in
theorem sm_D_readerAt {l : Launch} {D : va_G} {cI cJ : ClassId} {ad : Nat → Nat} {Q : Int → sx_M → Prop} (hlf : l.stackTraces = false) {μ : sx_M} {a1 : Int} (h : sw_D_readerAt Q μ a1) (sz : Nat) : sx_MI l yy_D_readerAt (Cond.code yy_D_readerAt prog_4_method_12_code 3 (some .int) :: sr_ts) rm_D_readerAt sr_lay sr_cl D cI cJ ad [.ref (ad 16), .int (sx_i a1)] μ Q (fun _ _ => False) 0 0 sz := by
  refine sx_body (plainFor_of_name (by decide +kernel)) rfl (Nat.le_of_ble_eq_true rfl) ?_
  intro p e s m below meth c C hZ hr hlk ht
  unfold sw_D_readerAt at h
  show sx_V sr_lay sr_cl D cI cJ ad (sx_A sr_lay ad sz) 3 p l e rm_D_readerAt s m _ below meth c (vx_MQ below (sx_T (sx_QI sr_lay sr_cl D cI cJ ad Q sz)) (sx_XC sr_lay sr_cl D cI cJ ad (fun _ _ => False) sz) _ s 0 0 (sx_A sr_lay ad sz)) 0 0 μ 0 [(0, .ref (ad 16)), (1, .int (sx_i a1))] []
  refine sx_iconst C dd_D_readerAt_0 rfl ?_
  refine sx_istore_n (lu := [(2, .int (sx_i 0)), (0, .ref (ad 16)), (1, .int (sx_i a1))]) C dd_D_readerAt_1 rfl (by decide) rfl ?_
  refine sx_less (lu := [(0, .ref (ad 16)), (1, .int (sx_i a1)), (2, .int (sx_i 0))]) C [1, 2, 0] rfl ?_
  exact sm_D_readerAt_2 C hZ hr hlk ht hlf 600 _ _ _ h
end SXG
