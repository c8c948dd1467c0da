section SXG
variable {D : va_G} {cI cJ : ClassId} {ad : Nat → Nat} {sz : Nat} {p : Program} {l : Launch} {e : Env} {s : State} {m : MethodId} {args : Array Value} {below : List Frame} {meth : Method} {c : Code} {Q : Int → sx_M → Prop} {X : String → sx_M → Prop}
def rm_H_floorDiv : Room := { frames := 0, cells := 0, slots := 0, locals := 0 }
set_option maxHeartbeats 4000000 in
set_option maxRecDepth 100000 in
theorem sm_H_floorDiv_21 (C : sx_C sr_lay sr_cl D cI cJ ad (sx_A sr_lay ad sz) 3 "java/lang/Math" prog_12_method_47_code sr_ts p s m args c) (hZ : sx_Z (sx_A sr_lay ad sz) s s.heap) (hr : meth.sig.returnType = (some .int)) (hlk : meth.locks = false) (ht : ∀ x ∈ c.exceptionTable.toList, False) (hlf : l.stackTraces = false) {x2 : Int} {μ : sx_M} (h : sw_H_floorDiv_21 Q x2 μ) : sx_V sr_lay sr_cl D cI cJ ad (sx_A sr_lay ad sz) 3 p l e rm_H_floorDiv s m args below meth c (vx_MQ below (sx_T (sx_QI sr_lay sr_cl D cI cJ ad Q sz)) (sx_XC sr_lay sr_cl D cI cJ ad (fun _ _ => False) sz) args s 0 0 (sx_A sr_lay ad sz)) 0 0 μ 21 [(2, .int (sx_i x2))] [] := by
  unfold sw_H_floorDiv_21 at h
  refine sx_iload_n C 0 dd_H_floorDiv_21 rfl rfl ?_
  exact sx_iret C hr hlk dd_H_floorDiv_22 h
set_option maxHeartbeats 4000000 in
set_option maxRecDepth 100000 in
theorem sm_H_floorDiv {l : Launch} {D : va_G} {cI cJ : ClassId} {ad : Nat → Nat} {Q : Int → sx_M → Prop} (hlf : l.stackTraces = false) {μ : sx_M} {a0 a1 : Int} (h : sw_H_floorDiv Q μ a0 a1) (sz : Nat) : sx_MI l yy_H_floorDiv (Cond.code yy_H_floorDiv prog_12_method_47_code 3 (some .int) :: sr_ts) rm_H_floorDiv sr_lay sr_cl D cI cJ ad [.int (sx_i a0), .int (sx_i a1)] μ Q (fun _ _ => False) 0 0 sz := by
  refine sx_body (by decide +kernel) rfl (Nat.le_of_ble_eq_true rfl) ?_
  intro p e s m below meth c C hZ hr hlk ht
  unfold sw_H_floorDiv at h
  show sx_V sr_lay sr_cl D cI cJ ad (sx_A sr_lay ad sz) 3 p l e rm_H_floorDiv s m _ below meth c (vx_MQ below (sx_T (sx_QI sr_lay sr_cl D cI cJ ad Q sz)) (sx_XC sr_lay sr_cl D cI cJ ad (fun _ _ => False) sz) _ s 0 0 (sx_A sr_lay ad sz)) 0 0 μ 0 [(0, .int (sx_i a0)), (1, .int (sx_i a1))] []
  refine sx_iload_n C 0 dd_H_floorDiv_0 rfl rfl ?_
  refine sx_iload_n C 1 dd_H_floorDiv_1 rfl rfl ?_
  refine sx_idiv C dd_H_floorDiv_2 h (fun h => ?_)
  refine sx_istore_n (lu := [(2, .int (sx_i (a0.tdiv a1))), (0, .int (sx_i a0)), (1, .int (sx_i a1))]) C dd_H_floorDiv_3 rfl (by decide) rfl ?_
  refine sx_iload_n C 1 dd_H_floorDiv_4 rfl rfl ?_
  refine sx_iload_n C 2 dd_H_floorDiv_5 rfl rfl ?_
  refine sx_ixor C dd_H_floorDiv_6 ?_
  refine sx_if_ge (tgt := 21) C dd_H_floorDiv_7 (by decide) h (fun h => ?_) (fun h => ?_)
  · refine sx_less (lu := [(2, .int (sx_i (a0.tdiv a1)))]) C [0] rfl ?_
    exact sm_H_floorDiv_21 C hZ hr hlk ht hlf h
  · refine sx_iload_n C 0 dd_H_floorDiv_10 rfl rfl ?_
    refine sx_iload_n C 2 dd_H_floorDiv_11 rfl rfl ?_
    refine sx_imul C dd_H_floorDiv_12 ?_
    refine sx_iload_n C 1 dd_H_floorDiv_13 rfl rfl ?_
    refine sx_icmp_eq (tgt := 21) C dd_H_floorDiv_14 (by decide) h (fun h => ?_) (fun h => ?_)
    · refine sx_less (lu := [(2, .int (sx_i (a0.tdiv a1)))]) C [0] rfl ?_
      exact sm_H_floorDiv_21 C hZ hr hlk ht hlf h
    · refine sx_iload_n C 0 dd_H_floorDiv_17 rfl rfl ?_
      refine sx_iconst C dd_H_floorDiv_18 rfl ?_
      refine sx_isub C dd_H_floorDiv_19 ?_
      exact sx_iret C hr hlk dd_H_floorDiv_20 h
def rm_S_floorOf : Room := { frames := 1, cells := 0, slots := 0, locals := 22 }
set_option maxHeartbeats 4000000 in
set_option maxRecDepth 100000 in
theorem sm_S_floorOf_14 (C : sx_C sr_lay sr_cl D cI cJ ad (sx_A sr_lay ad sz) 2 "StoneRings" prog_1_method_29_code sr_ts p s m args c) (hZ : sx_Z (sx_A sr_lay ad sz) s s.heap) (hr : meth.sig.returnType = (some .int)) (hlk : meth.locks = false) (ht : ∀ x ∈ c.exceptionTable.toList, False) (hlf : l.stackTraces = false) {y0 : Int} {μ : sx_M} (h : sw_S_floorOf_14 Q y0 μ) : sx_V sr_lay sr_cl D cI cJ ad (sx_A sr_lay ad sz) 2 p l e rm_S_floorOf s m args below meth c (vx_MQ below (sx_T (sx_QI sr_lay sr_cl D cI cJ ad Q sz)) (sx_XC sr_lay sr_cl D cI cJ ad (fun _ _ => False) sz) args s 0 0 (sx_A sr_lay ad sz)) 0 0 μ 14 [] [.int (sx_i y0)] := by
  unfold sw_S_floorOf_14 at h
  exact sx_iret C hr hlk dd_S_floorOf_14 h
set_option maxHeartbeats 4000000 in
set_option maxRecDepth 100000 in
theorem sm_S_floorOf {l : Launch} {D : va_G} {cI cJ : ClassId} {ad : Nat → Nat} {Q : Int → sx_M → Prop} (hlf : l.stackTraces = false) {μ : sx_M} {a0 a1 : Int} (h : sw_S_floorOf Q μ a0 a1) (sz : Nat) : sx_MI l yy_S_floorOf (Cond.code yy_S_floorOf prog_1_method_29_code 2 (some .int) :: sr_ts) rm_S_floorOf sr_lay sr_cl D cI cJ ad [.int (sx_i a0), .int (sx_i a1)] μ Q (fun _ _ => False) 0 0 sz := by
  refine sx_body (plainFor_of_name (by decide +kernel)) rfl (Nat.le_of_ble_eq_true rfl) ?_
  intro p e s m below meth c C hZ hr hlk ht
  unfold sw_S_floorOf at h
  show sx_V sr_lay sr_cl D cI cJ ad (sx_A sr_lay ad sz) 2 p l e rm_S_floorOf s m _ below meth c (vx_MQ below (sx_T (sx_QI sr_lay sr_cl D cI cJ ad Q sz)) (sx_XC sr_lay sr_cl D cI cJ ad (fun _ _ => False) sz) _ s 0 0 (sx_A sr_lay ad sz)) 0 0 μ 0 [(0, .int (sx_i a0)), (1, .int (sx_i a1))] []
  refine sx_iload_n C 1 dd_S_floorOf_0 rfl rfl ?_
  refine sx_iconst C dd_S_floorOf_1 rfl ?_
  refine sx_icmp_ge (tgt := 9) C dd_S_floorOf_2 (by decide) h (fun h => ?_) (fun h => ?_)
  · refine sx_iload_n C 0 dd_S_floorOf_9 rfl rfl ?_
    refine sx_iload_n C 1 dd_S_floorOf_10 rfl rfl ?_
    refine sx_stcI C hZ [.int (sx_i a0), .int (sx_i a1)] (fun sz2 => sm_H_floorDiv hlf h sz2) (sx_cwS (n := 2) C.2.2.2.2.1 wd_314 wd_312 wd_313 wd_7 rfl rfl (by decide +kernel) ⟨by decide, by decide⟩) rfl rfl (Nat.le_of_ble_eq_true rfl) dd_S_floorOf_11 ⟨(Nat.le_of_ble_eq_true rfl), (Nat.le_of_ble_eq_true rfl)⟩ sx_noX (fun v1 μ1 h => ?_)
    refine sx_less (lu := []) C [] rfl ?_
    exact sm_S_floorOf_14 C hZ hr hlk ht hlf h
  · refine sx_iconst C dd_S_floorOf_5 rfl ?_
    refine sx_goto (tgt := 14) C dd_S_floorOf_6 (by decide) ?_
    refine sx_less (lu := []) C [] rfl ?_
    exact sm_S_floorOf_14 C hZ hr hlk ht hlf h
def rm_P_centreX : Room := { frames := 2, cells := 0, slots := 0, locals := 43 }
set_option maxHeartbeats 4000000 in
set_option maxRecDepth 100000 in
theorem sm_P_centreX_23 (C : sx_C sr_lay sr_cl D cI cJ ad (sx_A sr_lay ad sz) 1 "StoneRings$Picture" prog_3_method_5_code sr_ts p s m args c) (hZ : sx_Z (sx_A sr_lay ad sz) s s.heap) (hr : meth.sig.returnType = (some .int)) (hlk : meth.locks = false) (ht : ∀ x ∈ c.exceptionTable.toList, False) (hlf : l.stackTraces = false) {y0 : Int} {μ : sx_M} (h : sw_P_centreX_23 Q y0 μ) : sx_V sr_lay sr_cl D cI cJ ad (sx_A sr_lay ad sz) 1 p l e rm_P_centreX s m args below meth c (vx_MQ below (sx_T (sx_QI sr_lay sr_cl D cI cJ ad Q sz)) (sx_XC sr_lay sr_cl D cI cJ ad (fun _ _ => False) sz) args s 0 0 (sx_A sr_lay ad sz)) 0 0 μ 23 [] [.int (sx_i y0)] := by
  unfold sw_P_centreX_23 at h
  exact sx_iret C hr hlk dd_P_centreX_23 h
set_option maxHeartbeats 4000000 in
set_option maxRecDepth 100000 in
theorem sm_P_centreX {l : Launch} {D : va_G} {cI cJ : ClassId} {ad : Nat → Nat} {Q : Int → sx_M → Prop} (hlf : l.stackTraces = false) {μ : sx_M} (h : sw_P_centreX Q μ ) (sz : Nat) : sx_MI l yy_P_centreX (Cond.code yy_P_centreX prog_3_method_5_code 1 (some .int) :: sr_ts) rm_P_centreX sr_lay sr_cl D cI cJ ad [.ref (ad 3)] μ Q (fun _ _ => False) 0 0 sz := by
  refine sx_body (plainFor_of_name (by decide +kernel)) rfl (Nat.le_of_ble_eq_true rfl) ?_
  intro p e s m below meth c C hZ hr hlk ht
  unfold sw_P_centreX at h
  show sx_V sr_lay sr_cl D cI cJ ad (sx_A sr_lay ad sz) 1 p l e rm_P_centreX s m _ below meth c (vx_MQ below (sx_T (sx_QI sr_lay sr_cl D cI cJ ad Q sz)) (sx_XC sr_lay sr_cl D cI cJ ad (fun _ _ => False) sz) _ s 0 0 (sx_A sr_lay ad sz)) 0 0 μ 0 [(0, .ref (ad 3))] []
  refine sx_aload_n C 0 dd_P_centreX_0 rfl rfl ?_
  refine sx_geti (K := 3) (ref := "StoneRings$Picture") C 3 3 rfl rfl rfl (rfl : sr_cl[1]? = some ("StoneRings$Picture", tt_P, 6)) (by decide) in_P wd_113 rfl dd_P_centreX_1 ?_
  refine sx_iconst C dd_P_centreX_4 rfl ?_
  refine sx_icmp_ge (tgt := 12) C dd_P_centreX_5 (by decide) h (fun h => ?_) (fun h => ?_)
  · refine sx_aload_n C 0 dd_P_centreX_12 rfl rfl ?_
    refine sx_geti (K := 4) (ref := "StoneRings$Picture") C 3 4 rfl rfl rfl (rfl : sr_cl[1]? = some ("StoneRings$Picture", tt_P, 6)) (by decide) in_P wd_116 rfl dd_P_centreX_13 ?_
    refine sx_aload_n C 0 dd_P_centreX_16 rfl rfl ?_
    refine sx_geti (K := 3) (ref := "StoneRings$Picture") C 3 3 rfl rfl rfl (rfl : sr_cl[1]? = some ("StoneRings$Picture", tt_P, 6)) (by decide) in_P wd_113 rfl dd_P_centreX_17 ?_
    refine sx_nstI C hZ [.int (sx_i (μ 3 4)), .int (sx_i (μ 3 3))] (fun sz2 => sm_S_floorOf hlf h sz2) (sx_cwN (n := 2) C.2.2.2.2.1 hZ wd_311 (List.mem_of_getElem? (i := 10) rfl) wd_310 wd_1 rfl rfl (by decide +kernel) ⟨by decide, by decide⟩) rfl rfl (Nat.le_of_ble_eq_true rfl) dd_P_centreX_20 ⟨(Nat.le_of_ble_eq_true rfl), (Nat.le_of_ble_eq_true rfl)⟩ (fun v1 μ1 h => ?_)
    refine sx_less (lu := []) C [] rfl ?_
    exact sm_P_centreX_23 C hZ hr hlk ht hlf h
  · refine sx_iconst C dd_P_centreX_8 rfl ?_
    refine sx_goto (tgt := 23) C dd_P_centreX_9 (by decide) ?_
    refine sx_less (lu := []) C [] rfl ?_
    exact sm_P_centreX_23 C hZ hr hlk ht hlf h
def rm_P_centreY : Room := { frames := 2, cells := 0, slots := 0, locals := 43 }
set_option maxHeartbeats 4000000 in
set_option maxRecDepth 100000 in
theorem sm_P_centreY_23 (C : sx_C sr_lay sr_cl D cI cJ ad (sx_A sr_lay ad sz) 1 "StoneRings$Picture" prog_3_method_6_code sr_ts p s m args c) (hZ : sx_Z (sx_A sr_lay ad sz) s s.heap) (hr : meth.sig.returnType = (some .int)) (hlk : meth.locks = false) (ht : ∀ x ∈ c.exceptionTable.toList, False) (hlf : l.stackTraces = false) {y0 : Int} {μ : sx_M} (h : sw_P_centreY_23 Q y0 μ) : sx_V sr_lay sr_cl D cI cJ ad (sx_A sr_lay ad sz) 1 p l e rm_P_centreY s m args below meth c (vx_MQ below (sx_T (sx_QI sr_lay sr_cl D cI cJ ad Q sz)) (sx_XC sr_lay sr_cl D cI cJ ad (fun _ _ => False) sz) args s 0 0 (sx_A sr_lay ad sz)) 0 0 μ 23 [] [.int (sx_i y0)] := by
  unfold sw_P_centreY_23 at h
  exact sx_iret C hr hlk dd_P_centreY_23 h
set_option maxHeartbeats 4000000 in
set_option maxRecDepth 100000 in
theorem sm_P_centreY {l : Launch} {D : va_G} {cI cJ : ClassId} {ad : Nat → Nat} {Q : Int → sx_M → Prop} (hlf : l.stackTraces = false) {μ : sx_M} (h : sw_P_centreY Q μ ) (sz : Nat) : sx_MI l yy_P_centreY (Cond.code yy_P_centreY prog_3_method_6_code 1 (some .int) :: sr_ts) rm_P_centreY sr_lay sr_cl D cI cJ ad [.ref (ad 3)] μ Q (fun _ _ => False) 0 0 sz := by
  refine sx_body (plainFor_of_name (by decide +kernel)) rfl (Nat.le_of_ble_eq_true rfl) ?_
  intro p e s m below meth c C hZ hr hlk ht
  unfold sw_P_centreY at h
  show sx_V sr_lay sr_cl D cI cJ ad (sx_A sr_lay ad sz) 1 p l e rm_P_centreY s m _ below meth c (vx_MQ below (sx_T (sx_QI sr_lay sr_cl D cI cJ ad Q sz)) (sx_XC sr_lay sr_cl D cI cJ ad (fun _ _ => False) sz) _ s 0 0 (sx_A sr_lay ad sz)) 0 0 μ 0 [(0, .ref (ad 3))] []
  refine sx_aload_n C 0 dd_P_centreY_0 rfl rfl ?_
  refine sx_geti (K := 3) (ref := "StoneRings$Picture") C 3 3 rfl rfl rfl (rfl : sr_cl[1]? = some ("StoneRings$Picture", tt_P, 6)) (by decide) in_P wd_113 rfl dd_P_centreY_1 ?_
  refine sx_iconst C dd_P_centreY_4 rfl ?_
  refine sx_icmp_ge (tgt := 12) C dd_P_centreY_5 (by decide) h (fun h => ?_) (fun h => ?_)
  · refine sx_aload_n C 0 dd_P_centreY_12 rfl rfl ?_
    refine sx_geti (K := 5) (ref := "StoneRings$Picture") C 3 5 rfl rfl rfl (rfl : sr_cl[1]? = some ("StoneRings$Picture", tt_P, 6)) (by decide) in_P wd_117 rfl dd_P_centreY_13 ?_
    refine sx_aload_n C 0 dd_P_centreY_16 rfl rfl ?_
    refine sx_geti (K := 3) (ref := "StoneRings$Picture") C 3 3 rfl rfl rfl (rfl : sr_cl[1]? = some ("StoneRings$Picture", tt_P, 6)) (by decide) in_P wd_113 rfl dd_P_centreY_17 ?_
    refine sx_nstI C hZ [.int (sx_i (μ 3 5)), .int (sx_i (μ 3 3))] (fun sz2 => sm_S_floorOf hlf h sz2) (sx_cwN (n := 2) C.2.2.2.2.1 hZ wd_311 (List.mem_of_getElem? (i := 10) rfl) wd_310 wd_1 rfl rfl (by decide +kernel) ⟨by decide, by decide⟩) rfl rfl (Nat.le_of_ble_eq_true rfl) dd_P_centreY_20 ⟨(Nat.le_of_ble_eq_true rfl), (Nat.le_of_ble_eq_true rfl)⟩ (fun v1 μ1 h => ?_)
    refine sx_less (lu := []) C [] rfl ?_
    exact sm_P_centreY_23 C hZ hr hlk ht hlf h
  · refine sx_iconst C dd_P_centreY_8 rfl ?_
    refine sx_goto (tgt := 23) C dd_P_centreY_9 (by decide) ?_
    refine sx_less (lu := []) C [] rfl ?_
    exact sm_P_centreY_23 C hZ hr hlk ht hlf h
def rm_S_middle : Room := { frames := 7, cells := 1, slots := 6, locals := 103 }
set_option maxHeartbeats 4000000 in
set_option maxRecDepth 100000 in
theorem sm_S_middle_26 (C : sx_C sr_lay sr_cl D cI cJ ad (sx_A sr_lay ad sz) 2 "StoneRings" prog_1_method_3_code sr_ts p s m args c) (hZ : sx_Z (sx_A sr_lay ad sz) s s.heap) (hr : meth.sig.returnType = (some .int)) (hlk : meth.locks = false) (ht : ∀ x ∈ c.exceptionTable.toList, False) (hlf : l.stackTraces = false) {y0 : Int} {μ : sx_M} (h : sw_S_middle_26 Q X y0 μ) : sx_V sr_lay sr_cl D cI cJ ad (sx_A sr_lay ad sz) 2 p l e rm_S_middle s m args below meth c (vx_MQ below (sx_T (sx_QI sr_lay sr_cl D cI cJ ad Q sz)) (sx_XC sr_lay sr_cl D cI cJ ad X sz) args s 1 6 (sx_A sr_lay ad sz)) 0 0 μ 26 [] [.int (sx_i y0)] := by
  unfold sw_S_middle_26 at h
  exact sx_iret C hr hlk dd_S_middle_26 h
set_option maxHeartbeats 4000000 in
set_option maxRecDepth 100000 in
theorem sm_S_middle {l : Launch} {D : va_G} {cI cJ : ClassId} {ad : Nat → Nat} {Q : Int → sx_M → Prop} {X : String → sx_M → Prop} (hlf : l.stackTraces = false) {μ : sx_M} {a1 : Int} (h : sw_S_middle Q X μ a1) (sz : Nat) : sx_MI l yy_S_middle (Cond.code yy_S_middle prog_1_method_3_code 2 (some .int) :: sr_ts) rm_S_middle sr_lay sr_cl D cI cJ ad [.ref (ad 0), .int (sx_i a1)] μ Q X 1 6 sz := by
  refine sx_body (plainFor_of_name (by decide +kernel)) rfl (Nat.le_of_ble_eq_true rfl) ?_
  intro p e s m below meth c C hZ hr hlk ht
  unfold sw_S_middle at h
  show sx_V sr_lay sr_cl D cI cJ ad (sx_A sr_lay ad sz) 2 p l e rm_S_middle s m _ below meth c (vx_MQ below (sx_T (sx_QI sr_lay sr_cl D cI cJ ad Q sz)) (sx_XC sr_lay sr_cl D cI cJ ad X sz) _ s 1 6 (sx_A sr_lay ad sz)) 0 0 μ 0 [(0, .ref (ad 0)), (1, .int (sx_i a1))] []
  refine sx_iload_n C 1 dd_S_middle_0 rfl rfl ?_
  refine sx_iconst C dd_S_middle_1 rfl ?_
  refine sx_stcV C hZ [.int (sx_i a1), .int (sx_i 2)] (fun sz2 => sm_S_needPlace hlf h sz2) (sx_cwS (n := 2) C.2.2.2.2.1 wd_303 wd_301 wd_302 wd_1 rfl rfl (by decide +kernel) ⟨by decide, by decide⟩) rfl rfl (Nat.le_of_ble_eq_true rfl) dd_S_middle_2 ⟨(Nat.le_of_ble_eq_true rfl), (Nat.le_of_ble_eq_true rfl)⟩ (sx_prop hlk ht (Nat.le_of_ble_eq_true rfl) (Nat.le_of_ble_eq_true rfl)) (fun v1 μ1 h => ?_)
  refine sx_iload_n C 1 dd_S_middle_5 rfl rfl ?_
  refine sx_if_ne (tgt := 19) C dd_S_middle_6 (by decide) h (fun h => ?_) (fun h => ?_)
  · refine sx_aload_n C 0 dd_S_middle_19 rfl rfl ?_
    refine sx_getr (ref := "StoneRings") C 0 0 rfl rfl (rfl : sr_cl[4]? = some ("StoneRings", tt_S, 10)) (by decide) in_S wd_131 rfl dd_S_middle_20 ?_
    refine sx_invI (c0 := 3) C hZ [] (fun sz2 => sm_P_centreY hlf h sz2) (sx_cwV (n := 0) C.2.2.2.2.1 wd_318 wd_315 wd_316 wd_317 wd_6 rfl rfl (by decide +kernel) ⟨by decide, by decide⟩) rfl (rfl : sr_cl[1]? = some ("StoneRings$Picture", tt_P, 6)) rfl rfl (Nat.le_of_ble_eq_true rfl) dd_S_middle_23 ⟨(Nat.le_of_ble_eq_true rfl), (Nat.le_of_ble_eq_true rfl)⟩ sx_noX (fun v2 μ2 h => ?_)
    refine sx_less (lu := []) C [] rfl ?_
    exact sm_S_middle_26 C hZ hr hlk ht hlf h
  · refine sx_aload_n C 0 dd_S_middle_9 rfl rfl ?_
    refine sx_getr (ref := "StoneRings") C 0 0 rfl rfl (rfl : sr_cl[4]? = some ("StoneRings", tt_S, 10)) (by decide) in_S wd_131 rfl dd_S_middle_10 ?_
    refine sx_invI (c0 := 3) C hZ [] (fun sz2 => sm_P_centreX hlf h sz2) (sx_cwV (n := 0) C.2.2.2.2.1 wd_308 wd_305 wd_306 wd_307 wd_6 rfl rfl (by decide +kernel) ⟨by decide, by decide⟩) rfl (rfl : sr_cl[1]? = some ("StoneRings$Picture", tt_P, 6)) rfl rfl (Nat.le_of_ble_eq_true rfl) dd_S_middle_13 ⟨(Nat.le_of_ble_eq_true rfl), (Nat.le_of_ble_eq_true rfl)⟩ sx_noX (fun v3 μ3 h => ?_)
    refine sx_goto (tgt := 26) C dd_S_middle_16 (by decide) ?_
    refine sx_less (lu := []) C [] rfl ?_
    exact sm_S_middle_26 C hZ hr hlk ht hlf h
def rm_S_ray : Room := { frames := 7, cells := 1, slots := 6, locals := 104 }
set_option maxHeartbeats 4000000 in
set_option maxRecDepth 100000 in
theorem sm_S_ray_32 (C : sx_C sr_lay sr_cl D cI cJ ad (sx_A sr_lay ad sz) 3 "StoneRings" prog_1_method_4_code sr_ts p s m args c) (hZ : sx_Z (sx_A sr_lay ad sz) s s.heap) (hr : meth.sig.returnType = (some .int)) (hlk : meth.locks = false) (ht : ∀ x ∈ c.exceptionTable.toList, False) (hlf : l.stackTraces = false) {x1 x2 : Int} {μ : sx_M} (h : sw_S_ray_32 Q X x1 x2 μ) : sx_V sr_lay sr_cl D cI cJ ad (sx_A sr_lay ad sz) 3 p l e rm_S_ray s m args below meth c (vx_MQ below (sx_T (sx_QI sr_lay sr_cl D cI cJ ad Q sz)) (sx_XC sr_lay sr_cl D cI cJ ad X sz) args s 1 6 (sx_A sr_lay ad sz)) 0 0 μ 32 [(0, .ref (ad 0)), (1, .int (sx_i x1)), (2, .int (sx_i x2))] [] := by
  unfold sw_S_ray_32 at h
  refine sx_aload_n C 0 dd_S_ray_32 rfl rfl ?_
  refine sx_geti (K := 7) (ref := "StoneRings") C 0 7 rfl rfl rfl (rfl : sr_cl[4]? = some ("StoneRings", tt_S, 10)) (by decide) in_S wd_138 rfl dd_S_ray_33 ?_
  refine sx_bipush (v := 8) C dd_S_ray_36 (by decide +kernel) ?_
  refine sx_icmp_lt (tgt := 51) C dd_S_ray_38 (by decide) h (fun h => ?_) (fun h => ?_)
  · refine sx_aload_n C 0 dd_S_ray_51 rfl rfl ?_
    refine sx_getr (ref := "StoneRings") C 0 1 rfl rfl (rfl : sr_cl[4]? = some ("StoneRings", tt_S, 10)) (by decide) in_S wd_132 rfl dd_S_ray_52 ?_
    refine sx_aload_n C 0 dd_S_ray_55 rfl rfl ?_
    refine sx_geti (K := 7) (ref := "StoneRings") C 0 7 rfl rfl rfl (rfl : sr_cl[4]? = some ("StoneRings", tt_S, 10)) (by decide) in_S wd_138 rfl dd_S_ray_56 ?_
    refine sx_iload_n C 1 dd_S_ray_59 rfl rfl ?_
    refine sx_iast (N := 8) C 1 rfl rfl (by decide) dd_S_ray_60 h (fun h => ?_)
    refine sx_aload_n C 0 dd_S_ray_61 rfl rfl ?_
    refine sx_getr (ref := "StoneRings") C 0 2 rfl rfl (rfl : sr_cl[4]? = some ("StoneRings", tt_S, 10)) (by decide) in_S wd_133 rfl dd_S_ray_62 ?_
    refine sx_aload_n C 0 dd_S_ray_65 rfl rfl ?_
    refine sx_geti (K := 7) (ref := "StoneRings") C 0 7 rfl rfl rfl (rfl : sr_cl[4]? = some ("StoneRings", tt_S, 10)) (by decide) in_S wd_138 rfl dd_S_ray_66 ?_
    refine sx_iload_n C 2 dd_S_ray_69 rfl rfl ?_
    refine sx_iast (N := 8) C 2 rfl rfl (by decide) dd_S_ray_70 h (fun h => ?_)
    refine sx_aload_n C 0 dd_S_ray_71 rfl rfl ?_
    refine sx_dup C dd_S_ray_72 rfl ?_
    refine sx_geti (K := 7) (ref := "StoneRings") C 0 7 rfl rfl rfl (rfl : sr_cl[4]? = some ("StoneRings", tt_S, 10)) (by decide) in_S wd_138 rfl dd_S_ray_73 ?_
    refine sx_iconst C dd_S_ray_76 rfl ?_
    refine sx_iadd C dd_S_ray_77 ?_
    refine sx_puti (K := 7) (ref := "StoneRings") (ty := .int) C 0 7 rfl rfl rfl (rfl : sr_cl[4]? = some ("StoneRings", tt_S, 10)) (by decide) in_S ty_S tyk_S nm_S wd_138 rfl rfl (by decide +kernel) rfl rfl dd_S_ray_78 ?_
    refine sx_aload_n C 0 dd_S_ray_81 rfl rfl ?_
    refine sx_geti (K := 7) (ref := "StoneRings") C 0 7 rfl rfl rfl (rfl : sr_cl[4]? = some ("StoneRings", tt_S, 10)) (by decide) in_S wd_138 rfl dd_S_ray_82 ?_
    refine sx_iconst C dd_S_ray_85 rfl ?_
    refine sx_isub C dd_S_ray_86 ?_
    exact sx_iret C hr hlk dd_S_ray_87 h
  · exact sx_throw (cls := "java/lang/IllegalStateException") (text := "no room for another ray") (names := ["java/lang/RuntimeException", "java/lang/Exception"]) C hlf hZ hlk ht (by decide +kernel) (by decide +kernel) wd_328 wd_14 (List.mem_of_getElem? (i := 4) rfl) at_S_101 gd_S_97_101 dd_S_ray_41 dd_S_ray_44 dd_S_ray_45 dd_S_ray_47 dd_S_ray_50 (by decide) (Nat.le_of_ble_eq_true rfl) (by decide) (by decide) (by decide) (by decide) h
set_option maxHeartbeats 4000000 in
set_option maxRecDepth 100000 in
theorem sm_S_ray {l : Launch} {D : va_G} {cI cJ : ClassId} {ad : Nat → Nat} {Q : Int → sx_M → Prop} {X : String → sx_M → Prop} (hlf : l.stackTraces = false) {μ : sx_M} {a1 a2 : Int} (h : sw_S_ray Q X μ a1 a2) (sz : Nat) : sx_MI l yy_S_ray (Cond.code yy_S_ray prog_1_method_4_code 3 (some .int) :: sr_ts) rm_S_ray sr_lay sr_cl D cI cJ ad [.ref (ad 0), .int (sx_i a1), .int (sx_i a2)] μ Q X 1 6 sz := by
  refine sx_body (plainFor_of_name (by decide +kernel)) rfl (Nat.le_of_ble_eq_true rfl) ?_
  intro p e s m below meth c C hZ hr hlk ht
  unfold sw_S_ray at h
  show sx_V sr_lay sr_cl D cI cJ ad (sx_A sr_lay ad sz) 3 p l e rm_S_ray s m _ below meth c (vx_MQ below (sx_T (sx_QI sr_lay sr_cl D cI cJ ad Q sz)) (sx_XC sr_lay sr_cl D cI cJ ad X sz) _ s 1 6 (sx_A sr_lay ad sz)) 0 0 μ 0 [(0, .ref (ad 0)), (1, .int (sx_i a1)), (2, .int (sx_i a2))] []
  refine sx_iload_n C 1 dd_S_ray_0 rfl rfl ?_
  refine sx_bipush (v := (-5)) C dd_S_ray_1 (by decide +kernel) ?_
  refine sx_iconst C dd_S_ray_3 rfl ?_
  refine sx_stcV C hZ [.int (sx_i a1), .int (sx_i (-5)), .int (sx_i 5)] (fun sz2 => sm_S_needNumber hlf h sz2) (sx_cwS (n := 3) C.2.2.2.2.1 wd_268 wd_266 wd_267 wd_1 rfl rfl (by decide +kernel) ⟨by decide, by decide⟩) rfl rfl (Nat.le_of_ble_eq_true rfl) dd_S_ray_4 ⟨(Nat.le_of_ble_eq_true rfl), (Nat.le_of_ble_eq_true rfl)⟩ (sx_prop hlk ht (Nat.le_of_ble_eq_true rfl) (Nat.le_of_ble_eq_true rfl)) (fun v1 μ1 h => ?_)
  refine sx_iload_n C 2 dd_S_ray_7 rfl rfl ?_
  refine sx_bipush (v := (-5)) C dd_S_ray_8 (by decide +kernel) ?_
  refine sx_iconst C dd_S_ray_10 rfl ?_
  refine sx_stcV C hZ [.int (sx_i a2), .int (sx_i (-5)), .int (sx_i 5)] (fun sz2 => sm_S_needNumber hlf h sz2) (sx_cwS (n := 3) C.2.2.2.2.1 wd_268 wd_266 wd_267 wd_1 rfl rfl (by decide +kernel) ⟨by decide, by decide⟩) rfl rfl (Nat.le_of_ble_eq_true rfl) dd_S_ray_11 ⟨(Nat.le_of_ble_eq_true rfl), (Nat.le_of_ble_eq_true rfl)⟩ (sx_prop hlk ht (Nat.le_of_ble_eq_true rfl) (Nat.le_of_ble_eq_true rfl)) (fun v2 μ2 h => ?_)
  refine sx_iload_n C 1 dd_S_ray_14 rfl rfl ?_
  refine sx_if_ne (tgt := 32) C dd_S_ray_15 (by decide) h (fun h => ?_) (fun h => ?_)
  · exact sm_S_ray_32 C hZ hr hlk ht hlf h
  · refine sx_iload_n C 2 dd_S_ray_18 rfl rfl ?_
    refine sx_if_ne (tgt := 32) C dd_S_ray_19 (by decide) h (fun h => ?_) (fun h => ?_)
    · exact sm_S_ray_32 C hZ hr hlk ht hlf h
    · exact sx_throw (cls := "java/lang/IllegalArgumentException") (text := "a ray without a direction") (names := ["java/lang/RuntimeException", "java/lang/Exception"]) C hlf hZ hlk ht (by decide +kernel) (by decide +kernel) wd_269 wd_13 (List.mem_of_getElem? (i := 3) rfl) at_S_96 gd_S_92_96 dd_S_ray_22 dd_S_ray_25 dd_S_ray_26 dd_S_ray_28 dd_S_ray_31 (by decide) (Nat.le_of_ble_eq_true rfl) (by decide) (by decide) (by decide) (by decide) h
def rm_T_walk : Room := { frames := 3, cells := 0, slots := 0, locals := 63 }
set_option maxHeartbeats 4000000 in
set_option maxRecDepth 100000 in
theorem sm_T_walk_32 (C : sx_C sr_lay sr_cl D cI cJ ad (sx_A sr_lay ad sz) 10 "StoneRings$Trace" prog_5_method_2_code sr_ts p s m args c) (hZ : sx_Z (sx_A sr_lay ad sz) s s.heap) (hr : meth.sig.returnType = none) (hlk : meth.locks = false) (ht : ∀ x ∈ c.exceptionTable.toList, False) (hlf : l.stackTraces = false) {t : Nat} (ht0 : sr_lay[t]? = some (.inl (3, [some (t + 1), some (t + 2), some (t + 3), none, none]))) (ht1 : sr_lay[t + 1]? = some (.inr (.inl 16))) (ht2 : sr_lay[t + 2]? = some (.inr (.inl 16))) (ht3 : sr_lay[t + 3]? = some (.inr (.inl 8))) {μ : sx_M} (h : sw_T_walk_32 Q t μ) : sx_V sr_lay sr_cl D cI cJ ad (sx_A sr_lay ad sz) 10 p l e rm_T_walk s m args below meth c (vx_MQ below (sx_T (sx_QV sr_lay sr_cl D cI cJ ad Q sz)) (sx_XC sr_lay sr_cl D cI cJ ad (fun _ _ => False) sz) args s 0 0 (sx_A sr_lay ad sz)) 0 0 μ 32 [] [] := by
  unfold sw_T_walk_32 at h
  exact sx_vret C hr hlk dd_T_walk_32 h
set_option maxHeartbeats 4000000 in
set_option maxRecDepth 100000 in
theorem sm_T_walk_48 (C : sx_C sr_lay sr_cl D cI cJ ad (sx_A sr_lay ad sz) 10 "StoneRings$Trace" prog_5_method_2_code sr_ts p s m args c) (hZ : sx_Z (sx_A sr_lay ad sz) s s.heap) (hr : meth.sig.returnType = none) (hlk : meth.locks = false) (ht : ∀ x ∈ c.exceptionTable.toList, False) (hlf : l.stackTraces = false) {t : Nat} (ht0 : sr_lay[t]? = some (.inl (3, [some (t + 1), some (t + 2), some (t + 3), none, none]))) (ht1 : sr_lay[t + 1]? = some (.inr (.inl 16))) (ht2 : sr_lay[t + 2]? = some (.inr (.inl 16))) (ht3 : sr_lay[t + 3]? = some (.inr (.inl 8))) : ∀ (n : Nat) (x2 x3 x4 x5 x6 x7 : Int) (μ : sx_M), sw_T_walk_48 Q t n x2 x3 x4 x5 x6 x7 μ → sx_V sr_lay sr_cl D cI cJ ad (sx_A sr_lay ad sz) 10 p l e rm_T_walk s m args below meth c (vx_MQ below (sx_T (sx_QV sr_lay sr_cl D cI cJ ad Q sz)) (sx_XC sr_lay sr_cl D cI cJ ad (fun _ _ => False) sz) args s 0 0 (sx_A sr_lay ad sz)) 0 0 μ 48 [(0, .ref (ad t)), (1, .ref (ad 3)), (2, .int (sx_i x2)), (3, .int (sx_i x3)), (4, .int (sx_i x4)), (5, .int (sx_i x5)), (6, .int (sx_i x6)), (7, .int (sx_i x7))] [] := by
  intro n
  induction n with
  | zero =>
    intro x2 x3 x4 x5 x6 x7 μ h
    exact h.elim
  | succ n ih =>
    intro x2 x3 x4 x5 x6 x7 μ h
    have hr48 := ih
    unfold sw_T_walk_48 at h
    refine sx_iload C 7 dd_T_walk_48 rfl ?_
    refine sx_bipush (v := 16) C dd_T_walk_50 (by decide +kernel) ?_
    refine sx_icmp_ge (tgt := 138) C dd_T_walk_52 (by decide) h (fun h => ?_) (fun h => ?_)
    · exact sx_vret C hr hlk dd_T_walk_138 h
    · refine sx_iload C 5 dd_T_walk_55 rfl ?_
      refine sx_iconst C dd_T_walk_57 rfl ?_
      refine sx_iload_n C 2 dd_T_walk_58 rfl rfl ?_
      refine sx_imul C dd_T_walk_59 ?_
      refine sx_iload C 7 dd_T_walk_60 rfl ?_
      refine sx_imul C dd_T_walk_62 ?_
      refine sx_iload C 4 dd_T_walk_63 rfl ?_
      refine sx_iadd C dd_T_walk_65 ?_
      refine sx_iconst C dd_T_walk_66 rfl ?_
      refine sx_iload C 4 dd_T_walk_67 rfl ?_
      refine sx_imul C dd_T_walk_69 ?_
      refine sx_nstI C hZ [.int (sx_i (((2 * x2) * x7) + x4)), .int (sx_i (2 * x4))] (fun sz2 => sm_S_floorOf hlf h sz2) (sx_cwN (n := 2) C.2.2.2.2.1 hZ wd_311 (List.mem_of_getElem? (i := 12) rfl) wd_310 wd_1 rfl rfl (by decide +kernel) ⟨by decide, by decide⟩) rfl rfl (Nat.le_of_ble_eq_true rfl) dd_T_walk_70 ⟨(Nat.le_of_ble_eq_true rfl), (Nat.le_of_ble_eq_true rfl)⟩ (fun v1 μ1 h => ?_)
      refine sx_iadd C dd_T_walk_73 ?_
      refine sx_istore (lu := [(8, .int (sx_i (x5 + v1))), (0, .ref (ad t)), (1, .ref (ad 3)), (2, .int (sx_i x2)), (3, .int (sx_i x3)), (4, .int (sx_i x4)), (5, .int (sx_i x5)), (6, .int (sx_i x6)), (7, .int (sx_i x7))]) C dd_T_walk_74 (by decide) rfl ?_
      refine sx_iload C 7 dd_T_walk_76 rfl ?_
      refine sx_iconst C dd_T_walk_78 rfl ?_
      refine sx_iload_n C 4 dd_T_walk_79 rfl rfl ?_
      refine sx_imul C dd_T_walk_80 ?_
      refine sx_iload C 8 dd_T_walk_81 rfl ?_
      refine sx_imul C dd_T_walk_83 ?_
      refine sx_iload C 5 dd_T_walk_84 rfl ?_
      refine sx_iadd C dd_T_walk_86 ?_
      refine sx_iconst C dd_T_walk_87 rfl ?_
      refine sx_iload C 5 dd_T_walk_88 rfl ?_
      refine sx_imul C dd_T_walk_90 ?_
      refine sx_nstI C hZ [.int (sx_i (((2 * x3) * x7) + x4)), .int (sx_i (2 * x4))] (fun sz2 => sm_S_floorOf hlf h sz2) (sx_cwN (n := 2) C.2.2.2.2.1 hZ wd_311 (List.mem_of_getElem? (i := 12) rfl) wd_310 wd_1 rfl rfl (by decide +kernel) ⟨by decide, by decide⟩) rfl rfl (Nat.le_of_ble_eq_true rfl) dd_T_walk_91 ⟨(Nat.le_of_ble_eq_true rfl), (Nat.le_of_ble_eq_true rfl)⟩ (fun v2 μ2 h => ?_)
      refine sx_iadd C dd_T_walk_94 ?_
      refine sx_istore (lu := [(9, .int (sx_i (x6 + v2))), (8, .int (sx_i (x5 + v1))), (0, .ref (ad t)), (1, .ref (ad 3)), (2, .int (sx_i x2)), (3, .int (sx_i x3)), (4, .int (sx_i x4)), (5, .int (sx_i x5)), (6, .int (sx_i x6)), (7, .int (sx_i x7))]) C dd_T_walk_95 (by decide) rfl ?_
      refine sx_aload_n C 3 dd_T_walk_97 rfl rfl ?_
      refine sx_iload C 1 dd_T_walk_98 rfl ?_
      refine sx_iload C 0 dd_T_walk_100 rfl ?_
      refine sx_invI (c0 := 3) C hZ [.int (sx_i (x5 + v1)), .int (sx_i (x6 + v2))] (fun sz2 => sm_P_holds hlf h sz2) (sx_cwV (n := 2) C.2.2.2.2.1 wd_197 wd_366 wd_195 wd_196 wd_6 rfl rfl (by decide +kernel) ⟨by decide, by decide⟩) rfl (rfl : sr_cl[1]? = some ("StoneRings$Picture", tt_P, 6)) rfl rfl (Nat.le_of_ble_eq_true rfl) dd_T_walk_102 ⟨(Nat.le_of_ble_eq_true rfl), (Nat.le_of_ble_eq_true rfl)⟩ sx_noX (fun v3 μ3 h => ?_)
      refine sx_if_ne (tgt := 109) C dd_T_walk_105 (by decide) h (fun h => ?_) (fun h => ?_)
      · refine sx_aload_n C 2 dd_T_walk_109 rfl rfl ?_
        refine sx_getr (ref := "StoneRings$Trace") C t 0 ht0 rfl (rfl : sr_cl[3]? = some ("StoneRings$Trace", tt_T, 5)) (by decide) in_T wd_29 rfl dd_T_walk_110 ?_
        refine sx_iload C 9 dd_T_walk_113 rfl ?_
        refine sx_aload_n C 3 dd_T_walk_115 rfl rfl ?_
        refine sx_iload C 1 dd_T_walk_116 rfl ?_
        refine sx_iload C 0 dd_T_walk_118 rfl ?_
        refine sx_invI (c0 := 3) C hZ [.int (sx_i (x5 + v1)), .int (sx_i (x6 + v2))] (fun sz2 => sm_P_at hlf h sz2) (sx_cwV (n := 2) C.2.2.2.2.1 wd_292 wd_367 wd_290 wd_291 wd_6 rfl rfl (by decide +kernel) ⟨by decide, by decide⟩) rfl (rfl : sr_cl[1]? = some ("StoneRings$Picture", tt_P, 6)) rfl rfl (Nat.le_of_ble_eq_true rfl) dd_T_walk_120 ⟨(Nat.le_of_ble_eq_true rfl), (Nat.le_of_ble_eq_true rfl)⟩ sx_noX (fun v4 μ4 h => ?_)
        refine sx_iast (N := 16) C (t + 1) ht1 rfl (by decide) dd_T_walk_123 h (fun h => ?_)
        refine sx_aload_n C 2 dd_T_walk_124 rfl rfl ?_
        refine sx_iload C 9 dd_T_walk_125 rfl ?_
        refine sx_iconst C dd_T_walk_127 rfl ?_
        refine sx_iadd C dd_T_walk_128 ?_
        refine sx_puti (K := 3) (ref := "StoneRings$Trace") (ty := .int) C t 3 rfl ht0 rfl (rfl : sr_cl[3]? = some ("StoneRings$Trace", tt_T, 5)) (by decide) in_T ty_T tyk_T nm_T wd_36 rfl rfl (by decide +kernel) rfl rfl dd_T_walk_129 ?_
        refine sx_iinc (lu := [(7, .int (sx_i (x7 + 1))), (9, .int (sx_i (x6 + v2))), (8, .int (sx_i (x5 + v1))), (0, .ref (ad t)), (1, .ref (ad 3)), (2, .int (sx_i x2)), (3, .int (sx_i x3)), (4, .int (sx_i x4)), (5, .int (sx_i x5)), (6, .int (sx_i x6))]) C 9 dd_T_walk_132 rfl (by decide) rfl ?_
        refine sx_goto (tgt := 48) C dd_T_walk_135 (by decide) ?_
        refine sx_less (lu := [(0, .ref (ad t)), (1, .ref (ad 3)), (2, .int (sx_i x2)), (3, .int (sx_i x3)), (4, .int (sx_i x4)), (5, .int (sx_i x5)), (6, .int (sx_i x6)), (7, .int (sx_i (x7 + 1)))]) C [3, 4, 5, 6, 7, 8, 9, 0] rfl ?_
        exact hr48 _ _ _ _ _ _ _ h
      · exact sx_vret C hr hlk dd_T_walk_108 h
set_option maxHeartbeats 4000000 in
set_option maxRecDepth 100000 in
theorem sm_T_walk {l : Launch} {D : va_G} {cI cJ : ClassId} {ad : Nat → Nat} {Q : Int → sx_M → Prop} (hlf : l.stackTraces = false) {t : Nat} (ht0 : sr_lay[t]? = some (.inl (3, [some (t + 1), some (t + 2), some (t + 3), none, none]))) (ht1 : sr_lay[t + 1]? = some (.inr (.inl 16))) (ht2 : sr_lay[t + 2]? = some (.inr (.inl 16))) (ht3 : sr_lay[t + 3]? = some (.inr (.inl 8))) {μ : sx_M} {a2 a3 : Int} (h : sw_T_walk Q t μ a2 a3) (sz : Nat) : sx_MV l yy_T_walk (Cond.code yy_T_walk prog_5_method_2_code 10 none :: sr_ts) rm_T_walk sr_lay sr_cl D cI cJ ad [.ref (ad t), .ref (ad 3), .int (sx_i a2), .int (sx_i a3)] μ Q (fun _ _ => False) 0 0 sz := by
  refine sx_body (plainFor_of_name (by decide +kernel)) rfl (Nat.le_of_ble_eq_true rfl) ?_
  intro p e s m below meth c C hZ hr hlk ht
  unfold sw_T_walk at h
  show sx_V sr_lay sr_cl D cI cJ ad (sx_A sr_lay ad sz) 10 p l e rm_T_walk s m _ below meth c (vx_MQ below (sx_T (sx_QV sr_lay sr_cl D cI cJ ad Q sz)) (sx_XC sr_lay sr_cl D cI cJ ad (fun _ _ => False) sz) _ s 0 0 (sx_A sr_lay ad sz)) 0 0 μ 0 [(0, .ref (ad t)), (1, .ref (ad 3)), (2, .int (sx_i a2)), (3, .int (sx_i a3))] []
  refine sx_aload_n C 0 dd_T_walk_0 rfl rfl ?_
  refine sx_iconst C dd_T_walk_1 rfl ?_
  refine sx_puti (K := 3) (ref := "StoneRings$Trace") (ty := .int) C t 3 rfl ht0 rfl (rfl : sr_cl[3]? = some ("StoneRings$Trace", tt_T, 5)) (by decide) in_T ty_T tyk_T nm_T wd_36 rfl rfl (by decide +kernel) rfl rfl dd_T_walk_2 ?_
  refine sx_iload_n C 2 dd_T_walk_5 rfl rfl ?_
  refine sx_abs C wl_T_28 wm_abs_s wd_7 wm_abs_c (by decide) (Nat.le_of_ble_eq_true rfl) (by decide) (by decide) dd_T_walk_6 h (fun h => ?_)
  refine sx_iload_n C 3 dd_T_walk_9 rfl rfl ?_
  refine sx_abs C wl_T_28 wm_abs_s wd_7 wm_abs_c (by decide) (Nat.le_of_ble_eq_true rfl) (by decide) (by decide) dd_T_walk_10 h (fun h => ?_)
  refine sx_max C wl_T_34 wm_max_s wd_7 wm_max_c (by decide) (Nat.le_of_ble_eq_true rfl) (by decide) (by decide) dd_T_walk_13 h (fun h => ?_)
  refine sx_istore (lu := [(4, .int (sx_i (if (if 0 ≤ a2 then a2 else -a2) < (if 0 ≤ a3 then a3 else -a3) then (if 0 ≤ a3 then a3 else -a3) else (if 0 ≤ a2 then a2 else -a2)))), (0, .ref (ad t)), (1, .ref (ad 3)), (2, .int (sx_i a2)), (3, .int (sx_i a3))]) C dd_T_walk_16 (by decide) rfl ?_
  refine sx_aload_n C 2 dd_T_walk_18 rfl rfl ?_
  refine sx_geti (K := 3) (ref := "StoneRings$Picture") C 3 3 rfl rfl rfl (rfl : sr_cl[1]? = some ("StoneRings$Picture", tt_P, 6)) (by decide) in_P wd_114 rfl dd_T_walk_19 ?_
  refine sx_iconst C dd_T_walk_22 rfl ?_
  refine sx_icmp_lt (tgt := 32) C dd_T_walk_23 (by decide) h (fun h => ?_) (fun h => ?_)
  · refine sx_less (lu := []) C [] rfl ?_
    exact sm_T_walk_32 C hZ hr hlk ht hlf ht0 ht1 ht2 ht3 h
  · refine sx_iload C 0 dd_T_walk_26 rfl ?_
    refine sx_iconst C dd_T_walk_28 rfl ?_
    refine sx_icmp_ge (tgt := 33) C dd_T_walk_29 (by decide) h (fun h => ?_) (fun h => ?_)
    · refine sx_aload_n C 2 dd_T_walk_33 rfl rfl ?_
      refine sx_invI (c0 := 3) C hZ [] (fun sz2 => sm_P_centreX hlf h sz2) (sx_cwV (n := 0) C.2.2.2.2.1 wd_308 wd_363 wd_306 wd_307 wd_6 rfl rfl (by decide +kernel) ⟨by decide, by decide⟩) rfl (rfl : sr_cl[1]? = some ("StoneRings$Picture", tt_P, 6)) rfl rfl (Nat.le_of_ble_eq_true rfl) dd_T_walk_34 ⟨(Nat.le_of_ble_eq_true rfl), (Nat.le_of_ble_eq_true rfl)⟩ sx_noX (fun v1 μ1 h => ?_)
      refine sx_istore (lu := [(5, .int (sx_i v1)), (4, .int (sx_i (if (if 0 ≤ a2 then a2 else -a2) < (if 0 ≤ a3 then a3 else -a3) then (if 0 ≤ a3 then a3 else -a3) else (if 0 ≤ a2 then a2 else -a2)))), (0, .ref (ad t)), (1, .ref (ad 3)), (2, .int (sx_i a2)), (3, .int (sx_i a3))]) C dd_T_walk_37 (by decide) rfl ?_
      refine sx_aload_n C 3 dd_T_walk_39 rfl rfl ?_
      refine sx_invI (c0 := 3) C hZ [] (fun sz2 => sm_P_centreY hlf h sz2) (sx_cwV (n := 0) C.2.2.2.2.1 wd_318 wd_364 wd_316 wd_317 wd_6 rfl rfl (by decide +kernel) ⟨by decide, by decide⟩) rfl (rfl : sr_cl[1]? = some ("StoneRings$Picture", tt_P, 6)) rfl rfl (Nat.le_of_ble_eq_true rfl) dd_T_walk_40 ⟨(Nat.le_of_ble_eq_true rfl), (Nat.le_of_ble_eq_true rfl)⟩ sx_noX (fun v2 μ2 h => ?_)
      refine sx_istore (lu := [(6, .int (sx_i v2)), (5, .int (sx_i v1)), (4, .int (sx_i (if (if 0 ≤ a2 then a2 else -a2) < (if 0 ≤ a3 then a3 else -a3) then (if 0 ≤ a3 then a3 else -a3) else (if 0 ≤ a2 then a2 else -a2)))), (0, .ref (ad t)), (1, .ref (ad 3)), (2, .int (sx_i a2)), (3, .int (sx_i a3))]) C dd_T_walk_43 (by decide) rfl ?_
      refine sx_iconst C dd_T_walk_45 rfl ?_
      refine sx_istore (lu := [(7, .int (sx_i 0)), (6, .int (sx_i v2)), (5, .int (sx_i v1)), (4, .int (sx_i (if (if 0 ≤ a2 then a2 else -a2) < (if 0 ≤ a3 then a3 else -a3) then (if 0 ≤ a3 then a3 else -a3) else (if 0 ≤ a2 then a2 else -a2)))), (0, .ref (ad t)), (1, .ref (ad 3)), (2, .int (sx_i a2)), (3, .int (sx_i a3))]) C dd_T_walk_46 (by decide) rfl ?_
      refine sx_less (lu := [(0, .ref (ad t)), (1, .ref (ad 3)), (2, .int (sx_i a2)), (3, .int (sx_i a3)), (4, .int (sx_i (if (if 0 ≤ a2 then a2 else -a2) < (if 0 ≤ a3 then a3 else -a3) then (if 0 ≤ a3 then a3 else -a3) else (if 0 ≤ a2 then a2 else -a2)))), (5, .int (sx_i v1)), (6, .int (sx_i v2)), (7, .int (sx_i 0))]) C [4, 5, 6, 7, 3, 2, 1, 0] rfl ?_
      exact sm_T_walk_48 C hZ hr hlk ht hlf ht0 ht1 ht2 ht3 600 _ _ _ _ _ _ _ h
    · refine sx_less (lu := []) C [] rfl ?_
      exact sm_T_walk_32 C hZ hr hlk ht hlf ht0 ht1 ht2 ht3 h
def rm_T_evenOut : Room := { frames := 2, cells := 0, slots := 0, locals := 43 }
set_option maxHeartbeats 4000000 in
set_option maxRecDepth 100000 in
theorem sm_T_evenOut_59 (C : sx_C sr_lay sr_cl D cI cJ ad (sx_A sr_lay ad sz) 4 "StoneRings$Trace" prog_5_method_3_code sr_ts p s m args c) (hZ : sx_Z (sx_A sr_lay ad sz) s s.heap) (hr : meth.sig.returnType = none) (hlk : meth.locks = false) (ht : ∀ x ∈ c.exceptionTable.toList, False) (hlf : l.stackTraces = false) {t : Nat} (ht0 : sr_lay[t]? = some (.inl (3, [some (t + 1), some (t + 2), some (t + 3), none, none]))) (ht1 : sr_lay[t + 1]? = some (.inr (.inl 16))) (ht2 : sr_lay[t + 2]? = some (.inr (.inl 16))) (ht3 : sr_lay[t + 3]? = some (.inr (.inl 8))) {r2 : Int → sx_M → Prop} (hr2 : ∀ (x1 : Int) (μ : sx_M), r2 x1 μ → sx_V sr_lay sr_cl D cI cJ ad (sx_A sr_lay ad sz) 4 p l e rm_T_evenOut s m args below meth c (vx_MQ below (sx_T (sx_QV sr_lay sr_cl D cI cJ ad Q sz)) (sx_XC sr_lay sr_cl D cI cJ ad (fun _ _ => False) sz) args s 0 0 (sx_A sr_lay ad sz)) 0 0 μ 2 [(0, .ref (ad t)), (1, .int (sx_i x1))] []) {x1 x2 y0 : Int} {μ : sx_M} (h : sw_T_evenOut_59 Q t r2 x1 x2 y0 μ) : sx_V sr_lay sr_cl D cI cJ ad (sx_A sr_lay ad sz) 4 p l e rm_T_evenOut s m args below meth c (vx_MQ below (sx_T (sx_QV sr_lay sr_cl D cI cJ ad Q sz)) (sx_XC sr_lay sr_cl D cI cJ ad (fun _ _ => False) sz) args s 0 0 (sx_A sr_lay ad sz)) 0 0 μ 59 [(0, .ref (ad t)), (1, .int (sx_i x1)), (2, .int (sx_i x2))] [.int (sx_i y0)] := by
  unfold sw_T_evenOut_59 at h
  refine sx_istore_n (lu := [(3, .int (sx_i y0)), (0, .ref (ad t)), (1, .int (sx_i x1)), (2, .int (sx_i x2))]) C dd_T_evenOut_59 rfl (by decide) rfl ?_
  refine sx_aload_n C 1 dd_T_evenOut_60 rfl rfl ?_
  refine sx_getr (ref := "StoneRings$Trace") C t 1 ht0 rfl (rfl : sr_cl[3]? = some ("StoneRings$Trace", tt_T, 5)) (by decide) in_T wd_31 rfl dd_T_evenOut_61 ?_
  refine sx_iload_n C 2 dd_T_evenOut_64 rfl rfl ?_
  refine sx_iload_n C 3 dd_T_evenOut_65 rfl rfl ?_
  refine sx_iconst C dd_T_evenOut_66 rfl ?_
  refine sx_aload_n C 1 dd_T_evenOut_67 rfl rfl ?_
  refine sx_getr (ref := "StoneRings$Trace") C t 0 ht0 rfl (rfl : sr_cl[3]? = some ("StoneRings$Trace", tt_T, 5)) (by decide) in_T wd_29 rfl dd_T_evenOut_68 ?_
  refine sx_iload_n C 2 dd_T_evenOut_71 rfl rfl ?_
  refine sx_iald (N := 16) C (t + 1) ht1 rfl (by decide) dd_T_evenOut_72 h (fun h => ?_)
  refine sx_imul C dd_T_evenOut_73 ?_
  refine sx_iadd C dd_T_evenOut_74 ?_
  refine sx_iload_n C 0 dd_T_evenOut_75 rfl rfl ?_
  refine sx_iadd C dd_T_evenOut_76 ?_
  refine sx_iconst C dd_T_evenOut_77 rfl ?_
  refine sx_iadd C dd_T_evenOut_78 ?_
  refine sx_iconst C dd_T_evenOut_79 rfl ?_
  refine sx_nstI C hZ [.int (sx_i (((x2 + (2 * (μ (t + 1) x1))) + y0) + 2)), .int (sx_i 4)] (fun sz2 => sm_S_floorOf hlf h sz2) (sx_cwN (n := 2) C.2.2.2.2.1 hZ wd_311 (List.mem_of_getElem? (i := 12) rfl) wd_310 wd_1 rfl rfl (by decide +kernel) ⟨by decide, by decide⟩) rfl rfl (Nat.le_of_ble_eq_true rfl) dd_T_evenOut_80 ⟨(Nat.le_of_ble_eq_true rfl), (Nat.le_of_ble_eq_true rfl)⟩ (fun v1 μ1 h => ?_)
  refine sx_iast (N := 16) C (t + 2) ht2 rfl (by decide) dd_T_evenOut_83 h (fun h => ?_)
  refine sx_iinc (lu := [(1, .int (sx_i (x1 + 1))), (3, .int (sx_i y0)), (0, .ref (ad t)), (2, .int (sx_i x2))]) C 2 dd_T_evenOut_84 rfl (by decide) rfl ?_
  refine sx_goto (tgt := 2) C dd_T_evenOut_87 (by decide) ?_
  refine sx_less (lu := [(0, .ref (ad t)), (1, .int (sx_i (x1 + 1)))]) C [2, 0] rfl ?_
  exact hr2 _ _ h
set_option maxHeartbeats 4000000 in
set_option maxRecDepth 100000 in
theorem sm_T_evenOut_31 (C : sx_C sr_lay sr_cl D cI cJ ad (sx_A sr_lay ad sz) 4 "StoneRings$Trace" prog_5_method_3_code sr_ts p s m args c) (hZ : sx_Z (sx_A sr_lay ad sz) s s.heap) (hr : meth.sig.returnType = none) (hlk : meth.locks = false) (ht : ∀ x ∈ c.exceptionTable.toList, False) (hlf : l.stackTraces = false) {t : Nat} (ht0 : sr_lay[t]? = some (.inl (3, [some (t + 1), some (t + 2), some (t + 3), none, none]))) (ht1 : sr_lay[t + 1]? = some (.inr (.inl 16))) (ht2 : sr_lay[t + 2]? = some (.inr (.inl 16))) (ht3 : sr_lay[t + 3]? = some (.inr (.inl 8))) {r2 : Int → sx_M → Prop} (hr2 : ∀ (x1 : Int) (μ : sx_M), r2 x1 μ → sx_V sr_lay sr_cl D cI cJ ad (sx_A sr_lay ad sz) 4 p l e rm_T_evenOut s m args below meth c (vx_MQ below (sx_T (sx_QV sr_lay sr_cl D cI cJ ad Q sz)) (sx_XC sr_lay sr_cl D cI cJ ad (fun _ _ => False) sz) args s 0 0 (sx_A sr_lay ad sz)) 0 0 μ 2 [(0, .ref (ad t)), (1, .int (sx_i x1))] []) {x1 y0 : Int} {μ : sx_M} (h : sw_T_evenOut_31 Q t r2 x1 y0 μ) : sx_V sr_lay sr_cl D cI cJ ad (sx_A sr_lay ad sz) 4 p l e rm_T_evenOut s m args below meth c (vx_MQ below (sx_T (sx_QV sr_lay sr_cl D cI cJ ad Q sz)) (sx_XC sr_lay sr_cl D cI cJ ad (fun _ _ => False) sz) args s 0 0 (sx_A sr_lay ad sz)) 0 0 μ 31 [(0, .ref (ad t)), (1, .int (sx_i x1))] [.int (sx_i y0)] := by
  unfold sw_T_evenOut_31 at h
  refine sx_istore_n (lu := [(2, .int (sx_i y0)), (0, .ref (ad t)), (1, .int (sx_i x1))]) C dd_T_evenOut_31 rfl (by decide) rfl ?_
  refine sx_iload_n C 2 dd_T_evenOut_32 rfl rfl ?_
  refine sx_aload_n C 1 dd_T_evenOut_33 rfl rfl ?_
  refine sx_geti (K := 3) (ref := "StoneRings$Trace") C t 3 rfl ht0 rfl (rfl : sr_cl[3]? = some ("StoneRings$Trace", tt_T, 5)) (by decide) in_T wd_36 rfl dd_T_evenOut_34 ?_
  refine sx_iconst C dd_T_evenOut_37 rfl ?_
  refine sx_isub C dd_T_evenOut_38 ?_
  refine sx_icmp_ge (tgt := 53) C dd_T_evenOut_39 (by decide) h (fun h => ?_) (fun h => ?_)
  · refine sx_aload_n C 1 dd_T_evenOut_53 rfl rfl ?_
    refine sx_getr (ref := "StoneRings$Trace") C t 0 ht0 rfl (rfl : sr_cl[3]? = some ("StoneRings$Trace", tt_T, 5)) (by decide) in_T wd_29 rfl dd_T_evenOut_54 ?_
    refine sx_iload_n C 2 dd_T_evenOut_57 rfl rfl ?_
    refine sx_iald (N := 16) C (t + 1) ht1 rfl (by decide) dd_T_evenOut_58 h (fun h => ?_)
    refine sx_less (lu := [(0, .ref (ad t)), (1, .int (sx_i x1)), (2, .int (sx_i y0))]) C [1, 2, 0] rfl ?_
    exact sm_T_evenOut_59 C hZ hr hlk ht hlf ht0 ht1 ht2 ht3 hr2 h
  · refine sx_aload_n C 1 dd_T_evenOut_42 rfl rfl ?_
    refine sx_getr (ref := "StoneRings$Trace") C t 0 ht0 rfl (rfl : sr_cl[3]? = some ("StoneRings$Trace", tt_T, 5)) (by decide) in_T wd_29 rfl dd_T_evenOut_43 ?_
    refine sx_iload_n C 2 dd_T_evenOut_46 rfl rfl ?_
    refine sx_iconst C dd_T_evenOut_47 rfl ?_
    refine sx_iadd C dd_T_evenOut_48 ?_
    refine sx_iald (N := 16) C (t + 1) ht1 rfl (by decide) dd_T_evenOut_49 h (fun h => ?_)
    refine sx_goto (tgt := 59) C dd_T_evenOut_50 (by decide) ?_
    refine sx_less (lu := [(0, .ref (ad t)), (1, .int (sx_i x1)), (2, .int (sx_i y0))]) C [1, 2, 0] rfl ?_
    exact sm_T_evenOut_59 C hZ hr hlk ht hlf ht0 ht1 ht2 ht3 hr2 h
set_option maxHeartbeats 4000000 in
set_option maxRecDepth 100000 in
theorem sm_T_evenOut_2 (C : sx_C sr_lay sr_cl D cI cJ ad (sx_A sr_lay ad sz) 4 "StoneRings$Trace" prog_5_method_3_code sr_ts p s m args c) (hZ : sx_Z (sx_A sr_lay ad sz) s s.heap) (hr : meth.sig.returnType = none) (hlk : meth.locks = false) (ht : ∀ x ∈ c.exceptionTable.toList, False) (hlf : l.stackTraces = false) {t : Nat} (ht0 : sr_lay[t]? = some (.inl (3, [some (t + 1), some (t + 2), some (t + 3), none, none]))) (ht1 : sr_lay[t + 1]? = some (.inr (.inl 16))) (ht2 : sr_lay[t + 2]? = some (.inr (.inl 16))) (ht3 : sr_lay[t + 3]? = some (.inr (.inl 8))) : ∀ (n : Nat) (x1 : Int) (μ : sx_M), sw_T_evenOut_2 Q t n x1 μ → sx_V sr_lay sr_cl D cI cJ ad (sx_A sr_lay ad sz) 4 p l e rm_T_evenOut s m args below meth c (vx_MQ below (sx_T (sx_QV sr_lay sr_cl D cI cJ ad Q sz)) (sx_XC sr_lay sr_cl D cI cJ ad (fun _ _ => False) sz) args s 0 0 (sx_A sr_lay ad sz)) 0 0 μ 2 [(0, .ref (ad t)), (1, .int (sx_i x1))] [] := by
  intro n
  induction n with
  | zero =>
    intro x1 μ h
    exact h.elim
  | succ n ih =>
    intro x1 μ h
    have hr2 := ih
    unfold sw_T_evenOut_2 at h
    refine sx_iload_n C 1 dd_T_evenOut_2 rfl rfl ?_
    refine sx_aload_n C 0 dd_T_evenOut_3 rfl rfl ?_
    refine sx_geti (K := 3) (ref := "StoneRings$Trace") C t 3 rfl ht0 rfl (rfl : sr_cl[3]? = some ("StoneRings$Trace", tt_T, 5)) (by decide) in_T wd_36 rfl dd_T_evenOut_4 ?_
    refine sx_icmp_ge (tgt := 90) C dd_T_evenOut_7 (by decide) h (fun h => ?_) (fun h => ?_)
    · exact sx_vret C hr hlk dd_T_evenOut_90 h
    · refine sx_iload_n C 1 dd_T_evenOut_10 rfl rfl ?_
      refine sx_if_le (tgt := 25) C dd_T_evenOut_11 (by decide) h (fun h => ?_) (fun h => ?_)
      · refine sx_aload_n C 0 dd_T_evenOut_25 rfl rfl ?_
        refine sx_getr (ref := "StoneRings$Trace") C t 0 ht0 rfl (rfl : sr_cl[3]? = some ("StoneRings$Trace", tt_T, 5)) (by decide) in_T wd_29 rfl dd_T_evenOut_26 ?_
        refine sx_iload_n C 1 dd_T_evenOut_29 rfl rfl ?_
        refine sx_iald (N := 16) C (t + 1) ht1 rfl (by decide) dd_T_evenOut_30 h (fun h => ?_)
        exact sm_T_evenOut_31 C hZ hr hlk ht hlf ht0 ht1 ht2 ht3 hr2 h
      · refine sx_aload_n C 0 dd_T_evenOut_14 rfl rfl ?_
        refine sx_getr (ref := "StoneRings$Trace") C t 0 ht0 rfl (rfl : sr_cl[3]? = some ("StoneRings$Trace", tt_T, 5)) (by decide) in_T wd_29 rfl dd_T_evenOut_15 ?_
        refine sx_iload_n C 1 dd_T_evenOut_18 rfl rfl ?_
        refine sx_iconst C dd_T_evenOut_19 rfl ?_
        refine sx_isub C dd_T_evenOut_20 ?_
        refine sx_iald (N := 16) C (t + 1) ht1 rfl (by decide) dd_T_evenOut_21 h (fun h => ?_)
        refine sx_goto (tgt := 31) C dd_T_evenOut_22 (by decide) ?_
        exact sm_T_evenOut_31 C hZ hr hlk ht hlf ht0 ht1 ht2 ht3 hr2 h
set_option maxHeartbeats 4000000 in
set_option maxRecDepth 100000 in
theorem sm_T_evenOut {l : Launch} {D : va_G} {cI cJ : ClassId} {ad : Nat → Nat} {Q : Int → sx_M → Prop} (hlf : l.stackTraces = false) {t : Nat} (ht0 : sr_lay[t]? = some (.inl (3, [some (t + 1), some (t + 2), some (t + 3), none, none]))) (ht1 : sr_lay[t + 1]? = some (.inr (.inl 16))) (ht2 : sr_lay[t + 2]? = some (.inr (.inl 16))) (ht3 : sr_lay[t + 3]? = some (.inr (.inl 8))) {μ : sx_M} (h : sw_T_evenOut Q t μ ) (sz : Nat) : sx_MV l yy_T_evenOut (Cond.code yy_T_evenOut prog_5_method_3_code 4 none :: sr_ts) rm_T_evenOut sr_lay sr_cl D cI cJ ad [.ref (ad t)] μ Q (fun _ _ => False) 0 0 sz := by
  refine sx_body (plainFor_of_name (by decide +kernel)) rfl (Nat.le_of_ble_eq_true rfl) ?_
  intro p e s m below meth c C hZ hr hlk ht
  unfold sw_T_evenOut at h
  show sx_V sr_lay sr_cl D cI cJ ad (sx_A sr_lay ad sz) 4 p l e rm_T_evenOut s m _ below meth c (vx_MQ below (sx_T (sx_QV sr_lay sr_cl D cI cJ ad Q sz)) (sx_XC sr_lay sr_cl D cI cJ ad (fun _ _ => False) sz) _ s 0 0 (sx_A sr_lay ad sz)) 0 0 μ 0 [(0, .ref (ad t))] []
  refine sx_iconst C dd_T_evenOut_0 rfl ?_
  refine sx_istore_n (lu := [(1, .int (sx_i 0)), (0, .ref (ad t))]) C dd_T_evenOut_1 rfl (by decide) rfl ?_
  refine sx_less (lu := [(0, .ref (ad t)), (1, .int (sx_i 0))]) C [1, 0] rfl ?_
  exact sm_T_evenOut_2 C hZ hr hlk ht hlf ht0 ht1 ht2 ht3 600 _ _ h
def rm_T_findRings : Room := { frames := 1, cells := 0, slots := 0, locals := 21 }
set_option maxHeartbeats 4000000 in
set_option maxRecDepth 100000 in
theorem sm_T_findRings_168 (C : sx_C sr_lay sr_cl D cI cJ ad (sx_A sr_lay ad sz) 7 "StoneRings$Trace" prog_5_method_4_code sr_ts p s m args c) (hZ : sx_Z (sx_A sr_lay ad sz) s s.heap) (hr : meth.sig.returnType = none) (hlk : meth.locks = false) (ht : ∀ x ∈ c.exceptionTable.toList, False) (hlf : l.stackTraces = false) {t : Nat} (ht0 : sr_lay[t]? = some (.inl (3, [some (t + 1), some (t + 2), some (t + 3), none, none]))) (ht1 : sr_lay[t + 1]? = some (.inr (.inl 16))) (ht2 : sr_lay[t + 2]? = some (.inr (.inl 16))) (ht3 : sr_lay[t + 3]? = some (.inr (.inl 8))) {r29 : Int → Int → Int → Int → Int → sx_M → Prop} (hr29 : ∀ (x1 x2 x3 x4 x5 : Int) (μ : sx_M), r29 x1 x2 x3 x4 x5 μ → sx_V sr_lay sr_cl D cI cJ ad (sx_A sr_lay ad sz) 7 p l e rm_T_findRings s m args below meth c (vx_MQ below (sx_T (sx_QV sr_lay sr_cl D cI cJ ad Q sz)) (sx_XC sr_lay sr_cl D cI cJ ad (fun _ _ => False) sz) args s 0 0 (sx_A sr_lay ad sz)) 0 0 μ 29 [(0, .ref (ad t)), (1, .int (sx_i x1)), (2, .int (sx_i x2)), (3, .int (sx_i x3)), (4, .int (sx_i x4)), (5, .int (sx_i x5))] []) {x1 x2 x3 x4 x5 : Int} {μ : sx_M} (h : sw_T_findRings_168 Q t r29 x1 x2 x3 x4 x5 μ) : sx_V sr_lay sr_cl D cI cJ ad (sx_A sr_lay ad sz) 7 p l e rm_T_findRings s m args below meth c (vx_MQ below (sx_T (sx_QV sr_lay sr_cl D cI cJ ad Q sz)) (sx_XC sr_lay sr_cl D cI cJ ad (fun _ _ => False) sz) args s 0 0 (sx_A sr_lay ad sz)) 0 0 μ 168 [(0, .ref (ad t)), (1, .int (sx_i x1)), (2, .int (sx_i x2)), (3, .int (sx_i x3)), (4, .int (sx_i x4)), (5, .int (sx_i x5))] [] := by
  unfold sw_T_findRings_168 at h
  refine sx_iinc (lu := [(5, .int (sx_i (x5 + 1))), (0, .ref (ad t)), (1, .int (sx_i x1)), (2, .int (sx_i x2)), (3, .int (sx_i x3)), (4, .int (sx_i x4))]) C 5 dd_T_findRings_168 rfl (by decide) rfl ?_
  refine sx_goto (tgt := 29) C dd_T_findRings_171 (by decide) ?_
  refine sx_less (lu := [(0, .ref (ad t)), (1, .int (sx_i x1)), (2, .int (sx_i x2)), (3, .int (sx_i x3)), (4, .int (sx_i x4)), (5, .int (sx_i (x5 + 1)))]) C [1, 2, 3, 4, 5, 0] rfl ?_
  exact hr29 _ _ _ _ _ _ h
set_option maxHeartbeats 4000000 in
set_option maxRecDepth 100000 in
theorem sm_T_findRings_106 (C : sx_C sr_lay sr_cl D cI cJ ad (sx_A sr_lay ad sz) 7 "StoneRings$Trace" prog_5_method_4_code sr_ts p s m args c) (hZ : sx_Z (sx_A sr_lay ad sz) s s.heap) (hr : meth.sig.returnType = none) (hlk : meth.locks = false) (ht : ∀ x ∈ c.exceptionTable.toList, False) (hlf : l.stackTraces = false) {t : Nat} (ht0 : sr_lay[t]? = some (.inl (3, [some (t + 1), some (t + 2), some (t + 3), none, none]))) (ht1 : sr_lay[t + 1]? = some (.inr (.inl 16))) (ht2 : sr_lay[t + 2]? = some (.inr (.inl 16))) (ht3 : sr_lay[t + 3]? = some (.inr (.inl 8))) {r29 : Int → Int → Int → Int → Int → sx_M → Prop} (hr29 : ∀ (x1 x2 x3 x4 x5 : Int) (μ : sx_M), r29 x1 x2 x3 x4 x5 μ → sx_V sr_lay sr_cl D cI cJ ad (sx_A sr_lay ad sz) 7 p l e rm_T_findRings s m args below meth c (vx_MQ below (sx_T (sx_QV sr_lay sr_cl D cI cJ ad Q sz)) (sx_XC sr_lay sr_cl D cI cJ ad (fun _ _ => False) sz) args s 0 0 (sx_A sr_lay ad sz)) 0 0 μ 29 [(0, .ref (ad t)), (1, .int (sx_i x1)), (2, .int (sx_i x2)), (3, .int (sx_i x3)), (4, .int (sx_i x4)), (5, .int (sx_i x5))] []) {x1 x2 x3 x4 x5 y0 : Int} {μ : sx_M} (h : sw_T_findRings_106 Q t r29 x1 x2 x3 x4 x5 y0 μ) : sx_V sr_lay sr_cl D cI cJ ad (sx_A sr_lay ad sz) 7 p l e rm_T_findRings s m args below meth c (vx_MQ below (sx_T (sx_QV sr_lay sr_cl D cI cJ ad Q sz)) (sx_XC sr_lay sr_cl D cI cJ ad (fun _ _ => False) sz) args s 0 0 (sx_A sr_lay ad sz)) 0 0 μ 106 [(0, .ref (ad t)), (1, .int (sx_i x1)), (2, .int (sx_i x2)), (3, .int (sx_i x3)), (4, .int (sx_i x4)), (5, .int (sx_i x5))] [.int (sx_i y0)] := by
  unfold sw_T_findRings_106 at h
  refine sx_istore (lu := [(6, .int (sx_i y0)), (0, .ref (ad t)), (1, .int (sx_i x1)), (2, .int (sx_i x2)), (3, .int (sx_i x3)), (4, .int (sx_i x4)), (5, .int (sx_i x5))]) C dd_T_findRings_106 (by decide) rfl ?_
  refine sx_iload C 0 dd_T_findRings_108 rfl ?_
  refine sx_if_eq (tgt := 168) C dd_T_findRings_110 (by decide) h (fun h => ?_) (fun h => ?_)
  · refine sx_less (lu := [(0, .ref (ad t)), (1, .int (sx_i x1)), (2, .int (sx_i x2)), (3, .int (sx_i x3)), (4, .int (sx_i x4)), (5, .int (sx_i x5))]) C [1, 2, 3, 4, 5, 6] rfl ?_
    exact sm_T_findRings_168 C hZ hr hlk ht hlf ht0 ht1 ht2 ht3 hr29 h
  · refine sx_iload C 6 dd_T_findRings_113 rfl ?_
    refine sx_iload_n C 4 dd_T_findRings_115 rfl rfl ?_
    refine sx_isub C dd_T_findRings_116 ?_
    refine sx_iload_n C 2 dd_T_findRings_117 rfl rfl ?_
    refine sx_icmp_lt (tgt := 168) C dd_T_findRings_118 (by decide) h (fun h => ?_) (fun h => ?_)
    · refine sx_less (lu := [(0, .ref (ad t)), (1, .int (sx_i x1)), (2, .int (sx_i x2)), (3, .int (sx_i x3)), (4, .int (sx_i x4)), (5, .int (sx_i x5))]) C [1, 2, 3, 4, 5, 6] rfl ?_
      exact sm_T_findRings_168 C hZ hr hlk ht hlf ht0 ht1 ht2 ht3 hr29 h
    · refine sx_aload_n C 1 dd_T_findRings_121 rfl rfl ?_
      refine sx_getr (ref := "StoneRings$Trace") C t 1 ht0 rfl (rfl : sr_cl[3]? = some ("StoneRings$Trace", tt_T, 5)) (by decide) in_T wd_31 rfl dd_T_findRings_122 ?_
      refine sx_iload C 6 dd_T_findRings_125 rfl ?_
      refine sx_iald (N := 16) C (t + 2) ht2 rfl (by decide) dd_T_findRings_127 h (fun h => ?_)
      refine sx_iload C 5 dd_T_findRings_128 rfl ?_
      refine sx_isub C dd_T_findRings_130 ?_
      refine sx_iload_n C 3 dd_T_findRings_131 rfl rfl ?_
      refine sx_icmp_lt (tgt := 168) C dd_T_findRings_132 (by decide) h (fun h => ?_) (fun h => ?_)
      · refine sx_less (lu := [(0, .ref (ad t)), (1, .int (sx_i x1)), (2, .int (sx_i x2)), (3, .int (sx_i x3)), (4, .int (sx_i x4)), (5, .int (sx_i x5))]) C [1, 2, 3, 4, 5, 6] rfl ?_
        exact sm_T_findRings_168 C hZ hr hlk ht hlf ht0 ht1 ht2 ht3 hr29 h
      · refine sx_aload_n C 1 dd_T_findRings_135 rfl rfl ?_
        refine sx_getr (ref := "StoneRings$Trace") C t 2 ht0 rfl (rfl : sr_cl[3]? = some ("StoneRings$Trace", tt_T, 5)) (by decide) in_T wd_33 rfl dd_T_findRings_136 ?_
        refine sx_aload_n C 1 dd_T_findRings_139 rfl rfl ?_
        refine sx_geti (K := 4) (ref := "StoneRings$Trace") C t 4 rfl ht0 rfl (rfl : sr_cl[3]? = some ("StoneRings$Trace", tt_T, 5)) (by decide) in_T wd_38 rfl dd_T_findRings_140 ?_
        refine sx_iload C 6 dd_T_findRings_143 rfl ?_
        refine sx_iast (N := 8) C (t + 3) ht3 rfl (by decide) dd_T_findRings_145 h (fun h => ?_)
        refine sx_aload_n C 1 dd_T_findRings_146 rfl rfl ?_
        refine sx_dup C dd_T_findRings_147 rfl ?_
        refine sx_geti (K := 4) (ref := "StoneRings$Trace") C t 4 rfl ht0 rfl (rfl : sr_cl[3]? = some ("StoneRings$Trace", tt_T, 5)) (by decide) in_T wd_38 rfl dd_T_findRings_148 ?_
        refine sx_iconst C dd_T_findRings_151 rfl ?_
        refine sx_iadd C dd_T_findRings_152 ?_
        refine sx_puti (K := 4) (ref := "StoneRings$Trace") (ty := .int) C t 4 rfl ht0 rfl (rfl : sr_cl[3]? = some ("StoneRings$Trace", tt_T, 5)) (by decide) in_T ty_T tyk_T nm_T wd_38 rfl rfl (by decide +kernel) rfl rfl dd_T_findRings_153 ?_
        refine sx_iload C 6 dd_T_findRings_156 rfl ?_
        refine sx_istore_n (lu := [(3, .int (sx_i x5)), (6, .int (sx_i y0)), (0, .ref (ad t)), (1, .int (sx_i x1)), (2, .int (sx_i x2)), (4, .int (sx_i x4)), (5, .int (sx_i x5))]) C dd_T_findRings_158 rfl (by decide) rfl ?_
        refine sx_aload_n C 2 dd_T_findRings_159 rfl rfl ?_
        refine sx_getr (ref := "StoneRings$Trace") C t 1 ht0 rfl (rfl : sr_cl[3]? = some ("StoneRings$Trace", tt_T, 5)) (by decide) in_T wd_31 rfl dd_T_findRings_160 ?_
        refine sx_iload C 6 dd_T_findRings_163 rfl ?_
        refine sx_iald (N := 16) C (t + 2) ht2 rfl (by decide) dd_T_findRings_165 h (fun h => ?_)
        refine sx_istore (lu := [(4, .int (sx_i ((sx_up (sx_up μ (t + 3) (μ t 4) x5) t 4 (((sx_up μ (t + 3) (μ t 4) x5) t 4) + 1)) (t + 2) x5))), (3, .int (sx_i x5)), (6, .int (sx_i y0)), (0, .ref (ad t)), (1, .int (sx_i x1)), (2, .int (sx_i x2)), (5, .int (sx_i x5))]) C dd_T_findRings_166 (by decide) rfl ?_
        refine sx_less (lu := [(0, .ref (ad t)), (1, .int (sx_i x1)), (2, .int (sx_i x2)), (3, .int (sx_i x5)), (4, .int (sx_i ((sx_up (sx_up μ (t + 3) (μ t 4) x5) t 4 (((sx_up μ (t + 3) (μ t 4) x5) t 4) + 1)) (t + 2) x5))), (5, .int (sx_i x5))]) C [3, 4, 5, 1, 0, 6] rfl ?_
        exact sm_T_findRings_168 C hZ hr hlk ht hlf ht0 ht1 ht2 ht3 hr29 h
set_option maxHeartbeats 4000000 in
set_option maxRecDepth 100000 in
theorem sm_T_findRings_105 (C : sx_C sr_lay sr_cl D cI cJ ad (sx_A sr_lay ad sz) 7 "StoneRings$Trace" prog_5_method_4_code sr_ts p s m args c) (hZ : sx_Z (sx_A sr_lay ad sz) s s.heap) (hr : meth.sig.returnType = none) (hlk : meth.locks = false) (ht : ∀ x ∈ c.exceptionTable.toList, False) (hlf : l.stackTraces = false) {t : Nat} (ht0 : sr_lay[t]? = some (.inl (3, [some (t + 1), some (t + 2), some (t + 3), none, none]))) (ht1 : sr_lay[t + 1]? = some (.inr (.inl 16))) (ht2 : sr_lay[t + 2]? = some (.inr (.inl 16))) (ht3 : sr_lay[t + 3]? = some (.inr (.inl 8))) {r29 : Int → Int → Int → Int → Int → sx_M → Prop} (hr29 : ∀ (x1 x2 x3 x4 x5 : Int) (μ : sx_M), r29 x1 x2 x3 x4 x5 μ → sx_V sr_lay sr_cl D cI cJ ad (sx_A sr_lay ad sz) 7 p l e rm_T_findRings s m args below meth c (vx_MQ below (sx_T (sx_QV sr_lay sr_cl D cI cJ ad Q sz)) (sx_XC sr_lay sr_cl D cI cJ ad (fun _ _ => False) sz) args s 0 0 (sx_A sr_lay ad sz)) 0 0 μ 29 [(0, .ref (ad t)), (1, .int (sx_i x1)), (2, .int (sx_i x2)), (3, .int (sx_i x3)), (4, .int (sx_i x4)), (5, .int (sx_i x5))] []) {x1 x2 x3 x4 x5 : Int} {μ : sx_M} (h : sw_T_findRings_105 Q t r29 x1 x2 x3 x4 x5 μ) : sx_V sr_lay sr_cl D cI cJ ad (sx_A sr_lay ad sz) 7 p l e rm_T_findRings s m args below meth c (vx_MQ below (sx_T (sx_QV sr_lay sr_cl D cI cJ ad Q sz)) (sx_XC sr_lay sr_cl D cI cJ ad (fun _ _ => False) sz) args s 0 0 (sx_A sr_lay ad sz)) 0 0 μ 105 [(0, .ref (ad t)), (1, .int (sx_i x1)), (2, .int (sx_i x2)), (3, .int (sx_i x3)), (4, .int (sx_i x4)), (5, .int (sx_i x5))] [] := by
  unfold sw_T_findRings_105 at h
  refine sx_iconst C dd_T_findRings_105 rfl ?_
  exact sm_T_findRings_106 C hZ hr hlk ht hlf ht0 ht1 ht2 ht3 hr29 h
set_option maxHeartbeats 4000000 in
set_option maxRecDepth 100000 in
theorem sm_T_findRings_174 (C : sx_C sr_lay sr_cl D cI cJ ad (sx_A sr_lay ad sz) 7 "StoneRings$Trace" prog_5_method_4_code sr_ts p s m args c) (hZ : sx_Z (sx_A sr_lay ad sz) s s.heap) (hr : meth.sig.returnType = none) (hlk : meth.locks = false) (ht : ∀ x ∈ c.exceptionTable.toList, False) (hlf : l.stackTraces = false) {t : Nat} (ht0 : sr_lay[t]? = some (.inl (3, [some (t + 1), some (t + 2), some (t + 3), none, none]))) (ht1 : sr_lay[t + 1]? = some (.inr (.inl 16))) (ht2 : sr_lay[t + 2]? = some (.inr (.inl 16))) (ht3 : sr_lay[t + 3]? = some (.inr (.inl 8))) {μ : sx_M} (h : sw_T_findRings_174 Q t μ) : sx_V sr_lay sr_cl D cI cJ ad (sx_A sr_lay ad sz) 7 p l e rm_T_findRings s m args below meth c (vx_MQ below (sx_T (sx_QV sr_lay sr_cl D cI cJ ad Q sz)) (sx_XC sr_lay sr_cl D cI cJ ad (fun _ _ => False) sz) args s 0 0 (sx_A sr_lay ad sz)) 0 0 μ 174 [] [] := by
  unfold sw_T_findRings_174 at h
  exact sx_vret C hr hlk dd_T_findRings_174 h
set_option maxHeartbeats 4000000 in
set_option maxRecDepth 100000 in
theorem sm_T_findRings_29 (C : sx_C sr_lay sr_cl D cI cJ ad (sx_A sr_lay ad sz) 7 "StoneRings$Trace" prog_5_method_4_code sr_ts p s m args c) (hZ : sx_Z (sx_A sr_lay ad sz) s s.heap) (hr : meth.sig.returnType = none) (hlk : meth.locks = false) (ht : ∀ x ∈ c.exceptionTable.toList, False) (hlf : l.stackTraces = false) {t : Nat} (ht0 : sr_lay[t]? = some (.inl (3, [some (t + 1), some (t + 2), some (t + 3), none, none]))) (ht1 : sr_lay[t + 1]? = some (.inr (.inl 16))) (ht2 : sr_lay[t + 2]? = some (.inr (.inl 16))) (ht3 : sr_lay[t + 3]? = some (.inr (.inl 8))) : ∀ (n : Nat) (x1 x2 x3 x4 x5 : Int) (μ : sx_M), sw_T_findRings_29 Q t n x1 x2 x3 x4 x5 μ → sx_V sr_lay sr_cl D cI cJ ad (sx_A sr_lay ad sz) 7 p l e rm_T_findRings s m args below meth c (vx_MQ below (sx_T (sx_QV sr_lay sr_cl D cI cJ ad Q sz)) (sx_XC sr_lay sr_cl D cI cJ ad (fun _ _ => False) sz) args s 0 0 (sx_A sr_lay ad sz)) 0 0 μ 29 [(0, .ref (ad t)), (1, .int (sx_i x1)), (2, .int (sx_i x2)), (3, .int (sx_i x3)), (4, .int (sx_i x4)), (5, .int (sx_i x5))] [] := by
  intro n
  induction n with
  | zero =>
    intro x1 x2 x3 x4 x5 μ h
    exact h.elim
  | succ n ih =>
    intro x1 x2 x3 x4 x5 μ h
    have hr29 := ih
    unfold sw_T_findRings_29 at h
    refine sx_iload C 5 dd_T_findRings_29 rfl ?_
    refine sx_aload_n C 0 dd_T_findRings_31 rfl rfl ?_
    refine sx_geti (K := 3) (ref := "StoneRings$Trace") C t 3 rfl ht0 rfl (rfl : sr_cl[3]? = some ("StoneRings$Trace", tt_T, 5)) (by decide) in_T wd_36 rfl dd_T_findRings_32 ?_
    refine sx_iconst C dd_T_findRings_35 rfl ?_
    refine sx_isub C dd_T_findRings_36 ?_
    refine sx_icmp_ge (tgt := 174) C dd_T_findRings_37 (by decide) h (fun h => ?_) (fun h => ?_)
    · refine sx_less (lu := []) C [] rfl ?_
      exact sm_T_findRings_174 C hZ hr hlk ht hlf ht0 ht1 ht2 ht3 h
    · refine sx_aload_n C 0 dd_T_findRings_40 rfl rfl ?_
      refine sx_geti (K := 4) (ref := "StoneRings$Trace") C t 4 rfl ht0 rfl (rfl : sr_cl[3]? = some ("StoneRings$Trace", tt_T, 5)) (by decide) in_T wd_38 rfl dd_T_findRings_41 ?_
      refine sx_bipush (v := 8) C dd_T_findRings_44 (by decide +kernel) ?_
      refine sx_icmp_ge (tgt := 174) C dd_T_findRings_46 (by decide) h (fun h => ?_) (fun h => ?_)
      · refine sx_less (lu := []) C [] rfl ?_
        exact sm_T_findRings_174 C hZ hr hlk ht hlf ht0 ht1 ht2 ht3 h
      · refine sx_iload C 4 dd_T_findRings_49 rfl ?_
        refine sx_aload_n C 0 dd_T_findRings_51 rfl rfl ?_
        refine sx_getr (ref := "StoneRings$Trace") C t 1 ht0 rfl (rfl : sr_cl[3]? = some ("StoneRings$Trace", tt_T, 5)) (by decide) in_T wd_31 rfl dd_T_findRings_52 ?_
        refine sx_iload C 5 dd_T_findRings_55 rfl ?_
        refine sx_iald (N := 16) C (t + 2) ht2 rfl (by decide) dd_T_findRings_57 h (fun h => ?_)
        refine sx_min C wl_T_60 wm_min_s wd_7 wm_min_c (by decide) (Nat.le_of_ble_eq_true rfl) (by decide) (by decide) dd_T_findRings_58 h (fun h => ?_)
        refine sx_istore (lu := [(4, .int (sx_i (if (μ (t + 2) x5) < x4 then (μ (t + 2) x5) else x4))), (0, .ref (ad t)), (1, .int (sx_i x1)), (2, .int (sx_i x2)), (3, .int (sx_i x3)), (5, .int (sx_i x5))]) C dd_T_findRings_61 (by decide) rfl ?_
        refine sx_aload_n C 1 dd_T_findRings_63 rfl rfl ?_
        refine sx_getr (ref := "StoneRings$Trace") C t 1 ht0 rfl (rfl : sr_cl[3]? = some ("StoneRings$Trace", tt_T, 5)) (by decide) in_T wd_31 rfl dd_T_findRings_64 ?_
        refine sx_iload C 5 dd_T_findRings_67 rfl ?_
        refine sx_iald (N := 16) C (t + 2) ht2 rfl (by decide) dd_T_findRings_69 h (fun h => ?_)
        refine sx_aload_n C 1 dd_T_findRings_70 rfl rfl ?_
        refine sx_getr (ref := "StoneRings$Trace") C t 1 ht0 rfl (rfl : sr_cl[3]? = some ("StoneRings$Trace", tt_T, 5)) (by decide) in_T wd_31 rfl dd_T_findRings_71 ?_
        refine sx_iload C 5 dd_T_findRings_74 rfl ?_
        refine sx_iconst C dd_T_findRings_76 rfl ?_
        refine sx_isub C dd_T_findRings_77 ?_
        refine sx_iald (N := 16) C (t + 2) ht2 rfl (by decide) dd_T_findRings_78 h (fun h => ?_)
        refine sx_icmp_le (tgt := 105) C dd_T_findRings_79 (by decide) h (fun h => ?_) (fun h => ?_)
        · refine sx_less (lu := [(0, .ref (ad t)), (1, .int (sx_i x1)), (2, .int (sx_i x2)), (3, .int (sx_i x3)), (4, .int (sx_i (if (μ (t + 2) x5) < x4 then (μ (t + 2) x5) else x4))), (5, .int (sx_i x5))]) C [1, 2, 3, 4, 0, 5] rfl ?_
          exact sm_T_findRings_105 C hZ hr hlk ht hlf ht0 ht1 ht2 ht3 hr29 h
        · refine sx_aload_n C 1 dd_T_findRings_82 rfl rfl ?_
          refine sx_getr (ref := "StoneRings$Trace") C t 1 ht0 rfl (rfl : sr_cl[3]? = some ("StoneRings$Trace", tt_T, 5)) (by decide) in_T wd_31 rfl dd_T_findRings_83 ?_
          refine sx_iload C 5 dd_T_findRings_86 rfl ?_
          refine sx_iald (N := 16) C (t + 2) ht2 rfl (by decide) dd_T_findRings_88 h (fun h => ?_)
          refine sx_aload_n C 1 dd_T_findRings_89 rfl rfl ?_
          refine sx_getr (ref := "StoneRings$Trace") C t 1 ht0 rfl (rfl : sr_cl[3]? = some ("StoneRings$Trace", tt_T, 5)) (by decide) in_T wd_31 rfl dd_T_findRings_90 ?_
          refine sx_iload C 5 dd_T_findRings_93 rfl ?_
          refine sx_iconst C dd_T_findRings_95 rfl ?_
          refine sx_iadd C dd_T_findRings_96 ?_
          refine sx_iald (N := 16) C (t + 2) ht2 rfl (by decide) dd_T_findRings_97 h (fun h => ?_)
          refine sx_icmp_lt (tgt := 105) C dd_T_findRings_98 (by decide) h (fun h => ?_) (fun h => ?_)
          · refine sx_less (lu := [(0, .ref (ad t)), (1, .int (sx_i x1)), (2, .int (sx_i x2)), (3, .int (sx_i x3)), (4, .int (sx_i (if (μ (t + 2) x5) < x4 then (μ (t + 2) x5) else x4))), (5, .int (sx_i x5))]) C [1, 2, 3, 4, 0, 5] rfl ?_
            exact sm_T_findRings_105 C hZ hr hlk ht hlf ht0 ht1 ht2 ht3 hr29 h
          · refine sx_iconst C dd_T_findRings_101 rfl ?_
            refine sx_goto (tgt := 106) C dd_T_findRings_102 (by decide) ?_
            refine sx_less (lu := [(0, .ref (ad t)), (1, .int (sx_i x1)), (2, .int (sx_i x2)), (3, .int (sx_i x3)), (4, .int (sx_i (if (μ (t + 2) x5) < x4 then (μ (t + 2) x5) else x4))), (5, .int (sx_i x5))]) C [1, 2, 3, 4, 0, 5] rfl ?_
            exact sm_T_findRings_106 C hZ hr hlk ht hlf ht0 ht1 ht2 ht3 hr29 h
set_option maxHeartbeats 4000000 in
set_option maxRecDepth 100000 in
theorem sm_T_findRings_24 (C : sx_C sr_lay sr_cl D cI cJ ad (sx_A sr_lay ad sz) 7 "StoneRings$Trace" prog_5_method_4_code sr_ts p s m args c) (hZ : sx_Z (sx_A sr_lay ad sz) s s.heap) (hr : meth.sig.returnType = none) (hlk : meth.locks = false) (ht : ∀ x ∈ c.exceptionTable.toList, False) (hlf : l.stackTraces = false) {t : Nat} (ht0 : sr_lay[t]? = some (.inl (3, [some (t + 1), some (t + 2), some (t + 3), none, none]))) (ht1 : sr_lay[t + 1]? = some (.inr (.inl 16))) (ht2 : sr_lay[t + 2]? = some (.inr (.inl 16))) (ht3 : sr_lay[t + 3]? = some (.inr (.inl 8))) {x1 x2 x3 y0 : Int} {μ : sx_M} (h : sw_T_findRings_24 Q t x1 x2 x3 y0 μ) : sx_V sr_lay sr_cl D cI cJ ad (sx_A sr_lay ad sz) 7 p l e rm_T_findRings s m args below meth c (vx_MQ below (sx_T (sx_QV sr_lay sr_cl D cI cJ ad Q sz)) (sx_XC sr_lay sr_cl D cI cJ ad (fun _ _ => False) sz) args s 0 0 (sx_A sr_lay ad sz)) 0 0 μ 24 [(0, .ref (ad t)), (1, .int (sx_i x1)), (2, .int (sx_i x2)), (3, .int (sx_i x3))] [.int (sx_i y0)] := by
  unfold sw_T_findRings_24 at h
  refine sx_istore (lu := [(4, .int (sx_i y0)), (0, .ref (ad t)), (1, .int (sx_i x1)), (2, .int (sx_i x2)), (3, .int (sx_i x3))]) C dd_T_findRings_24 (by decide) rfl ?_
  refine sx_iconst C dd_T_findRings_26 rfl ?_
  refine sx_istore (lu := [(5, .int (sx_i 1)), (4, .int (sx_i y0)), (0, .ref (ad t)), (1, .int (sx_i x1)), (2, .int (sx_i x2)), (3, .int (sx_i x3))]) C dd_T_findRings_27 (by decide) rfl ?_
  refine sx_less (lu := [(0, .ref (ad t)), (1, .int (sx_i x1)), (2, .int (sx_i x2)), (3, .int (sx_i x3)), (4, .int (sx_i y0)), (5, .int (sx_i 1))]) C [2, 3, 4, 5, 1, 0] rfl ?_
  exact sm_T_findRings_29 C hZ hr hlk ht hlf ht0 ht1 ht2 ht3 600 _ _ _ _ _ _ h
set_option maxHeartbeats 4000000 in
set_option maxRecDepth 100000 in
theorem sm_T_findRings {l : Launch} {D : va_G} {cI cJ : ClassId} {ad : Nat → Nat} {Q : Int → sx_M → Prop} (hlf : l.stackTraces = false) {t : Nat} (ht0 : sr_lay[t]? = some (.inl (3, [some (t + 1), some (t + 2), some (t + 3), none, none]))) (ht1 : sr_lay[t + 1]? = some (.inr (.inl 16))) (ht2 : sr_lay[t + 2]? = some (.inr (.inl 16))) (ht3 : sr_lay[t + 3]? = some (.inr (.inl 8))) {μ : sx_M} {a1 a2 : Int} (h : sw_T_findRings Q t μ a1 a2) (sz : Nat) : sx_MV l yy_T_findRings (Cond.code yy_T_findRings prog_5_method_4_code 7 none :: sr_ts) rm_T_findRings sr_lay sr_cl D cI cJ ad [.ref (ad t), .int (sx_i a1), .int (sx_i a2)] μ Q (fun _ _ => False) 0 0 sz := by
  refine sx_body (plainFor_of_name (by decide +kernel)) rfl (Nat.le_of_ble_eq_true rfl) ?_
  intro p e s m below meth c C hZ hr hlk ht
  unfold sw_T_findRings at h
  show sx_V sr_lay sr_cl D cI cJ ad (sx_A sr_lay ad sz) 7 p l e rm_T_findRings s m _ below meth c (vx_MQ below (sx_T (sx_QV sr_lay sr_cl D cI cJ ad Q sz)) (sx_XC sr_lay sr_cl D cI cJ ad (fun _ _ => False) sz) _ s 0 0 (sx_A sr_lay ad sz)) 0 0 μ 0 [(0, .ref (ad t)), (1, .int (sx_i a1)), (2, .int (sx_i a2))] []
  refine sx_aload_n C 0 dd_T_findRings_0 rfl rfl ?_
  refine sx_iconst C dd_T_findRings_1 rfl ?_
  refine sx_puti (K := 4) (ref := "StoneRings$Trace") (ty := .int) C t 4 rfl ht0 rfl (rfl : sr_cl[3]? = some ("StoneRings$Trace", tt_T, 5)) (by decide) in_T ty_T tyk_T nm_T wd_38 rfl rfl (by decide +kernel) rfl rfl dd_T_findRings_2 ?_
  refine sx_iconst C dd_T_findRings_5 rfl ?_
  refine sx_istore_n (lu := [(3, .int (sx_i 0)), (0, .ref (ad t)), (1, .int (sx_i a1)), (2, .int (sx_i a2))]) C dd_T_findRings_6 rfl (by decide) rfl ?_
  refine sx_aload_n C 1 dd_T_findRings_7 rfl rfl ?_
  refine sx_geti (K := 3) (ref := "StoneRings$Trace") C t 3 rfl ht0 rfl (rfl : sr_cl[3]? = some ("StoneRings$Trace", tt_T, 5)) (by decide) in_T wd_36 rfl dd_T_findRings_8 ?_
  refine sx_if_le (tgt := 23) C dd_T_findRings_11 (by decide) h (fun h => ?_) (fun h => ?_)
  · refine sx_iconst C dd_T_findRings_23 rfl ?_
    refine sx_less (lu := [(0, .ref (ad t)), (1, .int (sx_i a1)), (2, .int (sx_i a2)), (3, .int (sx_i 0))]) C [1, 2, 3, 0] rfl ?_
    exact sm_T_findRings_24 C hZ hr hlk ht hlf ht0 ht1 ht2 ht3 h
  · refine sx_aload_n C 1 dd_T_findRings_14 rfl rfl ?_
    refine sx_getr (ref := "StoneRings$Trace") C t 1 ht0 rfl (rfl : sr_cl[3]? = some ("StoneRings$Trace", tt_T, 5)) (by decide) in_T wd_31 rfl dd_T_findRings_15 ?_
    refine sx_iconst C dd_T_findRings_18 rfl ?_
    refine sx_iald (N := 16) C (t + 2) ht2 rfl (by decide) dd_T_findRings_19 h (fun h => ?_)
    refine sx_goto (tgt := 24) C dd_T_findRings_20 (by decide) ?_
    refine sx_less (lu := [(0, .ref (ad t)), (1, .int (sx_i a1)), (2, .int (sx_i a2)), (3, .int (sx_i 0))]) C [1, 2, 3, 0] rfl ?_
    exact sm_T_findRings_24 C hZ hr hlk ht hlf ht0 ht1 ht2 ht3 h
end SXG
