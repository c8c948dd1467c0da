section SXG
variable {D : va_G} {cI cJ : ClassId} {ad : Nat → Nat} {sz : Nat} {p : Program} {l : Launch} {e : Env} {s : State} {m : MethodId} {args : Array Value} {below : List Frame} {meth : Method} {c : Code} {Q : Int → sx_M → Prop} {X : String → sx_M → Prop}
def rm_M_samples : Room := { frames := 3, cells := 0, slots := 0, locals := 73 }
set_option maxHeartbeats 4000000 in
set_option maxRecDepth 100000 in
theorem sm_M_samples_14 (C : sx_C sr_lay sr_cl D cI cJ ad (sx_A sr_lay ad sz) 2 "StoneRingsModel" prog_7_method_14_code sr_ts p s m args c) (hZ : sx_Z (sx_A sr_lay ad sz) s s.heap) (hr : meth.sig.returnType = (some .int)) (hlk : meth.locks = false) (ht : ∀ x ∈ c.exceptionTable.toList, False) (hlf : l.stackTraces = false) {x1 y1 : Int} {μ : sx_M} (h : sw_M_samples_14 Q x1 y1 μ) : sx_V sr_lay sr_cl D cI cJ ad (sx_A sr_lay ad sz) 2 p l e rm_M_samples s m args below meth c (vx_MQ below (sx_T (sx_QI sr_lay sr_cl D cI cJ ad Q sz)) (sx_XC sr_lay sr_cl D cI cJ ad (fun _ _ => False) sz) args s 0 0 (sx_A sr_lay ad sz)) 0 0 μ 14 [(0, .ref (ad 19)), (1, .int (sx_i x1))] [.int (sx_i y1), .ref (ad 19)] := by
  unfold sw_M_samples_14 at h
  refine sx_puti (K := 0) (ref := "StoneRingsModel") (ty := .int) C 19 0 rfl rfl rfl (rfl : sr_cl[5]? = some ("StoneRingsModel", tt_M, 21)) (by decide) in_M ty_M tyk_M nm_M wd_592 rfl rfl (by decide +kernel) rfl rfl dd_M_samples_14 ?_
  refine sx_aload_n C 0 dd_M_samples_17 rfl rfl ?_
  refine sx_geti (K := 0) (ref := "StoneRingsModel") C 19 0 rfl rfl rfl (rfl : sr_cl[5]? = some ("StoneRingsModel", tt_M, 21)) (by decide) in_M wd_592 rfl dd_M_samples_18 ?_
  refine sx_if_le (tgt := 26) C dd_M_samples_21 (by decide) h (fun h => ?_) (fun h => ?_)
  · refine sx_aload_n C 0 dd_M_samples_26 rfl rfl ?_
    refine sx_iload_n C 1 dd_M_samples_27 rfl rfl ?_
    refine sx_invV (c0 := 19) C hZ [.int (sx_i x1)] (fun sz2 => sm_M_lay hlf h sz2) (sx_cwV (n := 1) C.2.2.2.2.1 wd_698 wd_695 wd_697 wp_M_lay wd_8 rfl rfl (by decide +kernel) ⟨by decide, by decide⟩) rfl (rfl : sr_cl[5]? = some ("StoneRingsModel", tt_M, 21)) rfl rfl (Nat.le_of_ble_eq_true rfl) dd_M_samples_28 ⟨(Nat.le_of_ble_eq_true rfl), (Nat.le_of_ble_eq_true rfl)⟩ sx_noX (fun v1 μ1 h => ?_)
    refine sx_aload_n C 0 dd_M_samples_31 rfl rfl ?_
    refine sx_geti (K := 9) (ref := "StoneRingsModel") C 19 9 rfl rfl rfl (rfl : sr_cl[5]? = some ("StoneRingsModel", tt_M, 21)) (by decide) in_M wd_601 rfl dd_M_samples_32 ?_
    exact sx_iret C hr hlk dd_M_samples_35 h
  · refine sx_iconst C dd_M_samples_24 rfl ?_
    exact sx_iret C hr hlk dd_M_samples_25 h
set_option maxHeartbeats 4000000 in
set_option maxRecDepth 100000 in
theorem sm_M_samples {l : Launch} {D : va_G} {cI cJ : ClassId} {ad : Nat → Nat} {Q : Int → sx_M → Prop} (hlf : l.stackTraces = false) {μ : sx_M} {a1 : Int} (h : sw_M_samples Q μ a1) (sz : Nat) : sx_MI l yy_M_samples (Cond.code yy_M_samples prog_7_method_14_code 2 (some .int) :: sr_ts) rm_M_samples sr_lay sr_cl D cI cJ ad [.ref (ad 19), .int (sx_i a1)] μ Q (fun _ _ => False) 0 0 sz := by
  refine sx_body (plainFor_of_name (by decide +kernel)) rfl (Nat.le_of_ble_eq_true rfl) ?_
  intro p e s m below meth c C hZ hr hlk ht
  unfold sw_M_samples at h
  show sx_V sr_lay sr_cl D cI cJ ad (sx_A sr_lay ad sz) 2 p l e rm_M_samples s m _ below meth c (vx_MQ below (sx_T (sx_QI sr_lay sr_cl D cI cJ ad Q sz)) (sx_XC sr_lay sr_cl D cI cJ ad (fun _ _ => False) sz) _ s 0 0 (sx_A sr_lay ad sz)) 0 0 μ 0 [(0, .ref (ad 19)), (1, .int (sx_i a1))] []
  refine sx_aload_n C 0 dd_M_samples_0 rfl rfl ?_
  refine sx_aload_n C 0 dd_M_samples_1 rfl rfl ?_
  refine sx_iload_n C 1 dd_M_samples_2 rfl rfl ?_
  refine sx_invI (c0 := 19) C hZ [.int (sx_i a1)] (fun sz2 => sm_M_noRay hlf h sz2) (sx_cwV (n := 1) C.2.2.2.2.1 wd_694 wd_691 wd_693 wp_M_noRay wd_8 rfl rfl (by decide +kernel) ⟨by decide, by decide⟩) rfl (rfl : sr_cl[5]? = some ("StoneRingsModel", tt_M, 21)) rfl rfl (Nat.le_of_ble_eq_true rfl) dd_M_samples_3 ⟨(Nat.le_of_ble_eq_true rfl), (Nat.le_of_ble_eq_true rfl)⟩ sx_noX (fun v1 μ1 h => ?_)
  refine sx_if_eq (tgt := 13) C dd_M_samples_6 (by decide) h (fun h => ?_) (fun h => ?_)
  · refine sx_iconst C dd_M_samples_13 rfl ?_
    exact sm_M_samples_14 C hZ hr hlk ht hlf h
  · refine sx_iconst C dd_M_samples_9 rfl ?_
    refine sx_goto (tgt := 14) C dd_M_samples_10 (by decide) ?_
    exact sm_M_samples_14 C hZ hr hlk ht hlf h
def rm_M_sample : Room := { frames := 4, cells := 0, slots := 0, locals := 94 }
set_option maxHeartbeats 4000000 in
set_option maxRecDepth 100000 in
theorem sm_M_sample_65 (C : sx_C sr_lay sr_cl D cI cJ ad (sx_A sr_lay ad sz) 5 "StoneRingsModel" prog_7_method_15_code sr_ts p s m args c) (hZ : sx_Z (sx_A sr_lay ad sz) s s.heap) (hr : meth.sig.returnType = (some .int)) (hlk : meth.locks = false) (ht : ∀ x ∈ c.exceptionTable.toList, False) (hlf : l.stackTraces = false) {y0 : Int} {μ : sx_M} (h : sw_M_sample_65 Q y0 μ) : sx_V sr_lay sr_cl D cI cJ ad (sx_A sr_lay ad sz) 5 p l e rm_M_sample s m args below meth c (vx_MQ below (sx_T (sx_QI sr_lay sr_cl D cI cJ ad Q sz)) (sx_XC sr_lay sr_cl D cI cJ ad (fun _ _ => False) sz) args s 0 0 (sx_A sr_lay ad sz)) 0 0 μ 65 [] [.int (sx_i y0)] := by
  unfold sw_M_sample_65 at h
  exact sx_iret C hr hlk dd_M_sample_65 h
set_option maxHeartbeats 4000000 in
set_option maxRecDepth 100000 in
theorem sm_M_sample_32 (C : sx_C sr_lay sr_cl D cI cJ ad (sx_A sr_lay ad sz) 5 "StoneRingsModel" prog_7_method_15_code sr_ts p s m args c) (hZ : sx_Z (sx_A sr_lay ad sz) s s.heap) (hr : meth.sig.returnType = (some .int)) (hlk : meth.locks = false) (ht : ∀ x ∈ c.exceptionTable.toList, False) (hlf : l.stackTraces = false) {x2 x3 y1 : Int} {μ : sx_M} (h : sw_M_sample_32 Q x2 x3 y1 μ) : sx_V sr_lay sr_cl D cI cJ ad (sx_A sr_lay ad sz) 5 p l e rm_M_sample s m args below meth c (vx_MQ below (sx_T (sx_QI sr_lay sr_cl D cI cJ ad Q sz)) (sx_XC sr_lay sr_cl D cI cJ ad (fun _ _ => False) sz) args s 0 0 (sx_A sr_lay ad sz)) 0 0 μ 32 [(0, .ref (ad 19)), (2, .int (sx_i x2)), (3, .int (sx_i x3))] [.int (sx_i y1), .ref (ad 19)] := by
  unfold sw_M_sample_32 at h
  refine sx_puti (K := 0) (ref := "StoneRingsModel") (ty := .int) C 19 0 rfl rfl rfl (rfl : sr_cl[5]? = some ("StoneRingsModel", tt_M, 21)) (by decide) in_M ty_M tyk_M nm_M wd_592 rfl rfl (by decide +kernel) rfl rfl dd_M_sample_32 ?_
  refine sx_aload_n C 0 dd_M_sample_35 rfl rfl ?_
  refine sx_geti (K := 0) (ref := "StoneRingsModel") C 19 0 rfl rfl rfl (rfl : sr_cl[5]? = some ("StoneRingsModel", tt_M, 21)) (by decide) in_M wd_592 rfl dd_M_sample_36 ?_
  refine sx_if_le (tgt := 46) C dd_M_sample_39 (by decide) h (fun h => ?_) (fun h => ?_)
  · refine sx_iload_n C 2 dd_M_sample_46 rfl rfl ?_
    refine sx_if_eq (tgt := 59) C dd_M_sample_47 (by decide) h (fun h => ?_) (fun h => ?_)
    · refine sx_aload_n C 0 dd_M_sample_59 rfl rfl ?_
      refine sx_getr (ref := "StoneRingsModel") C 19 10 rfl rfl (rfl : sr_cl[5]? = some ("StoneRingsModel", tt_M, 21)) (by decide) in_M wd_602 rfl dd_M_sample_60 ?_
      refine sx_iload_n C 1 dd_M_sample_63 rfl rfl ?_
      refine sx_iald (N := 16) C 23 rfl rfl (by decide) dd_M_sample_64 h (fun h => ?_)
      refine sx_less (lu := []) C [] rfl ?_
      exact sm_M_sample_65 C hZ hr hlk ht hlf h
    · refine sx_aload_n C 0 dd_M_sample_50 rfl rfl ?_
      refine sx_getr (ref := "StoneRingsModel") C 19 11 rfl rfl (rfl : sr_cl[5]? = some ("StoneRingsModel", tt_M, 21)) (by decide) in_M wd_603 rfl dd_M_sample_51 ?_
      refine sx_iload_n C 1 dd_M_sample_54 rfl rfl ?_
      refine sx_iald (N := 16) C 24 rfl rfl (by decide) dd_M_sample_55 h (fun h => ?_)
      refine sx_goto (tgt := 65) C dd_M_sample_56 (by decide) ?_
      refine sx_less (lu := []) C [] rfl ?_
      exact sm_M_sample_65 C hZ hr hlk ht hlf h
  · refine sx_iconst C dd_M_sample_42 rfl ?_
    refine sx_goto (tgt := 65) C dd_M_sample_43 (by decide) ?_
    refine sx_less (lu := []) C [] rfl ?_
    exact sm_M_sample_65 C hZ hr hlk ht hlf h
set_option maxHeartbeats 4000000 in
set_option maxRecDepth 100000 in
theorem sm_M_sample_27 (C : sx_C sr_lay sr_cl D cI cJ ad (sx_A sr_lay ad sz) 5 "StoneRingsModel" prog_7_method_15_code sr_ts p s m args c) (hZ : sx_Z (sx_A sr_lay ad sz) s s.heap) (hr : meth.sig.returnType = (some .int)) (hlk : meth.locks = false) (ht : ∀ x ∈ c.exceptionTable.toList, False) (hlf : l.stackTraces = false) {x2 x3 : Int} {μ : sx_M} (h : sw_M_sample_27 Q x2 x3 μ) : sx_V sr_lay sr_cl D cI cJ ad (sx_A sr_lay ad sz) 5 p l e rm_M_sample s m args below meth c (vx_MQ below (sx_T (sx_QI sr_lay sr_cl D cI cJ ad Q sz)) (sx_XC sr_lay sr_cl D cI cJ ad (fun _ _ => False) sz) args s 0 0 (sx_A sr_lay ad sz)) 0 0 μ 27 [(0, .ref (ad 19)), (2, .int (sx_i x2)), (3, .int (sx_i x3))] [.ref (ad 19)] := by
  unfold sw_M_sample_27 at h
  refine sx_iconst C dd_M_sample_27 rfl ?_
  refine sx_goto (tgt := 32) C dd_M_sample_28 (by decide) ?_
  exact sm_M_sample_32 C hZ hr hlk ht hlf h
set_option maxHeartbeats 4000000 in
set_option maxRecDepth 100000 in
theorem sm_M_sample {l : Launch} {D : va_G} {cI cJ : ClassId} {ad : Nat → Nat} {Q : Int → sx_M → Prop} (hlf : l.stackTraces = false) {μ : sx_M} {a1 a2 a3 : Int} (h : sw_M_sample Q μ a1 a2 a3) (sz : Nat) : sx_MI l yy_M_sample (Cond.code yy_M_sample prog_7_method_15_code 5 (some .int) :: sr_ts) rm_M_sample sr_lay sr_cl D cI cJ ad [.ref (ad 19), .int (sx_i a1), .int (sx_i a2), .int (sx_i a3)] μ Q (fun _ _ => False) 0 0 sz := by
  refine sx_body (plainFor_of_name (by decide +kernel)) rfl (Nat.le_of_ble_eq_true rfl) ?_
  intro p e s m below meth c C hZ hr hlk ht
  unfold sw_M_sample at h
  show sx_V sr_lay sr_cl D cI cJ ad (sx_A sr_lay ad sz) 5 p l e rm_M_sample s m _ below meth c (vx_MQ below (sx_T (sx_QI sr_lay sr_cl D cI cJ ad Q sz)) (sx_XC sr_lay sr_cl D cI cJ ad (fun _ _ => False) sz) _ s 0 0 (sx_A sr_lay ad sz)) 0 0 μ 0 [(0, .ref (ad 19)), (1, .int (sx_i a1)), (2, .int (sx_i a2)), (3, .int (sx_i a3))] []
  refine sx_aload_n C 0 dd_M_sample_0 rfl rfl ?_
  refine sx_iload_n C 1 dd_M_sample_1 rfl rfl ?_
  refine sx_invI (c0 := 19) C hZ [.int (sx_i a1)] (fun sz2 => sm_M_samples hlf h sz2) (sx_cwV (n := 1) C.2.2.2.2.1 wd_690 wd_709 wd_688 wd_689 wd_8 rfl rfl (by decide +kernel) ⟨by decide, by decide⟩) rfl (rfl : sr_cl[5]? = some ("StoneRingsModel", tt_M, 21)) rfl rfl (Nat.le_of_ble_eq_true rfl) dd_M_sample_2 ⟨(Nat.le_of_ble_eq_true rfl), (Nat.le_of_ble_eq_true rfl)⟩ sx_noX (fun v1 μ1 h => ?_)
  refine sx_istore (lu := [(4, .int (sx_i v1)), (0, .ref (ad 19)), (1, .int (sx_i a1)), (2, .int (sx_i a2)), (3, .int (sx_i a3))]) C dd_M_sample_5 (by decide) rfl ?_
  refine sx_aload_n C 1 dd_M_sample_7 rfl rfl ?_
  refine sx_aload_n C 1 dd_M_sample_8 rfl rfl ?_
  refine sx_geti (K := 0) (ref := "StoneRingsModel") C 19 0 rfl rfl rfl (rfl : sr_cl[5]? = some ("StoneRingsModel", tt_M, 21)) (by decide) in_M wd_592 rfl dd_M_sample_9 ?_
  refine sx_if_gt (tgt := 27) C dd_M_sample_12 (by decide) h (fun h => ?_) (fun h => ?_)
  · refine sx_less (lu := [(0, .ref (ad 19)), (2, .int (sx_i a2)), (3, .int (sx_i a3))]) C [1, 3, 4] rfl ?_
    exact sm_M_sample_27 C hZ hr hlk ht hlf h
  · refine sx_iload_n C 3 dd_M_sample_15 rfl rfl ?_
    refine sx_iconst C dd_M_sample_16 rfl ?_
    refine sx_iload C 0 dd_M_sample_17 rfl ?_
    refine sx_iconst C dd_M_sample_19 rfl ?_
    refine sx_isub C dd_M_sample_20 ?_
    refine sx_stcI C hZ [.int (sx_i a2), .int (sx_i 0), .int (sx_i (v1 - 1))] (fun sz2 => sm_M_isIn hlf h sz2) (sx_cwS (n := 3) C.2.2.2.2.1 wd_670 wd_668 wd_669 wd_8 rfl rfl (by decide +kernel) ⟨by decide, by decide⟩) rfl rfl (Nat.le_of_ble_eq_true rfl) dd_M_sample_21 ⟨(Nat.le_of_ble_eq_true rfl), (Nat.le_of_ble_eq_true rfl)⟩ sx_noX (fun v2 μ2 h => ?_)
    refine sx_if_ne (tgt := 31) C dd_M_sample_24 (by decide) h (fun h => ?_) (fun h => ?_)
    · refine sx_iconst C dd_M_sample_31 rfl ?_
      refine sx_less (lu := [(0, .ref (ad 19)), (2, .int (sx_i a2)), (3, .int (sx_i a3))]) C [1, 3, 4] rfl ?_
      exact sm_M_sample_32 C hZ hr hlk ht hlf h
    · refine sx_less (lu := [(0, .ref (ad 19)), (2, .int (sx_i a2)), (3, .int (sx_i a3))]) C [1, 3, 4] rfl ?_
      exact sm_M_sample_27 C hZ hr hlk ht hlf h
def rm_M_rule : Room := { frames := 1, cells := 0, slots := 0, locals := 22 }
set_option maxHeartbeats 4000000 in
set_option maxRecDepth 100000 in
theorem sm_M_rule_47 (C : sx_C sr_lay sr_cl D cI cJ ad (sx_A sr_lay ad sz) 3 "StoneRingsModel" prog_7_method_16_code sr_ts p s m args c) (hZ : sx_Z (sx_A sr_lay ad sz) s s.heap) (hr : meth.sig.returnType = none) (hlk : meth.locks = false) (ht : ∀ x ∈ c.exceptionTable.toList, False) (hlf : l.stackTraces = false) {μ : sx_M} (h : sw_M_rule_47 Q μ) : sx_V sr_lay sr_cl D cI cJ ad (sx_A sr_lay ad sz) 3 p l e rm_M_rule s m args below meth c (vx_MQ below (sx_T (sx_QV sr_lay sr_cl D cI cJ ad Q sz)) (sx_XC sr_lay sr_cl D cI cJ ad (fun _ _ => False) sz) args s 0 0 (sx_A sr_lay ad sz)) 0 0 μ 47 [] [] := by
  unfold sw_M_rule_47 at h
  exact sx_vret C hr hlk dd_M_rule_47 h
set_option maxHeartbeats 4000000 in
set_option maxRecDepth 100000 in
theorem sm_M_rule_27 (C : sx_C sr_lay sr_cl D cI cJ ad (sx_A sr_lay ad sz) 3 "StoneRingsModel" prog_7_method_16_code sr_ts p s m args c) (hZ : sx_Z (sx_A sr_lay ad sz) s s.heap) (hr : meth.sig.returnType = none) (hlk : meth.locks = false) (ht : ∀ x ∈ c.exceptionTable.toList, False) (hlf : l.stackTraces = false) {x1 x2 y1 : Int} {μ : sx_M} (h : sw_M_rule_27 Q x1 x2 y1 μ) : sx_V sr_lay sr_cl D cI cJ ad (sx_A sr_lay ad sz) 3 p l e rm_M_rule s m args below meth c (vx_MQ below (sx_T (sx_QV sr_lay sr_cl D cI cJ ad Q sz)) (sx_XC sr_lay sr_cl D cI cJ ad (fun _ _ => False) sz) args s 0 0 (sx_A sr_lay ad sz)) 0 0 μ 27 [(0, .ref (ad 19)), (1, .int (sx_i x1)), (2, .int (sx_i x2))] [.int (sx_i y1), .ref (ad 19)] := by
  unfold sw_M_rule_27 at h
  refine sx_puti (K := 0) (ref := "StoneRingsModel") (ty := .int) C 19 0 rfl rfl rfl (rfl : sr_cl[5]? = some ("StoneRingsModel", tt_M, 21)) (by decide) in_M ty_M tyk_M nm_M wd_592 rfl rfl (by decide +kernel) rfl rfl dd_M_rule_27 ?_
  refine sx_aload_n C 0 dd_M_rule_30 rfl rfl ?_
  refine sx_geti (K := 0) (ref := "StoneRingsModel") C 19 0 rfl rfl rfl (rfl : sr_cl[5]? = some ("StoneRingsModel", tt_M, 21)) (by decide) in_M wd_592 rfl dd_M_rule_31 ?_
  refine sx_if_ne (tgt := 47) C dd_M_rule_34 (by decide) h (fun h => ?_) (fun h => ?_)
  · refine sx_less (lu := []) C [] rfl ?_
    exact sm_M_rule_47 C hZ hr hlk ht hlf h
  · refine sx_aload_n C 0 dd_M_rule_37 rfl rfl ?_
    refine sx_iload_n C 1 dd_M_rule_38 rfl rfl ?_
    refine sx_puti (K := 7) (ref := "StoneRingsModel") (ty := .int) C 19 7 rfl rfl rfl (rfl : sr_cl[5]? = some ("StoneRingsModel", tt_M, 21)) (by decide) in_M ty_M tyk_M nm_M wd_599 rfl rfl (by decide +kernel) rfl rfl dd_M_rule_39 ?_
    refine sx_aload_n C 0 dd_M_rule_42 rfl rfl ?_
    refine sx_iload_n C 2 dd_M_rule_43 rfl rfl ?_
    refine sx_puti (K := 8) (ref := "StoneRingsModel") (ty := .int) C 19 8 rfl rfl rfl (rfl : sr_cl[5]? = some ("StoneRingsModel", tt_M, 21)) (by decide) in_M ty_M tyk_M nm_M wd_600 rfl rfl (by decide +kernel) rfl rfl dd_M_rule_44 ?_
    refine sx_less (lu := []) C [] rfl ?_
    exact sm_M_rule_47 C hZ hr hlk ht hlf h
set_option maxHeartbeats 4000000 in
set_option maxRecDepth 100000 in
theorem sm_M_rule_22 (C : sx_C sr_lay sr_cl D cI cJ ad (sx_A sr_lay ad sz) 3 "StoneRingsModel" prog_7_method_16_code sr_ts p s m args c) (hZ : sx_Z (sx_A sr_lay ad sz) s s.heap) (hr : meth.sig.returnType = none) (hlk : meth.locks = false) (ht : ∀ x ∈ c.exceptionTable.toList, False) (hlf : l.stackTraces = false) {x1 x2 : Int} {μ : sx_M} (h : sw_M_rule_22 Q x1 x2 μ) : sx_V sr_lay sr_cl D cI cJ ad (sx_A sr_lay ad sz) 3 p l e rm_M_rule s m args below meth c (vx_MQ below (sx_T (sx_QV sr_lay sr_cl D cI cJ ad Q sz)) (sx_XC sr_lay sr_cl D cI cJ ad (fun _ _ => False) sz) args s 0 0 (sx_A sr_lay ad sz)) 0 0 μ 22 [(0, .ref (ad 19)), (1, .int (sx_i x1)), (2, .int (sx_i x2))] [.ref (ad 19)] := by
  unfold sw_M_rule_22 at h
  refine sx_iconst C dd_M_rule_22 rfl ?_
  refine sx_goto (tgt := 27) C dd_M_rule_23 (by decide) ?_
  exact sm_M_rule_27 C hZ hr hlk ht hlf h
set_option maxHeartbeats 4000000 in
set_option maxRecDepth 100000 in
theorem sm_M_rule {l : Launch} {D : va_G} {cI cJ : ClassId} {ad : Nat → Nat} {Q : Int → sx_M → Prop} (hlf : l.stackTraces = false) {μ : sx_M} {a1 a2 : Int} (h : sw_M_rule Q μ a1 a2) (sz : Nat) : sx_MV l yy_M_rule (Cond.code yy_M_rule prog_7_method_16_code 3 none :: sr_ts) rm_M_rule sr_lay sr_cl D cI cJ ad [.ref (ad 19), .int (sx_i a1), .int (sx_i a2)] μ Q (fun _ _ => False) 0 0 sz := by
  refine sx_body (plainFor_of_name (by decide +kernel)) rfl (Nat.le_of_ble_eq_true rfl) ?_
  intro p e s m below meth c C hZ hr hlk ht
  unfold sw_M_rule at h
  show sx_V sr_lay sr_cl D cI cJ ad (sx_A sr_lay ad sz) 3 p l e rm_M_rule s m _ below meth c (vx_MQ below (sx_T (sx_QV sr_lay sr_cl D cI cJ ad Q sz)) (sx_XC sr_lay sr_cl D cI cJ ad (fun _ _ => False) sz) _ s 0 0 (sx_A sr_lay ad sz)) 0 0 μ 0 [(0, .ref (ad 19)), (1, .int (sx_i a1)), (2, .int (sx_i a2))] []
  refine sx_aload_n C 0 dd_M_rule_0 rfl rfl ?_
  refine sx_iload_n C 1 dd_M_rule_1 rfl rfl ?_
  refine sx_iconst C dd_M_rule_2 rfl ?_
  refine sx_bipush (v := 10) C dd_M_rule_3 (by decide +kernel) ?_
  refine sx_stcI C hZ [.int (sx_i a1), .int (sx_i 1), .int (sx_i 10)] (fun sz2 => sm_M_isIn hlf h sz2) (sx_cwS (n := 3) C.2.2.2.2.1 wd_670 wd_668 wd_669 wd_8 rfl rfl (by decide +kernel) ⟨by decide, by decide⟩) rfl rfl (Nat.le_of_ble_eq_true rfl) dd_M_rule_5 ⟨(Nat.le_of_ble_eq_true rfl), (Nat.le_of_ble_eq_true rfl)⟩ sx_noX (fun v1 μ1 h => ?_)
  refine sx_if_eq (tgt := 22) C dd_M_rule_8 (by decide) h (fun h => ?_) (fun h => ?_)
  · exact sm_M_rule_22 C hZ hr hlk ht hlf h
  · refine sx_iload_n C 2 dd_M_rule_11 rfl rfl ?_
    refine sx_iconst C dd_M_rule_12 rfl ?_
    refine sx_sipush (v := 255) C dd_M_rule_13 (by decide +kernel) ?_
    refine sx_stcI C hZ [.int (sx_i a2), .int (sx_i 0), .int (sx_i 255)] (fun sz2 => sm_M_isIn hlf h sz2) (sx_cwS (n := 3) C.2.2.2.2.1 wd_670 wd_668 wd_669 wd_8 rfl rfl (by decide +kernel) ⟨by decide, by decide⟩) rfl rfl (Nat.le_of_ble_eq_true rfl) dd_M_rule_16 ⟨(Nat.le_of_ble_eq_true rfl), (Nat.le_of_ble_eq_true rfl)⟩ sx_noX (fun v2 μ2 h => ?_)
    refine sx_if_ne (tgt := 26) C dd_M_rule_19 (by decide) h (fun h => ?_) (fun h => ?_)
    · refine sx_iconst C dd_M_rule_26 rfl ?_
      exact sm_M_rule_27 C hZ hr hlk ht hlf h
    · exact sm_M_rule_22 C hZ hr hlk ht hlf h
def rm_M_rings : Room := { frames := 4, cells := 0, slots := 0, locals := 94 }
set_option maxHeartbeats 4000000 in
set_option maxRecDepth 100000 in
theorem sm_M_rings_21 (C : sx_C sr_lay sr_cl D cI cJ ad (sx_A sr_lay ad sz) 3 "StoneRingsModel" prog_7_method_17_code sr_ts p s m args c) (hZ : sx_Z (sx_A sr_lay ad sz) s s.heap) (hr : meth.sig.returnType = (some .int)) (hlk : meth.locks = false) (ht : ∀ x ∈ c.exceptionTable.toList, False) (hlf : l.stackTraces = false) {y0 : Int} {μ : sx_M} (h : sw_M_rings_21 Q y0 μ) : sx_V sr_lay sr_cl D cI cJ ad (sx_A sr_lay ad sz) 3 p l e rm_M_rings s m args below meth c (vx_MQ below (sx_T (sx_QI sr_lay sr_cl D cI cJ ad Q sz)) (sx_XC sr_lay sr_cl D cI cJ ad (fun _ _ => False) sz) args s 0 0 (sx_A sr_lay ad sz)) 0 0 μ 21 [] [.int (sx_i y0)] := by
  unfold sw_M_rings_21 at h
  exact sx_iret C hr hlk dd_M_rings_21 h
set_option maxHeartbeats 4000000 in
set_option maxRecDepth 100000 in
theorem sm_M_rings {l : Launch} {D : va_G} {cI cJ : ClassId} {ad : Nat → Nat} {Q : Int → sx_M → Prop} (hlf : l.stackTraces = false) {μ : sx_M} {a1 : Int} (h : sw_M_rings Q μ a1) (sz : Nat) : sx_MI l yy_M_rings (Cond.code yy_M_rings prog_7_method_17_code 3 (some .int) :: sr_ts) rm_M_rings sr_lay sr_cl D cI cJ ad [.ref (ad 19), .int (sx_i a1)] μ Q (fun _ _ => False) 0 0 sz := by
  refine sx_body (plainFor_of_name (by decide +kernel)) rfl (Nat.le_of_ble_eq_true rfl) ?_
  intro p e s m below meth c C hZ hr hlk ht
  unfold sw_M_rings at h
  show sx_V sr_lay sr_cl D cI cJ ad (sx_A sr_lay ad sz) 3 p l e rm_M_rings s m _ below meth c (vx_MQ below (sx_T (sx_QI sr_lay sr_cl D cI cJ ad Q sz)) (sx_XC sr_lay sr_cl D cI cJ ad (fun _ _ => False) sz) _ s 0 0 (sx_A sr_lay ad sz)) 0 0 μ 0 [(0, .ref (ad 19)), (1, .int (sx_i a1))] []
  refine sx_aload_n C 0 dd_M_rings_0 rfl rfl ?_
  refine sx_iload_n C 1 dd_M_rings_1 rfl rfl ?_
  refine sx_invI (c0 := 19) C hZ [.int (sx_i a1)] (fun sz2 => sm_M_samples hlf h sz2) (sx_cwV (n := 1) C.2.2.2.2.1 wd_690 wd_709 wd_688 wd_689 wd_8 rfl rfl (by decide +kernel) ⟨by decide, by decide⟩) rfl (rfl : sr_cl[5]? = some ("StoneRingsModel", tt_M, 21)) rfl rfl (Nat.le_of_ble_eq_true rfl) dd_M_rings_2 ⟨(Nat.le_of_ble_eq_true rfl), (Nat.le_of_ble_eq_true rfl)⟩ sx_noX (fun v1 μ1 h => ?_)
  refine sx_istore_n (lu := [(2, .int (sx_i v1)), (0, .ref (ad 19)), (1, .int (sx_i a1))]) C dd_M_rings_5 rfl (by decide) rfl ?_
  refine sx_aload_n C 1 dd_M_rings_6 rfl rfl ?_
  refine sx_geti (K := 0) (ref := "StoneRingsModel") C 19 0 rfl rfl rfl (rfl : sr_cl[5]? = some ("StoneRingsModel", tt_M, 21)) (by decide) in_M wd_592 rfl dd_M_rings_7 ?_
  refine sx_if_le (tgt := 17) C dd_M_rings_10 (by decide) h (fun h => ?_) (fun h => ?_)
  · refine sx_aload_n C 1 dd_M_rings_17 rfl rfl ?_
    refine sx_geti (K := 12) (ref := "StoneRingsModel") C 19 12 rfl rfl rfl (rfl : sr_cl[5]? = some ("StoneRingsModel", tt_M, 21)) (by decide) in_M wd_604 rfl dd_M_rings_18 ?_
    refine sx_less (lu := []) C [] rfl ?_
    exact sm_M_rings_21 C hZ hr hlk ht hlf h
  · refine sx_iconst C dd_M_rings_13 rfl ?_
    refine sx_goto (tgt := 21) C dd_M_rings_14 (by decide) ?_
    refine sx_less (lu := []) C [] rfl ?_
    exact sm_M_rings_21 C hZ hr hlk ht hlf h
def rm_M_widthOf : Room := { frames := 0, cells := 0, slots := 0, locals := 0 }
set_option maxHeartbeats 4000000 in
set_option maxRecDepth 100000 in
theorem sm_M_widthOf_28 (C : sx_C sr_lay sr_cl D cI cJ ad (sx_A sr_lay ad sz) 2 "StoneRingsModel" prog_7_method_18_code sr_ts p s m args c) (hZ : sx_Z (sx_A sr_lay ad sz) s s.heap) (hr : meth.sig.returnType = (some .int)) (hlk : meth.locks = false) (ht : ∀ x ∈ c.exceptionTable.toList, False) (hlf : l.stackTraces = false) {y0 : Int} {μ : sx_M} (h : sw_M_widthOf_28 Q y0 μ) : sx_V sr_lay sr_cl D cI cJ ad (sx_A sr_lay ad sz) 2 p l e rm_M_widthOf s m args below meth c (vx_MQ below (sx_T (sx_QI sr_lay sr_cl D cI cJ ad Q sz)) (sx_XC sr_lay sr_cl D cI cJ ad (fun _ _ => False) sz) args s 0 0 (sx_A sr_lay ad sz)) 0 0 μ 28 [] [.int (sx_i y0)] := by
  unfold sw_M_widthOf_28 at h
  exact sx_iret C hr hlk dd_M_widthOf_28 h
set_option maxHeartbeats 4000000 in
set_option maxRecDepth 100000 in
theorem sm_M_widthOf {l : Launch} {D : va_G} {cI cJ : ClassId} {ad : Nat → Nat} {Q : Int → sx_M → Prop} (hlf : l.stackTraces = false) {μ : sx_M} {a1 : Int} (h : sw_M_widthOf Q μ a1) (sz : Nat) : sx_MI l yy_M_widthOf (Cond.code yy_M_widthOf prog_7_method_18_code 2 (some .int) :: sr_ts) rm_M_widthOf sr_lay sr_cl D cI cJ ad [.ref (ad 19), .int (sx_i a1)] μ Q (fun _ _ => False) 0 0 sz := by
  refine sx_body (plainFor_of_name (by decide +kernel)) rfl (Nat.le_of_ble_eq_true rfl) ?_
  intro p e s m below meth c C hZ hr hlk ht
  unfold sw_M_widthOf at h
  show sx_V sr_lay sr_cl D cI cJ ad (sx_A sr_lay ad sz) 2 p l e rm_M_widthOf s m _ below meth c (vx_MQ below (sx_T (sx_QI sr_lay sr_cl D cI cJ ad Q sz)) (sx_XC sr_lay sr_cl D cI cJ ad (fun _ _ => False) sz) _ s 0 0 (sx_A sr_lay ad sz)) 0 0 μ 0 [(0, .ref (ad 19)), (1, .int (sx_i a1))] []
  refine sx_iload_n C 1 dd_M_widthOf_0 rfl rfl ?_
  refine sx_if_ne (tgt := 13) C dd_M_widthOf_1 (by decide) h (fun h => ?_) (fun h => ?_)
  · refine sx_aload_n C 0 dd_M_widthOf_13 rfl rfl ?_
    refine sx_getr (ref := "StoneRingsModel") C 19 13 rfl rfl (rfl : sr_cl[5]? = some ("StoneRingsModel", tt_M, 21)) (by decide) in_M wd_605 rfl dd_M_widthOf_14 ?_
    refine sx_iload_n C 1 dd_M_widthOf_17 rfl rfl ?_
    refine sx_iald (N := 16) C 25 rfl rfl (by decide) dd_M_widthOf_18 h (fun h => ?_)
    refine sx_aload_n C 0 dd_M_widthOf_19 rfl rfl ?_
    refine sx_getr (ref := "StoneRingsModel") C 19 13 rfl rfl (rfl : sr_cl[5]? = some ("StoneRingsModel", tt_M, 21)) (by decide) in_M wd_605 rfl dd_M_widthOf_20 ?_
    refine sx_iload_n C 1 dd_M_widthOf_23 rfl rfl ?_
    refine sx_iconst C dd_M_widthOf_24 rfl ?_
    refine sx_isub C dd_M_widthOf_25 ?_
    refine sx_iald (N := 16) C 25 rfl rfl (by decide) dd_M_widthOf_26 h (fun h => ?_)
    refine sx_isub C dd_M_widthOf_27 ?_
    refine sx_less (lu := []) C [] rfl ?_
    exact sm_M_widthOf_28 C hZ hr hlk ht hlf h
  · refine sx_aload_n C 0 dd_M_widthOf_4 rfl rfl ?_
    refine sx_getr (ref := "StoneRingsModel") C 19 13 rfl rfl (rfl : sr_cl[5]? = some ("StoneRingsModel", tt_M, 21)) (by decide) in_M wd_605 rfl dd_M_widthOf_5 ?_
    refine sx_iconst C dd_M_widthOf_8 rfl ?_
    refine sx_iald (N := 16) C 25 rfl rfl (by decide) dd_M_widthOf_9 h (fun h => ?_)
    refine sx_goto (tgt := 28) C dd_M_widthOf_10 (by decide) ?_
    refine sx_less (lu := []) C [] rfl ?_
    exact sm_M_widthOf_28 C hZ hr hlk ht hlf h
def rm_M_ring : Room := { frames := 5, cells := 0, slots := 0, locals := 116 }
set_option maxHeartbeats 4000000 in
set_option maxRecDepth 100000 in
theorem sm_M_ring_168 (C : sx_C sr_lay sr_cl D cI cJ ad (sx_A sr_lay ad sz) 6 "StoneRingsModel" prog_7_method_19_code sr_ts p s m args c) (hZ : sx_Z (sx_A sr_lay ad sz) s s.heap) (hr : meth.sig.returnType = (some .int)) (hlk : meth.locks = false) (ht : ∀ x ∈ c.exceptionTable.toList, False) (hlf : l.stackTraces = false) {y0 : Int} {μ : sx_M} (h : sw_M_ring_168 Q y0 μ) : sx_V sr_lay sr_cl D cI cJ ad (sx_A sr_lay ad sz) 6 p l e rm_M_ring s m args below meth c (vx_MQ below (sx_T (sx_QI sr_lay sr_cl D cI cJ ad Q sz)) (sx_XC sr_lay sr_cl D cI cJ ad (fun _ _ => False) sz) args s 0 0 (sx_A sr_lay ad sz)) 0 0 μ 168 [] [.int (sx_i y0)] := by
  unfold sw_M_ring_168 at h
  exact sx_iret C hr hlk dd_M_ring_168 h
set_option maxHeartbeats 4000000 in
set_option maxRecDepth 100000 in
theorem sm_M_ring_167 (C : sx_C sr_lay sr_cl D cI cJ ad (sx_A sr_lay ad sz) 6 "StoneRingsModel" prog_7_method_19_code sr_ts p s m args c) (hZ : sx_Z (sx_A sr_lay ad sz) s s.heap) (hr : meth.sig.returnType = (some .int)) (hlk : meth.locks = false) (ht : ∀ x ∈ c.exceptionTable.toList, False) (hlf : l.stackTraces = false) {μ : sx_M} (h : sw_M_ring_167 Q μ) : sx_V sr_lay sr_cl D cI cJ ad (sx_A sr_lay ad sz) 6 p l e rm_M_ring s m args below meth c (vx_MQ below (sx_T (sx_QI sr_lay sr_cl D cI cJ ad Q sz)) (sx_XC sr_lay sr_cl D cI cJ ad (fun _ _ => False) sz) args s 0 0 (sx_A sr_lay ad sz)) 0 0 μ 167 [] [] := by
  unfold sw_M_ring_167 at h
  refine sx_iconst C dd_M_ring_167 rfl ?_
  exact sm_M_ring_168 C hZ hr hlk ht hlf h
set_option maxHeartbeats 4000000 in
set_option maxRecDepth 100000 in
theorem sm_M_ring_122 (C : sx_C sr_lay sr_cl D cI cJ ad (sx_A sr_lay ad sz) 6 "StoneRingsModel" prog_7_method_19_code sr_ts p s m args c) (hZ : sx_Z (sx_A sr_lay ad sz) s s.heap) (hr : meth.sig.returnType = (some .int)) (hlk : meth.locks = false) (ht : ∀ x ∈ c.exceptionTable.toList, False) (hlf : l.stackTraces = false) {x2 y0 : Int} {μ : sx_M} (h : sw_M_ring_122 Q x2 y0 μ) : sx_V sr_lay sr_cl D cI cJ ad (sx_A sr_lay ad sz) 6 p l e rm_M_ring s m args below meth c (vx_MQ below (sx_T (sx_QI sr_lay sr_cl D cI cJ ad Q sz)) (sx_XC sr_lay sr_cl D cI cJ ad (fun _ _ => False) sz) args s 0 0 (sx_A sr_lay ad sz)) 0 0 μ 122 [(0, .ref (ad 19)), (2, .int (sx_i x2))] [.int (sx_i y0)] := by
  unfold sw_M_ring_122 at h
  refine sx_istore (lu := [(5, .int (sx_i y0)), (0, .ref (ad 19)), (2, .int (sx_i x2))]) C dd_M_ring_122 (by decide) rfl ?_
  refine sx_iload C 0 dd_M_ring_124 rfl ?_
  refine sx_if_eq (tgt := 167) C dd_M_ring_126 (by decide) h (fun h => ?_) (fun h => ?_)
  · refine sx_less (lu := []) C [] rfl ?_
    exact sm_M_ring_167 C hZ hr hlk ht hlf h
  · refine sx_iconst C dd_M_ring_129 rfl ?_
    refine sx_aload_n C 1 dd_M_ring_130 rfl rfl ?_
    refine sx_iload_n C 2 dd_M_ring_131 rfl rfl ?_
    refine sx_invI (c0 := 19) C hZ [.int (sx_i x2)] (fun sz2 => sm_M_widthOf hlf h sz2) (sx_cwV (n := 1) C.2.2.2.2.1 wd_726 wd_723 wd_725 wp_M_widthOf wd_8 rfl rfl (by decide +kernel) ⟨by decide, by decide⟩) rfl (rfl : sr_cl[5]? = some ("StoneRingsModel", tt_M, 21)) rfl rfl (Nat.le_of_ble_eq_true rfl) dd_M_ring_132 ⟨(Nat.le_of_ble_eq_true rfl), (Nat.le_of_ble_eq_true rfl)⟩ sx_noX (fun v1 μ1 h => ?_)
    refine sx_imul C dd_M_ring_135 ?_
    refine sx_aload_n C 1 dd_M_ring_136 rfl rfl ?_
    refine sx_iload_n C 2 dd_M_ring_137 rfl rfl ?_
    refine sx_iconst C dd_M_ring_138 rfl ?_
    refine sx_isub C dd_M_ring_139 ?_
    refine sx_invI (c0 := 19) C hZ [.int (sx_i (x2 - 1))] (fun sz2 => sm_M_widthOf hlf h sz2) (sx_cwV (n := 1) C.2.2.2.2.1 wd_726 wd_723 wd_725 wp_M_widthOf wd_8 rfl rfl (by decide +kernel) ⟨by decide, by decide⟩) rfl (rfl : sr_cl[5]? = some ("StoneRingsModel", tt_M, 21)) rfl rfl (Nat.le_of_ble_eq_true rfl) dd_M_ring_140 ⟨(Nat.le_of_ble_eq_true rfl), (Nat.le_of_ble_eq_true rfl)⟩ sx_noX (fun v2 μ2 h => ?_)
    refine sx_icmp_ge (tgt := 167) C dd_M_ring_143 (by decide) h (fun h => ?_) (fun h => ?_)
    · refine sx_less (lu := []) C [] rfl ?_
      exact sm_M_ring_167 C hZ hr hlk ht hlf h
    · refine sx_iconst C dd_M_ring_146 rfl ?_
      refine sx_aload_n C 1 dd_M_ring_147 rfl rfl ?_
      refine sx_iload_n C 2 dd_M_ring_148 rfl rfl ?_
      refine sx_invI (c0 := 19) C hZ [.int (sx_i x2)] (fun sz2 => sm_M_widthOf hlf h sz2) (sx_cwV (n := 1) C.2.2.2.2.1 wd_726 wd_723 wd_725 wp_M_widthOf wd_8 rfl rfl (by decide +kernel) ⟨by decide, by decide⟩) rfl (rfl : sr_cl[5]? = some ("StoneRingsModel", tt_M, 21)) rfl rfl (Nat.le_of_ble_eq_true rfl) dd_M_ring_149 ⟨(Nat.le_of_ble_eq_true rfl), (Nat.le_of_ble_eq_true rfl)⟩ sx_noX (fun v3 μ3 h => ?_)
      refine sx_imul C dd_M_ring_152 ?_
      refine sx_aload_n C 1 dd_M_ring_153 rfl rfl ?_
      refine sx_iload_n C 2 dd_M_ring_154 rfl rfl ?_
      refine sx_iconst C dd_M_ring_155 rfl ?_
      refine sx_iadd C dd_M_ring_156 ?_
      refine sx_invI (c0 := 19) C hZ [.int (sx_i (x2 + 1))] (fun sz2 => sm_M_widthOf hlf h sz2) (sx_cwV (n := 1) C.2.2.2.2.1 wd_726 wd_723 wd_725 wp_M_widthOf wd_8 rfl rfl (by decide +kernel) ⟨by decide, by decide⟩) rfl (rfl : sr_cl[5]? = some ("StoneRingsModel", tt_M, 21)) rfl rfl (Nat.le_of_ble_eq_true rfl) dd_M_ring_157 ⟨(Nat.le_of_ble_eq_true rfl), (Nat.le_of_ble_eq_true rfl)⟩ sx_noX (fun v4 μ4 h => ?_)
      refine sx_icmp_ge (tgt := 167) C dd_M_ring_160 (by decide) h (fun h => ?_) (fun h => ?_)
      · refine sx_less (lu := []) C [] rfl ?_
        exact sm_M_ring_167 C hZ hr hlk ht hlf h
      · refine sx_iconst C dd_M_ring_163 rfl ?_
        refine sx_goto (tgt := 168) C dd_M_ring_164 (by decide) ?_
        refine sx_less (lu := []) C [] rfl ?_
        exact sm_M_ring_168 C hZ hr hlk ht hlf h
set_option maxHeartbeats 4000000 in
set_option maxRecDepth 100000 in
theorem sm_M_ring_121 (C : sx_C sr_lay sr_cl D cI cJ ad (sx_A sr_lay ad sz) 6 "StoneRingsModel" prog_7_method_19_code sr_ts p s m args c) (hZ : sx_Z (sx_A sr_lay ad sz) s s.heap) (hr : meth.sig.returnType = (some .int)) (hlk : meth.locks = false) (ht : ∀ x ∈ c.exceptionTable.toList, False) (hlf : l.stackTraces = false) {x2 : Int} {μ : sx_M} (h : sw_M_ring_121 Q x2 μ) : sx_V sr_lay sr_cl D cI cJ ad (sx_A sr_lay ad sz) 6 p l e rm_M_ring s m args below meth c (vx_MQ below (sx_T (sx_QI sr_lay sr_cl D cI cJ ad Q sz)) (sx_XC sr_lay sr_cl D cI cJ ad (fun _ _ => False) sz) args s 0 0 (sx_A sr_lay ad sz)) 0 0 μ 121 [(0, .ref (ad 19)), (2, .int (sx_i x2))] [] := by
  unfold sw_M_ring_121 at h
  refine sx_iconst C dd_M_ring_121 rfl ?_
  exact sm_M_ring_122 C hZ hr hlk ht hlf h
set_option maxHeartbeats 4000000 in
set_option maxRecDepth 100000 in
theorem sm_M_ring_41 (C : sx_C sr_lay sr_cl D cI cJ ad (sx_A sr_lay ad sz) 6 "StoneRingsModel" prog_7_method_19_code sr_ts p s m args c) (hZ : sx_Z (sx_A sr_lay ad sz) s s.heap) (hr : meth.sig.returnType = (some .int)) (hlk : meth.locks = false) (ht : ∀ x ∈ c.exceptionTable.toList, False) (hlf : l.stackTraces = false) {x2 x3 x4 y1 : Int} {μ : sx_M} (h : sw_M_ring_41 Q x2 x3 x4 y1 μ) : sx_V sr_lay sr_cl D cI cJ ad (sx_A sr_lay ad sz) 6 p l e rm_M_ring s m args below meth c (vx_MQ below (sx_T (sx_QI sr_lay sr_cl D cI cJ ad Q sz)) (sx_XC sr_lay sr_cl D cI cJ ad (fun _ _ => False) sz) args s 0 0 (sx_A sr_lay ad sz)) 0 0 μ 41 [(0, .ref (ad 19)), (2, .int (sx_i x2)), (3, .int (sx_i x3)), (4, .int (sx_i x4))] [.int (sx_i y1), .ref (ad 19)] := by
  unfold sw_M_ring_41 at h
  refine sx_puti (K := 0) (ref := "StoneRingsModel") (ty := .int) C 19 0 rfl rfl rfl (rfl : sr_cl[5]? = some ("StoneRingsModel", tt_M, 21)) (by decide) in_M ty_M tyk_M nm_M wd_592 rfl rfl (by decide +kernel) rfl rfl dd_M_ring_41 ?_
  refine sx_aload_n C 0 dd_M_ring_44 rfl rfl ?_
  refine sx_geti (K := 0) (ref := "StoneRingsModel") C 19 0 rfl rfl rfl (rfl : sr_cl[5]? = some ("StoneRingsModel", tt_M, 21)) (by decide) in_M wd_592 rfl dd_M_ring_45 ?_
  refine sx_if_le (tgt := 53) C dd_M_ring_48 (by decide) h (fun h => ?_) (fun h => ?_)
  · refine sx_iload_n C 2 dd_M_ring_53 rfl rfl ?_
    obtain ⟨hR9, h_0, h_1, h_2, h_d⟩ := h
    rcases (show x3 = 0 ∨ x3 = 1 ∨ x3 = 2 ∨ (x3 < 0 ∨ 2 < x3) by omega) with q9 | q9 | q9 | q9
    · have h := h_0 q9
      refine sx_tableIn (tgt := 80) C dd_M_ring_54 hR9 (by omega) (by omega) (by rw [q9]; rfl) (by decide) ?_
      refine sx_aload_n C 0 dd_M_ring_80 rfl rfl ?_
      refine sx_getr (ref := "StoneRingsModel") C 19 13 rfl rfl (rfl : sr_cl[5]? = some ("StoneRingsModel", tt_M, 21)) (by decide) in_M wd_605 rfl dd_M_ring_81 ?_
      refine sx_iload_n C 1 dd_M_ring_84 rfl rfl ?_
      refine sx_iald (N := 16) C 25 rfl rfl (by decide) dd_M_ring_85 h (fun h => ?_)
      exact sx_iret C hr hlk dd_M_ring_86 h
    · have h := h_1 q9
      refine sx_tableIn (tgt := 87) C dd_M_ring_54 hR9 (by omega) (by omega) (by rw [q9]; rfl) (by decide) ?_
      refine sx_aload_n C 0 dd_M_ring_87 rfl rfl ?_
      refine sx_getr (ref := "StoneRingsModel") C 19 11 rfl rfl (rfl : sr_cl[5]? = some ("StoneRingsModel", tt_M, 21)) (by decide) in_M wd_603 rfl dd_M_ring_88 ?_
      refine sx_aload_n C 0 dd_M_ring_91 rfl rfl ?_
      refine sx_getr (ref := "StoneRingsModel") C 19 13 rfl rfl (rfl : sr_cl[5]? = some ("StoneRingsModel", tt_M, 21)) (by decide) in_M wd_605 rfl dd_M_ring_92 ?_
      refine sx_iload_n C 1 dd_M_ring_95 rfl rfl ?_
      refine sx_iald (N := 16) C 25 rfl rfl (by decide) dd_M_ring_96 h (fun h => ?_)
      refine sx_iald (N := 16) C 24 rfl rfl (by decide) dd_M_ring_97 h (fun h => ?_)
      exact sx_iret C hr hlk dd_M_ring_98 h
    · have h := h_2 q9
      refine sx_tableIn (tgt := 99) C dd_M_ring_54 hR9 (by omega) (by omega) (by rw [q9]; rfl) (by decide) ?_
      refine sx_aload_n C 0 dd_M_ring_99 rfl rfl ?_
      refine sx_iload_n C 1 dd_M_ring_100 rfl rfl ?_
      refine sx_invI (c0 := 19) C hZ [.int (sx_i x2)] (fun sz2 => sm_M_widthOf hlf h sz2) (sx_cwV (n := 1) C.2.2.2.2.1 wd_726 wd_723 wd_725 wp_M_widthOf wd_8 rfl rfl (by decide +kernel) ⟨by decide, by decide⟩) rfl (rfl : sr_cl[5]? = some ("StoneRingsModel", tt_M, 21)) rfl rfl (Nat.le_of_ble_eq_true rfl) dd_M_ring_101 ⟨(Nat.le_of_ble_eq_true rfl), (Nat.le_of_ble_eq_true rfl)⟩ sx_noX (fun v1 μ1 h => ?_)
      exact sx_iret C hr hlk dd_M_ring_104 h
    · have h := h_d q9
      refine sx_tableOut (tgt := 105) C dd_M_ring_54 hR9 q9 (by decide) ?_
      refine sx_iload_n C 1 dd_M_ring_105 rfl rfl ?_
      refine sx_if_le (tgt := 121) C dd_M_ring_106 (by decide) h (fun h => ?_) (fun h => ?_)
      · refine sx_less (lu := [(0, .ref (ad 19)), (2, .int (sx_i x2))]) C [0, 1] rfl ?_
        exact sm_M_ring_121 C hZ hr hlk ht hlf h
      · refine sx_iload_n C 1 dd_M_ring_109 rfl rfl ?_
        refine sx_iload C 3 dd_M_ring_110 rfl ?_
        refine sx_iconst C dd_M_ring_112 rfl ?_
        refine sx_isub C dd_M_ring_113 ?_
        refine sx_icmp_ge (tgt := 121) C dd_M_ring_114 (by decide) h (fun h => ?_) (fun h => ?_)
        · refine sx_less (lu := [(0, .ref (ad 19)), (2, .int (sx_i x2))]) C [0, 1] rfl ?_
          exact sm_M_ring_121 C hZ hr hlk ht hlf h
        · refine sx_iconst C dd_M_ring_117 rfl ?_
          refine sx_goto (tgt := 122) C dd_M_ring_118 (by decide) ?_
          refine sx_less (lu := [(0, .ref (ad 19)), (2, .int (sx_i x2))]) C [0, 1] rfl ?_
          exact sm_M_ring_122 C hZ hr hlk ht hlf h
  · refine sx_iconst C dd_M_ring_51 rfl ?_
    exact sx_iret C hr hlk dd_M_ring_52 h
set_option maxHeartbeats 4000000 in
set_option maxRecDepth 100000 in
theorem sm_M_ring_36 (C : sx_C sr_lay sr_cl D cI cJ ad (sx_A sr_lay ad sz) 6 "StoneRingsModel" prog_7_method_19_code sr_ts p s m args c) (hZ : sx_Z (sx_A sr_lay ad sz) s s.heap) (hr : meth.sig.returnType = (some .int)) (hlk : meth.locks = false) (ht : ∀ x ∈ c.exceptionTable.toList, False) (hlf : l.stackTraces = false) {x2 x3 x4 : Int} {μ : sx_M} (h : sw_M_ring_36 Q x2 x3 x4 μ) : sx_V sr_lay sr_cl D cI cJ ad (sx_A sr_lay ad sz) 6 p l e rm_M_ring s m args below meth c (vx_MQ below (sx_T (sx_QI sr_lay sr_cl D cI cJ ad Q sz)) (sx_XC sr_lay sr_cl D cI cJ ad (fun _ _ => False) sz) args s 0 0 (sx_A sr_lay ad sz)) 0 0 μ 36 [(0, .ref (ad 19)), (2, .int (sx_i x2)), (3, .int (sx_i x3)), (4, .int (sx_i x4))] [.ref (ad 19)] := by
  unfold sw_M_ring_36 at h
  refine sx_iconst C dd_M_ring_36 rfl ?_
  refine sx_goto (tgt := 41) C dd_M_ring_37 (by decide) ?_
  exact sm_M_ring_41 C hZ hr hlk ht hlf h
set_option maxHeartbeats 4000000 in
set_option maxRecDepth 100000 in
theorem sm_M_ring {l : Launch} {D : va_G} {cI cJ : ClassId} {ad : Nat → Nat} {Q : Int → sx_M → Prop} (hlf : l.stackTraces = false) {μ : sx_M} {a1 a2 a3 : Int} (h : sw_M_ring Q μ a1 a2 a3) (sz : Nat) : sx_MI l yy_M_ring (Cond.code yy_M_ring prog_7_method_19_code 6 (some .int) :: sr_ts) rm_M_ring sr_lay sr_cl D cI cJ ad [.ref (ad 19), .int (sx_i a1), .int (sx_i a2), .int (sx_i a3)] μ Q (fun _ _ => False) 0 0 sz := by
  refine sx_body (plainFor_of_name (by decide +kernel)) rfl (Nat.le_of_ble_eq_true rfl) ?_
  intro p e s m below meth c C hZ hr hlk ht
  unfold sw_M_ring at h
  show sx_V sr_lay sr_cl D cI cJ ad (sx_A sr_lay ad sz) 6 p l e rm_M_ring s m _ below meth c (vx_MQ below (sx_T (sx_QI sr_lay sr_cl D cI cJ ad Q sz)) (sx_XC sr_lay sr_cl D cI cJ ad (fun _ _ => False) sz) _ s 0 0 (sx_A sr_lay ad sz)) 0 0 μ 0 [(0, .ref (ad 19)), (1, .int (sx_i a1)), (2, .int (sx_i a2)), (3, .int (sx_i a3))] []
  refine sx_aload_n C 0 dd_M_ring_0 rfl rfl ?_
  refine sx_iload_n C 1 dd_M_ring_1 rfl rfl ?_
  refine sx_invI (c0 := 19) C hZ [.int (sx_i a1)] (fun sz2 => sm_M_rings hlf h sz2) (sx_cwV (n := 1) C.2.2.2.2.1 wd_717 wd_722 wd_715 wd_716 wd_8 rfl rfl (by decide +kernel) ⟨by decide, by decide⟩) rfl (rfl : sr_cl[5]? = some ("StoneRingsModel", tt_M, 21)) rfl rfl (Nat.le_of_ble_eq_true rfl) dd_M_ring_2 ⟨(Nat.le_of_ble_eq_true rfl), (Nat.le_of_ble_eq_true rfl)⟩ sx_noX (fun v1 μ1 h => ?_)
  refine sx_istore (lu := [(4, .int (sx_i v1)), (0, .ref (ad 19)), (1, .int (sx_i a1)), (2, .int (sx_i a2)), (3, .int (sx_i a3))]) C dd_M_ring_5 (by decide) rfl ?_
  refine sx_aload_n C 1 dd_M_ring_7 rfl rfl ?_
  refine sx_aload_n C 1 dd_M_ring_8 rfl rfl ?_
  refine sx_geti (K := 0) (ref := "StoneRingsModel") C 19 0 rfl rfl rfl (rfl : sr_cl[5]? = some ("StoneRingsModel", tt_M, 21)) (by decide) in_M wd_592 rfl dd_M_ring_9 ?_
  refine sx_if_gt (tgt := 36) C dd_M_ring_12 (by decide) h (fun h => ?_) (fun h => ?_)
  · refine sx_less (lu := [(0, .ref (ad 19)), (2, .int (sx_i a2)), (3, .int (sx_i a3)), (4, .int (sx_i v1))]) C [1, 3, 4, 0] rfl ?_
    exact sm_M_ring_36 C hZ hr hlk ht hlf h
  · refine sx_iload_n C 3 dd_M_ring_15 rfl rfl ?_
    refine sx_iconst C dd_M_ring_16 rfl ?_
    refine sx_iload C 0 dd_M_ring_17 rfl ?_
    refine sx_iconst C dd_M_ring_19 rfl ?_
    refine sx_isub C dd_M_ring_20 ?_
    refine sx_stcI C hZ [.int (sx_i a2), .int (sx_i 0), .int (sx_i (v1 - 1))] (fun sz2 => sm_M_isIn hlf h sz2) (sx_cwS (n := 3) C.2.2.2.2.1 wd_670 wd_668 wd_669 wd_8 rfl rfl (by decide +kernel) ⟨by decide, by decide⟩) rfl rfl (Nat.le_of_ble_eq_true rfl) dd_M_ring_21 ⟨(Nat.le_of_ble_eq_true rfl), (Nat.le_of_ble_eq_true rfl)⟩ sx_noX (fun v2 μ2 h => ?_)
    refine sx_if_eq (tgt := 36) C dd_M_ring_24 (by decide) h (fun h => ?_) (fun h => ?_)
    · refine sx_less (lu := [(0, .ref (ad 19)), (2, .int (sx_i a2)), (3, .int (sx_i a3)), (4, .int (sx_i v1))]) C [1, 3, 4, 0] rfl ?_
      exact sm_M_ring_36 C hZ hr hlk ht hlf h
    · refine sx_iload_n C 4 dd_M_ring_27 rfl rfl ?_
      refine sx_iconst C dd_M_ring_28 rfl ?_
      refine sx_iconst C dd_M_ring_29 rfl ?_
      refine sx_stcI C hZ [.int (sx_i a3), .int (sx_i 0), .int (sx_i 3)] (fun sz2 => sm_M_isIn hlf h sz2) (sx_cwS (n := 3) C.2.2.2.2.1 wd_670 wd_668 wd_669 wd_8 rfl rfl (by decide +kernel) ⟨by decide, by decide⟩) rfl rfl (Nat.le_of_ble_eq_true rfl) dd_M_ring_30 ⟨(Nat.le_of_ble_eq_true rfl), (Nat.le_of_ble_eq_true rfl)⟩ sx_noX (fun v3 μ3 h => ?_)
      refine sx_if_ne (tgt := 40) C dd_M_ring_33 (by decide) h (fun h => ?_) (fun h => ?_)
      · refine sx_iconst C dd_M_ring_40 rfl ?_
        refine sx_less (lu := [(0, .ref (ad 19)), (2, .int (sx_i a2)), (3, .int (sx_i a3)), (4, .int (sx_i v1))]) C [1, 3, 4, 0] rfl ?_
        exact sm_M_ring_41 C hZ hr hlk ht hlf h
      · refine sx_less (lu := [(0, .ref (ad 19)), (2, .int (sx_i a2)), (3, .int (sx_i a3)), (4, .int (sx_i v1))]) C [1, 3, 4, 0] rfl ?_
        exact sm_M_ring_36 C hZ hr hlk ht hlf h
def rm_M_together : Room := { frames := 1, cells := 0, slots := 0, locals := 20 }
set_option maxHeartbeats 4000000 in
set_option maxRecDepth 100000 in
theorem sm_M_together {l : Launch} {D : va_G} {cI cJ : ClassId} {ad : Nat → Nat} {Q : Int → sx_M → Prop} (hlf : l.stackTraces = false) {μ : sx_M} {a1 a2 : Int} (h : sw_M_together Q μ a1 a2) (sz : Nat) : sx_MI l yy_M_together (Cond.code yy_M_together prog_7_method_20_code 3 (some .int) :: sr_ts) rm_M_together sr_lay sr_cl D cI cJ ad [.ref (ad 19), .int (sx_i a1), .int (sx_i a2)] μ Q (fun _ _ => False) 0 0 sz := by
  refine sx_body (plainFor_of_name (by decide +kernel)) rfl (Nat.le_of_ble_eq_true rfl) ?_
  intro p e s m below meth c C hZ hr hlk ht
  unfold sw_M_together at h
  show sx_V sr_lay sr_cl D cI cJ ad (sx_A sr_lay ad sz) 3 p l e rm_M_together s m _ below meth c (vx_MQ below (sx_T (sx_QI sr_lay sr_cl D cI cJ ad Q sz)) (sx_XC sr_lay sr_cl D cI cJ ad (fun _ _ => False) sz) _ s 0 0 (sx_A sr_lay ad sz)) 0 0 μ 0 [(0, .ref (ad 19)), (1, .int (sx_i a1)), (2, .int (sx_i a2))] []
  refine sx_aload_n C 0 dd_M_together_0 rfl rfl ?_
  refine sx_getr (ref := "StoneRingsModel") C 19 13 rfl rfl (rfl : sr_cl[5]? = some ("StoneRingsModel", tt_M, 21)) (by decide) in_M wd_605 rfl dd_M_together_1 ?_
  refine sx_iload_n C 1 dd_M_together_4 rfl rfl ?_
  refine sx_iald (N := 16) C 25 rfl rfl (by decide) dd_M_together_5 h (fun h => ?_)
  refine sx_aload_n C 0 dd_M_together_6 rfl rfl ?_
  refine sx_getr (ref := "StoneRingsModel") C 19 15 rfl rfl (rfl : sr_cl[5]? = some ("StoneRingsModel", tt_M, 21)) (by decide) in_M wd_607 rfl dd_M_together_7 ?_
  refine sx_iload_n C 2 dd_M_together_10 rfl rfl ?_
  refine sx_iald (N := 16) C 26 rfl rfl (by decide) dd_M_together_11 h (fun h => ?_)
  refine sx_isub C dd_M_together_12 ?_
  refine sx_stcI C hZ [.int (sx_i ((μ 25 a1) - (μ 26 a2)))] (fun sz2 => sm_M_size hlf h sz2) (sx_cwS (n := 1) C.2.2.2.2.1 wd_701 wd_699 wd_700 wd_8 rfl rfl (by decide +kernel) ⟨by decide, by decide⟩) rfl rfl (Nat.le_of_ble_eq_true rfl) dd_M_together_13 ⟨(Nat.le_of_ble_eq_true rfl), (Nat.le_of_ble_eq_true rfl)⟩ sx_noX (fun v1 μ1 h => ?_)
  refine sx_aload_n C 0 dd_M_together_16 rfl rfl ?_
  refine sx_getr (ref := "StoneRingsModel") C 19 16 rfl rfl (rfl : sr_cl[5]? = some ("StoneRingsModel", tt_M, 21)) (by decide) in_M wd_608 rfl dd_M_together_17 ?_
  refine sx_bipush (v := 17) C dd_M_together_20 (by decide +kernel) ?_
  refine sx_iload_n C 1 dd_M_together_22 rfl rfl ?_
  refine sx_iconst C dd_M_together_23 rfl ?_
  refine sx_iadd C dd_M_together_24 ?_
  refine sx_imul C dd_M_together_25 ?_
  refine sx_iload_n C 2 dd_M_together_26 rfl rfl ?_
  refine sx_iadd C dd_M_together_27 ?_
  refine sx_iconst C dd_M_together_28 rfl ?_
  refine sx_iadd C dd_M_together_29 ?_
  refine sx_iald (N := 289) C 27 rfl rfl (by decide) dd_M_together_30 h (fun h => ?_)
  refine sx_iadd C dd_M_together_31 ?_
  exact sx_iret C hr hlk dd_M_together_32 h
def rm_M_join : Room := { frames := 3, cells := 0, slots := 0, locals := 73 }
set_option maxHeartbeats 4000000 in
set_option maxRecDepth 100000 in
theorem sm_M_join_300 (C : sx_C sr_lay sr_cl D cI cJ ad (sx_A sr_lay ad sz) 7 "StoneRingsModel" prog_7_method_21_code sr_ts p s m args c) (hZ : sx_Z (sx_A sr_lay ad sz) s s.heap) (hr : meth.sig.returnType = (some .int)) (hlk : meth.locks = false) (ht : ∀ x ∈ c.exceptionTable.toList, False) (hlf : l.stackTraces = false) {r104 : Int → Int → sx_M → Prop} {r115 : Int → Int → Int → sx_M → Prop} (hr104 : ∀ (x3 x4 : Int) (μ : sx_M), r104 x3 x4 μ → sx_V sr_lay sr_cl D cI cJ ad (sx_A sr_lay ad sz) 7 p l e rm_M_join s m args below meth c (vx_MQ below (sx_T (sx_QI sr_lay sr_cl D cI cJ ad Q sz)) (sx_XC sr_lay sr_cl D cI cJ ad (fun _ _ => False) sz) args s 0 0 (sx_A sr_lay ad sz)) 0 0 μ 104 [(0, .ref (ad 19)), (3, .int (sx_i x3)), (4, .int (sx_i x4))] []) (hr115 : ∀ (x3 x4 x5 : Int) (μ : sx_M), r115 x3 x4 x5 μ → sx_V sr_lay sr_cl D cI cJ ad (sx_A sr_lay ad sz) 7 p l e rm_M_join s m args below meth c (vx_MQ below (sx_T (sx_QI sr_lay sr_cl D cI cJ ad Q sz)) (sx_XC sr_lay sr_cl D cI cJ ad (fun _ _ => False) sz) args s 0 0 (sx_A sr_lay ad sz)) 0 0 μ 115 [(0, .ref (ad 19)), (3, .int (sx_i x3)), (4, .int (sx_i x4)), (5, .int (sx_i x5))] []) {x3 x4 x5 y0 : Int} {μ : sx_M} (h : sw_M_join_300 Q r104 r115 x3 x4 x5 y0 μ) : sx_V sr_lay sr_cl D cI cJ ad (sx_A sr_lay ad sz) 7 p l e rm_M_join s m args below meth c (vx_MQ below (sx_T (sx_QI sr_lay sr_cl D cI cJ ad Q sz)) (sx_XC sr_lay sr_cl D cI cJ ad (fun _ _ => False) sz) args s 0 0 (sx_A sr_lay ad sz)) 0 0 μ 300 [(0, .ref (ad 19)), (3, .int (sx_i x3)), (4, .int (sx_i x4)), (5, .int (sx_i x5))] [.int (sx_i y0)] := by
  unfold sw_M_join_300 at h
  refine sx_istore (lu := [(6, .int (sx_i y0)), (0, .ref (ad 19)), (3, .int (sx_i x3)), (4, .int (sx_i x4)), (5, .int (sx_i x5))]) C dd_M_join_300 (by decide) rfl ?_
  refine sx_aload_n C 1 dd_M_join_302 rfl rfl ?_
  refine sx_getr (ref := "StoneRingsModel") C 19 16 rfl rfl (rfl : sr_cl[5]? = some ("StoneRingsModel", tt_M, 21)) (by decide) in_M wd_608 rfl dd_M_join_303 ?_
  refine sx_bipush (v := 17) C dd_M_join_306 (by decide +kernel) ?_
  refine sx_iload C 3 dd_M_join_308 rfl ?_
  refine sx_imul C dd_M_join_310 ?_
  refine sx_iload C 4 dd_M_join_311 rfl ?_
  refine sx_iadd C dd_M_join_313 ?_
  refine sx_iload C 0 dd_M_join_314 rfl ?_
  refine sx_iast (N := 289) C 27 rfl rfl (by decide) dd_M_join_316 h (fun h => ?_)
  refine sx_iinc (lu := [(5, .int (sx_i (x5 + (-1)))), (6, .int (sx_i y0)), (0, .ref (ad 19)), (3, .int (sx_i x3)), (4, .int (sx_i x4))]) C 4 dd_M_join_317 rfl (by decide) rfl ?_
  refine sx_goto (tgt := 115) C dd_M_join_320 (by decide) ?_
  refine sx_less (lu := [(0, .ref (ad 19)), (3, .int (sx_i x3)), (4, .int (sx_i x4)), (5, .int (sx_i (x5 + (-1))))]) C [2, 3, 4, 0] rfl ?_
  exact hr115 _ _ _ _ h
set_option maxHeartbeats 4000000 in
set_option maxRecDepth 100000 in
theorem sm_M_join_298 (C : sx_C sr_lay sr_cl D cI cJ ad (sx_A sr_lay ad sz) 7 "StoneRingsModel" prog_7_method_21_code sr_ts p s m args c) (hZ : sx_Z (sx_A sr_lay ad sz) s s.heap) (hr : meth.sig.returnType = (some .int)) (hlk : meth.locks = false) (ht : ∀ x ∈ c.exceptionTable.toList, False) (hlf : l.stackTraces = false) {r104 : Int → Int → sx_M → Prop} {r115 : Int → Int → Int → sx_M → Prop} (hr104 : ∀ (x3 x4 : Int) (μ : sx_M), r104 x3 x4 μ → sx_V sr_lay sr_cl D cI cJ ad (sx_A sr_lay ad sz) 7 p l e rm_M_join s m args below meth c (vx_MQ below (sx_T (sx_QI sr_lay sr_cl D cI cJ ad Q sz)) (sx_XC sr_lay sr_cl D cI cJ ad (fun _ _ => False) sz) args s 0 0 (sx_A sr_lay ad sz)) 0 0 μ 104 [(0, .ref (ad 19)), (3, .int (sx_i x3)), (4, .int (sx_i x4))] []) (hr115 : ∀ (x3 x4 x5 : Int) (μ : sx_M), r115 x3 x4 x5 μ → sx_V sr_lay sr_cl D cI cJ ad (sx_A sr_lay ad sz) 7 p l e rm_M_join s m args below meth c (vx_MQ below (sx_T (sx_QI sr_lay sr_cl D cI cJ ad Q sz)) (sx_XC sr_lay sr_cl D cI cJ ad (fun _ _ => False) sz) args s 0 0 (sx_A sr_lay ad sz)) 0 0 μ 115 [(0, .ref (ad 19)), (3, .int (sx_i x3)), (4, .int (sx_i x4)), (5, .int (sx_i x5))] []) {x3 x4 x5 x6 : Int} {μ : sx_M} (h : sw_M_join_298 Q r104 r115 x3 x4 x5 x6 μ) : sx_V sr_lay sr_cl D cI cJ ad (sx_A sr_lay ad sz) 7 p l e rm_M_join s m args below meth c (vx_MQ below (sx_T (sx_QI sr_lay sr_cl D cI cJ ad Q sz)) (sx_XC sr_lay sr_cl D cI cJ ad (fun _ _ => False) sz) args s 0 0 (sx_A sr_lay ad sz)) 0 0 μ 298 [(0, .ref (ad 19)), (3, .int (sx_i x3)), (4, .int (sx_i x4)), (5, .int (sx_i x5)), (6, .int (sx_i x6))] [] := by
  unfold sw_M_join_298 at h
  refine sx_iload C 4 dd_M_join_298 rfl ?_
  refine sx_less (lu := [(0, .ref (ad 19)), (3, .int (sx_i x3)), (4, .int (sx_i x4)), (5, .int (sx_i x5))]) C [0, 1, 2, 3] rfl ?_
  exact sm_M_join_300 C hZ hr hlk ht hlf hr104 hr115 h
set_option maxHeartbeats 4000000 in
set_option maxRecDepth 100000 in
theorem sm_M_join_245 (C : sx_C sr_lay sr_cl D cI cJ ad (sx_A sr_lay ad sz) 7 "StoneRingsModel" prog_7_method_21_code sr_ts p s m args c) (hZ : sx_Z (sx_A sr_lay ad sz) s s.heap) (hr : meth.sig.returnType = (some .int)) (hlk : meth.locks = false) (ht : ∀ x ∈ c.exceptionTable.toList, False) (hlf : l.stackTraces = false) {r104 : Int → Int → sx_M → Prop} {r115 : Int → Int → Int → sx_M → Prop} (hr104 : ∀ (x3 x4 : Int) (μ : sx_M), r104 x3 x4 μ → sx_V sr_lay sr_cl D cI cJ ad (sx_A sr_lay ad sz) 7 p l e rm_M_join s m args below meth c (vx_MQ below (sx_T (sx_QI sr_lay sr_cl D cI cJ ad Q sz)) (sx_XC sr_lay sr_cl D cI cJ ad (fun _ _ => False) sz) args s 0 0 (sx_A sr_lay ad sz)) 0 0 μ 104 [(0, .ref (ad 19)), (3, .int (sx_i x3)), (4, .int (sx_i x4))] []) (hr115 : ∀ (x3 x4 x5 : Int) (μ : sx_M), r115 x3 x4 x5 μ → sx_V sr_lay sr_cl D cI cJ ad (sx_A sr_lay ad sz) 7 p l e rm_M_join s m args below meth c (vx_MQ below (sx_T (sx_QI sr_lay sr_cl D cI cJ ad Q sz)) (sx_XC sr_lay sr_cl D cI cJ ad (fun _ _ => False) sz) args s 0 0 (sx_A sr_lay ad sz)) 0 0 μ 115 [(0, .ref (ad 19)), (3, .int (sx_i x3)), (4, .int (sx_i x4)), (5, .int (sx_i x5))] []) {x3 x4 x5 y0 : Int} {μ : sx_M} (h : sw_M_join_245 Q r104 r115 x3 x4 x5 y0 μ) : sx_V sr_lay sr_cl D cI cJ ad (sx_A sr_lay ad sz) 7 p l e rm_M_join s m args below meth c (vx_MQ below (sx_T (sx_QI sr_lay sr_cl D cI cJ ad Q sz)) (sx_XC sr_lay sr_cl D cI cJ ad (fun _ _ => False) sz) args s 0 0 (sx_A sr_lay ad sz)) 0 0 μ 245 [(0, .ref (ad 19)), (3, .int (sx_i x3)), (4, .int (sx_i x4)), (5, .int (sx_i x5))] [.int (sx_i y0)] := by
  unfold sw_M_join_245 at h
  refine sx_istore (lu := [(6, .int (sx_i y0)), (0, .ref (ad 19)), (3, .int (sx_i x3)), (4, .int (sx_i x4)), (5, .int (sx_i x5))]) C dd_M_join_245 (by decide) rfl ?_
  refine sx_iload C 4 dd_M_join_247 rfl ?_
  refine sx_aload_n C 1 dd_M_join_249 rfl rfl ?_
  refine sx_geti (K := 14) (ref := "StoneRingsModel") C 19 14 rfl rfl rfl (rfl : sr_cl[5]? = some ("StoneRingsModel", tt_M, 21)) (by decide) in_M wd_606 rfl dd_M_join_250 ?_
  refine sx_icmp_ge (tgt := 298) C dd_M_join_253 (by decide) h (fun h => ?_) (fun h => ?_)
  · refine sx_less (lu := [(0, .ref (ad 19)), (3, .int (sx_i x3)), (4, .int (sx_i x4)), (5, .int (sx_i x5)), (6, .int (sx_i y0))]) C [1, 2, 3, 4, 0] rfl ?_
    exact sm_M_join_298 C hZ hr hlk ht hlf hr104 hr115 h
  · refine sx_iload_n C 2 dd_M_join_256 rfl rfl ?_
    refine sx_aload_n C 1 dd_M_join_257 rfl rfl ?_
    refine sx_getr (ref := "StoneRingsModel") C 19 16 rfl rfl (rfl : sr_cl[5]? = some ("StoneRingsModel", tt_M, 21)) (by decide) in_M wd_608 rfl dd_M_join_258 ?_
    refine sx_bipush (v := 17) C dd_M_join_261 (by decide +kernel) ?_
    refine sx_iload C 3 dd_M_join_263 rfl ?_
    refine sx_imul C dd_M_join_265 ?_
    refine sx_iload C 4 dd_M_join_266 rfl ?_
    refine sx_iadd C dd_M_join_268 ?_
    refine sx_iconst C dd_M_join_269 rfl ?_
    refine sx_iadd C dd_M_join_270 ?_
    refine sx_iald (N := 289) C 27 rfl rfl (by decide) dd_M_join_271 h (fun h => ?_)
    refine sx_iadd C dd_M_join_272 ?_
    refine sx_iload C 0 dd_M_join_273 rfl ?_
    refine sx_icmp_ge (tgt := 298) C dd_M_join_275 (by decide) h (fun h => ?_) (fun h => ?_)
    · refine sx_less (lu := [(0, .ref (ad 19)), (3, .int (sx_i x3)), (4, .int (sx_i x4)), (5, .int (sx_i x5)), (6, .int (sx_i y0))]) C [1, 2, 3, 4, 0] rfl ?_
      exact sm_M_join_298 C hZ hr hlk ht hlf hr104 hr115 h
    · refine sx_iload_n C 2 dd_M_join_278 rfl rfl ?_
      refine sx_aload_n C 1 dd_M_join_279 rfl rfl ?_
      refine sx_getr (ref := "StoneRingsModel") C 19 16 rfl rfl (rfl : sr_cl[5]? = some ("StoneRingsModel", tt_M, 21)) (by decide) in_M wd_608 rfl dd_M_join_280 ?_
      refine sx_bipush (v := 17) C dd_M_join_283 (by decide +kernel) ?_
      refine sx_iload C 3 dd_M_join_285 rfl ?_
      refine sx_imul C dd_M_join_287 ?_
      refine sx_iload C 4 dd_M_join_288 rfl ?_
      refine sx_iadd C dd_M_join_290 ?_
      refine sx_iconst C dd_M_join_291 rfl ?_
      refine sx_iadd C dd_M_join_292 ?_
      refine sx_iald (N := 289) C 27 rfl rfl (by decide) dd_M_join_293 h (fun h => ?_)
      refine sx_iadd C dd_M_join_294 ?_
      refine sx_goto (tgt := 300) C dd_M_join_295 (by decide) ?_
      refine sx_less (lu := [(0, .ref (ad 19)), (3, .int (sx_i x3)), (4, .int (sx_i x4)), (5, .int (sx_i x5))]) C [1, 2, 3, 4] rfl ?_
      exact sm_M_join_300 C hZ hr hlk ht hlf hr104 hr115 h
set_option maxHeartbeats 4000000 in
set_option maxRecDepth 100000 in
theorem sm_M_join_243 (C : sx_C sr_lay sr_cl D cI cJ ad (sx_A sr_lay ad sz) 7 "StoneRingsModel" prog_7_method_21_code sr_ts p s m args c) (hZ : sx_Z (sx_A sr_lay ad sz) s s.heap) (hr : meth.sig.returnType = (some .int)) (hlk : meth.locks = false) (ht : ∀ x ∈ c.exceptionTable.toList, False) (hlf : l.stackTraces = false) {r104 : Int → Int → sx_M → Prop} {r115 : Int → Int → Int → sx_M → Prop} (hr104 : ∀ (x3 x4 : Int) (μ : sx_M), r104 x3 x4 μ → sx_V sr_lay sr_cl D cI cJ ad (sx_A sr_lay ad sz) 7 p l e rm_M_join s m args below meth c (vx_MQ below (sx_T (sx_QI sr_lay sr_cl D cI cJ ad Q sz)) (sx_XC sr_lay sr_cl D cI cJ ad (fun _ _ => False) sz) args s 0 0 (sx_A sr_lay ad sz)) 0 0 μ 104 [(0, .ref (ad 19)), (3, .int (sx_i x3)), (4, .int (sx_i x4))] []) (hr115 : ∀ (x3 x4 x5 : Int) (μ : sx_M), r115 x3 x4 x5 μ → sx_V sr_lay sr_cl D cI cJ ad (sx_A sr_lay ad sz) 7 p l e rm_M_join s m args below meth c (vx_MQ below (sx_T (sx_QI sr_lay sr_cl D cI cJ ad Q sz)) (sx_XC sr_lay sr_cl D cI cJ ad (fun _ _ => False) sz) args s 0 0 (sx_A sr_lay ad sz)) 0 0 μ 115 [(0, .ref (ad 19)), (3, .int (sx_i x3)), (4, .int (sx_i x4)), (5, .int (sx_i x5))] []) {x3 x4 x5 x6 : Int} {μ : sx_M} (h : sw_M_join_243 Q r104 r115 x3 x4 x5 x6 μ) : sx_V sr_lay sr_cl D cI cJ ad (sx_A sr_lay ad sz) 7 p l e rm_M_join s m args below meth c (vx_MQ below (sx_T (sx_QI sr_lay sr_cl D cI cJ ad Q sz)) (sx_XC sr_lay sr_cl D cI cJ ad (fun _ _ => False) sz) args s 0 0 (sx_A sr_lay ad sz)) 0 0 μ 243 [(0, .ref (ad 19)), (3, .int (sx_i x3)), (4, .int (sx_i x4)), (5, .int (sx_i x5)), (6, .int (sx_i x6))] [] := by
  unfold sw_M_join_243 at h
  refine sx_iload C 4 dd_M_join_243 rfl ?_
  refine sx_less (lu := [(0, .ref (ad 19)), (3, .int (sx_i x3)), (4, .int (sx_i x4)), (5, .int (sx_i x5))]) C [0, 1, 2, 3] rfl ?_
  exact sm_M_join_245 C hZ hr hlk ht hlf hr104 hr115 h
set_option maxHeartbeats 4000000 in
set_option maxRecDepth 100000 in
theorem sm_M_join_190 (C : sx_C sr_lay sr_cl D cI cJ ad (sx_A sr_lay ad sz) 7 "StoneRingsModel" prog_7_method_21_code sr_ts p s m args c) (hZ : sx_Z (sx_A sr_lay ad sz) s s.heap) (hr : meth.sig.returnType = (some .int)) (hlk : meth.locks = false) (ht : ∀ x ∈ c.exceptionTable.toList, False) (hlf : l.stackTraces = false) {r104 : Int → Int → sx_M → Prop} {r115 : Int → Int → Int → sx_M → Prop} (hr104 : ∀ (x3 x4 : Int) (μ : sx_M), r104 x3 x4 μ → sx_V sr_lay sr_cl D cI cJ ad (sx_A sr_lay ad sz) 7 p l e rm_M_join s m args below meth c (vx_MQ below (sx_T (sx_QI sr_lay sr_cl D cI cJ ad Q sz)) (sx_XC sr_lay sr_cl D cI cJ ad (fun _ _ => False) sz) args s 0 0 (sx_A sr_lay ad sz)) 0 0 μ 104 [(0, .ref (ad 19)), (3, .int (sx_i x3)), (4, .int (sx_i x4))] []) (hr115 : ∀ (x3 x4 x5 : Int) (μ : sx_M), r115 x3 x4 x5 μ → sx_V sr_lay sr_cl D cI cJ ad (sx_A sr_lay ad sz) 7 p l e rm_M_join s m args below meth c (vx_MQ below (sx_T (sx_QI sr_lay sr_cl D cI cJ ad Q sz)) (sx_XC sr_lay sr_cl D cI cJ ad (fun _ _ => False) sz) args s 0 0 (sx_A sr_lay ad sz)) 0 0 μ 115 [(0, .ref (ad 19)), (3, .int (sx_i x3)), (4, .int (sx_i x4)), (5, .int (sx_i x5))] []) {x3 x4 x5 y0 : Int} {μ : sx_M} (h : sw_M_join_190 Q r104 r115 x3 x4 x5 y0 μ) : sx_V sr_lay sr_cl D cI cJ ad (sx_A sr_lay ad sz) 7 p l e rm_M_join s m args below meth c (vx_MQ below (sx_T (sx_QI sr_lay sr_cl D cI cJ ad Q sz)) (sx_XC sr_lay sr_cl D cI cJ ad (fun _ _ => False) sz) args s 0 0 (sx_A sr_lay ad sz)) 0 0 μ 190 [(0, .ref (ad 19)), (3, .int (sx_i x3)), (4, .int (sx_i x4)), (5, .int (sx_i x5))] [.int (sx_i y0)] := by
  unfold sw_M_join_190 at h
  refine sx_istore (lu := [(6, .int (sx_i y0)), (0, .ref (ad 19)), (3, .int (sx_i x3)), (4, .int (sx_i x4)), (5, .int (sx_i x5))]) C dd_M_join_190 (by decide) rfl ?_
  refine sx_iload C 3 dd_M_join_192 rfl ?_
  refine sx_aload_n C 1 dd_M_join_194 rfl rfl ?_
  refine sx_geti (K := 12) (ref := "StoneRingsModel") C 19 12 rfl rfl rfl (rfl : sr_cl[5]? = some ("StoneRingsModel", tt_M, 21)) (by decide) in_M wd_604 rfl dd_M_join_195 ?_
  refine sx_icmp_ge (tgt := 243) C dd_M_join_198 (by decide) h (fun h => ?_) (fun h => ?_)
  · refine sx_less (lu := [(0, .ref (ad 19)), (3, .int (sx_i x3)), (4, .int (sx_i x4)), (5, .int (sx_i x5)), (6, .int (sx_i y0))]) C [1, 2, 3, 4, 0] rfl ?_
    exact sm_M_join_243 C hZ hr hlk ht hlf hr104 hr115 h
  · refine sx_iload_n C 2 dd_M_join_201 rfl rfl ?_
    refine sx_aload_n C 1 dd_M_join_202 rfl rfl ?_
    refine sx_getr (ref := "StoneRingsModel") C 19 16 rfl rfl (rfl : sr_cl[5]? = some ("StoneRingsModel", tt_M, 21)) (by decide) in_M wd_608 rfl dd_M_join_203 ?_
    refine sx_bipush (v := 17) C dd_M_join_206 (by decide +kernel) ?_
    refine sx_iload C 3 dd_M_join_208 rfl ?_
    refine sx_iconst C dd_M_join_210 rfl ?_
    refine sx_iadd C dd_M_join_211 ?_
    refine sx_imul C dd_M_join_212 ?_
    refine sx_iload C 4 dd_M_join_213 rfl ?_
    refine sx_iadd C dd_M_join_215 ?_
    refine sx_iald (N := 289) C 27 rfl rfl (by decide) dd_M_join_216 h (fun h => ?_)
    refine sx_iadd C dd_M_join_217 ?_
    refine sx_iload C 0 dd_M_join_218 rfl ?_
    refine sx_icmp_ge (tgt := 243) C dd_M_join_220 (by decide) h (fun h => ?_) (fun h => ?_)
    · refine sx_less (lu := [(0, .ref (ad 19)), (3, .int (sx_i x3)), (4, .int (sx_i x4)), (5, .int (sx_i x5)), (6, .int (sx_i y0))]) C [1, 2, 3, 4, 0] rfl ?_
      exact sm_M_join_243 C hZ hr hlk ht hlf hr104 hr115 h
    · refine sx_iload_n C 2 dd_M_join_223 rfl rfl ?_
      refine sx_aload_n C 1 dd_M_join_224 rfl rfl ?_
      refine sx_getr (ref := "StoneRingsModel") C 19 16 rfl rfl (rfl : sr_cl[5]? = some ("StoneRingsModel", tt_M, 21)) (by decide) in_M wd_608 rfl dd_M_join_225 ?_
      refine sx_bipush (v := 17) C dd_M_join_228 (by decide +kernel) ?_
      refine sx_iload C 3 dd_M_join_230 rfl ?_
      refine sx_iconst C dd_M_join_232 rfl ?_
      refine sx_iadd C dd_M_join_233 ?_
      refine sx_imul C dd_M_join_234 ?_
      refine sx_iload C 4 dd_M_join_235 rfl ?_
      refine sx_iadd C dd_M_join_237 ?_
      refine sx_iald (N := 289) C 27 rfl rfl (by decide) dd_M_join_238 h (fun h => ?_)
      refine sx_iadd C dd_M_join_239 ?_
      refine sx_goto (tgt := 245) C dd_M_join_240 (by decide) ?_
      refine sx_less (lu := [(0, .ref (ad 19)), (3, .int (sx_i x3)), (4, .int (sx_i x4)), (5, .int (sx_i x5))]) C [1, 2, 3, 4] rfl ?_
      exact sm_M_join_245 C hZ hr hlk ht hlf hr104 hr115 h
set_option maxHeartbeats 4000000 in
set_option maxRecDepth 100000 in
theorem sm_M_join_188 (C : sx_C sr_lay sr_cl D cI cJ ad (sx_A sr_lay ad sz) 7 "StoneRingsModel" prog_7_method_21_code sr_ts p s m args c) (hZ : sx_Z (sx_A sr_lay ad sz) s s.heap) (hr : meth.sig.returnType = (some .int)) (hlk : meth.locks = false) (ht : ∀ x ∈ c.exceptionTable.toList, False) (hlf : l.stackTraces = false) {r104 : Int → Int → sx_M → Prop} {r115 : Int → Int → Int → sx_M → Prop} (hr104 : ∀ (x3 x4 : Int) (μ : sx_M), r104 x3 x4 μ → sx_V sr_lay sr_cl D cI cJ ad (sx_A sr_lay ad sz) 7 p l e rm_M_join s m args below meth c (vx_MQ below (sx_T (sx_QI sr_lay sr_cl D cI cJ ad Q sz)) (sx_XC sr_lay sr_cl D cI cJ ad (fun _ _ => False) sz) args s 0 0 (sx_A sr_lay ad sz)) 0 0 μ 104 [(0, .ref (ad 19)), (3, .int (sx_i x3)), (4, .int (sx_i x4))] []) (hr115 : ∀ (x3 x4 x5 : Int) (μ : sx_M), r115 x3 x4 x5 μ → sx_V sr_lay sr_cl D cI cJ ad (sx_A sr_lay ad sz) 7 p l e rm_M_join s m args below meth c (vx_MQ below (sx_T (sx_QI sr_lay sr_cl D cI cJ ad Q sz)) (sx_XC sr_lay sr_cl D cI cJ ad (fun _ _ => False) sz) args s 0 0 (sx_A sr_lay ad sz)) 0 0 μ 115 [(0, .ref (ad 19)), (3, .int (sx_i x3)), (4, .int (sx_i x4)), (5, .int (sx_i x5))] []) {x3 x4 x5 x6 : Int} {μ : sx_M} (h : sw_M_join_188 Q r104 r115 x3 x4 x5 x6 μ) : sx_V sr_lay sr_cl D cI cJ ad (sx_A sr_lay ad sz) 7 p l e rm_M_join s m args below meth c (vx_MQ below (sx_T (sx_QI sr_lay sr_cl D cI cJ ad Q sz)) (sx_XC sr_lay sr_cl D cI cJ ad (fun _ _ => False) sz) args s 0 0 (sx_A sr_lay ad sz)) 0 0 μ 188 [(0, .ref (ad 19)), (3, .int (sx_i x3)), (4, .int (sx_i x4)), (5, .int (sx_i x5)), (6, .int (sx_i x6))] [] := by
  unfold sw_M_join_188 at h
  refine sx_iload C 4 dd_M_join_188 rfl ?_
  refine sx_less (lu := [(0, .ref (ad 19)), (3, .int (sx_i x3)), (4, .int (sx_i x4)), (5, .int (sx_i x5))]) C [0, 1, 2, 3] rfl ?_
  exact sm_M_join_190 C hZ hr hlk ht hlf hr104 hr115 h
set_option maxHeartbeats 4000000 in
set_option maxRecDepth 100000 in
theorem sm_M_join_144 (C : sx_C sr_lay sr_cl D cI cJ ad (sx_A sr_lay ad sz) 7 "StoneRingsModel" prog_7_method_21_code sr_ts p s m args c) (hZ : sx_Z (sx_A sr_lay ad sz) s s.heap) (hr : meth.sig.returnType = (some .int)) (hlk : meth.locks = false) (ht : ∀ x ∈ c.exceptionTable.toList, False) (hlf : l.stackTraces = false) {r104 : Int → Int → sx_M → Prop} {r115 : Int → Int → Int → sx_M → Prop} (hr104 : ∀ (x3 x4 : Int) (μ : sx_M), r104 x3 x4 μ → sx_V sr_lay sr_cl D cI cJ ad (sx_A sr_lay ad sz) 7 p l e rm_M_join s m args below meth c (vx_MQ below (sx_T (sx_QI sr_lay sr_cl D cI cJ ad Q sz)) (sx_XC sr_lay sr_cl D cI cJ ad (fun _ _ => False) sz) args s 0 0 (sx_A sr_lay ad sz)) 0 0 μ 104 [(0, .ref (ad 19)), (3, .int (sx_i x3)), (4, .int (sx_i x4))] []) (hr115 : ∀ (x3 x4 x5 : Int) (μ : sx_M), r115 x3 x4 x5 μ → sx_V sr_lay sr_cl D cI cJ ad (sx_A sr_lay ad sz) 7 p l e rm_M_join s m args below meth c (vx_MQ below (sx_T (sx_QI sr_lay sr_cl D cI cJ ad Q sz)) (sx_XC sr_lay sr_cl D cI cJ ad (fun _ _ => False) sz) args s 0 0 (sx_A sr_lay ad sz)) 0 0 μ 115 [(0, .ref (ad 19)), (3, .int (sx_i x3)), (4, .int (sx_i x4)), (5, .int (sx_i x5))] []) {x3 x4 x5 y0 : Int} {μ : sx_M} (h : sw_M_join_144 Q r104 r115 x3 x4 x5 y0 μ) : sx_V sr_lay sr_cl D cI cJ ad (sx_A sr_lay ad sz) 7 p l e rm_M_join s m args below meth c (vx_MQ below (sx_T (sx_QI sr_lay sr_cl D cI cJ ad Q sz)) (sx_XC sr_lay sr_cl D cI cJ ad (fun _ _ => False) sz) args s 0 0 (sx_A sr_lay ad sz)) 0 0 μ 144 [(0, .ref (ad 19)), (3, .int (sx_i x3)), (4, .int (sx_i x4)), (5, .int (sx_i x5))] [.int (sx_i y0)] := by
  unfold sw_M_join_144 at h
  refine sx_istore (lu := [(6, .int (sx_i y0)), (0, .ref (ad 19)), (3, .int (sx_i x3)), (4, .int (sx_i x4)), (5, .int (sx_i x5))]) C dd_M_join_144 (by decide) rfl ?_
  refine sx_iload C 3 dd_M_join_146 rfl ?_
  refine sx_aload_n C 1 dd_M_join_148 rfl rfl ?_
  refine sx_geti (K := 12) (ref := "StoneRingsModel") C 19 12 rfl rfl rfl (rfl : sr_cl[5]? = some ("StoneRingsModel", tt_M, 21)) (by decide) in_M wd_604 rfl dd_M_join_149 ?_
  refine sx_icmp_ge (tgt := 188) C dd_M_join_152 (by decide) h (fun h => ?_) (fun h => ?_)
  · refine sx_less (lu := [(0, .ref (ad 19)), (3, .int (sx_i x3)), (4, .int (sx_i x4)), (5, .int (sx_i x5)), (6, .int (sx_i y0))]) C [1, 2, 3, 4, 0] rfl ?_
    exact sm_M_join_188 C hZ hr hlk ht hlf hr104 hr115 h
  · refine sx_iload C 4 dd_M_join_155 rfl ?_
    refine sx_aload_n C 1 dd_M_join_157 rfl rfl ?_
    refine sx_geti (K := 14) (ref := "StoneRingsModel") C 19 14 rfl rfl rfl (rfl : sr_cl[5]? = some ("StoneRingsModel", tt_M, 21)) (by decide) in_M wd_606 rfl dd_M_join_158 ?_
    refine sx_icmp_ge (tgt := 188) C dd_M_join_161 (by decide) h (fun h => ?_) (fun h => ?_)
    · refine sx_less (lu := [(0, .ref (ad 19)), (3, .int (sx_i x3)), (4, .int (sx_i x4)), (5, .int (sx_i x5)), (6, .int (sx_i y0))]) C [1, 2, 3, 4, 0] rfl ?_
      exact sm_M_join_188 C hZ hr hlk ht hlf hr104 hr115 h
    · refine sx_aload_n C 1 dd_M_join_164 rfl rfl ?_
      refine sx_iload C 3 dd_M_join_165 rfl ?_
      refine sx_iload C 4 dd_M_join_167 rfl ?_
      refine sx_invI (c0 := 19) C hZ [.int (sx_i x4), .int (sx_i x5)] (fun sz2 => sm_M_together hlf h sz2) (sx_cwV (n := 2) C.2.2.2.2.1 wd_735 wd_732 wd_734 wp_M_together wd_8 rfl rfl (by decide +kernel) ⟨by decide, by decide⟩) rfl (rfl : sr_cl[5]? = some ("StoneRingsModel", tt_M, 21)) rfl rfl (Nat.le_of_ble_eq_true rfl) dd_M_join_169 ⟨(Nat.le_of_ble_eq_true rfl), (Nat.le_of_ble_eq_true rfl)⟩ sx_noX (fun v1 μ1 h => ?_)
      refine sx_iload C 0 dd_M_join_172 rfl ?_
      refine sx_icmp_ge (tgt := 188) C dd_M_join_174 (by decide) h (fun h => ?_) (fun h => ?_)
      · refine sx_less (lu := [(0, .ref (ad 19)), (3, .int (sx_i x3)), (4, .int (sx_i x4)), (5, .int (sx_i x5)), (6, .int (sx_i y0))]) C [1, 2, 3, 4, 0] rfl ?_
        exact sm_M_join_188 C hZ hr hlk ht hlf hr104 hr115 h
      · refine sx_aload_n C 1 dd_M_join_177 rfl rfl ?_
        refine sx_iload C 3 dd_M_join_178 rfl ?_
        refine sx_iload C 4 dd_M_join_180 rfl ?_
        refine sx_invI (c0 := 19) C hZ [.int (sx_i x4), .int (sx_i x5)] (fun sz2 => sm_M_together hlf h sz2) (sx_cwV (n := 2) C.2.2.2.2.1 wd_735 wd_732 wd_734 wp_M_together wd_8 rfl rfl (by decide +kernel) ⟨by decide, by decide⟩) rfl (rfl : sr_cl[5]? = some ("StoneRingsModel", tt_M, 21)) rfl rfl (Nat.le_of_ble_eq_true rfl) dd_M_join_182 ⟨(Nat.le_of_ble_eq_true rfl), (Nat.le_of_ble_eq_true rfl)⟩ sx_noX (fun v2 μ2 h => ?_)
        refine sx_goto (tgt := 190) C dd_M_join_185 (by decide) ?_
        refine sx_less (lu := [(0, .ref (ad 19)), (3, .int (sx_i x3)), (4, .int (sx_i x4)), (5, .int (sx_i x5))]) C [1, 2, 3, 4] rfl ?_
        exact sm_M_join_190 C hZ hr hlk ht hlf hr104 hr115 h
set_option maxHeartbeats 4000000 in
set_option maxRecDepth 100000 in
theorem sm_M_join_142 (C : sx_C sr_lay sr_cl D cI cJ ad (sx_A sr_lay ad sz) 7 "StoneRingsModel" prog_7_method_21_code sr_ts p s m args c) (hZ : sx_Z (sx_A sr_lay ad sz) s s.heap) (hr : meth.sig.returnType = (some .int)) (hlk : meth.locks = false) (ht : ∀ x ∈ c.exceptionTable.toList, False) (hlf : l.stackTraces = false) {r104 : Int → Int → sx_M → Prop} {r115 : Int → Int → Int → sx_M → Prop} (hr104 : ∀ (x3 x4 : Int) (μ : sx_M), r104 x3 x4 μ → sx_V sr_lay sr_cl D cI cJ ad (sx_A sr_lay ad sz) 7 p l e rm_M_join s m args below meth c (vx_MQ below (sx_T (sx_QI sr_lay sr_cl D cI cJ ad Q sz)) (sx_XC sr_lay sr_cl D cI cJ ad (fun _ _ => False) sz) args s 0 0 (sx_A sr_lay ad sz)) 0 0 μ 104 [(0, .ref (ad 19)), (3, .int (sx_i x3)), (4, .int (sx_i x4))] []) (hr115 : ∀ (x3 x4 x5 : Int) (μ : sx_M), r115 x3 x4 x5 μ → sx_V sr_lay sr_cl D cI cJ ad (sx_A sr_lay ad sz) 7 p l e rm_M_join s m args below meth c (vx_MQ below (sx_T (sx_QI sr_lay sr_cl D cI cJ ad Q sz)) (sx_XC sr_lay sr_cl D cI cJ ad (fun _ _ => False) sz) args s 0 0 (sx_A sr_lay ad sz)) 0 0 μ 115 [(0, .ref (ad 19)), (3, .int (sx_i x3)), (4, .int (sx_i x4)), (5, .int (sx_i x5))] []) {x3 x4 x5 : Int} {μ : sx_M} (h : sw_M_join_142 Q r104 r115 x3 x4 x5 μ) : sx_V sr_lay sr_cl D cI cJ ad (sx_A sr_lay ad sz) 7 p l e rm_M_join s m args below meth c (vx_MQ below (sx_T (sx_QI sr_lay sr_cl D cI cJ ad Q sz)) (sx_XC sr_lay sr_cl D cI cJ ad (fun _ _ => False) sz) args s 0 0 (sx_A sr_lay ad sz)) 0 0 μ 142 [(0, .ref (ad 19)), (3, .int (sx_i x3)), (4, .int (sx_i x4)), (5, .int (sx_i x5))] [] := by
  unfold sw_M_join_142 at h
  refine sx_ldc (v := 1000000) C dd_M_join_142 (by rw [show sx_i 1000000 = 1000000 from by decide +kernel]; exact wd_731) ?_
  exact sm_M_join_144 C hZ hr hlk ht hlf hr104 hr115 h
set_option maxHeartbeats 4000000 in
set_option maxRecDepth 100000 in
theorem sm_M_join_115 (C : sx_C sr_lay sr_cl D cI cJ ad (sx_A sr_lay ad sz) 7 "StoneRingsModel" prog_7_method_21_code sr_ts p s m args c) (hZ : sx_Z (sx_A sr_lay ad sz) s s.heap) (hr : meth.sig.returnType = (some .int)) (hlk : meth.locks = false) (ht : ∀ x ∈ c.exceptionTable.toList, False) (hlf : l.stackTraces = false) {r104 : Int → Int → sx_M → Prop} (hr104 : ∀ (x3 x4 : Int) (μ : sx_M), r104 x3 x4 μ → sx_V sr_lay sr_cl D cI cJ ad (sx_A sr_lay ad sz) 7 p l e rm_M_join s m args below meth c (vx_MQ below (sx_T (sx_QI sr_lay sr_cl D cI cJ ad Q sz)) (sx_XC sr_lay sr_cl D cI cJ ad (fun _ _ => False) sz) args s 0 0 (sx_A sr_lay ad sz)) 0 0 μ 104 [(0, .ref (ad 19)), (3, .int (sx_i x3)), (4, .int (sx_i x4))] []) : ∀ (n : Nat) (x3 x4 x5 : Int) (μ : sx_M), sw_M_join_115 Q r104 n x3 x4 x5 μ → sx_V sr_lay sr_cl D cI cJ ad (sx_A sr_lay ad sz) 7 p l e rm_M_join s m args below meth c (vx_MQ below (sx_T (sx_QI sr_lay sr_cl D cI cJ ad Q sz)) (sx_XC sr_lay sr_cl D cI cJ ad (fun _ _ => False) sz) args s 0 0 (sx_A sr_lay ad sz)) 0 0 μ 115 [(0, .ref (ad 19)), (3, .int (sx_i x3)), (4, .int (sx_i x4)), (5, .int (sx_i x5))] [] := by
  intro n
  induction n with
  | zero =>
    intro x3 x4 x5 μ h
    exact h.elim
  | succ n ih =>
    intro x3 x4 x5 μ h
    have hr115 := ih
    unfold sw_M_join_115 at h
    refine sx_iload C 3 dd_M_join_115 rfl ?_
    refine sx_if_lt (tgt := 323) C dd_M_join_117 (by decide) h (fun h => ?_) (fun h => ?_)
    · refine sx_iinc (lu := [(4, .int (sx_i (x4 + (-1)))), (0, .ref (ad 19)), (3, .int (sx_i x3)), (5, .int (sx_i x5))]) C 2 dd_M_join_323 rfl (by decide) rfl ?_
      refine sx_goto (tgt := 104) C dd_M_join_326 (by decide) ?_
      refine sx_less (lu := [(0, .ref (ad 19)), (3, .int (sx_i x3)), (4, .int (sx_i (x4 + (-1))))]) C [1, 2, 0] rfl ?_
      exact hr104 _ _ _ h
    · refine sx_iload C 2 dd_M_join_120 rfl ?_
      refine sx_aload_n C 0 dd_M_join_122 rfl rfl ?_
      refine sx_geti (K := 12) (ref := "StoneRingsModel") C 19 12 rfl rfl rfl (rfl : sr_cl[5]? = some ("StoneRingsModel", tt_M, 21)) (by decide) in_M wd_604 rfl dd_M_join_123 ?_
      refine sx_icmp_ne (tgt := 142) C dd_M_join_126 (by decide) h (fun h => ?_) (fun h => ?_)
      · exact sm_M_join_142 C hZ hr hlk ht hlf hr104 hr115 h
      · refine sx_iload C 3 dd_M_join_129 rfl ?_
        refine sx_aload_n C 0 dd_M_join_131 rfl rfl ?_
        refine sx_geti (K := 14) (ref := "StoneRingsModel") C 19 14 rfl rfl rfl (rfl : sr_cl[5]? = some ("StoneRingsModel", tt_M, 21)) (by decide) in_M wd_606 rfl dd_M_join_132 ?_
        refine sx_icmp_ne (tgt := 142) C dd_M_join_135 (by decide) h (fun h => ?_) (fun h => ?_)
        · exact sm_M_join_142 C hZ hr hlk ht hlf hr104 hr115 h
        · refine sx_iconst C dd_M_join_138 rfl ?_
          refine sx_goto (tgt := 144) C dd_M_join_139 (by decide) ?_
          exact sm_M_join_144 C hZ hr hlk ht hlf hr104 hr115 h
set_option maxHeartbeats 4000000 in
set_option maxRecDepth 100000 in
theorem sm_M_join_465 (C : sx_C sr_lay sr_cl D cI cJ ad (sx_A sr_lay ad sz) 7 "StoneRingsModel" prog_7_method_21_code sr_ts p s m args c) (hZ : sx_Z (sx_A sr_lay ad sz) s s.heap) (hr : meth.sig.returnType = (some .int)) (hlk : meth.locks = false) (ht : ∀ x ∈ c.exceptionTable.toList, False) (hlf : l.stackTraces = false) {r335 : Int → Int → Int → sx_M → Prop} (hr335 : ∀ (x3 x4 x5 : Int) (μ : sx_M), r335 x3 x4 x5 μ → sx_V sr_lay sr_cl D cI cJ ad (sx_A sr_lay ad sz) 7 p l e rm_M_join s m args below meth c (vx_MQ below (sx_T (sx_QI sr_lay sr_cl D cI cJ ad Q sz)) (sx_XC sr_lay sr_cl D cI cJ ad (fun _ _ => False) sz) args s 0 0 (sx_A sr_lay ad sz)) 0 0 μ 335 [(0, .ref (ad 19)), (3, .int (sx_i x3)), (4, .int (sx_i x4)), (5, .int (sx_i x5))] []) {x3 x4 x5 : Int} {μ : sx_M} (h : sw_M_join_465 Q r335 x3 x4 x5 μ) : sx_V sr_lay sr_cl D cI cJ ad (sx_A sr_lay ad sz) 7 p l e rm_M_join s m args below meth c (vx_MQ below (sx_T (sx_QI sr_lay sr_cl D cI cJ ad Q sz)) (sx_XC sr_lay sr_cl D cI cJ ad (fun _ _ => False) sz) args s 0 0 (sx_A sr_lay ad sz)) 0 0 μ 465 [(0, .ref (ad 19)), (3, .int (sx_i x3)), (4, .int (sx_i x4)), (5, .int (sx_i x5))] [] := by
  unfold sw_M_join_465 at h
  refine sx_goto (tgt := 335) C dd_M_join_465 (by decide) ?_
  exact hr335 _ _ _ _ h
set_option maxHeartbeats 4000000 in
set_option maxRecDepth 100000 in
theorem sm_M_join_462 (C : sx_C sr_lay sr_cl D cI cJ ad (sx_A sr_lay ad sz) 7 "StoneRingsModel" prog_7_method_21_code sr_ts p s m args c) (hZ : sx_Z (sx_A sr_lay ad sz) s s.heap) (hr : meth.sig.returnType = (some .int)) (hlk : meth.locks = false) (ht : ∀ x ∈ c.exceptionTable.toList, False) (hlf : l.stackTraces = false) {r335 : Int → Int → Int → sx_M → Prop} (hr335 : ∀ (x3 x4 x5 : Int) (μ : sx_M), r335 x3 x4 x5 μ → sx_V sr_lay sr_cl D cI cJ ad (sx_A sr_lay ad sz) 7 p l e rm_M_join s m args below meth c (vx_MQ below (sx_T (sx_QI sr_lay sr_cl D cI cJ ad Q sz)) (sx_XC sr_lay sr_cl D cI cJ ad (fun _ _ => False) sz) args s 0 0 (sx_A sr_lay ad sz)) 0 0 μ 335 [(0, .ref (ad 19)), (3, .int (sx_i x3)), (4, .int (sx_i x4)), (5, .int (sx_i x5))] []) {x3 x4 x5 : Int} {μ : sx_M} (h : sw_M_join_462 Q r335 x3 x4 x5 μ) : sx_V sr_lay sr_cl D cI cJ ad (sx_A sr_lay ad sz) 7 p l e rm_M_join s m args below meth c (vx_MQ below (sx_T (sx_QI sr_lay sr_cl D cI cJ ad Q sz)) (sx_XC sr_lay sr_cl D cI cJ ad (fun _ _ => False) sz) args s 0 0 (sx_A sr_lay ad sz)) 0 0 μ 462 [(0, .ref (ad 19)), (3, .int (sx_i x3)), (4, .int (sx_i x4)), (5, .int (sx_i x5))] [] := by
  unfold sw_M_join_462 at h
  refine sx_iinc (lu := [(5, .int (sx_i (x5 + 1))), (0, .ref (ad 19)), (3, .int (sx_i x3)), (4, .int (sx_i x4))]) C 3 dd_M_join_462 rfl (by decide) rfl ?_
  refine sx_less (lu := [(0, .ref (ad 19)), (3, .int (sx_i x3)), (4, .int (sx_i x4)), (5, .int (sx_i (x5 + 1)))]) C [1, 2, 3, 0] rfl ?_
  exact sm_M_join_465 C hZ hr hlk ht hlf hr335 h
set_option maxHeartbeats 4000000 in
set_option maxRecDepth 100000 in
theorem sm_M_join_417 (C : sx_C sr_lay sr_cl D cI cJ ad (sx_A sr_lay ad sz) 7 "StoneRingsModel" prog_7_method_21_code sr_ts p s m args c) (hZ : sx_Z (sx_A sr_lay ad sz) s s.heap) (hr : meth.sig.returnType = (some .int)) (hlk : meth.locks = false) (ht : ∀ x ∈ c.exceptionTable.toList, False) (hlf : l.stackTraces = false) {r335 : Int → Int → Int → sx_M → Prop} (hr335 : ∀ (x3 x4 x5 : Int) (μ : sx_M), r335 x3 x4 x5 μ → sx_V sr_lay sr_cl D cI cJ ad (sx_A sr_lay ad sz) 7 p l e rm_M_join s m args below meth c (vx_MQ below (sx_T (sx_QI sr_lay sr_cl D cI cJ ad Q sz)) (sx_XC sr_lay sr_cl D cI cJ ad (fun _ _ => False) sz) args s 0 0 (sx_A sr_lay ad sz)) 0 0 μ 335 [(0, .ref (ad 19)), (3, .int (sx_i x3)), (4, .int (sx_i x4)), (5, .int (sx_i x5))] []) {x3 x4 x5 x6 : Int} {μ : sx_M} (h : sw_M_join_417 Q r335 x3 x4 x5 x6 μ) : sx_V sr_lay sr_cl D cI cJ ad (sx_A sr_lay ad sz) 7 p l e rm_M_join s m args below meth c (vx_MQ below (sx_T (sx_QI sr_lay sr_cl D cI cJ ad Q sz)) (sx_XC sr_lay sr_cl D cI cJ ad (fun _ _ => False) sz) args s 0 0 (sx_A sr_lay ad sz)) 0 0 μ 417 [(0, .ref (ad 19)), (3, .int (sx_i x3)), (4, .int (sx_i x4)), (5, .int (sx_i x5)), (6, .int (sx_i x6))] [] := by
  unfold sw_M_join_417 at h
  refine sx_iload C 2 dd_M_join_417 rfl ?_
  refine sx_aload_n C 0 dd_M_join_419 rfl rfl ?_
  refine sx_geti (K := 12) (ref := "StoneRingsModel") C 19 12 rfl rfl rfl (rfl : sr_cl[5]? = some ("StoneRingsModel", tt_M, 21)) (by decide) in_M wd_604 rfl dd_M_join_420 ?_
  refine sx_icmp_ge (tgt := 462) C dd_M_join_423 (by decide) h (fun h => ?_) (fun h => ?_)
  · refine sx_less (lu := [(0, .ref (ad 19)), (3, .int (sx_i x3)), (4, .int (sx_i x4)), (5, .int (sx_i x5))]) C [0, 1, 2, 3] rfl ?_
    exact sm_M_join_462 C hZ hr hlk ht hlf hr335 h
  · refine sx_iload_n C 1 dd_M_join_426 rfl rfl ?_
    refine sx_aload_n C 0 dd_M_join_427 rfl rfl ?_
    refine sx_getr (ref := "StoneRingsModel") C 19 16 rfl rfl (rfl : sr_cl[5]? = some ("StoneRingsModel", tt_M, 21)) (by decide) in_M wd_608 rfl dd_M_join_428 ?_
    refine sx_bipush (v := 17) C dd_M_join_431 (by decide +kernel) ?_
    refine sx_iload C 2 dd_M_join_433 rfl ?_
    refine sx_iconst C dd_M_join_435 rfl ?_
    refine sx_iadd C dd_M_join_436 ?_
    refine sx_imul C dd_M_join_437 ?_
    refine sx_iload C 3 dd_M_join_438 rfl ?_
    refine sx_iadd C dd_M_join_440 ?_
    refine sx_iald (N := 289) C 27 rfl rfl (by decide) dd_M_join_441 h (fun h => ?_)
    refine sx_iadd C dd_M_join_442 ?_
    refine sx_iload C 4 dd_M_join_443 rfl ?_
    refine sx_icmp_ne (tgt := 462) C dd_M_join_445 (by decide) h (fun h => ?_) (fun h => ?_)
    · refine sx_less (lu := [(0, .ref (ad 19)), (3, .int (sx_i x3)), (4, .int (sx_i x4)), (5, .int (sx_i x5))]) C [0, 1, 2, 3] rfl ?_
      exact sm_M_join_462 C hZ hr hlk ht hlf hr335 h
    · refine sx_aload_n C 0 dd_M_join_448 rfl rfl ?_
      refine sx_getr (ref := "StoneRingsModel") C 19 19 rfl rfl (rfl : sr_cl[5]? = some ("StoneRingsModel", tt_M, 21)) (by decide) in_M wd_611 rfl dd_M_join_449 ?_
      refine sx_iload C 2 dd_M_join_452 rfl ?_
      refine sx_iconst C dd_M_join_454 rfl ?_
      refine sx_iast (N := 16) C 28 rfl rfl (by decide) dd_M_join_455 h (fun h => ?_)
      refine sx_iinc (lu := [(4, .int (sx_i (x4 + 1))), (0, .ref (ad 19)), (3, .int (sx_i x3)), (5, .int (sx_i x5)), (6, .int (sx_i x6))]) C 2 dd_M_join_456 rfl (by decide) rfl ?_
      refine sx_goto (tgt := 465) C dd_M_join_459 (by decide) ?_
      refine sx_less (lu := [(0, .ref (ad 19)), (3, .int (sx_i x3)), (4, .int (sx_i (x4 + 1))), (5, .int (sx_i x5))]) C [1, 2, 0, 3] rfl ?_
      exact sm_M_join_465 C hZ hr hlk ht hlf hr335 h
set_option maxHeartbeats 4000000 in
set_option maxRecDepth 100000 in
theorem sm_M_join_353 (C : sx_C sr_lay sr_cl D cI cJ ad (sx_A sr_lay ad sz) 7 "StoneRingsModel" prog_7_method_21_code sr_ts p s m args c) (hZ : sx_Z (sx_A sr_lay ad sz) s s.heap) (hr : meth.sig.returnType = (some .int)) (hlk : meth.locks = false) (ht : ∀ x ∈ c.exceptionTable.toList, False) (hlf : l.stackTraces = false) {r335 : Int → Int → Int → sx_M → Prop} (hr335 : ∀ (x3 x4 x5 : Int) (μ : sx_M), r335 x3 x4 x5 μ → sx_V sr_lay sr_cl D cI cJ ad (sx_A sr_lay ad sz) 7 p l e rm_M_join s m args below meth c (vx_MQ below (sx_T (sx_QI sr_lay sr_cl D cI cJ ad Q sz)) (sx_XC sr_lay sr_cl D cI cJ ad (fun _ _ => False) sz) args s 0 0 (sx_A sr_lay ad sz)) 0 0 μ 335 [(0, .ref (ad 19)), (3, .int (sx_i x3)), (4, .int (sx_i x4)), (5, .int (sx_i x5))] []) {x3 x4 x5 : Int} {μ : sx_M} (h : sw_M_join_353 Q r335 x3 x4 x5 μ) : sx_V sr_lay sr_cl D cI cJ ad (sx_A sr_lay ad sz) 7 p l e rm_M_join s m args below meth c (vx_MQ below (sx_T (sx_QI sr_lay sr_cl D cI cJ ad Q sz)) (sx_XC sr_lay sr_cl D cI cJ ad (fun _ _ => False) sz) args s 0 0 (sx_A sr_lay ad sz)) 0 0 μ 353 [(0, .ref (ad 19)), (3, .int (sx_i x3)), (4, .int (sx_i x4)), (5, .int (sx_i x5))] [] := by
  unfold sw_M_join_353 at h
  refine sx_aload_n C 0 dd_M_join_353 rfl rfl ?_
  refine sx_getr (ref := "StoneRingsModel") C 19 16 rfl rfl (rfl : sr_cl[5]? = some ("StoneRingsModel", tt_M, 21)) (by decide) in_M wd_608 rfl dd_M_join_354 ?_
  refine sx_bipush (v := 17) C dd_M_join_357 (by decide +kernel) ?_
  refine sx_iload C 2 dd_M_join_359 rfl ?_
  refine sx_imul C dd_M_join_361 ?_
  refine sx_iload C 3 dd_M_join_362 rfl ?_
  refine sx_iadd C dd_M_join_364 ?_
  refine sx_iald (N := 289) C 27 rfl rfl (by decide) dd_M_join_365 h (fun h => ?_)
  refine sx_istore (lu := [(6, .int (sx_i (μ 27 ((17 * x4) + x5)))), (0, .ref (ad 19)), (3, .int (sx_i x3)), (4, .int (sx_i x4)), (5, .int (sx_i x5))]) C dd_M_join_366 (by decide) rfl ?_
  refine sx_iload C 3 dd_M_join_368 rfl ?_
  refine sx_aload_n C 1 dd_M_join_370 rfl rfl ?_
  refine sx_geti (K := 12) (ref := "StoneRingsModel") C 19 12 rfl rfl rfl (rfl : sr_cl[5]? = some ("StoneRingsModel", tt_M, 21)) (by decide) in_M wd_604 rfl dd_M_join_371 ?_
  refine sx_icmp_ge (tgt := 417) C dd_M_join_374 (by decide) h (fun h => ?_) (fun h => ?_)
  · refine sx_less (lu := [(0, .ref (ad 19)), (3, .int (sx_i x3)), (4, .int (sx_i x4)), (5, .int (sx_i x5)), (6, .int (sx_i (μ 27 ((17 * x4) + x5))))]) C [1, 2, 3, 4, 0] rfl ?_
    exact sm_M_join_417 C hZ hr hlk ht hlf hr335 h
  · refine sx_iload C 4 dd_M_join_377 rfl ?_
    refine sx_aload_n C 1 dd_M_join_379 rfl rfl ?_
    refine sx_geti (K := 14) (ref := "StoneRingsModel") C 19 14 rfl rfl rfl (rfl : sr_cl[5]? = some ("StoneRingsModel", tt_M, 21)) (by decide) in_M wd_606 rfl dd_M_join_380 ?_
    refine sx_icmp_ge (tgt := 417) C dd_M_join_383 (by decide) h (fun h => ?_) (fun h => ?_)
    · refine sx_less (lu := [(0, .ref (ad 19)), (3, .int (sx_i x3)), (4, .int (sx_i x4)), (5, .int (sx_i x5)), (6, .int (sx_i (μ 27 ((17 * x4) + x5))))]) C [1, 2, 3, 4, 0] rfl ?_
      exact sm_M_join_417 C hZ hr hlk ht hlf hr335 h
    · refine sx_aload_n C 1 dd_M_join_386 rfl rfl ?_
      refine sx_iload C 3 dd_M_join_387 rfl ?_
      refine sx_iload C 4 dd_M_join_389 rfl ?_
      refine sx_invI (c0 := 19) C hZ [.int (sx_i x4), .int (sx_i x5)] (fun sz2 => sm_M_together hlf h sz2) (sx_cwV (n := 2) C.2.2.2.2.1 wd_735 wd_732 wd_734 wp_M_together wd_8 rfl rfl (by decide +kernel) ⟨by decide, by decide⟩) rfl (rfl : sr_cl[5]? = some ("StoneRingsModel", tt_M, 21)) rfl rfl (Nat.le_of_ble_eq_true rfl) dd_M_join_391 ⟨(Nat.le_of_ble_eq_true rfl), (Nat.le_of_ble_eq_true rfl)⟩ sx_noX (fun v1 μ1 h => ?_)
      refine sx_iload C 0 dd_M_join_394 rfl ?_
      refine sx_icmp_ne (tgt := 417) C dd_M_join_396 (by decide) h (fun h => ?_) (fun h => ?_)
      · refine sx_less (lu := [(0, .ref (ad 19)), (3, .int (sx_i x3)), (4, .int (sx_i x4)), (5, .int (sx_i x5)), (6, .int (sx_i (μ 27 ((17 * x4) + x5))))]) C [1, 2, 3, 4, 0] rfl ?_
        exact sm_M_join_417 C hZ hr hlk ht hlf hr335 h
      · refine sx_aload_n C 1 dd_M_join_399 rfl rfl ?_
        refine sx_getr (ref := "StoneRingsModel") C 19 19 rfl rfl (rfl : sr_cl[5]? = some ("StoneRingsModel", tt_M, 21)) (by decide) in_M wd_611 rfl dd_M_join_400 ?_
        refine sx_iload C 3 dd_M_join_403 rfl ?_
        refine sx_iload C 4 dd_M_join_405 rfl ?_
        refine sx_iast (N := 16) C 28 rfl rfl (by decide) dd_M_join_407 h (fun h => ?_)
        refine sx_iinc (lu := [(4, .int (sx_i (x4 + 1))), (6, .int (sx_i (μ 27 ((17 * x4) + x5)))), (0, .ref (ad 19)), (3, .int (sx_i x3)), (5, .int (sx_i x5))]) C 3 dd_M_join_408 rfl (by decide) rfl ?_
        refine sx_iinc (lu := [(5, .int (sx_i (x5 + 1))), (4, .int (sx_i (x4 + 1))), (6, .int (sx_i (μ 27 ((17 * x4) + x5)))), (0, .ref (ad 19)), (3, .int (sx_i x3))]) C 4 dd_M_join_411 rfl (by decide) rfl ?_
        refine sx_goto (tgt := 465) C dd_M_join_414 (by decide) ?_
        refine sx_less (lu := [(0, .ref (ad 19)), (3, .int (sx_i x3)), (4, .int (sx_i (x4 + 1))), (5, .int (sx_i (x5 + 1)))]) C [3, 4, 1, 0] rfl ?_
        exact sm_M_join_465 C hZ hr hlk ht hlf hr335 h
set_option maxHeartbeats 4000000 in
set_option maxRecDepth 100000 in
theorem sm_M_join_335 (C : sx_C sr_lay sr_cl D cI cJ ad (sx_A sr_lay ad sz) 7 "StoneRingsModel" prog_7_method_21_code sr_ts p s m args c) (hZ : sx_Z (sx_A sr_lay ad sz) s s.heap) (hr : meth.sig.returnType = (some .int)) (hlk : meth.locks = false) (ht : ∀ x ∈ c.exceptionTable.toList, False) (hlf : l.stackTraces = false) : ∀ (n : Nat) (x3 x4 x5 : Int) (μ : sx_M), sw_M_join_335 Q n x3 x4 x5 μ → sx_V sr_lay sr_cl D cI cJ ad (sx_A sr_lay ad sz) 7 p l e rm_M_join s m args below meth c (vx_MQ below (sx_T (sx_QI sr_lay sr_cl D cI cJ ad Q sz)) (sx_XC sr_lay sr_cl D cI cJ ad (fun _ _ => False) sz) args s 0 0 (sx_A sr_lay ad sz)) 0 0 μ 335 [(0, .ref (ad 19)), (3, .int (sx_i x3)), (4, .int (sx_i x4)), (5, .int (sx_i x5))] [] := by
  intro n
  induction n with
  | zero =>
    intro x3 x4 x5 μ h
    exact h.elim
  | succ n ih =>
    intro x3 x4 x5 μ h
    have hr335 := ih
    unfold sw_M_join_335 at h
    refine sx_iload C 2 dd_M_join_335 rfl ?_
    refine sx_aload_n C 0 dd_M_join_337 rfl rfl ?_
    refine sx_geti (K := 12) (ref := "StoneRingsModel") C 19 12 rfl rfl rfl (rfl : sr_cl[5]? = some ("StoneRingsModel", tt_M, 21)) (by decide) in_M wd_604 rfl dd_M_join_338 ?_
    refine sx_icmp_lt (tgt := 353) C dd_M_join_341 (by decide) h (fun h => ?_) (fun h => ?_)
    · exact sm_M_join_353 C hZ hr hlk ht hlf hr335 h
    · refine sx_iload C 3 dd_M_join_344 rfl ?_
      refine sx_aload_n C 0 dd_M_join_346 rfl rfl ?_
      refine sx_geti (K := 14) (ref := "StoneRingsModel") C 19 14 rfl rfl rfl (rfl : sr_cl[5]? = some ("StoneRingsModel", tt_M, 21)) (by decide) in_M wd_606 rfl dd_M_join_347 ?_
      refine sx_icmp_ge (tgt := 468) C dd_M_join_350 (by decide) h (fun h => ?_) (fun h => ?_)
      · refine sx_aload_n C 0 dd_M_join_468 rfl rfl ?_
        refine sx_iconst C dd_M_join_469 rfl ?_
        refine sx_puti (K := 17) (ref := "StoneRingsModel") (ty := .boolean) C 19 17 rfl rfl rfl (rfl : sr_cl[5]? = some ("StoneRingsModel", tt_M, 21)) (by decide) in_M ty_M tyk_M nm_M wd_609 rfl rfl (by decide +kernel) (sx_bool (Or.inr rfl)).1 (sx_bool (Or.inr rfl)).2 dd_M_join_470 ?_
        refine sx_aload_n C 0 dd_M_join_473 rfl rfl ?_
        refine sx_aload_n C 0 dd_M_join_474 rfl rfl ?_
        refine sx_geti (K := 12) (ref := "StoneRingsModel") C 19 12 rfl rfl rfl (rfl : sr_cl[5]? = some ("StoneRingsModel", tt_M, 21)) (by decide) in_M wd_604 rfl dd_M_join_475 ?_
        refine sx_puti (K := 18) (ref := "StoneRingsModel") (ty := .int) C 19 18 rfl rfl rfl (rfl : sr_cl[5]? = some ("StoneRingsModel", tt_M, 21)) (by decide) in_M ty_M tyk_M nm_M wd_610 rfl rfl (by decide +kernel) rfl rfl dd_M_join_478 ?_
        refine sx_aload_n C 0 dd_M_join_481 rfl rfl ?_
        refine sx_getr (ref := "StoneRingsModel") C 19 16 rfl rfl (rfl : sr_cl[5]? = some ("StoneRingsModel", tt_M, 21)) (by decide) in_M wd_608 rfl dd_M_join_482 ?_
        refine sx_iconst C dd_M_join_485 rfl ?_
        refine sx_iald (N := 289) C 27 rfl rfl (by decide) dd_M_join_486 h (fun h => ?_)
        exact sx_iret C hr hlk dd_M_join_487 h
      · exact sm_M_join_353 C hZ hr hlk ht hlf hr335 h
set_option maxHeartbeats 4000000 in
set_option maxRecDepth 100000 in
theorem sm_M_join_104 (C : sx_C sr_lay sr_cl D cI cJ ad (sx_A sr_lay ad sz) 7 "StoneRingsModel" prog_7_method_21_code sr_ts p s m args c) (hZ : sx_Z (sx_A sr_lay ad sz) s s.heap) (hr : meth.sig.returnType = (some .int)) (hlk : meth.locks = false) (ht : ∀ x ∈ c.exceptionTable.toList, False) (hlf : l.stackTraces = false) : ∀ (n : Nat) (x3 x4 : Int) (μ : sx_M), sw_M_join_104 Q n x3 x4 μ → sx_V sr_lay sr_cl D cI cJ ad (sx_A sr_lay ad sz) 7 p l e rm_M_join s m args below meth c (vx_MQ below (sx_T (sx_QI sr_lay sr_cl D cI cJ ad Q sz)) (sx_XC sr_lay sr_cl D cI cJ ad (fun _ _ => False) sz) args s 0 0 (sx_A sr_lay ad sz)) 0 0 μ 104 [(0, .ref (ad 19)), (3, .int (sx_i x3)), (4, .int (sx_i x4))] [] := by
  intro n
  induction n with
  | zero =>
    intro x3 x4 μ h
    exact h.elim
  | succ n ih =>
    intro x3 x4 μ h
    have hr104 := ih
    unfold sw_M_join_104 at h
    refine sx_iload C 2 dd_M_join_104 rfl ?_
    refine sx_if_lt (tgt := 329) C dd_M_join_106 (by decide) h (fun h => ?_) (fun h => ?_)
    · refine sx_iconst C dd_M_join_329 rfl ?_
      refine sx_istore (lu := [(4, .int (sx_i 0)), (0, .ref (ad 19)), (3, .int (sx_i x3))]) C dd_M_join_330 (by decide) rfl ?_
      refine sx_iconst C dd_M_join_332 rfl ?_
      refine sx_istore (lu := [(5, .int (sx_i 0)), (4, .int (sx_i 0)), (0, .ref (ad 19)), (3, .int (sx_i x3))]) C dd_M_join_333 (by decide) rfl ?_
      refine sx_less (lu := [(0, .ref (ad 19)), (3, .int (sx_i x3)), (4, .int (sx_i 0)), (5, .int (sx_i 0))]) C [2, 3, 1, 0] rfl ?_
      exact sm_M_join_335 C hZ hr hlk ht hlf 600 _ _ _ _ h
    · refine sx_aload_n C 0 dd_M_join_109 rfl rfl ?_
      refine sx_geti (K := 14) (ref := "StoneRingsModel") C 19 14 rfl rfl rfl (rfl : sr_cl[5]? = some ("StoneRingsModel", tt_M, 21)) (by decide) in_M wd_606 rfl dd_M_join_110 ?_
      refine sx_istore (lu := [(5, .int (sx_i (μ 19 14))), (0, .ref (ad 19)), (3, .int (sx_i x3)), (4, .int (sx_i x4))]) C dd_M_join_113 (by decide) rfl ?_
      refine sx_less (lu := [(0, .ref (ad 19)), (3, .int (sx_i x3)), (4, .int (sx_i x4)), (5, .int (sx_i (μ 19 14)))]) C [1, 2, 3, 0] rfl ?_
      exact sm_M_join_115 C hZ hr hlk ht hlf hr104 600 _ _ _ _ h
set_option maxHeartbeats 4000000 in
set_option maxRecDepth 100000 in
theorem sm_M_join_64 (C : sx_C sr_lay sr_cl D cI cJ ad (sx_A sr_lay ad sz) 7 "StoneRingsModel" prog_7_method_21_code sr_ts p s m args c) (hZ : sx_Z (sx_A sr_lay ad sz) s s.heap) (hr : meth.sig.returnType = (some .int)) (hlk : meth.locks = false) (ht : ∀ x ∈ c.exceptionTable.toList, False) (hlf : l.stackTraces = false) : ∀ (n : Nat) (x1 x3 x4 : Int) (μ : sx_M), sw_M_join_64 Q n x1 x3 x4 μ → sx_V sr_lay sr_cl D cI cJ ad (sx_A sr_lay ad sz) 7 p l e rm_M_join s m args below meth c (vx_MQ below (sx_T (sx_QI sr_lay sr_cl D cI cJ ad Q sz)) (sx_XC sr_lay sr_cl D cI cJ ad (fun _ _ => False) sz) args s 0 0 (sx_A sr_lay ad sz)) 0 0 μ 64 [(0, .ref (ad 19)), (1, .int (sx_i x1)), (3, .int (sx_i x3)), (4, .int (sx_i x4))] [] := by
  intro n
  induction n with
  | zero =>
    intro x1 x3 x4 μ h
    exact h.elim
  | succ n ih =>
    intro x1 x3 x4 μ h
    have hr64 := ih
    unfold sw_M_join_64 at h
    refine sx_iload C 3 dd_M_join_64 rfl ?_
    refine sx_aload_n C 0 dd_M_join_66 rfl rfl ?_
    refine sx_geti (K := 14) (ref := "StoneRingsModel") C 19 14 rfl rfl rfl (rfl : sr_cl[5]? = some ("StoneRingsModel", tt_M, 21)) (by decide) in_M wd_606 rfl dd_M_join_67 ?_
    refine sx_icmp_ge (tgt := 93) C dd_M_join_70 (by decide) h (fun h => ?_) (fun h => ?_)
    · refine sx_aload_n C 0 dd_M_join_93 rfl rfl ?_
      refine sx_iload_n C 1 dd_M_join_94 rfl rfl ?_
      refine sx_invV (c0 := 19) C hZ [.int (sx_i x1)] (fun sz2 => sm_M_lay hlf h sz2) (sx_cwV (n := 1) C.2.2.2.2.1 wd_698 wd_695 wd_697 wp_M_lay wd_8 rfl rfl (by decide +kernel) ⟨by decide, by decide⟩) rfl (rfl : sr_cl[5]? = some ("StoneRingsModel", tt_M, 21)) rfl rfl (Nat.le_of_ble_eq_true rfl) dd_M_join_95 ⟨(Nat.le_of_ble_eq_true rfl), (Nat.le_of_ble_eq_true rfl)⟩ sx_noX (fun v1 μ1 h => ?_)
      refine sx_aload_n C 0 dd_M_join_98 rfl rfl ?_
      refine sx_geti (K := 12) (ref := "StoneRingsModel") C 19 12 rfl rfl rfl (rfl : sr_cl[5]? = some ("StoneRingsModel", tt_M, 21)) (by decide) in_M wd_604 rfl dd_M_join_99 ?_
      refine sx_istore (lu := [(4, .int (sx_i (μ1 19 12))), (0, .ref (ad 19)), (1, .int (sx_i x1)), (3, .int (sx_i x3))]) C dd_M_join_102 (by decide) rfl ?_
      refine sx_less (lu := [(0, .ref (ad 19)), (3, .int (sx_i x3)), (4, .int (sx_i (μ1 19 12)))]) C [1, 3, 0] rfl ?_
      exact sm_M_join_104 C hZ hr hlk ht hlf 600 _ _ _ h
    · refine sx_aload_n C 0 dd_M_join_73 rfl rfl ?_
      refine sx_getr (ref := "StoneRingsModel") C 19 15 rfl rfl (rfl : sr_cl[5]? = some ("StoneRingsModel", tt_M, 21)) (by decide) in_M wd_607 rfl dd_M_join_74 ?_
      refine sx_iload C 3 dd_M_join_77 rfl ?_
      refine sx_aload_n C 0 dd_M_join_79 rfl rfl ?_
      refine sx_getr (ref := "StoneRingsModel") C 19 13 rfl rfl (rfl : sr_cl[5]? = some ("StoneRingsModel", tt_M, 21)) (by decide) in_M wd_605 rfl dd_M_join_80 ?_
      refine sx_iload C 3 dd_M_join_83 rfl ?_
      refine sx_iald (N := 16) C 25 rfl rfl (by decide) dd_M_join_85 h (fun h => ?_)
      refine sx_iast (N := 16) C 26 rfl rfl (by decide) dd_M_join_86 h (fun h => ?_)
      refine sx_iinc (lu := [(4, .int (sx_i (x4 + 1))), (0, .ref (ad 19)), (1, .int (sx_i x1)), (3, .int (sx_i x3))]) C 3 dd_M_join_87 rfl (by decide) rfl ?_
      refine sx_goto (tgt := 64) C dd_M_join_90 (by decide) ?_
      refine sx_less (lu := [(0, .ref (ad 19)), (1, .int (sx_i x1)), (3, .int (sx_i x3)), (4, .int (sx_i (x4 + 1)))]) C [1, 2, 3, 0] rfl ?_
      exact hr64 _ _ _ _ h
set_option maxHeartbeats 4000000 in
set_option maxRecDepth 100000 in
theorem sm_M_join_36 (C : sx_C sr_lay sr_cl D cI cJ ad (sx_A sr_lay ad sz) 7 "StoneRingsModel" prog_7_method_21_code sr_ts p s m args c) (hZ : sx_Z (sx_A sr_lay ad sz) s s.heap) (hr : meth.sig.returnType = (some .int)) (hlk : meth.locks = false) (ht : ∀ x ∈ c.exceptionTable.toList, False) (hlf : l.stackTraces = false) {x1 x2 x3 y1 : Int} {μ : sx_M} (h : sw_M_join_36 Q x1 x2 x3 y1 μ) : sx_V sr_lay sr_cl D cI cJ ad (sx_A sr_lay ad sz) 7 p l e rm_M_join s m args below meth c (vx_MQ below (sx_T (sx_QI sr_lay sr_cl D cI cJ ad Q sz)) (sx_XC sr_lay sr_cl D cI cJ ad (fun _ _ => False) sz) args s 0 0 (sx_A sr_lay ad sz)) 0 0 μ 36 [(0, .ref (ad 19)), (1, .int (sx_i x1)), (2, .int (sx_i x2)), (3, .int (sx_i x3))] [.int (sx_i y1), .ref (ad 19)] := by
  unfold sw_M_join_36 at h
  refine sx_puti (K := 0) (ref := "StoneRingsModel") (ty := .int) C 19 0 rfl rfl rfl (rfl : sr_cl[5]? = some ("StoneRingsModel", tt_M, 21)) (by decide) in_M ty_M tyk_M nm_M wd_592 rfl rfl (by decide +kernel) rfl rfl dd_M_join_36 ?_
  refine sx_aload_n C 0 dd_M_join_39 rfl rfl ?_
  refine sx_geti (K := 0) (ref := "StoneRingsModel") C 19 0 rfl rfl rfl (rfl : sr_cl[5]? = some ("StoneRingsModel", tt_M, 21)) (by decide) in_M wd_592 rfl dd_M_join_40 ?_
  refine sx_if_le (tgt := 48) C dd_M_join_43 (by decide) h (fun h => ?_) (fun h => ?_)
  · refine sx_aload_n C 0 dd_M_join_48 rfl rfl ?_
    refine sx_iload_n C 2 dd_M_join_49 rfl rfl ?_
    refine sx_invV (c0 := 19) C hZ [.int (sx_i x2)] (fun sz2 => sm_M_lay hlf h sz2) (sx_cwV (n := 1) C.2.2.2.2.1 wd_698 wd_695 wd_697 wp_M_lay wd_8 rfl rfl (by decide +kernel) ⟨by decide, by decide⟩) rfl (rfl : sr_cl[5]? = some ("StoneRingsModel", tt_M, 21)) rfl rfl (Nat.le_of_ble_eq_true rfl) dd_M_join_50 ⟨(Nat.le_of_ble_eq_true rfl), (Nat.le_of_ble_eq_true rfl)⟩ sx_noX (fun v1 μ1 h => ?_)
    refine sx_aload_n C 0 dd_M_join_53 rfl rfl ?_
    refine sx_aload_n C 0 dd_M_join_54 rfl rfl ?_
    refine sx_geti (K := 12) (ref := "StoneRingsModel") C 19 12 rfl rfl rfl (rfl : sr_cl[5]? = some ("StoneRingsModel", tt_M, 21)) (by decide) in_M wd_604 rfl dd_M_join_55 ?_
    refine sx_puti (K := 14) (ref := "StoneRingsModel") (ty := .int) C 19 14 rfl rfl rfl (rfl : sr_cl[5]? = some ("StoneRingsModel", tt_M, 21)) (by decide) in_M ty_M tyk_M nm_M wd_606 rfl rfl (by decide +kernel) rfl rfl dd_M_join_58 ?_
    refine sx_iconst C dd_M_join_61 rfl ?_
    refine sx_istore (lu := [(4, .int (sx_i 0)), (0, .ref (ad 19)), (1, .int (sx_i x1)), (2, .int (sx_i x2)), (3, .int (sx_i x3))]) C dd_M_join_62 (by decide) rfl ?_
    refine sx_less (lu := [(0, .ref (ad 19)), (1, .int (sx_i x1)), (3, .int (sx_i x3)), (4, .int (sx_i 0))]) C [1, 2, 4, 0] rfl ?_
    exact sm_M_join_64 C hZ hr hlk ht hlf 600 _ _ _ _ h
  · refine sx_iconst C dd_M_join_46 rfl ?_
    exact sx_iret C hr hlk dd_M_join_47 h
set_option maxHeartbeats 4000000 in
set_option maxRecDepth 100000 in
theorem sm_M_join_17 (C : sx_C sr_lay sr_cl D cI cJ ad (sx_A sr_lay ad sz) 7 "StoneRingsModel" prog_7_method_21_code sr_ts p s m args c) (hZ : sx_Z (sx_A sr_lay ad sz) s s.heap) (hr : meth.sig.returnType = (some .int)) (hlk : meth.locks = false) (ht : ∀ x ∈ c.exceptionTable.toList, False) (hlf : l.stackTraces = false) {x1 x2 x3 : Int} {μ : sx_M} (h : sw_M_join_17 Q x1 x2 x3 μ) : sx_V sr_lay sr_cl D cI cJ ad (sx_A sr_lay ad sz) 7 p l e rm_M_join s m args below meth c (vx_MQ below (sx_T (sx_QI sr_lay sr_cl D cI cJ ad Q sz)) (sx_XC sr_lay sr_cl D cI cJ ad (fun _ _ => False) sz) args s 0 0 (sx_A sr_lay ad sz)) 0 0 μ 17 [(0, .ref (ad 19)), (1, .int (sx_i x1)), (2, .int (sx_i x2)), (3, .int (sx_i x3))] [.ref (ad 19)] := by
  unfold sw_M_join_17 at h
  refine sx_iconst C dd_M_join_17 rfl ?_
  refine sx_goto (tgt := 36) C dd_M_join_18 (by decide) ?_
  exact sm_M_join_36 C hZ hr hlk ht hlf h
set_option maxHeartbeats 4000000 in
set_option maxRecDepth 100000 in
theorem sm_M_join {l : Launch} {D : va_G} {cI cJ : ClassId} {ad : Nat → Nat} {Q : Int → sx_M → Prop} (hlf : l.stackTraces = false) {μ : sx_M} {a1 a2 a3 : Int} (h : sw_M_join Q μ a1 a2 a3) (sz : Nat) : sx_MI l yy_M_join (Cond.code yy_M_join prog_7_method_21_code 7 (some .int) :: sr_ts) rm_M_join sr_lay sr_cl D cI cJ ad [.ref (ad 19), .int (sx_i a1), .int (sx_i a2), .int (sx_i a3)] μ Q (fun _ _ => False) 0 0 sz := by
  refine sx_body (plainFor_of_name (by decide +kernel)) rfl (Nat.le_of_ble_eq_true rfl) ?_
  intro p e s m below meth c C hZ hr hlk ht
  unfold sw_M_join at h
  show sx_V sr_lay sr_cl D cI cJ ad (sx_A sr_lay ad sz) 7 p l e rm_M_join s m _ below meth c (vx_MQ below (sx_T (sx_QI sr_lay sr_cl D cI cJ ad Q sz)) (sx_XC sr_lay sr_cl D cI cJ ad (fun _ _ => False) sz) _ s 0 0 (sx_A sr_lay ad sz)) 0 0 μ 0 [(0, .ref (ad 19)), (1, .int (sx_i a1)), (2, .int (sx_i a2)), (3, .int (sx_i a3))] []
  refine sx_aload_n C 0 dd_M_join_0 rfl rfl ?_
  refine sx_aload_n C 0 dd_M_join_1 rfl rfl ?_
  refine sx_iload_n C 1 dd_M_join_2 rfl rfl ?_
  refine sx_invI (c0 := 19) C hZ [.int (sx_i a1)] (fun sz2 => sm_M_noRay hlf h sz2) (sx_cwV (n := 1) C.2.2.2.2.1 wd_694 wd_691 wd_693 wp_M_noRay wd_8 rfl rfl (by decide +kernel) ⟨by decide, by decide⟩) rfl (rfl : sr_cl[5]? = some ("StoneRingsModel", tt_M, 21)) rfl rfl (Nat.le_of_ble_eq_true rfl) dd_M_join_3 ⟨(Nat.le_of_ble_eq_true rfl), (Nat.le_of_ble_eq_true rfl)⟩ sx_noX (fun v1 μ1 h => ?_)
  refine sx_if_ne (tgt := 17) C dd_M_join_6 (by decide) h (fun h => ?_) (fun h => ?_)
  · exact sm_M_join_17 C hZ hr hlk ht hlf h
  · refine sx_aload_n C 0 dd_M_join_9 rfl rfl ?_
    refine sx_iload_n C 2 dd_M_join_10 rfl rfl ?_
    refine sx_invI (c0 := 19) C hZ [.int (sx_i a2)] (fun sz2 => sm_M_noRay hlf h sz2) (sx_cwV (n := 1) C.2.2.2.2.1 wd_694 wd_691 wd_693 wp_M_noRay wd_8 rfl rfl (by decide +kernel) ⟨by decide, by decide⟩) rfl (rfl : sr_cl[5]? = some ("StoneRingsModel", tt_M, 21)) rfl rfl (Nat.le_of_ble_eq_true rfl) dd_M_join_11 ⟨(Nat.le_of_ble_eq_true rfl), (Nat.le_of_ble_eq_true rfl)⟩ sx_noX (fun v2 μ2 h => ?_)
    refine sx_if_eq (tgt := 21) C dd_M_join_14 (by decide) h (fun h => ?_) (fun h => ?_)
    · refine sx_iload_n C 3 dd_M_join_21 rfl rfl ?_
      refine sx_iconst C dd_M_join_22 rfl ?_
      refine sx_bipush (v := 50) C dd_M_join_23 (by decide +kernel) ?_
      refine sx_stcI C hZ [.int (sx_i a3), .int (sx_i 0), .int (sx_i 50)] (fun sz2 => sm_M_isIn hlf h sz2) (sx_cwS (n := 3) C.2.2.2.2.1 wd_670 wd_668 wd_669 wd_8 rfl rfl (by decide +kernel) ⟨by decide, by decide⟩) rfl rfl (Nat.le_of_ble_eq_true rfl) dd_M_join_25 ⟨(Nat.le_of_ble_eq_true rfl), (Nat.le_of_ble_eq_true rfl)⟩ sx_noX (fun v3 μ3 h => ?_)
      refine sx_if_ne (tgt := 35) C dd_M_join_28 (by decide) h (fun h => ?_) (fun h => ?_)
      · refine sx_iconst C dd_M_join_35 rfl ?_
        exact sm_M_join_36 C hZ hr hlk ht hlf h
      · refine sx_iconst C dd_M_join_31 rfl ?_
        refine sx_goto (tgt := 36) C dd_M_join_32 (by decide) ?_
        exact sm_M_join_36 C hZ hr hlk ht hlf h
    · exact sm_M_join_17 C hZ hr hlk ht hlf h
end SXG
