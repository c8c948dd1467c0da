section SXG
variable {D : va_G} {cI cJ : ClassId} {ad : Nat → Nat} {sz : Nat} {p : Program} {l : Launch} {e : Env} {s : State} {m : MethodId} {args : Array Value} {below : List Frame} {meth : Method} {c : Code} {Q : Int → sx_M → Prop} {X : String → sx_M → Prop}
def rm_M_joined : Room := { frames := 1, cells := 0, slots := 0, locals := 22 }
set_option maxHeartbeats 4000000 in
set_option maxRecDepth 100000 in
theorem sm_M_joined_51 (C : sx_C sr_lay sr_cl D cI cJ ad (sx_A sr_lay ad sz) 2 "StoneRingsModel" prog_7_method_22_code sr_ts p s m args c) (hZ : sx_Z (sx_A sr_lay ad sz) s s.heap) (hr : meth.sig.returnType = (some .int)) (hlk : meth.locks = false) (ht : ∀ x ∈ c.exceptionTable.toList, False) (hlf : l.stackTraces = false) {y0 : Int} {μ : sx_M} (h : sw_M_joined_51 Q y0 μ) : sx_V sr_lay sr_cl D cI cJ ad (sx_A sr_lay ad sz) 2 p l e rm_M_joined s m args below meth c (vx_MQ below (sx_T (sx_QI sr_lay sr_cl D cI cJ ad Q sz)) (sx_XC sr_lay sr_cl D cI cJ ad (fun _ _ => False) sz) args s 0 0 (sx_A sr_lay ad sz)) 0 0 μ 51 [] [.int (sx_i y0)] := by
  unfold sw_M_joined_51 at h
  exact sx_iret C hr hlk dd_M_joined_51 h
set_option maxHeartbeats 4000000 in
set_option maxRecDepth 100000 in
theorem sm_M_joined_31 (C : sx_C sr_lay sr_cl D cI cJ ad (sx_A sr_lay ad sz) 2 "StoneRingsModel" prog_7_method_22_code sr_ts p s m args c) (hZ : sx_Z (sx_A sr_lay ad sz) s s.heap) (hr : meth.sig.returnType = (some .int)) (hlk : meth.locks = false) (ht : ∀ x ∈ c.exceptionTable.toList, False) (hlf : l.stackTraces = false) {x1 y1 : Int} {μ : sx_M} (h : sw_M_joined_31 Q x1 y1 μ) : sx_V sr_lay sr_cl D cI cJ ad (sx_A sr_lay ad sz) 2 p l e rm_M_joined s m args below meth c (vx_MQ below (sx_T (sx_QI sr_lay sr_cl D cI cJ ad Q sz)) (sx_XC sr_lay sr_cl D cI cJ ad (fun _ _ => False) sz) args s 0 0 (sx_A sr_lay ad sz)) 0 0 μ 31 [(0, .ref (ad 19)), (1, .int (sx_i x1))] [.int (sx_i y1), .ref (ad 19)] := by
  unfold sw_M_joined_31 at h
  refine sx_puti (K := 0) (ref := "StoneRingsModel") (ty := .int) C 19 0 rfl rfl rfl (rfl : sr_cl[5]? = some ("StoneRingsModel", tt_M, 21)) (by decide) in_M ty_M tyk_M nm_M wd_592 rfl rfl (by decide +kernel) rfl rfl dd_M_joined_31 ?_
  refine sx_aload_n C 0 dd_M_joined_34 rfl rfl ?_
  refine sx_geti (K := 0) (ref := "StoneRingsModel") C 19 0 rfl rfl rfl (rfl : sr_cl[5]? = some ("StoneRingsModel", tt_M, 21)) (by decide) in_M wd_592 rfl dd_M_joined_35 ?_
  refine sx_if_le (tgt := 45) C dd_M_joined_38 (by decide) h (fun h => ?_) (fun h => ?_)
  · refine sx_aload_n C 0 dd_M_joined_45 rfl rfl ?_
    refine sx_getr (ref := "StoneRingsModel") C 19 19 rfl rfl (rfl : sr_cl[5]? = some ("StoneRingsModel", tt_M, 21)) (by decide) in_M wd_611 rfl dd_M_joined_46 ?_
    refine sx_iload_n C 1 dd_M_joined_49 rfl rfl ?_
    refine sx_iald (N := 16) C 28 rfl rfl (by decide) dd_M_joined_50 h (fun h => ?_)
    refine sx_less (lu := []) C [] rfl ?_
    exact sm_M_joined_51 C hZ hr hlk ht hlf h
  · refine sx_iconst C dd_M_joined_41 rfl ?_
    refine sx_goto (tgt := 51) C dd_M_joined_42 (by decide) ?_
    refine sx_less (lu := []) C [] rfl ?_
    exact sm_M_joined_51 C hZ hr hlk ht hlf h
set_option maxHeartbeats 4000000 in
set_option maxRecDepth 100000 in
theorem sm_M_joined {l : Launch} {D : va_G} {cI cJ : ClassId} {ad : Nat → Nat} {Q : Int → sx_M → Prop} (hlf : l.stackTraces = false) {μ : sx_M} {a1 : Int} (h : sw_M_joined Q μ a1) (sz : Nat) : sx_MI l yy_M_joined (Cond.code yy_M_joined prog_7_method_22_code 2 (some .int) :: sr_ts) rm_M_joined sr_lay sr_cl D cI cJ ad [.ref (ad 19), .int (sx_i a1)] μ Q (fun _ _ => False) 0 0 sz := by
  refine sx_body (plainFor_of_name (by decide +kernel)) rfl (Nat.le_of_ble_eq_true rfl) ?_
  intro p e s m below meth c C hZ hr hlk ht
  unfold sw_M_joined at h
  show sx_V sr_lay sr_cl D cI cJ ad (sx_A sr_lay ad sz) 2 p l e rm_M_joined s m _ below meth c (vx_MQ below (sx_T (sx_QI sr_lay sr_cl D cI cJ ad Q sz)) (sx_XC sr_lay sr_cl D cI cJ ad (fun _ _ => False) sz) _ s 0 0 (sx_A sr_lay ad sz)) 0 0 μ 0 [(0, .ref (ad 19)), (1, .int (sx_i a1))] []
  refine sx_aload_n C 0 dd_M_joined_0 rfl rfl ?_
  refine sx_aload_n C 0 dd_M_joined_1 rfl rfl ?_
  refine sx_geti (K := 17) (ref := "StoneRingsModel") C 19 17 rfl rfl rfl (rfl : sr_cl[5]? = some ("StoneRingsModel", tt_M, 21)) (by decide) in_M wd_609 rfl dd_M_joined_2 ?_
  refine sx_if_ne (tgt := 12) C dd_M_joined_5 (by decide) h (fun h => ?_) (fun h => ?_)
  · refine sx_iload_n C 1 dd_M_joined_12 rfl rfl ?_
    refine sx_iconst C dd_M_joined_13 rfl ?_
    refine sx_aload_n C 0 dd_M_joined_14 rfl rfl ?_
    refine sx_geti (K := 18) (ref := "StoneRingsModel") C 19 18 rfl rfl rfl (rfl : sr_cl[5]? = some ("StoneRingsModel", tt_M, 21)) (by decide) in_M wd_610 rfl dd_M_joined_15 ?_
    refine sx_iconst C dd_M_joined_18 rfl ?_
    refine sx_isub C dd_M_joined_19 ?_
    refine sx_stcI C hZ [.int (sx_i a1), .int (sx_i 0), .int (sx_i ((μ 19 18) - 1))] (fun sz2 => sm_M_isIn hlf h sz2) (sx_cwS (n := 3) C.2.2.2.2.1 wd_670 wd_668 wd_669 wd_8 rfl rfl (by decide +kernel) ⟨by decide, by decide⟩) rfl rfl (Nat.le_of_ble_eq_true rfl) dd_M_joined_20 ⟨(Nat.le_of_ble_eq_true rfl), (Nat.le_of_ble_eq_true rfl)⟩ sx_noX (fun v1 μ1 h => ?_)
    refine sx_if_ne (tgt := 30) C dd_M_joined_23 (by decide) h (fun h => ?_) (fun h => ?_)
    · refine sx_iconst C dd_M_joined_30 rfl ?_
      exact sm_M_joined_31 C hZ hr hlk ht hlf h
    · refine sx_iconst C dd_M_joined_26 rfl ?_
      refine sx_goto (tgt := 31) C dd_M_joined_27 (by decide) ?_
      exact sm_M_joined_31 C hZ hr hlk ht hlf h
  · refine sx_iconst C dd_M_joined_8 rfl ?_
    refine sx_goto (tgt := 31) C dd_M_joined_9 (by decide) ?_
    exact sm_M_joined_31 C hZ hr hlk ht hlf h
def rm_M_back : Room := { frames := 5, cells := 0, slots := 0, locals := 116 }
set_option maxHeartbeats 4000000 in
set_option maxRecDepth 100000 in
theorem sm_M_back_75 (C : sx_C sr_lay sr_cl D cI cJ ad (sx_A sr_lay ad sz) 5 "StoneRingsModel" prog_7_method_23_code sr_ts p s m args c) (hZ : sx_Z (sx_A sr_lay ad sz) s s.heap) (hr : meth.sig.returnType = (some .int)) (hlk : meth.locks = false) (ht : ∀ x ∈ c.exceptionTable.toList, False) (hlf : l.stackTraces = false) {y0 : Int} {μ : sx_M} (h : sw_M_back_75 Q y0 μ) : sx_V sr_lay sr_cl D cI cJ ad (sx_A sr_lay ad sz) 5 p l e rm_M_back s m args below meth c (vx_MQ below (sx_T (sx_QI sr_lay sr_cl D cI cJ ad Q sz)) (sx_XC sr_lay sr_cl D cI cJ ad (fun _ _ => False) sz) args s 0 0 (sx_A sr_lay ad sz)) 0 0 μ 75 [] [.int (sx_i y0)] := by
  unfold sw_M_back_75 at h
  exact sx_iret C hr hlk dd_M_back_75 h
set_option maxHeartbeats 4000000 in
set_option maxRecDepth 100000 in
theorem sm_M_back_46 (C : sx_C sr_lay sr_cl D cI cJ ad (sx_A sr_lay ad sz) 5 "StoneRingsModel" prog_7_method_23_code sr_ts p s m args c) (hZ : sx_Z (sx_A sr_lay ad sz) s s.heap) (hr : meth.sig.returnType = (some .int)) (hlk : meth.locks = false) (ht : ∀ x ∈ c.exceptionTable.toList, False) (hlf : l.stackTraces = false) {x2 x3 y1 : Int} {μ : sx_M} (h : sw_M_back_46 Q x2 x3 y1 μ) : sx_V sr_lay sr_cl D cI cJ ad (sx_A sr_lay ad sz) 5 p l e rm_M_back s m args below meth c (vx_MQ below (sx_T (sx_QI sr_lay sr_cl D cI cJ ad Q sz)) (sx_XC sr_lay sr_cl D cI cJ ad (fun _ _ => False) sz) args s 0 0 (sx_A sr_lay ad sz)) 0 0 μ 46 [(0, .ref (ad 19)), (2, .int (sx_i x2)), (3, .int (sx_i x3))] [.int (sx_i y1), .ref (ad 19)] := by
  unfold sw_M_back_46 at h
  refine sx_puti (K := 0) (ref := "StoneRingsModel") (ty := .int) C 19 0 rfl rfl rfl (rfl : sr_cl[5]? = some ("StoneRingsModel", tt_M, 21)) (by decide) in_M ty_M tyk_M nm_M wd_592 rfl rfl (by decide +kernel) rfl rfl dd_M_back_46 ?_
  refine sx_aload_n C 0 dd_M_back_49 rfl rfl ?_
  refine sx_geti (K := 0) (ref := "StoneRingsModel") C 19 0 rfl rfl rfl (rfl : sr_cl[5]? = some ("StoneRingsModel", tt_M, 21)) (by decide) in_M wd_592 rfl dd_M_back_50 ?_
  refine sx_if_le (tgt := 60) C dd_M_back_53 (by decide) h (fun h => ?_) (fun h => ?_)
  · refine sx_iload_n C 2 dd_M_back_60 rfl rfl ?_
    refine sx_aload_n C 0 dd_M_back_61 rfl rfl ?_
    refine sx_getr (ref := "StoneRingsModel") C 19 13 rfl rfl (rfl : sr_cl[5]? = some ("StoneRingsModel", tt_M, 21)) (by decide) in_M wd_605 rfl dd_M_back_62 ?_
    refine sx_iload_n C 1 dd_M_back_65 rfl rfl ?_
    refine sx_iald (N := 16) C 25 rfl rfl (by decide) dd_M_back_66 h (fun h => ?_)
    refine sx_imul C dd_M_back_67 ?_
    refine sx_aload_n C 0 dd_M_back_68 rfl rfl ?_
    refine sx_geti (K := 9) (ref := "StoneRingsModel") C 19 9 rfl rfl rfl (rfl : sr_cl[5]? = some ("StoneRingsModel", tt_M, 21)) (by decide) in_M wd_601 rfl dd_M_back_69 ?_
    refine sx_iconst C dd_M_back_72 rfl ?_
    refine sx_isub C dd_M_back_73 ?_
    refine sx_idiv C dd_M_back_74 h (fun h => ?_)
    refine sx_less (lu := []) C [] rfl ?_
    exact sm_M_back_75 C hZ hr hlk ht hlf h
  · refine sx_iconst C dd_M_back_56 rfl ?_
    refine sx_goto (tgt := 75) C dd_M_back_57 (by decide) ?_
    refine sx_less (lu := []) C [] rfl ?_
    exact sm_M_back_75 C hZ hr hlk ht hlf h
set_option maxHeartbeats 4000000 in
set_option maxRecDepth 100000 in
theorem sm_M_back_27 (C : sx_C sr_lay sr_cl D cI cJ ad (sx_A sr_lay ad sz) 5 "StoneRingsModel" prog_7_method_23_code sr_ts p s m args c) (hZ : sx_Z (sx_A sr_lay ad sz) s s.heap) (hr : meth.sig.returnType = (some .int)) (hlk : meth.locks = false) (ht : ∀ x ∈ c.exceptionTable.toList, False) (hlf : l.stackTraces = false) {x2 x3 : Int} {μ : sx_M} (h : sw_M_back_27 Q x2 x3 μ) : sx_V sr_lay sr_cl D cI cJ ad (sx_A sr_lay ad sz) 5 p l e rm_M_back s m args below meth c (vx_MQ below (sx_T (sx_QI sr_lay sr_cl D cI cJ ad Q sz)) (sx_XC sr_lay sr_cl D cI cJ ad (fun _ _ => False) sz) args s 0 0 (sx_A sr_lay ad sz)) 0 0 μ 27 [(0, .ref (ad 19)), (2, .int (sx_i x2)), (3, .int (sx_i x3))] [.ref (ad 19)] := by
  unfold sw_M_back_27 at h
  refine sx_iconst C dd_M_back_27 rfl ?_
  refine sx_goto (tgt := 46) C dd_M_back_28 (by decide) ?_
  exact sm_M_back_46 C hZ hr hlk ht hlf h
set_option maxHeartbeats 4000000 in
set_option maxRecDepth 100000 in
theorem sm_M_back {l : Launch} {D : va_G} {cI cJ : ClassId} {ad : Nat → Nat} {Q : Int → sx_M → Prop} (hlf : l.stackTraces = false) {μ : sx_M} {a1 a2 a3 : Int} (h : sw_M_back Q μ a1 a2 a3) (sz : Nat) : sx_MI l yy_M_back (Cond.code yy_M_back prog_7_method_23_code 5 (some .int) :: sr_ts) rm_M_back sr_lay sr_cl D cI cJ ad [.ref (ad 19), .int (sx_i a1), .int (sx_i a2), .int (sx_i a3)] μ Q (fun _ _ => False) 0 0 sz := by
  refine sx_body (plainFor_of_name (by decide +kernel)) rfl (Nat.le_of_ble_eq_true rfl) ?_
  intro p e s m below meth c C hZ hr hlk ht
  unfold sw_M_back at h
  show sx_V sr_lay sr_cl D cI cJ ad (sx_A sr_lay ad sz) 5 p l e rm_M_back s m _ below meth c (vx_MQ below (sx_T (sx_QI sr_lay sr_cl D cI cJ ad Q sz)) (sx_XC sr_lay sr_cl D cI cJ ad (fun _ _ => False) sz) _ s 0 0 (sx_A sr_lay ad sz)) 0 0 μ 0 [(0, .ref (ad 19)), (1, .int (sx_i a1)), (2, .int (sx_i a2)), (3, .int (sx_i a3))] []
  refine sx_aload_n C 0 dd_M_back_0 rfl rfl ?_
  refine sx_iload_n C 1 dd_M_back_1 rfl rfl ?_
  refine sx_invI (c0 := 19) C hZ [.int (sx_i a1)] (fun sz2 => sm_M_rings hlf h sz2) (sx_cwV (n := 1) C.2.2.2.2.1 wd_717 wd_722 wd_715 wd_716 wd_8 rfl rfl (by decide +kernel) ⟨by decide, by decide⟩) rfl (rfl : sr_cl[5]? = some ("StoneRingsModel", tt_M, 21)) rfl rfl (Nat.le_of_ble_eq_true rfl) dd_M_back_2 ⟨(Nat.le_of_ble_eq_true rfl), (Nat.le_of_ble_eq_true rfl)⟩ sx_noX (fun v1 μ1 h => ?_)
  refine sx_istore (lu := [(4, .int (sx_i v1)), (0, .ref (ad 19)), (1, .int (sx_i a1)), (2, .int (sx_i a2)), (3, .int (sx_i a3))]) C dd_M_back_5 (by decide) rfl ?_
  refine sx_aload_n C 1 dd_M_back_7 rfl rfl ?_
  refine sx_aload_n C 1 dd_M_back_8 rfl rfl ?_
  refine sx_geti (K := 0) (ref := "StoneRingsModel") C 19 0 rfl rfl rfl (rfl : sr_cl[5]? = some ("StoneRingsModel", tt_M, 21)) (by decide) in_M wd_592 rfl dd_M_back_9 ?_
  refine sx_if_gt (tgt := 27) C dd_M_back_12 (by decide) h (fun h => ?_) (fun h => ?_)
  · refine sx_less (lu := [(0, .ref (ad 19)), (2, .int (sx_i a2)), (3, .int (sx_i a3))]) C [1, 3, 4] rfl ?_
    exact sm_M_back_27 C hZ hr hlk ht hlf h
  · refine sx_iload_n C 3 dd_M_back_15 rfl rfl ?_
    refine sx_iconst C dd_M_back_16 rfl ?_
    refine sx_iload C 0 dd_M_back_17 rfl ?_
    refine sx_iconst C dd_M_back_19 rfl ?_
    refine sx_isub C dd_M_back_20 ?_
    refine sx_stcI C hZ [.int (sx_i a2), .int (sx_i 0), .int (sx_i (v1 - 1))] (fun sz2 => sm_M_isIn hlf h sz2) (sx_cwS (n := 3) C.2.2.2.2.1 wd_670 wd_668 wd_669 wd_8 rfl rfl (by decide +kernel) ⟨by decide, by decide⟩) rfl rfl (Nat.le_of_ble_eq_true rfl) dd_M_back_21 ⟨(Nat.le_of_ble_eq_true rfl), (Nat.le_of_ble_eq_true rfl)⟩ sx_noX (fun v2 μ2 h => ?_)
    refine sx_if_ne (tgt := 31) C dd_M_back_24 (by decide) h (fun h => ?_) (fun h => ?_)
    · refine sx_iload_n C 4 dd_M_back_31 rfl rfl ?_
      refine sx_iconst C dd_M_back_32 rfl ?_
      refine sx_ldc (v := 100000) C dd_M_back_33 (by rw [show sx_i 100000 = 100000 from by decide +kernel]; exact wd_744) ?_
      refine sx_stcI C hZ [.int (sx_i a3), .int (sx_i 0), .int (sx_i 100000)] (fun sz2 => sm_M_isIn hlf h sz2) (sx_cwS (n := 3) C.2.2.2.2.1 wd_670 wd_668 wd_669 wd_8 rfl rfl (by decide +kernel) ⟨by decide, by decide⟩) rfl rfl (Nat.le_of_ble_eq_true rfl) dd_M_back_35 ⟨(Nat.le_of_ble_eq_true rfl), (Nat.le_of_ble_eq_true rfl)⟩ sx_noX (fun v3 μ3 h => ?_)
      refine sx_if_ne (tgt := 45) C dd_M_back_38 (by decide) h (fun h => ?_) (fun h => ?_)
      · refine sx_iconst C dd_M_back_45 rfl ?_
        refine sx_less (lu := [(0, .ref (ad 19)), (2, .int (sx_i a2)), (3, .int (sx_i a3))]) C [1, 3, 4] rfl ?_
        exact sm_M_back_46 C hZ hr hlk ht hlf h
      · refine sx_iconst C dd_M_back_41 rfl ?_
        refine sx_goto (tgt := 46) C dd_M_back_42 (by decide) ?_
        refine sx_less (lu := [(0, .ref (ad 19)), (2, .int (sx_i a2)), (3, .int (sx_i a3))]) C [1, 3, 4] rfl ?_
        exact sm_M_back_46 C hZ hr hlk ht hlf h
    · refine sx_less (lu := [(0, .ref (ad 19)), (2, .int (sx_i a2)), (3, .int (sx_i a3))]) C [1, 3, 4] rfl ?_
      exact sm_M_back_27 C hZ hr hlk ht hlf h
def rm_M_noOne : Room := { frames := 1, cells := 0, slots := 0, locals := 22 }
set_option maxHeartbeats 4000000 in
set_option maxRecDepth 100000 in
theorem sm_M_noOne_24 (C : sx_C sr_lay sr_cl D cI cJ ad (sx_A sr_lay ad sz) 2 "StoneRingsModel" prog_7_method_24_code sr_ts p s m args c) (hZ : sx_Z (sx_A sr_lay ad sz) s s.heap) (hr : meth.sig.returnType = (some .boolean)) (hlk : meth.locks = false) (ht : ∀ x ∈ c.exceptionTable.toList, False) (hlf : l.stackTraces = false) {y0 : Int} {μ : sx_M} (h : sw_M_noOne_24 Q y0 μ) : sx_V sr_lay sr_cl D cI cJ ad (sx_A sr_lay ad sz) 2 p l e rm_M_noOne s m args below meth c (vx_MQ below (sx_T (sx_QI sr_lay sr_cl D cI cJ ad Q sz)) (sx_XC sr_lay sr_cl D cI cJ ad (fun _ _ => False) sz) args s 0 0 (sx_A sr_lay ad sz)) 0 0 μ 24 [] [.int (sx_i y0)] := by
  unfold sw_M_noOne_24 at h
  exact sx_zret C hr hlk dd_M_noOne_24 h
set_option maxHeartbeats 4000000 in
set_option maxRecDepth 100000 in
theorem sm_M_noOne_19 (C : sx_C sr_lay sr_cl D cI cJ ad (sx_A sr_lay ad sz) 2 "StoneRingsModel" prog_7_method_24_code sr_ts p s m args c) (hZ : sx_Z (sx_A sr_lay ad sz) s s.heap) (hr : meth.sig.returnType = (some .boolean)) (hlk : meth.locks = false) (ht : ∀ x ∈ c.exceptionTable.toList, False) (hlf : l.stackTraces = false) {μ : sx_M} (h : sw_M_noOne_19 Q μ) : sx_V sr_lay sr_cl D cI cJ ad (sx_A sr_lay ad sz) 2 p l e rm_M_noOne s m args below meth c (vx_MQ below (sx_T (sx_QI sr_lay sr_cl D cI cJ ad Q sz)) (sx_XC sr_lay sr_cl D cI cJ ad (fun _ _ => False) sz) args s 0 0 (sx_A sr_lay ad sz)) 0 0 μ 19 [] [] := by
  unfold sw_M_noOne_19 at h
  refine sx_iconst C dd_M_noOne_19 rfl ?_
  refine sx_goto (tgt := 24) C dd_M_noOne_20 (by decide) ?_
  exact sm_M_noOne_24 C hZ hr hlk ht hlf h
set_option maxHeartbeats 4000000 in
set_option maxRecDepth 100000 in
theorem sm_M_noOne {l : Launch} {D : va_G} {cI cJ : ClassId} {ad : Nat → Nat} {Q : Int → sx_M → Prop} (hlf : l.stackTraces = false) {μ : sx_M} {a0 a1 : Int} (h : sw_M_noOne Q μ a0 a1) (sz : Nat) : sx_MI l yy_M_noOne (Cond.code yy_M_noOne prog_7_method_24_code 2 (some .boolean) :: sr_ts) rm_M_noOne sr_lay sr_cl D cI cJ ad [.int (sx_i a0), .int (sx_i a1)] μ Q (fun _ _ => False) 0 0 sz := by
  refine sx_body (plainFor_of_name (by decide +kernel)) rfl (Nat.le_of_ble_eq_true rfl) ?_
  intro p e s m below meth c C hZ hr hlk ht
  unfold sw_M_noOne at h
  show sx_V sr_lay sr_cl D cI cJ ad (sx_A sr_lay ad sz) 2 p l e rm_M_noOne s m _ below meth c (vx_MQ below (sx_T (sx_QI sr_lay sr_cl D cI cJ ad Q sz)) (sx_XC sr_lay sr_cl D cI cJ ad (fun _ _ => False) sz) _ s 0 0 (sx_A sr_lay ad sz)) 0 0 μ 0 [(0, .int (sx_i a0)), (1, .int (sx_i a1))] []
  refine sx_iload_n C 0 dd_M_noOne_0 rfl rfl ?_
  refine sx_iconst C dd_M_noOne_1 rfl ?_
  refine sx_iconst C dd_M_noOne_2 rfl ?_
  refine sx_stcI C hZ [.int (sx_i a0), .int (sx_i 0), .int (sx_i 3)] (fun sz2 => sm_M_isIn hlf h sz2) (sx_cwS (n := 3) C.2.2.2.2.1 wd_670 wd_668 wd_669 wd_8 rfl rfl (by decide +kernel) ⟨by decide, by decide⟩) rfl rfl (Nat.le_of_ble_eq_true rfl) dd_M_noOne_3 ⟨(Nat.le_of_ble_eq_true rfl), (Nat.le_of_ble_eq_true rfl)⟩ sx_noX (fun v1 μ1 h => ?_)
  refine sx_if_eq (tgt := 19) C dd_M_noOne_6 (by decide) h (fun h => ?_) (fun h => ?_)
  · refine sx_less (lu := []) C [] rfl ?_
    exact sm_M_noOne_19 C hZ hr hlk ht hlf h
  · refine sx_iload_n C 1 dd_M_noOne_9 rfl rfl ?_
    refine sx_iconst C dd_M_noOne_10 rfl ?_
    refine sx_bipush (v := 19) C dd_M_noOne_11 (by decide +kernel) ?_
    refine sx_stcI C hZ [.int (sx_i a1), .int (sx_i 0), .int (sx_i 19)] (fun sz2 => sm_M_isIn hlf h sz2) (sx_cwS (n := 3) C.2.2.2.2.1 wd_670 wd_668 wd_669 wd_8 rfl rfl (by decide +kernel) ⟨by decide, by decide⟩) rfl rfl (Nat.le_of_ble_eq_true rfl) dd_M_noOne_13 ⟨(Nat.le_of_ble_eq_true rfl), (Nat.le_of_ble_eq_true rfl)⟩ sx_noX (fun v2 μ2 h => ?_)
    refine sx_if_ne (tgt := 23) C dd_M_noOne_16 (by decide) h (fun h => ?_) (fun h => ?_)
    · refine sx_iconst C dd_M_noOne_23 rfl ?_
      refine sx_less (lu := []) C [] rfl ?_
      exact sm_M_noOne_24 C hZ hr hlk ht hlf h
    · refine sx_less (lu := []) C [] rfl ?_
      exact sm_M_noOne_19 C hZ hr hlk ht hlf h
def rm_M_tell : Room := { frames := 2, cells := 0, slots := 0, locals := 43 }
set_option maxHeartbeats 4000000 in
set_option maxRecDepth 100000 in
theorem sm_M_tell_70 (C : sx_C sr_lay sr_cl D cI cJ ad (sx_A sr_lay ad sz) 4 "StoneRingsModel" prog_7_method_25_code sr_ts p s m args c) (hZ : sx_Z (sx_A sr_lay ad sz) s s.heap) (hr : meth.sig.returnType = none) (hlk : meth.locks = false) (ht : ∀ x ∈ c.exceptionTable.toList, False) (hlf : l.stackTraces = false) {μ : sx_M} (h : sw_M_tell_70 Q μ) : sx_V sr_lay sr_cl D cI cJ ad (sx_A sr_lay ad sz) 4 p l e rm_M_tell s m args below meth c (vx_MQ below (sx_T (sx_QV sr_lay sr_cl D cI cJ ad Q sz)) (sx_XC sr_lay sr_cl D cI cJ ad (fun _ _ => False) sz) args s 0 0 (sx_A sr_lay ad sz)) 0 0 μ 70 [] [] := by
  unfold sw_M_tell_70 at h
  exact sx_vret C hr hlk dd_M_tell_70 h
set_option maxHeartbeats 4000000 in
set_option maxRecDepth 100000 in
theorem sm_M_tell_46 (C : sx_C sr_lay sr_cl D cI cJ ad (sx_A sr_lay ad sz) 4 "StoneRingsModel" prog_7_method_25_code sr_ts p s m args c) (hZ : sx_Z (sx_A sr_lay ad sz) s s.heap) (hr : meth.sig.returnType = none) (hlk : meth.locks = false) (ht : ∀ x ∈ c.exceptionTable.toList, False) (hlf : l.stackTraces = false) {x1 x2 x3 y1 : Int} {μ : sx_M} (h : sw_M_tell_46 Q x1 x2 x3 y1 μ) : sx_V sr_lay sr_cl D cI cJ ad (sx_A sr_lay ad sz) 4 p l e rm_M_tell s m args below meth c (vx_MQ below (sx_T (sx_QV sr_lay sr_cl D cI cJ ad Q sz)) (sx_XC sr_lay sr_cl D cI cJ ad (fun _ _ => False) sz) args s 0 0 (sx_A sr_lay ad sz)) 0 0 μ 46 [(0, .ref (ad 19)), (1, .int (sx_i x1)), (2, .int (sx_i x2)), (3, .int (sx_i x3))] [.int (sx_i y1), .ref (ad 19)] := by
  unfold sw_M_tell_46 at h
  refine sx_puti (K := 0) (ref := "StoneRingsModel") (ty := .int) C 19 0 rfl rfl rfl (rfl : sr_cl[5]? = some ("StoneRingsModel", tt_M, 21)) (by decide) in_M ty_M tyk_M nm_M wd_592 rfl rfl (by decide +kernel) rfl rfl dd_M_tell_46 ?_
  refine sx_aload_n C 0 dd_M_tell_49 rfl rfl ?_
  refine sx_geti (K := 0) (ref := "StoneRingsModel") C 19 0 rfl rfl rfl (rfl : sr_cl[5]? = some ("StoneRingsModel", tt_M, 21)) (by decide) in_M wd_592 rfl dd_M_tell_50 ?_
  refine sx_if_ne (tgt := 70) C dd_M_tell_53 (by decide) h (fun h => ?_) (fun h => ?_)
  · refine sx_less (lu := []) C [] rfl ?_
    exact sm_M_tell_70 C hZ hr hlk ht hlf h
  · refine sx_aload_n C 0 dd_M_tell_56 rfl rfl ?_
    refine sx_getr (ref := "StoneRingsModel") C 19 20 rfl rfl (rfl : sr_cl[5]? = some ("StoneRingsModel", tt_M, 21)) (by decide) in_M wd_612 rfl dd_M_tell_57 ?_
    refine sx_bipush (v := 20) C dd_M_tell_60 (by decide +kernel) ?_
    refine sx_iload_n C 1 dd_M_tell_62 rfl rfl ?_
    refine sx_imul C dd_M_tell_63 ?_
    refine sx_iload_n C 2 dd_M_tell_64 rfl rfl ?_
    refine sx_iadd C dd_M_tell_65 ?_
    refine sx_iload_n C 3 dd_M_tell_66 rfl rfl ?_
    refine sx_iconst C dd_M_tell_67 rfl ?_
    refine sx_iadd C dd_M_tell_68 ?_
    refine sx_iast (N := 80) C 29 rfl rfl (by decide) dd_M_tell_69 h (fun h => ?_)
    refine sx_less (lu := []) C [] rfl ?_
    exact sm_M_tell_70 C hZ hr hlk ht hlf h
set_option maxHeartbeats 4000000 in
set_option maxRecDepth 100000 in
theorem sm_M_tell {l : Launch} {D : va_G} {cI cJ : ClassId} {ad : Nat → Nat} {Q : Int → sx_M → Prop} (hlf : l.stackTraces = false) {μ : sx_M} {a1 a2 a3 : Int} (h : sw_M_tell Q μ a1 a2 a3) (sz : Nat) : sx_MV l yy_M_tell (Cond.code yy_M_tell prog_7_method_25_code 4 none :: sr_ts) rm_M_tell sr_lay sr_cl D cI cJ ad [.ref (ad 19), .int (sx_i a1), .int (sx_i a2), .int (sx_i a3)] μ Q (fun _ _ => False) 0 0 sz := by
  refine sx_body (plainFor_of_name (by decide +kernel)) rfl (Nat.le_of_ble_eq_true rfl) ?_
  intro p e s m below meth c C hZ hr hlk ht
  unfold sw_M_tell at h
  show sx_V sr_lay sr_cl D cI cJ ad (sx_A sr_lay ad sz) 4 p l e rm_M_tell s m _ below meth c (vx_MQ below (sx_T (sx_QV sr_lay sr_cl D cI cJ ad Q sz)) (sx_XC sr_lay sr_cl D cI cJ ad (fun _ _ => False) sz) _ s 0 0 (sx_A sr_lay ad sz)) 0 0 μ 0 [(0, .ref (ad 19)), (1, .int (sx_i a1)), (2, .int (sx_i a2)), (3, .int (sx_i a3))] []
  refine sx_aload_n C 0 dd_M_tell_0 rfl rfl ?_
  refine sx_iload_n C 1 dd_M_tell_1 rfl rfl ?_
  refine sx_iload_n C 2 dd_M_tell_2 rfl rfl ?_
  refine sx_stcI C hZ [.int (sx_i a1), .int (sx_i a2)] (fun sz2 => sm_M_noOne hlf h sz2) (sx_cwS (n := 2) C.2.2.2.2.1 wd_751 wd_749 wd_750 wd_8 rfl rfl (by decide +kernel) ⟨by decide, by decide⟩) rfl rfl (Nat.le_of_ble_eq_true rfl) dd_M_tell_3 ⟨(Nat.le_of_ble_eq_true rfl), (Nat.le_of_ble_eq_true rfl)⟩ sx_noX (fun v1 μ1 h => ?_)
  refine sx_if_eq (tgt := 13) C dd_M_tell_6 (by decide) h (fun h => ?_) (fun h => ?_)
  · refine sx_iload_n C 3 dd_M_tell_13 rfl rfl ?_
    refine sx_iconst C dd_M_tell_14 rfl ?_
    refine sx_bipush (v := 60) C dd_M_tell_15 (by decide +kernel) ?_
    refine sx_stcI C hZ [.int (sx_i a3), .int (sx_i 0), .int (sx_i 60)] (fun sz2 => sm_M_isIn hlf h sz2) (sx_cwS (n := 3) C.2.2.2.2.1 wd_670 wd_668 wd_669 wd_8 rfl rfl (by decide +kernel) ⟨by decide, by decide⟩) rfl rfl (Nat.le_of_ble_eq_true rfl) dd_M_tell_17 ⟨(Nat.le_of_ble_eq_true rfl), (Nat.le_of_ble_eq_true rfl)⟩ sx_noX (fun v2 μ2 h => ?_)
    refine sx_if_ne (tgt := 27) C dd_M_tell_20 (by decide) h (fun h => ?_) (fun h => ?_)
    · refine sx_aload_n C 0 dd_M_tell_27 rfl rfl ?_
      refine sx_getr (ref := "StoneRingsModel") C 19 20 rfl rfl (rfl : sr_cl[5]? = some ("StoneRingsModel", tt_M, 21)) (by decide) in_M wd_612 rfl dd_M_tell_28 ?_
      refine sx_bipush (v := 20) C dd_M_tell_31 (by decide +kernel) ?_
      refine sx_iload_n C 1 dd_M_tell_33 rfl rfl ?_
      refine sx_imul C dd_M_tell_34 ?_
      refine sx_iload_n C 2 dd_M_tell_35 rfl rfl ?_
      refine sx_iadd C dd_M_tell_36 ?_
      refine sx_iald (N := 80) C 29 rfl rfl (by decide) dd_M_tell_37 h (fun h => ?_)
      refine sx_if_le (tgt := 45) C dd_M_tell_38 (by decide) h (fun h => ?_) (fun h => ?_)
      · refine sx_iconst C dd_M_tell_45 rfl ?_
        exact sm_M_tell_46 C hZ hr hlk ht hlf h
      · refine sx_iconst C dd_M_tell_41 rfl ?_
        refine sx_goto (tgt := 46) C dd_M_tell_42 (by decide) ?_
        exact sm_M_tell_46 C hZ hr hlk ht hlf h
    · refine sx_iconst C dd_M_tell_23 rfl ?_
      refine sx_goto (tgt := 46) C dd_M_tell_24 (by decide) ?_
      exact sm_M_tell_46 C hZ hr hlk ht hlf h
  · refine sx_iconst C dd_M_tell_9 rfl ?_
    refine sx_goto (tgt := 46) C dd_M_tell_10 (by decide) ?_
    exact sm_M_tell_46 C hZ hr hlk ht hlf h
def rm_M_may : Room := { frames := 2, cells := 0, slots := 0, locals := 43 }
set_option maxHeartbeats 4000000 in
set_option maxRecDepth 100000 in
theorem sm_M_may_43 (C : sx_C sr_lay sr_cl D cI cJ ad (sx_A sr_lay ad sz) 3 "StoneRingsModel" prog_7_method_26_code sr_ts p s m args c) (hZ : sx_Z (sx_A sr_lay ad sz) s s.heap) (hr : meth.sig.returnType = (some .boolean)) (hlk : meth.locks = false) (ht : ∀ x ∈ c.exceptionTable.toList, False) (hlf : l.stackTraces = false) {y0 : Int} {μ : sx_M} (h : sw_M_may_43 Q y0 μ) : sx_V sr_lay sr_cl D cI cJ ad (sx_A sr_lay ad sz) 3 p l e rm_M_may s m args below meth c (vx_MQ below (sx_T (sx_QI sr_lay sr_cl D cI cJ ad Q sz)) (sx_XC sr_lay sr_cl D cI cJ ad (fun _ _ => False) sz) args s 0 0 (sx_A sr_lay ad sz)) 0 0 μ 43 [] [.int (sx_i y0)] := by
  unfold sw_M_may_43 at h
  exact sx_zret C hr hlk dd_M_may_43 h
set_option maxHeartbeats 4000000 in
set_option maxRecDepth 100000 in
theorem sm_M_may_42 (C : sx_C sr_lay sr_cl D cI cJ ad (sx_A sr_lay ad sz) 3 "StoneRingsModel" prog_7_method_26_code sr_ts p s m args c) (hZ : sx_Z (sx_A sr_lay ad sz) s s.heap) (hr : meth.sig.returnType = (some .boolean)) (hlk : meth.locks = false) (ht : ∀ x ∈ c.exceptionTable.toList, False) (hlf : l.stackTraces = false) {μ : sx_M} (h : sw_M_may_42 Q μ) : sx_V sr_lay sr_cl D cI cJ ad (sx_A sr_lay ad sz) 3 p l e rm_M_may s m args below meth c (vx_MQ below (sx_T (sx_QI sr_lay sr_cl D cI cJ ad Q sz)) (sx_XC sr_lay sr_cl D cI cJ ad (fun _ _ => False) sz) args s 0 0 (sx_A sr_lay ad sz)) 0 0 μ 42 [] [] := by
  unfold sw_M_may_42 at h
  refine sx_iconst C dd_M_may_42 rfl ?_
  exact sm_M_may_43 C hZ hr hlk ht hlf h
set_option maxHeartbeats 4000000 in
set_option maxRecDepth 100000 in
theorem sm_M_may_14 (C : sx_C sr_lay sr_cl D cI cJ ad (sx_A sr_lay ad sz) 3 "StoneRingsModel" prog_7_method_26_code sr_ts p s m args c) (hZ : sx_Z (sx_A sr_lay ad sz) s s.heap) (hr : meth.sig.returnType = (some .boolean)) (hlk : meth.locks = false) (ht : ∀ x ∈ c.exceptionTable.toList, False) (hlf : l.stackTraces = false) {x1 x2 y1 : Int} {μ : sx_M} (h : sw_M_may_14 Q x1 x2 y1 μ) : sx_V sr_lay sr_cl D cI cJ ad (sx_A sr_lay ad sz) 3 p l e rm_M_may s m args below meth c (vx_MQ below (sx_T (sx_QI sr_lay sr_cl D cI cJ ad Q sz)) (sx_XC sr_lay sr_cl D cI cJ ad (fun _ _ => False) sz) args s 0 0 (sx_A sr_lay ad sz)) 0 0 μ 14 [(0, .ref (ad 19)), (1, .int (sx_i x1)), (2, .int (sx_i x2))] [.int (sx_i y1), .ref (ad 19)] := by
  unfold sw_M_may_14 at h
  refine sx_puti (K := 0) (ref := "StoneRingsModel") (ty := .int) C 19 0 rfl rfl rfl (rfl : sr_cl[5]? = some ("StoneRingsModel", tt_M, 21)) (by decide) in_M ty_M tyk_M nm_M wd_592 rfl rfl (by decide +kernel) rfl rfl dd_M_may_14 ?_
  refine sx_aload_n C 0 dd_M_may_17 rfl rfl ?_
  refine sx_geti (K := 0) (ref := "StoneRingsModel") C 19 0 rfl rfl rfl (rfl : sr_cl[5]? = some ("StoneRingsModel", tt_M, 21)) (by decide) in_M wd_592 rfl dd_M_may_18 ?_
  refine sx_if_ne (tgt := 42) C dd_M_may_21 (by decide) h (fun h => ?_) (fun h => ?_)
  · refine sx_less (lu := []) C [] rfl ?_
    exact sm_M_may_42 C hZ hr hlk ht hlf h
  · refine sx_aload_n C 0 dd_M_may_24 rfl rfl ?_
    refine sx_getr (ref := "StoneRingsModel") C 19 20 rfl rfl (rfl : sr_cl[5]? = some ("StoneRingsModel", tt_M, 21)) (by decide) in_M wd_612 rfl dd_M_may_25 ?_
    refine sx_bipush (v := 20) C dd_M_may_28 (by decide +kernel) ?_
    refine sx_iload_n C 1 dd_M_may_30 rfl rfl ?_
    refine sx_imul C dd_M_may_31 ?_
    refine sx_iload_n C 2 dd_M_may_32 rfl rfl ?_
    refine sx_iadd C dd_M_may_33 ?_
    refine sx_iald (N := 80) C 29 rfl rfl (by decide) dd_M_may_34 h (fun h => ?_)
    refine sx_if_le (tgt := 42) C dd_M_may_35 (by decide) h (fun h => ?_) (fun h => ?_)
    · refine sx_less (lu := []) C [] rfl ?_
      exact sm_M_may_42 C hZ hr hlk ht hlf h
    · refine sx_iconst C dd_M_may_38 rfl ?_
      refine sx_goto (tgt := 43) C dd_M_may_39 (by decide) ?_
      refine sx_less (lu := []) C [] rfl ?_
      exact sm_M_may_43 C hZ hr hlk ht hlf h
set_option maxHeartbeats 4000000 in
set_option maxRecDepth 100000 in
theorem sm_M_may {l : Launch} {D : va_G} {cI cJ : ClassId} {ad : Nat → Nat} {Q : Int → sx_M → Prop} (hlf : l.stackTraces = false) {μ : sx_M} {a1 a2 : Int} (h : sw_M_may Q μ a1 a2) (sz : Nat) : sx_MI l yy_M_may (Cond.code yy_M_may prog_7_method_26_code 3 (some .boolean) :: sr_ts) rm_M_may sr_lay sr_cl D cI cJ ad [.ref (ad 19), .int (sx_i a1), .int (sx_i a2)] μ Q (fun _ _ => False) 0 0 sz := by
  refine sx_body (plainFor_of_name (by decide +kernel)) rfl (Nat.le_of_ble_eq_true rfl) ?_
  intro p e s m below meth c C hZ hr hlk ht
  unfold sw_M_may at h
  show sx_V sr_lay sr_cl D cI cJ ad (sx_A sr_lay ad sz) 3 p l e rm_M_may s m _ below meth c (vx_MQ below (sx_T (sx_QI sr_lay sr_cl D cI cJ ad Q sz)) (sx_XC sr_lay sr_cl D cI cJ ad (fun _ _ => False) sz) _ s 0 0 (sx_A sr_lay ad sz)) 0 0 μ 0 [(0, .ref (ad 19)), (1, .int (sx_i a1)), (2, .int (sx_i a2))] []
  refine sx_aload_n C 0 dd_M_may_0 rfl rfl ?_
  refine sx_iload_n C 1 dd_M_may_1 rfl rfl ?_
  refine sx_iload_n C 2 dd_M_may_2 rfl rfl ?_
  refine sx_stcI C hZ [.int (sx_i a1), .int (sx_i a2)] (fun sz2 => sm_M_noOne hlf h sz2) (sx_cwS (n := 2) C.2.2.2.2.1 wd_751 wd_749 wd_750 wd_8 rfl rfl (by decide +kernel) ⟨by decide, by decide⟩) rfl rfl (Nat.le_of_ble_eq_true rfl) dd_M_may_3 ⟨(Nat.le_of_ble_eq_true rfl), (Nat.le_of_ble_eq_true rfl)⟩ sx_noX (fun v1 μ1 h => ?_)
  refine sx_if_eq (tgt := 13) C dd_M_may_6 (by decide) h (fun h => ?_) (fun h => ?_)
  · refine sx_iconst C dd_M_may_13 rfl ?_
    exact sm_M_may_14 C hZ hr hlk ht hlf h
  · refine sx_iconst C dd_M_may_9 rfl ?_
    refine sx_goto (tgt := 14) C dd_M_may_10 (by decide) ?_
    exact sm_M_may_14 C hZ hr hlk ht hlf h
def rm_M_seen : Room := { frames := 2, cells := 0, slots := 0, locals := 43 }
set_option maxHeartbeats 4000000 in
set_option maxRecDepth 100000 in
theorem sm_M_seen_67 (C : sx_C sr_lay sr_cl D cI cJ ad (sx_A sr_lay ad sz) 4 "StoneRingsModel" prog_7_method_27_code sr_ts p s m args c) (hZ : sx_Z (sx_A sr_lay ad sz) s s.heap) (hr : meth.sig.returnType = (some .int)) (hlk : meth.locks = false) (ht : ∀ x ∈ c.exceptionTable.toList, False) (hlf : l.stackTraces = false) {y0 : Int} {μ : sx_M} (h : sw_M_seen_67 Q y0 μ) : sx_V sr_lay sr_cl D cI cJ ad (sx_A sr_lay ad sz) 4 p l e rm_M_seen s m args below meth c (vx_MQ below (sx_T (sx_QI sr_lay sr_cl D cI cJ ad Q sz)) (sx_XC sr_lay sr_cl D cI cJ ad (fun _ _ => False) sz) args s 0 0 (sx_A sr_lay ad sz)) 0 0 μ 67 [] [.int (sx_i y0)] := by
  unfold sw_M_seen_67 at h
  exact sx_iret C hr hlk dd_M_seen_67 h
set_option maxHeartbeats 4000000 in
set_option maxRecDepth 100000 in
theorem sm_M_seen_40 (C : sx_C sr_lay sr_cl D cI cJ ad (sx_A sr_lay ad sz) 4 "StoneRingsModel" prog_7_method_27_code sr_ts p s m args c) (hZ : sx_Z (sx_A sr_lay ad sz) s s.heap) (hr : meth.sig.returnType = (some .int)) (hlk : meth.locks = false) (ht : ∀ x ∈ c.exceptionTable.toList, False) (hlf : l.stackTraces = false) {x2 x3 y1 : Int} {μ : sx_M} (h : sw_M_seen_40 Q x2 x3 y1 μ) : sx_V sr_lay sr_cl D cI cJ ad (sx_A sr_lay ad sz) 4 p l e rm_M_seen s m args below meth c (vx_MQ below (sx_T (sx_QI sr_lay sr_cl D cI cJ ad Q sz)) (sx_XC sr_lay sr_cl D cI cJ ad (fun _ _ => False) sz) args s 0 0 (sx_A sr_lay ad sz)) 0 0 μ 40 [(0, .ref (ad 19)), (2, .int (sx_i x2)), (3, .int (sx_i x3))] [.int (sx_i y1), .ref (ad 19)] := by
  unfold sw_M_seen_40 at h
  refine sx_puti (K := 0) (ref := "StoneRingsModel") (ty := .int) C 19 0 rfl rfl rfl (rfl : sr_cl[5]? = some ("StoneRingsModel", tt_M, 21)) (by decide) in_M ty_M tyk_M nm_M wd_592 rfl rfl (by decide +kernel) rfl rfl dd_M_seen_40 ?_
  refine sx_aload_n C 0 dd_M_seen_43 rfl rfl ?_
  refine sx_geti (K := 0) (ref := "StoneRingsModel") C 19 0 rfl rfl rfl (rfl : sr_cl[5]? = some ("StoneRingsModel", tt_M, 21)) (by decide) in_M wd_592 rfl dd_M_seen_44 ?_
  refine sx_if_le (tgt := 54) C dd_M_seen_47 (by decide) h (fun h => ?_) (fun h => ?_)
  · refine sx_aload_n C 0 dd_M_seen_54 rfl rfl ?_
    refine sx_getr (ref := "StoneRingsModel") C 19 20 rfl rfl (rfl : sr_cl[5]? = some ("StoneRingsModel", tt_M, 21)) (by decide) in_M wd_612 rfl dd_M_seen_55 ?_
    refine sx_bipush (v := 20) C dd_M_seen_58 (by decide +kernel) ?_
    refine sx_iload_n C 1 dd_M_seen_60 rfl rfl ?_
    refine sx_imul C dd_M_seen_61 ?_
    refine sx_iload_n C 2 dd_M_seen_62 rfl rfl ?_
    refine sx_iadd C dd_M_seen_63 ?_
    refine sx_iald (N := 80) C 29 rfl rfl (by decide) dd_M_seen_64 h (fun h => ?_)
    refine sx_iconst C dd_M_seen_65 rfl ?_
    refine sx_isub C dd_M_seen_66 ?_
    refine sx_less (lu := []) C [] rfl ?_
    exact sm_M_seen_67 C hZ hr hlk ht hlf h
  · refine sx_iconst C dd_M_seen_50 rfl ?_
    refine sx_goto (tgt := 67) C dd_M_seen_51 (by decide) ?_
    refine sx_less (lu := []) C [] rfl ?_
    exact sm_M_seen_67 C hZ hr hlk ht hlf h
set_option maxHeartbeats 4000000 in
set_option maxRecDepth 100000 in
theorem sm_M_seen_17 (C : sx_C sr_lay sr_cl D cI cJ ad (sx_A sr_lay ad sz) 4 "StoneRingsModel" prog_7_method_27_code sr_ts p s m args c) (hZ : sx_Z (sx_A sr_lay ad sz) s s.heap) (hr : meth.sig.returnType = (some .int)) (hlk : meth.locks = false) (ht : ∀ x ∈ c.exceptionTable.toList, False) (hlf : l.stackTraces = false) {x2 x3 : Int} {μ : sx_M} (h : sw_M_seen_17 Q x2 x3 μ) : sx_V sr_lay sr_cl D cI cJ ad (sx_A sr_lay ad sz) 4 p l e rm_M_seen s m args below meth c (vx_MQ below (sx_T (sx_QI sr_lay sr_cl D cI cJ ad Q sz)) (sx_XC sr_lay sr_cl D cI cJ ad (fun _ _ => False) sz) args s 0 0 (sx_A sr_lay ad sz)) 0 0 μ 17 [(0, .ref (ad 19)), (2, .int (sx_i x2)), (3, .int (sx_i x3))] [.ref (ad 19)] := by
  unfold sw_M_seen_17 at h
  refine sx_iconst C dd_M_seen_17 rfl ?_
  refine sx_goto (tgt := 40) C dd_M_seen_18 (by decide) ?_
  exact sm_M_seen_40 C hZ hr hlk ht hlf h
set_option maxHeartbeats 4000000 in
set_option maxRecDepth 100000 in
theorem sm_M_seen {l : Launch} {D : va_G} {cI cJ : ClassId} {ad : Nat → Nat} {Q : Int → sx_M → Prop} (hlf : l.stackTraces = false) {μ : sx_M} {a1 a2 a3 : Int} (h : sw_M_seen Q μ a1 a2 a3) (sz : Nat) : sx_MI l yy_M_seen (Cond.code yy_M_seen prog_7_method_27_code 4 (some .int) :: sr_ts) rm_M_seen sr_lay sr_cl D cI cJ ad [.ref (ad 19), .int (sx_i a1), .int (sx_i a2), .int (sx_i a3)] μ Q (fun _ _ => False) 0 0 sz := by
  refine sx_body (plainFor_of_name (by decide +kernel)) rfl (Nat.le_of_ble_eq_true rfl) ?_
  intro p e s m below meth c C hZ hr hlk ht
  unfold sw_M_seen at h
  show sx_V sr_lay sr_cl D cI cJ ad (sx_A sr_lay ad sz) 4 p l e rm_M_seen s m _ below meth c (vx_MQ below (sx_T (sx_QI sr_lay sr_cl D cI cJ ad Q sz)) (sx_XC sr_lay sr_cl D cI cJ ad (fun _ _ => False) sz) _ s 0 0 (sx_A sr_lay ad sz)) 0 0 μ 0 [(0, .ref (ad 19)), (1, .int (sx_i a1)), (2, .int (sx_i a2)), (3, .int (sx_i a3))] []
  refine sx_aload_n C 0 dd_M_seen_0 rfl rfl ?_
  refine sx_iload_n C 1 dd_M_seen_1 rfl rfl ?_
  refine sx_iload_n C 3 dd_M_seen_2 rfl rfl ?_
  refine sx_stcI C hZ [.int (sx_i a1), .int (sx_i a3)] (fun sz2 => sm_M_noOne hlf h sz2) (sx_cwS (n := 2) C.2.2.2.2.1 wd_751 wd_749 wd_750 wd_8 rfl rfl (by decide +kernel) ⟨by decide, by decide⟩) rfl rfl (Nat.le_of_ble_eq_true rfl) dd_M_seen_3 ⟨(Nat.le_of_ble_eq_true rfl), (Nat.le_of_ble_eq_true rfl)⟩ sx_noX (fun v1 μ1 h => ?_)
  refine sx_if_ne (tgt := 17) C dd_M_seen_6 (by decide) h (fun h => ?_) (fun h => ?_)
  · refine sx_less (lu := [(0, .ref (ad 19)), (2, .int (sx_i a2)), (3, .int (sx_i a3))]) C [0, 2, 3] rfl ?_
    exact sm_M_seen_17 C hZ hr hlk ht hlf h
  · refine sx_iload_n C 2 dd_M_seen_9 rfl rfl ?_
    refine sx_iload_n C 3 dd_M_seen_10 rfl rfl ?_
    refine sx_stcI C hZ [.int (sx_i a2), .int (sx_i a3)] (fun sz2 => sm_M_noOne hlf h sz2) (sx_cwS (n := 2) C.2.2.2.2.1 wd_751 wd_749 wd_750 wd_8 rfl rfl (by decide +kernel) ⟨by decide, by decide⟩) rfl rfl (Nat.le_of_ble_eq_true rfl) dd_M_seen_11 ⟨(Nat.le_of_ble_eq_true rfl), (Nat.le_of_ble_eq_true rfl)⟩ sx_noX (fun v2 μ2 h => ?_)
    refine sx_if_eq (tgt := 21) C dd_M_seen_14 (by decide) h (fun h => ?_) (fun h => ?_)
    · refine sx_aload_n C 0 dd_M_seen_21 rfl rfl ?_
      refine sx_getr (ref := "StoneRingsModel") C 19 20 rfl rfl (rfl : sr_cl[5]? = some ("StoneRingsModel", tt_M, 21)) (by decide) in_M wd_612 rfl dd_M_seen_22 ?_
      refine sx_bipush (v := 20) C dd_M_seen_25 (by decide +kernel) ?_
      refine sx_iload_n C 1 dd_M_seen_27 rfl rfl ?_
      refine sx_imul C dd_M_seen_28 ?_
      refine sx_iload_n C 3 dd_M_seen_29 rfl rfl ?_
      refine sx_iadd C dd_M_seen_30 ?_
      refine sx_iald (N := 80) C 29 rfl rfl (by decide) dd_M_seen_31 h (fun h => ?_)
      refine sx_if_ne (tgt := 39) C dd_M_seen_32 (by decide) h (fun h => ?_) (fun h => ?_)
      · refine sx_iconst C dd_M_seen_39 rfl ?_
        refine sx_less (lu := [(0, .ref (ad 19)), (2, .int (sx_i a2)), (3, .int (sx_i a3))]) C [0, 2, 3] rfl ?_
        exact sm_M_seen_40 C hZ hr hlk ht hlf h
      · refine sx_iconst C dd_M_seen_35 rfl ?_
        refine sx_goto (tgt := 40) C dd_M_seen_36 (by decide) ?_
        refine sx_less (lu := [(0, .ref (ad 19)), (2, .int (sx_i a2)), (3, .int (sx_i a3))]) C [0, 2, 3] rfl ?_
        exact sm_M_seen_40 C hZ hr hlk ht hlf h
    · refine sx_less (lu := [(0, .ref (ad 19)), (2, .int (sx_i a2)), (3, .int (sx_i a3))]) C [0, 2, 3] rfl ?_
      exact sm_M_seen_17 C hZ hr hlk ht hlf h
def rm_M_noTwo : Room := { frames := 1, cells := 0, slots := 0, locals := 22 }
set_option maxHeartbeats 4000000 in
set_option maxRecDepth 100000 in
theorem sm_M_noTwo_32 (C : sx_C sr_lay sr_cl D cI cJ ad (sx_A sr_lay ad sz) 4 "StoneRingsModel" prog_7_method_29_code sr_ts p s m args c) (hZ : sx_Z (sx_A sr_lay ad sz) s s.heap) (hr : meth.sig.returnType = (some .boolean)) (hlk : meth.locks = false) (ht : ∀ x ∈ c.exceptionTable.toList, False) (hlf : l.stackTraces = false) {y0 : Int} {μ : sx_M} (h : sw_M_noTwo_32 Q y0 μ) : sx_V sr_lay sr_cl D cI cJ ad (sx_A sr_lay ad sz) 4 p l e rm_M_noTwo s m args below meth c (vx_MQ below (sx_T (sx_QI sr_lay sr_cl D cI cJ ad Q sz)) (sx_XC sr_lay sr_cl D cI cJ ad (fun _ _ => False) sz) args s 0 0 (sx_A sr_lay ad sz)) 0 0 μ 32 [] [.int (sx_i y0)] := by
  unfold sw_M_noTwo_32 at h
  exact sx_zret C hr hlk dd_M_noTwo_32 h
set_option maxHeartbeats 4000000 in
set_option maxRecDepth 100000 in
theorem sm_M_noTwo_27 (C : sx_C sr_lay sr_cl D cI cJ ad (sx_A sr_lay ad sz) 4 "StoneRingsModel" prog_7_method_29_code sr_ts p s m args c) (hZ : sx_Z (sx_A sr_lay ad sz) s s.heap) (hr : meth.sig.returnType = (some .boolean)) (hlk : meth.locks = false) (ht : ∀ x ∈ c.exceptionTable.toList, False) (hlf : l.stackTraces = false) {μ : sx_M} (h : sw_M_noTwo_27 Q μ) : sx_V sr_lay sr_cl D cI cJ ad (sx_A sr_lay ad sz) 4 p l e rm_M_noTwo s m args below meth c (vx_MQ below (sx_T (sx_QI sr_lay sr_cl D cI cJ ad Q sz)) (sx_XC sr_lay sr_cl D cI cJ ad (fun _ _ => False) sz) args s 0 0 (sx_A sr_lay ad sz)) 0 0 μ 27 [] [] := by
  unfold sw_M_noTwo_27 at h
  refine sx_iconst C dd_M_noTwo_27 rfl ?_
  refine sx_goto (tgt := 32) C dd_M_noTwo_28 (by decide) ?_
  exact sm_M_noTwo_32 C hZ hr hlk ht hlf h
set_option maxHeartbeats 4000000 in
set_option maxRecDepth 100000 in
theorem sm_M_noTwo {l : Launch} {D : va_G} {cI cJ : ClassId} {ad : Nat → Nat} {Q : Int → sx_M → Prop} (hlf : l.stackTraces = false) {μ : sx_M} {a1 a2 a3 : Int} (h : sw_M_noTwo Q μ a1 a2 a3) (sz : Nat) : sx_MI l yy_M_noTwo (Cond.code yy_M_noTwo prog_7_method_29_code 4 (some .boolean) :: sr_ts) rm_M_noTwo sr_lay sr_cl D cI cJ ad [.ref (ad 19), .int (sx_i a1), .int (sx_i a2), .int (sx_i a3)] μ Q (fun _ _ => False) 0 0 sz := by
  refine sx_body (plainFor_of_name (by decide +kernel)) rfl (Nat.le_of_ble_eq_true rfl) ?_
  intro p e s m below meth c C hZ hr hlk ht
  unfold sw_M_noTwo at h
  show sx_V sr_lay sr_cl D cI cJ ad (sx_A sr_lay ad sz) 4 p l e rm_M_noTwo s m _ below meth c (vx_MQ below (sx_T (sx_QI sr_lay sr_cl D cI cJ ad Q sz)) (sx_XC sr_lay sr_cl D cI cJ ad (fun _ _ => False) sz) _ s 0 0 (sx_A sr_lay ad sz)) 0 0 μ 0 [(0, .ref (ad 19)), (1, .int (sx_i a1)), (2, .int (sx_i a2)), (3, .int (sx_i a3))] []
  refine sx_iload_n C 1 dd_M_noTwo_0 rfl rfl ?_
  refine sx_iconst C dd_M_noTwo_1 rfl ?_
  refine sx_iconst C dd_M_noTwo_2 rfl ?_
  refine sx_stcI C hZ [.int (sx_i a1), .int (sx_i 0), .int (sx_i 3)] (fun sz2 => sm_M_isIn hlf h sz2) (sx_cwS (n := 3) C.2.2.2.2.1 wd_670 wd_668 wd_669 wd_8 rfl rfl (by decide +kernel) ⟨by decide, by decide⟩) rfl rfl (Nat.le_of_ble_eq_true rfl) dd_M_noTwo_3 ⟨(Nat.le_of_ble_eq_true rfl), (Nat.le_of_ble_eq_true rfl)⟩ sx_noX (fun v1 μ1 h => ?_)
  refine sx_if_eq (tgt := 27) C dd_M_noTwo_6 (by decide) h (fun h => ?_) (fun h => ?_)
  · refine sx_less (lu := []) C [] rfl ?_
    exact sm_M_noTwo_27 C hZ hr hlk ht hlf h
  · refine sx_iload_n C 2 dd_M_noTwo_9 rfl rfl ?_
    refine sx_iconst C dd_M_noTwo_10 rfl ?_
    refine sx_iconst C dd_M_noTwo_11 rfl ?_
    refine sx_stcI C hZ [.int (sx_i a2), .int (sx_i 0), .int (sx_i 3)] (fun sz2 => sm_M_isIn hlf h sz2) (sx_cwS (n := 3) C.2.2.2.2.1 wd_670 wd_668 wd_669 wd_8 rfl rfl (by decide +kernel) ⟨by decide, by decide⟩) rfl rfl (Nat.le_of_ble_eq_true rfl) dd_M_noTwo_12 ⟨(Nat.le_of_ble_eq_true rfl), (Nat.le_of_ble_eq_true rfl)⟩ sx_noX (fun v2 μ2 h => ?_)
    refine sx_if_eq (tgt := 27) C dd_M_noTwo_15 (by decide) h (fun h => ?_) (fun h => ?_)
    · refine sx_less (lu := []) C [] rfl ?_
      exact sm_M_noTwo_27 C hZ hr hlk ht hlf h
    · refine sx_iload_n C 3 dd_M_noTwo_18 rfl rfl ?_
      refine sx_iconst C dd_M_noTwo_19 rfl ?_
      refine sx_iconst C dd_M_noTwo_20 rfl ?_
      refine sx_stcI C hZ [.int (sx_i a3), .int (sx_i 0), .int (sx_i 1)] (fun sz2 => sm_M_isIn hlf h sz2) (sx_cwS (n := 3) C.2.2.2.2.1 wd_670 wd_668 wd_669 wd_8 rfl rfl (by decide +kernel) ⟨by decide, by decide⟩) rfl rfl (Nat.le_of_ble_eq_true rfl) dd_M_noTwo_21 ⟨(Nat.le_of_ble_eq_true rfl), (Nat.le_of_ble_eq_true rfl)⟩ sx_noX (fun v3 μ3 h => ?_)
      refine sx_if_ne (tgt := 31) C dd_M_noTwo_24 (by decide) h (fun h => ?_) (fun h => ?_)
      · refine sx_iconst C dd_M_noTwo_31 rfl ?_
        refine sx_less (lu := []) C [] rfl ?_
        exact sm_M_noTwo_32 C hZ hr hlk ht hlf h
      · refine sx_less (lu := []) C [] rfl ?_
        exact sm_M_noTwo_27 C hZ hr hlk ht hlf h
def rm_M_both : Room := { frames := 0, cells := 0, slots := 0, locals := 0 }
set_option maxHeartbeats 4000000 in
set_option maxRecDepth 100000 in
theorem sm_M_both_33 (C : sx_C sr_lay sr_cl D cI cJ ad (sx_A sr_lay ad sz) 4 "StoneRingsModel" prog_7_method_30_code sr_ts p s m args c) (hZ : sx_Z (sx_A sr_lay ad sz) s s.heap) (hr : meth.sig.returnType = (some .boolean)) (hlk : meth.locks = false) (ht : ∀ x ∈ c.exceptionTable.toList, False) (hlf : l.stackTraces = false) {y0 : Int} {μ : sx_M} (h : sw_M_both_33 Q y0 μ) : sx_V sr_lay sr_cl D cI cJ ad (sx_A sr_lay ad sz) 4 p l e rm_M_both s m args below meth c (vx_MQ below (sx_T (sx_QI sr_lay sr_cl D cI cJ ad Q sz)) (sx_XC sr_lay sr_cl D cI cJ ad (fun _ _ => False) sz) args s 0 0 (sx_A sr_lay ad sz)) 0 0 μ 33 [] [.int (sx_i y0)] := by
  unfold sw_M_both_33 at h
  exact sx_zret C hr hlk dd_M_both_33 h
set_option maxHeartbeats 4000000 in
set_option maxRecDepth 100000 in
theorem sm_M_both_32 (C : sx_C sr_lay sr_cl D cI cJ ad (sx_A sr_lay ad sz) 4 "StoneRingsModel" prog_7_method_30_code sr_ts p s m args c) (hZ : sx_Z (sx_A sr_lay ad sz) s s.heap) (hr : meth.sig.returnType = (some .boolean)) (hlk : meth.locks = false) (ht : ∀ x ∈ c.exceptionTable.toList, False) (hlf : l.stackTraces = false) {μ : sx_M} (h : sw_M_both_32 Q μ) : sx_V sr_lay sr_cl D cI cJ ad (sx_A sr_lay ad sz) 4 p l e rm_M_both s m args below meth c (vx_MQ below (sx_T (sx_QI sr_lay sr_cl D cI cJ ad Q sz)) (sx_XC sr_lay sr_cl D cI cJ ad (fun _ _ => False) sz) args s 0 0 (sx_A sr_lay ad sz)) 0 0 μ 32 [] [] := by
  unfold sw_M_both_32 at h
  refine sx_iconst C dd_M_both_32 rfl ?_
  exact sm_M_both_33 C hZ hr hlk ht hlf h
set_option maxHeartbeats 4000000 in
set_option maxRecDepth 100000 in
theorem sm_M_both {l : Launch} {D : va_G} {cI cJ : ClassId} {ad : Nat → Nat} {Q : Int → sx_M → Prop} (hlf : l.stackTraces = false) {μ : sx_M} {a1 a2 a3 : Int} (h : sw_M_both Q μ a1 a2 a3) (sz : Nat) : sx_MI l yy_M_both (Cond.code yy_M_both prog_7_method_30_code 4 (some .boolean) :: sr_ts) rm_M_both sr_lay sr_cl D cI cJ ad [.ref (ad 19), .int (sx_i a1), .int (sx_i a2), .int (sx_i a3)] μ Q (fun _ _ => False) 0 0 sz := by
  refine sx_body (plainFor_of_name (by decide +kernel)) rfl (Nat.le_of_ble_eq_true rfl) ?_
  intro p e s m below meth c C hZ hr hlk ht
  unfold sw_M_both at h
  show sx_V sr_lay sr_cl D cI cJ ad (sx_A sr_lay ad sz) 4 p l e rm_M_both s m _ below meth c (vx_MQ below (sx_T (sx_QI sr_lay sr_cl D cI cJ ad Q sz)) (sx_XC sr_lay sr_cl D cI cJ ad (fun _ _ => False) sz) _ s 0 0 (sx_A sr_lay ad sz)) 0 0 μ 0 [(0, .ref (ad 19)), (1, .int (sx_i a1)), (2, .int (sx_i a2)), (3, .int (sx_i a3))] []
  refine sx_aload_n C 0 dd_M_both_0 rfl rfl ?_
  refine sx_getr (ref := "StoneRingsModel") C 19 20 rfl rfl (rfl : sr_cl[5]? = some ("StoneRingsModel", tt_M, 21)) (by decide) in_M wd_612 rfl dd_M_both_1 ?_
  refine sx_bipush (v := 20) C dd_M_both_4 (by decide +kernel) ?_
  refine sx_iload_n C 1 dd_M_both_6 rfl rfl ?_
  refine sx_imul C dd_M_both_7 ?_
  refine sx_iload_n C 3 dd_M_both_8 rfl rfl ?_
  refine sx_iadd C dd_M_both_9 ?_
  refine sx_iald (N := 80) C 29 rfl rfl (by decide) dd_M_both_10 h (fun h => ?_)
  refine sx_if_le (tgt := 32) C dd_M_both_11 (by decide) h (fun h => ?_) (fun h => ?_)
  · refine sx_less (lu := []) C [] rfl ?_
    exact sm_M_both_32 C hZ hr hlk ht hlf h
  · refine sx_aload_n C 0 dd_M_both_14 rfl rfl ?_
    refine sx_getr (ref := "StoneRingsModel") C 19 20 rfl rfl (rfl : sr_cl[5]? = some ("StoneRingsModel", tt_M, 21)) (by decide) in_M wd_612 rfl dd_M_both_15 ?_
    refine sx_bipush (v := 20) C dd_M_both_18 (by decide +kernel) ?_
    refine sx_iload_n C 2 dd_M_both_20 rfl rfl ?_
    refine sx_imul C dd_M_both_21 ?_
    refine sx_iload_n C 3 dd_M_both_22 rfl rfl ?_
    refine sx_iadd C dd_M_both_23 ?_
    refine sx_iald (N := 80) C 29 rfl rfl (by decide) dd_M_both_24 h (fun h => ?_)
    refine sx_if_le (tgt := 32) C dd_M_both_25 (by decide) h (fun h => ?_) (fun h => ?_)
    · refine sx_less (lu := []) C [] rfl ?_
      exact sm_M_both_32 C hZ hr hlk ht hlf h
    · refine sx_iconst C dd_M_both_28 rfl ?_
      refine sx_goto (tgt := 33) C dd_M_both_29 (by decide) ?_
      refine sx_less (lu := []) C [] rfl ?_
      exact sm_M_both_33 C hZ hr hlk ht hlf h
def rm_M_part : Room := { frames := 1, cells := 0, slots := 0, locals := 20 }
set_option maxHeartbeats 4000000 in
set_option maxRecDepth 100000 in
theorem sm_M_part_48 (C : sx_C sr_lay sr_cl D cI cJ ad (sx_A sr_lay ad sz) 6 "StoneRingsModel" prog_7_method_28_code sr_ts p s m args c) (hZ : sx_Z (sx_A sr_lay ad sz) s s.heap) (hr : meth.sig.returnType = (some .int)) (hlk : meth.locks = false) (ht : ∀ x ∈ c.exceptionTable.toList, False) (hlf : l.stackTraces = false) {y0 : Int} {μ : sx_M} (h : sw_M_part_48 Q y0 μ) : sx_V sr_lay sr_cl D cI cJ ad (sx_A sr_lay ad sz) 6 p l e rm_M_part s m args below meth c (vx_MQ below (sx_T (sx_QI sr_lay sr_cl D cI cJ ad Q sz)) (sx_XC sr_lay sr_cl D cI cJ ad (fun _ _ => False) sz) args s 0 0 (sx_A sr_lay ad sz)) 0 0 μ 48 [] [.int (sx_i y0)] := by
  unfold sw_M_part_48 at h
  exact sx_iret C hr hlk dd_M_part_48 h
set_option maxHeartbeats 4000000 in
set_option maxRecDepth 100000 in
theorem sm_M_part_14 (C : sx_C sr_lay sr_cl D cI cJ ad (sx_A sr_lay ad sz) 6 "StoneRingsModel" prog_7_method_28_code sr_ts p s m args c) (hZ : sx_Z (sx_A sr_lay ad sz) s s.heap) (hr : meth.sig.returnType = (some .int)) (hlk : meth.locks = false) (ht : ∀ x ∈ c.exceptionTable.toList, False) (hlf : l.stackTraces = false) : ∀ (n : Nat) (x0 x1 x2 x3 x4 : Int) (μ : sx_M), sw_M_part_14 Q n x0 x1 x2 x3 x4 μ → sx_V sr_lay sr_cl D cI cJ ad (sx_A sr_lay ad sz) 6 p l e rm_M_part s m args below meth c (vx_MQ below (sx_T (sx_QI sr_lay sr_cl D cI cJ ad Q sz)) (sx_XC sr_lay sr_cl D cI cJ ad (fun _ _ => False) sz) args s 0 0 (sx_A sr_lay ad sz)) 0 0 μ 14 [(0, .int (sx_i x0)), (1, .int (sx_i x1)), (2, .int (sx_i x2)), (3, .int (sx_i x3)), (4, .int (sx_i x4))] [] := by
  intro n
  induction n with
  | zero =>
    intro x0 x1 x2 x3 x4 μ h
    exact h.elim
  | succ n ih =>
    intro x0 x1 x2 x3 x4 μ h
    have hr14 := ih
    unfold sw_M_part_14 at h
    refine sx_iload_n C 3 dd_M_part_14 rfl rfl ?_
    refine sx_if_eq (tgt := 33) C dd_M_part_15 (by decide) h (fun h => ?_) (fun h => ?_)
    · refine sx_iload_n C 2 dd_M_part_33 rfl rfl ?_
      refine sx_if_ne (tgt := 44) C dd_M_part_34 (by decide) h (fun h => ?_) (fun h => ?_)
      · refine sx_iload_n C 1 dd_M_part_44 rfl rfl ?_
        refine sx_iload C 4 dd_M_part_45 rfl ?_
        refine sx_idiv C dd_M_part_47 h (fun h => ?_)
        refine sx_less (lu := []) C [] rfl ?_
        exact sm_M_part_48 C hZ hr hlk ht hlf h
      · refine sx_iload_n C 0 dd_M_part_37 rfl rfl ?_
        refine sx_iload C 4 dd_M_part_38 rfl ?_
        refine sx_idiv C dd_M_part_40 h (fun h => ?_)
        refine sx_goto (tgt := 48) C dd_M_part_41 (by decide) ?_
        refine sx_less (lu := []) C [] rfl ?_
        exact sm_M_part_48 C hZ hr hlk ht hlf h
    · refine sx_iload C 4 dd_M_part_18 rfl ?_
      refine sx_iload_n C 3 dd_M_part_20 rfl rfl ?_
      refine sx_irem C dd_M_part_21 h (fun h => ?_)
      refine sx_istore (lu := [(5, .int (sx_i (x4.tmod x3))), (0, .int (sx_i x0)), (1, .int (sx_i x1)), (2, .int (sx_i x2)), (3, .int (sx_i x3)), (4, .int (sx_i x4))]) C dd_M_part_22 (by decide) rfl ?_
      refine sx_iload_n C 4 dd_M_part_24 rfl rfl ?_
      refine sx_istore (lu := [(4, .int (sx_i x3)), (5, .int (sx_i (x4.tmod x3))), (0, .int (sx_i x0)), (1, .int (sx_i x1)), (2, .int (sx_i x2)), (3, .int (sx_i x3))]) C dd_M_part_25 (by decide) rfl ?_
      refine sx_iload C 1 dd_M_part_27 rfl ?_
      refine sx_istore_n (lu := [(3, .int (sx_i (x4.tmod x3))), (4, .int (sx_i x3)), (5, .int (sx_i (x4.tmod x3))), (0, .int (sx_i x0)), (1, .int (sx_i x1)), (2, .int (sx_i x2))]) C dd_M_part_29 rfl (by decide) rfl ?_
      refine sx_goto (tgt := 14) C dd_M_part_30 (by decide) ?_
      refine sx_less (lu := [(0, .int (sx_i x0)), (1, .int (sx_i x1)), (2, .int (sx_i x2)), (3, .int (sx_i (x4.tmod x3))), (4, .int (sx_i x3))]) C [3, 4, 5, 0, 1] rfl ?_
      exact hr14 _ _ _ _ _ _ h
set_option maxHeartbeats 4000000 in
set_option maxRecDepth 100000 in
theorem sm_M_part {l : Launch} {D : va_G} {cI cJ : ClassId} {ad : Nat → Nat} {Q : Int → sx_M → Prop} (hlf : l.stackTraces = false) {μ : sx_M} {a0 a1 a2 : Int} (h : sw_M_part Q μ a0 a1 a2) (sz : Nat) : sx_MI l yy_M_part (Cond.code yy_M_part prog_7_method_28_code 6 (some .int) :: sr_ts) rm_M_part sr_lay sr_cl D cI cJ ad [.int (sx_i a0), .int (sx_i a1), .int (sx_i a2)] μ Q (fun _ _ => False) 0 0 sz := by
  refine sx_body (plainFor_of_name (by decide +kernel)) rfl (Nat.le_of_ble_eq_true rfl) ?_
  intro p e s m below meth c C hZ hr hlk ht
  unfold sw_M_part at h
  show sx_V sr_lay sr_cl D cI cJ ad (sx_A sr_lay ad sz) 6 p l e rm_M_part s m _ below meth c (vx_MQ below (sx_T (sx_QI sr_lay sr_cl D cI cJ ad Q sz)) (sx_XC sr_lay sr_cl D cI cJ ad (fun _ _ => False) sz) _ s 0 0 (sx_A sr_lay ad sz)) 0 0 μ 0 [(0, .int (sx_i a0)), (1, .int (sx_i a1)), (2, .int (sx_i a2))] []
  refine sx_iload_n C 1 dd_M_part_0 rfl rfl ?_
  refine sx_if_ne (tgt := 6) C dd_M_part_1 (by decide) h (fun h => ?_) (fun h => ?_)
  · refine sx_iload_n C 0 dd_M_part_6 rfl rfl ?_
    refine sx_stcI C hZ [.int (sx_i a0)] (fun sz2 => sm_M_size hlf h sz2) (sx_cwS (n := 1) C.2.2.2.2.1 wd_701 wd_699 wd_700 wd_8 rfl rfl (by decide +kernel) ⟨by decide, by decide⟩) rfl rfl (Nat.le_of_ble_eq_true rfl) dd_M_part_7 ⟨(Nat.le_of_ble_eq_true rfl), (Nat.le_of_ble_eq_true rfl)⟩ sx_noX (fun v1 μ1 h => ?_)
    refine sx_istore_n (lu := [(3, .int (sx_i v1)), (0, .int (sx_i a0)), (1, .int (sx_i a1)), (2, .int (sx_i a2))]) C dd_M_part_10 rfl (by decide) rfl ?_
    refine sx_iload_n C 2 dd_M_part_11 rfl rfl ?_
    refine sx_istore (lu := [(4, .int (sx_i a1)), (3, .int (sx_i v1)), (0, .int (sx_i a0)), (1, .int (sx_i a1)), (2, .int (sx_i a2))]) C dd_M_part_12 (by decide) rfl ?_
    refine sx_less (lu := [(0, .int (sx_i a0)), (1, .int (sx_i a1)), (2, .int (sx_i a2)), (3, .int (sx_i v1)), (4, .int (sx_i a1))]) C [2, 3, 4, 1, 0] rfl ?_
    exact sm_M_part_14 C hZ hr hlk ht hlf 600 _ _ _ _ _ _ h
  · refine sx_iload_n C 2 dd_M_part_4 rfl rfl ?_
    exact sx_iret C hr hlk dd_M_part_5 h
end SXG
