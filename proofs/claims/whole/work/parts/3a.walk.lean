section SXG
variable {D : va_G} {cI cJ : ClassId} {ad : Nat → Nat} {sz : Nat} {p : Program} {l : Launch} {e : Env} {s : State} {m : MethodId} {args : Array Value} {below : List Frame} {meth : Method} {c : Code} {Q : Int → sx_M → Prop} {X : String → sx_M → Prop}
def rm_M_right : Room := { frames := 2, cells := 0, slots := 0, locals := 50 }
set_option maxHeartbeats 4000000 in
set_option maxRecDepth 100000 in
theorem sm_M_right_34 (C : sx_C sr_lay sr_cl D cI cJ ad (sx_A sr_lay ad sz) 2 "StoneRingsModel" prog_7_method_36_code sr_ts p s m args c) (hZ : sx_Z (sx_A sr_lay ad sz) s s.heap) (hr : meth.sig.returnType = (some .int)) (hlk : meth.locks = false) (ht : ∀ x ∈ c.exceptionTable.toList, False) (hlf : l.stackTraces = false) {y0 : Int} {μ : sx_M} (h : sw_M_right_34 Q y0 μ) : sx_V sr_lay sr_cl D cI cJ ad (sx_A sr_lay ad sz) 2 p l e rm_M_right s m args below meth c (vx_MQ below (sx_T (sx_QI sr_lay sr_cl D cI cJ ad Q sz)) (sx_XC sr_lay sr_cl D cI cJ ad (fun _ _ => False) sz) args s 0 0 (sx_A sr_lay ad sz)) 0 0 μ 34 [] [.int (sx_i y0)] := by
  unfold sw_M_right_34 at h
  exact sx_iret C hr hlk dd_M_right_34 h
set_option maxHeartbeats 4000000 in
set_option maxRecDepth 100000 in
theorem sm_M_right_15 (C : sx_C sr_lay sr_cl D cI cJ ad (sx_A sr_lay ad sz) 2 "StoneRingsModel" prog_7_method_36_code sr_ts p s m args c) (hZ : sx_Z (sx_A sr_lay ad sz) s s.heap) (hr : meth.sig.returnType = (some .int)) (hlk : meth.locks = false) (ht : ∀ x ∈ c.exceptionTable.toList, False) (hlf : l.stackTraces = false) {x1 y1 : Int} {μ : sx_M} (h : sw_M_right_15 Q x1 y1 μ) : sx_V sr_lay sr_cl D cI cJ ad (sx_A sr_lay ad sz) 2 p l e rm_M_right s m args below meth c (vx_MQ below (sx_T (sx_QI sr_lay sr_cl D cI cJ ad Q sz)) (sx_XC sr_lay sr_cl D cI cJ ad (fun _ _ => False) sz) args s 0 0 (sx_A sr_lay ad sz)) 0 0 μ 15 [(0, .ref (ad 19)), (1, .int (sx_i x1))] [.int (sx_i y1), .ref (ad 19)] := by
  unfold sw_M_right_15 at h
  refine sx_puti (K := 0) (ref := "StoneRingsModel") (ty := .int) C 19 0 rfl rfl rfl (rfl : sr_cl[5]? = some ("StoneRingsModel", tt_M, 21)) (by decide) in_M ty_M tyk_M nm_M wd_592 rfl rfl (by decide +kernel) rfl rfl dd_M_right_15 ?_
  refine sx_aload_n C 0 dd_M_right_18 rfl rfl ?_
  refine sx_geti (K := 0) (ref := "StoneRingsModel") C 19 0 rfl rfl rfl (rfl : sr_cl[5]? = some ("StoneRingsModel", tt_M, 21)) (by decide) in_M wd_592 rfl dd_M_right_19 ?_
  refine sx_if_le (tgt := 29) C dd_M_right_22 (by decide) h (fun h => ?_) (fun h => ?_)
  · refine sx_aload_n C 0 dd_M_right_29 rfl rfl ?_
    refine sx_iload_n C 1 dd_M_right_30 rfl rfl ?_
    refine sx_invI (c0 := 19) C hZ [.int (sx_i x1)] (fun sz2 => sm_M_rightOf hlf h sz2) (sx_cwV (n := 1) C.2.2.2.2.1 wd_794 wd_791 wd_793 wp_M_rightOf wd_8 rfl rfl (by decide +kernel) ⟨by decide, by decide⟩) rfl (rfl : sr_cl[5]? = some ("StoneRingsModel", tt_M, 21)) rfl rfl (Nat.le_of_ble_eq_true rfl) dd_M_right_31 ⟨(Nat.le_of_ble_eq_true rfl), (Nat.le_of_ble_eq_true rfl)⟩ sx_noX (fun v1 μ1 h => ?_)
    refine sx_less (lu := []) C [] rfl ?_
    exact sm_M_right_34 C hZ hr hlk ht hlf h
  · refine sx_iconst C dd_M_right_25 rfl ?_
    refine sx_goto (tgt := 34) C dd_M_right_26 (by decide) ?_
    refine sx_less (lu := []) C [] rfl ?_
    exact sm_M_right_34 C hZ hr hlk ht hlf h
set_option maxHeartbeats 4000000 in
set_option maxRecDepth 100000 in
theorem sm_M_right {l : Launch} {D : va_G} {cI cJ : ClassId} {ad : Nat → Nat} {Q : Int → sx_M → Prop} (hlf : l.stackTraces = false) {μ : sx_M} {a1 : Int} (h : sw_M_right Q μ a1) (sz : Nat) : sx_MI l yy_M_right (Cond.code yy_M_right prog_7_method_36_code 2 (some .int) :: sr_ts) rm_M_right sr_lay sr_cl D cI cJ ad [.ref (ad 19), .int (sx_i a1)] μ Q (fun _ _ => False) 0 0 sz := by
  refine sx_body (plainFor_of_name (by decide +kernel)) rfl (Nat.le_of_ble_eq_true rfl) ?_
  intro p e s m below meth c C hZ hr hlk ht
  unfold sw_M_right at h
  show sx_V sr_lay sr_cl D cI cJ ad (sx_A sr_lay ad sz) 2 p l e rm_M_right s m _ below meth c (vx_MQ below (sx_T (sx_QI sr_lay sr_cl D cI cJ ad Q sz)) (sx_XC sr_lay sr_cl D cI cJ ad (fun _ _ => False) sz) _ s 0 0 (sx_A sr_lay ad sz)) 0 0 μ 0 [(0, .ref (ad 19)), (1, .int (sx_i a1))] []
  refine sx_aload_n C 0 dd_M_right_0 rfl rfl ?_
  refine sx_iload_n C 1 dd_M_right_1 rfl rfl ?_
  refine sx_iconst C dd_M_right_2 rfl ?_
  refine sx_iconst C dd_M_right_3 rfl ?_
  refine sx_stcI C hZ [.int (sx_i a1), .int (sx_i 0), .int (sx_i 3)] (fun sz2 => sm_M_isIn hlf h sz2) (sx_cwS (n := 3) C.2.2.2.2.1 wd_670 wd_668 wd_669 wd_8 rfl rfl (by decide +kernel) ⟨by decide, by decide⟩) rfl rfl (Nat.le_of_ble_eq_true rfl) dd_M_right_4 ⟨(Nat.le_of_ble_eq_true rfl), (Nat.le_of_ble_eq_true rfl)⟩ sx_noX (fun v1 μ1 h => ?_)
  refine sx_if_ne (tgt := 14) C dd_M_right_7 (by decide) h (fun h => ?_) (fun h => ?_)
  · refine sx_iconst C dd_M_right_14 rfl ?_
    exact sm_M_right_15 C hZ hr hlk ht hlf h
  · refine sx_iconst C dd_M_right_10 rfl ?_
    refine sx_goto (tgt := 15) C dd_M_right_11 (by decide) ?_
    exact sm_M_right_15 C hZ hr hlk ht hlf h
def rm_M_best : Room := { frames := 2, cells := 0, slots := 0, locals := 50 }
set_option maxHeartbeats 4000000 in
set_option maxRecDepth 100000 in
theorem sm_M_best_84 (C : sx_C sr_lay sr_cl D cI cJ ad (sx_A sr_lay ad sz) 5 "StoneRingsModel" prog_7_method_37_code sr_ts p s m args c) (hZ : sx_Z (sx_A sr_lay ad sz) s s.heap) (hr : meth.sig.returnType = (some .int)) (hlk : meth.locks = false) (ht : ∀ x ∈ c.exceptionTable.toList, False) (hlf : l.stackTraces = false) {r20 : Int → Int → sx_M → Prop} {r37 : Int → Int → Int → Int → sx_M → Prop} (hr20 : ∀ (x1 x2 : Int) (μ : sx_M), r20 x1 x2 μ → sx_V sr_lay sr_cl D cI cJ ad (sx_A sr_lay ad sz) 5 p l e rm_M_best s m args below meth c (vx_MQ below (sx_T (sx_QI sr_lay sr_cl D cI cJ ad Q sz)) (sx_XC sr_lay sr_cl D cI cJ ad (fun _ _ => False) sz) args s 0 0 (sx_A sr_lay ad sz)) 0 0 μ 20 [(0, .ref (ad 19)), (1, .int (sx_i x1)), (2, .int (sx_i x2))] []) (hr37 : ∀ (x1 x2 x3 x4 : Int) (μ : sx_M), r37 x1 x2 x3 x4 μ → sx_V sr_lay sr_cl D cI cJ ad (sx_A sr_lay ad sz) 5 p l e rm_M_best s m args below meth c (vx_MQ below (sx_T (sx_QI sr_lay sr_cl D cI cJ ad Q sz)) (sx_XC sr_lay sr_cl D cI cJ ad (fun _ _ => False) sz) args s 0 0 (sx_A sr_lay ad sz)) 0 0 μ 37 [(0, .ref (ad 19)), (1, .int (sx_i x1)), (2, .int (sx_i x2)), (3, .int (sx_i x3)), (4, .int (sx_i x4))] []) {x1 x2 x4 y0 : Int} {μ : sx_M} (h : sw_M_best_84 Q r20 r37 x1 x2 x4 y0 μ) : sx_V sr_lay sr_cl D cI cJ ad (sx_A sr_lay ad sz) 5 p l e rm_M_best s m args below meth c (vx_MQ below (sx_T (sx_QI sr_lay sr_cl D cI cJ ad Q sz)) (sx_XC sr_lay sr_cl D cI cJ ad (fun _ _ => False) sz) args s 0 0 (sx_A sr_lay ad sz)) 0 0 μ 84 [(0, .ref (ad 19)), (1, .int (sx_i x1)), (2, .int (sx_i x2)), (4, .int (sx_i x4))] [.int (sx_i y0)] := by
  unfold sw_M_best_84 at h
  refine sx_istore_n (lu := [(3, .int (sx_i y0)), (0, .ref (ad 19)), (1, .int (sx_i x1)), (2, .int (sx_i x2)), (4, .int (sx_i x4))]) C dd_M_best_84 rfl (by decide) rfl ?_
  refine sx_iinc (lu := [(4, .int (sx_i (x4 + 1))), (3, .int (sx_i y0)), (0, .ref (ad 19)), (1, .int (sx_i x1)), (2, .int (sx_i x2))]) C 4 dd_M_best_85 rfl (by decide) rfl ?_
  refine sx_goto (tgt := 37) C dd_M_best_88 (by decide) ?_
  refine sx_less (lu := [(0, .ref (ad 19)), (1, .int (sx_i x1)), (2, .int (sx_i x2)), (3, .int (sx_i y0)), (4, .int (sx_i (x4 + 1)))]) C [2, 3, 4, 1, 0] rfl ?_
  exact hr37 _ _ _ _ _ h
set_option maxHeartbeats 4000000 in
set_option maxRecDepth 100000 in
theorem sm_M_best_77 (C : sx_C sr_lay sr_cl D cI cJ ad (sx_A sr_lay ad sz) 5 "StoneRingsModel" prog_7_method_37_code sr_ts p s m args c) (hZ : sx_Z (sx_A sr_lay ad sz) s s.heap) (hr : meth.sig.returnType = (some .int)) (hlk : meth.locks = false) (ht : ∀ x ∈ c.exceptionTable.toList, False) (hlf : l.stackTraces = false) {r20 : Int → Int → sx_M → Prop} {r37 : Int → Int → Int → Int → sx_M → Prop} (hr20 : ∀ (x1 x2 : Int) (μ : sx_M), r20 x1 x2 μ → sx_V sr_lay sr_cl D cI cJ ad (sx_A sr_lay ad sz) 5 p l e rm_M_best s m args below meth c (vx_MQ below (sx_T (sx_QI sr_lay sr_cl D cI cJ ad Q sz)) (sx_XC sr_lay sr_cl D cI cJ ad (fun _ _ => False) sz) args s 0 0 (sx_A sr_lay ad sz)) 0 0 μ 20 [(0, .ref (ad 19)), (1, .int (sx_i x1)), (2, .int (sx_i x2))] []) (hr37 : ∀ (x1 x2 x3 x4 : Int) (μ : sx_M), r37 x1 x2 x3 x4 μ → sx_V sr_lay sr_cl D cI cJ ad (sx_A sr_lay ad sz) 5 p l e rm_M_best s m args below meth c (vx_MQ below (sx_T (sx_QI sr_lay sr_cl D cI cJ ad Q sz)) (sx_XC sr_lay sr_cl D cI cJ ad (fun _ _ => False) sz) args s 0 0 (sx_A sr_lay ad sz)) 0 0 μ 37 [(0, .ref (ad 19)), (1, .int (sx_i x1)), (2, .int (sx_i x2)), (3, .int (sx_i x3)), (4, .int (sx_i x4))] []) {x1 x2 x3 x4 : Int} {μ : sx_M} (h : sw_M_best_77 Q r20 r37 x1 x2 x3 x4 μ) : sx_V sr_lay sr_cl D cI cJ ad (sx_A sr_lay ad sz) 5 p l e rm_M_best s m args below meth c (vx_MQ below (sx_T (sx_QI sr_lay sr_cl D cI cJ ad Q sz)) (sx_XC sr_lay sr_cl D cI cJ ad (fun _ _ => False) sz) args s 0 0 (sx_A sr_lay ad sz)) 0 0 μ 77 [(0, .ref (ad 19)), (1, .int (sx_i x1)), (2, .int (sx_i x2)), (3, .int (sx_i x3)), (4, .int (sx_i x4))] [] := by
  unfold sw_M_best_77 at h
  refine sx_iload_n C 3 dd_M_best_77 rfl rfl ?_
  refine sx_iconst C dd_M_best_78 rfl ?_
  refine sx_iadd C dd_M_best_79 ?_
  refine sx_goto (tgt := 84) C dd_M_best_80 (by decide) ?_
  refine sx_less (lu := [(0, .ref (ad 19)), (1, .int (sx_i x1)), (2, .int (sx_i x2)), (4, .int (sx_i x4))]) C [0, 1, 2, 4] rfl ?_
  exact sm_M_best_84 C hZ hr hlk ht hlf hr20 hr37 h
set_option maxHeartbeats 4000000 in
set_option maxRecDepth 100000 in
theorem sm_M_best_83 (C : sx_C sr_lay sr_cl D cI cJ ad (sx_A sr_lay ad sz) 5 "StoneRingsModel" prog_7_method_37_code sr_ts p s m args c) (hZ : sx_Z (sx_A sr_lay ad sz) s s.heap) (hr : meth.sig.returnType = (some .int)) (hlk : meth.locks = false) (ht : ∀ x ∈ c.exceptionTable.toList, False) (hlf : l.stackTraces = false) {r20 : Int → Int → sx_M → Prop} {r37 : Int → Int → Int → Int → sx_M → Prop} (hr20 : ∀ (x1 x2 : Int) (μ : sx_M), r20 x1 x2 μ → sx_V sr_lay sr_cl D cI cJ ad (sx_A sr_lay ad sz) 5 p l e rm_M_best s m args below meth c (vx_MQ below (sx_T (sx_QI sr_lay sr_cl D cI cJ ad Q sz)) (sx_XC sr_lay sr_cl D cI cJ ad (fun _ _ => False) sz) args s 0 0 (sx_A sr_lay ad sz)) 0 0 μ 20 [(0, .ref (ad 19)), (1, .int (sx_i x1)), (2, .int (sx_i x2))] []) (hr37 : ∀ (x1 x2 x3 x4 : Int) (μ : sx_M), r37 x1 x2 x3 x4 μ → sx_V sr_lay sr_cl D cI cJ ad (sx_A sr_lay ad sz) 5 p l e rm_M_best s m args below meth c (vx_MQ below (sx_T (sx_QI sr_lay sr_cl D cI cJ ad Q sz)) (sx_XC sr_lay sr_cl D cI cJ ad (fun _ _ => False) sz) args s 0 0 (sx_A sr_lay ad sz)) 0 0 μ 37 [(0, .ref (ad 19)), (1, .int (sx_i x1)), (2, .int (sx_i x2)), (3, .int (sx_i x3)), (4, .int (sx_i x4))] []) {x1 x2 x3 x4 : Int} {μ : sx_M} (h : sw_M_best_83 Q r20 r37 x1 x2 x3 x4 μ) : sx_V sr_lay sr_cl D cI cJ ad (sx_A sr_lay ad sz) 5 p l e rm_M_best s m args below meth c (vx_MQ below (sx_T (sx_QI sr_lay sr_cl D cI cJ ad Q sz)) (sx_XC sr_lay sr_cl D cI cJ ad (fun _ _ => False) sz) args s 0 0 (sx_A sr_lay ad sz)) 0 0 μ 83 [(0, .ref (ad 19)), (1, .int (sx_i x1)), (2, .int (sx_i x2)), (3, .int (sx_i x3)), (4, .int (sx_i x4))] [] := by
  unfold sw_M_best_83 at h
  refine sx_iload_n C 3 dd_M_best_83 rfl rfl ?_
  refine sx_less (lu := [(0, .ref (ad 19)), (1, .int (sx_i x1)), (2, .int (sx_i x2)), (4, .int (sx_i x4))]) C [0, 1, 2, 4] rfl ?_
  exact sm_M_best_84 C hZ hr hlk ht hlf hr20 hr37 h
set_option maxHeartbeats 4000000 in
set_option maxRecDepth 100000 in
theorem sm_M_best_37 (C : sx_C sr_lay sr_cl D cI cJ ad (sx_A sr_lay ad sz) 5 "StoneRingsModel" prog_7_method_37_code sr_ts p s m args c) (hZ : sx_Z (sx_A sr_lay ad sz) s s.heap) (hr : meth.sig.returnType = (some .int)) (hlk : meth.locks = false) (ht : ∀ x ∈ c.exceptionTable.toList, False) (hlf : l.stackTraces = false) {r20 : Int → Int → sx_M → Prop} (hr20 : ∀ (x1 x2 : Int) (μ : sx_M), r20 x1 x2 μ → sx_V sr_lay sr_cl D cI cJ ad (sx_A sr_lay ad sz) 5 p l e rm_M_best s m args below meth c (vx_MQ below (sx_T (sx_QI sr_lay sr_cl D cI cJ ad Q sz)) (sx_XC sr_lay sr_cl D cI cJ ad (fun _ _ => False) sz) args s 0 0 (sx_A sr_lay ad sz)) 0 0 μ 20 [(0, .ref (ad 19)), (1, .int (sx_i x1)), (2, .int (sx_i x2))] []) : ∀ (n : Nat) (x1 x2 x3 x4 : Int) (μ : sx_M), sw_M_best_37 Q r20 n x1 x2 x3 x4 μ → sx_V sr_lay sr_cl D cI cJ ad (sx_A sr_lay ad sz) 5 p l e rm_M_best s m args below meth c (vx_MQ below (sx_T (sx_QI sr_lay sr_cl D cI cJ ad Q sz)) (sx_XC sr_lay sr_cl D cI cJ ad (fun _ _ => False) sz) args s 0 0 (sx_A sr_lay ad sz)) 0 0 μ 37 [(0, .ref (ad 19)), (1, .int (sx_i x1)), (2, .int (sx_i x2)), (3, .int (sx_i x3)), (4, .int (sx_i x4))] [] := by
  intro n
  induction n with
  | zero =>
    intro x1 x2 x3 x4 μ h
    exact h.elim
  | succ n ih =>
    intro x1 x2 x3 x4 μ h
    have hr37 := ih
    unfold sw_M_best_37 at h
    refine sx_iload C 4 dd_M_best_37 rfl ?_
    refine sx_iconst C dd_M_best_39 rfl ?_
    refine sx_icmp_ge (tgt := 91) C dd_M_best_40 (by decide) h (fun h => ?_) (fun h => ?_)
    · refine sx_iload_n C 3 dd_M_best_91 rfl rfl ?_
      refine sx_iload_n C 1 dd_M_best_92 rfl rfl ?_
      refine sx_icmp_ne (tgt := 98) C dd_M_best_93 (by decide) h (fun h => ?_) (fun h => ?_)
      · refine sx_iinc (lu := [(2, .int (sx_i (x2 + 1))), (0, .ref (ad 19)), (1, .int (sx_i x1)), (3, .int (sx_i x3)), (4, .int (sx_i x4))]) C 2 dd_M_best_98 rfl (by decide) rfl ?_
        refine sx_goto (tgt := 20) C dd_M_best_101 (by decide) ?_
        refine sx_less (lu := [(0, .ref (ad 19)), (1, .int (sx_i x1)), (2, .int (sx_i (x2 + 1)))]) C [1, 2, 0] rfl ?_
        exact hr20 _ _ _ h
      · refine sx_iload_n C 2 dd_M_best_96 rfl rfl ?_
        exact sx_iret C hr hlk dd_M_best_97 h
    · refine sx_aload_n C 0 dd_M_best_43 rfl rfl ?_
      refine sx_iload C 4 dd_M_best_44 rfl ?_
      refine sx_invI (c0 := 19) C hZ [.int (sx_i x4)] (fun sz2 => sm_M_rightOf hlf h sz2) (sx_cwV (n := 1) C.2.2.2.2.1 wd_794 wd_791 wd_793 wp_M_rightOf wd_8 rfl rfl (by decide +kernel) ⟨by decide, by decide⟩) rfl (rfl : sr_cl[5]? = some ("StoneRingsModel", tt_M, 21)) rfl rfl (Nat.le_of_ble_eq_true rfl) dd_M_best_46 ⟨(Nat.le_of_ble_eq_true rfl), (Nat.le_of_ble_eq_true rfl)⟩ sx_noX (fun v1 μ1 h => ?_)
      refine sx_aload_n C 0 dd_M_best_49 rfl rfl ?_
      refine sx_iload_n C 2 dd_M_best_50 rfl rfl ?_
      refine sx_invI (c0 := 19) C hZ [.int (sx_i x2)] (fun sz2 => sm_M_rightOf hlf h sz2) (sx_cwV (n := 1) C.2.2.2.2.1 wd_794 wd_791 wd_793 wp_M_rightOf wd_8 rfl rfl (by decide +kernel) ⟨by decide, by decide⟩) rfl (rfl : sr_cl[5]? = some ("StoneRingsModel", tt_M, 21)) rfl rfl (Nat.le_of_ble_eq_true rfl) dd_M_best_51 ⟨(Nat.le_of_ble_eq_true rfl), (Nat.le_of_ble_eq_true rfl)⟩ sx_noX (fun v2 μ2 h => ?_)
      refine sx_icmp_gt (tgt := 77) C dd_M_best_54 (by decide) h (fun h => ?_) (fun h => ?_)
      · exact sm_M_best_77 C hZ hr hlk ht hlf hr20 hr37 h
      · refine sx_aload_n C 0 dd_M_best_57 rfl rfl ?_
        refine sx_iload C 4 dd_M_best_58 rfl ?_
        refine sx_invI (c0 := 19) C hZ [.int (sx_i x4)] (fun sz2 => sm_M_rightOf hlf h sz2) (sx_cwV (n := 1) C.2.2.2.2.1 wd_794 wd_791 wd_793 wp_M_rightOf wd_8 rfl rfl (by decide +kernel) ⟨by decide, by decide⟩) rfl (rfl : sr_cl[5]? = some ("StoneRingsModel", tt_M, 21)) rfl rfl (Nat.le_of_ble_eq_true rfl) dd_M_best_60 ⟨(Nat.le_of_ble_eq_true rfl), (Nat.le_of_ble_eq_true rfl)⟩ sx_noX (fun v3 μ3 h => ?_)
        refine sx_aload_n C 0 dd_M_best_63 rfl rfl ?_
        refine sx_iload_n C 2 dd_M_best_64 rfl rfl ?_
        refine sx_invI (c0 := 19) C hZ [.int (sx_i x2)] (fun sz2 => sm_M_rightOf hlf h sz2) (sx_cwV (n := 1) C.2.2.2.2.1 wd_794 wd_791 wd_793 wp_M_rightOf wd_8 rfl rfl (by decide +kernel) ⟨by decide, by decide⟩) rfl (rfl : sr_cl[5]? = some ("StoneRingsModel", tt_M, 21)) rfl rfl (Nat.le_of_ble_eq_true rfl) dd_M_best_65 ⟨(Nat.le_of_ble_eq_true rfl), (Nat.le_of_ble_eq_true rfl)⟩ sx_noX (fun v4 μ4 h => ?_)
        refine sx_icmp_ne (tgt := 83) C dd_M_best_68 (by decide) h (fun h => ?_) (fun h => ?_)
        · exact sm_M_best_83 C hZ hr hlk ht hlf hr20 hr37 h
        · refine sx_iload C 4 dd_M_best_71 rfl ?_
          refine sx_iload_n C 2 dd_M_best_73 rfl rfl ?_
          refine sx_icmp_ge (tgt := 83) C dd_M_best_74 (by decide) h (fun h => ?_) (fun h => ?_)
          · exact sm_M_best_83 C hZ hr hlk ht hlf hr20 hr37 h
          · exact sm_M_best_77 C hZ hr hlk ht hlf hr20 hr37 h
set_option maxHeartbeats 4000000 in
set_option maxRecDepth 100000 in
theorem sm_M_best_104 (C : sx_C sr_lay sr_cl D cI cJ ad (sx_A sr_lay ad sz) 5 "StoneRingsModel" prog_7_method_37_code sr_ts p s m args c) (hZ : sx_Z (sx_A sr_lay ad sz) s s.heap) (hr : meth.sig.returnType = (some .int)) (hlk : meth.locks = false) (ht : ∀ x ∈ c.exceptionTable.toList, False) (hlf : l.stackTraces = false) {μ : sx_M} (h : sw_M_best_104 Q μ) : sx_V sr_lay sr_cl D cI cJ ad (sx_A sr_lay ad sz) 5 p l e rm_M_best s m args below meth c (vx_MQ below (sx_T (sx_QI sr_lay sr_cl D cI cJ ad Q sz)) (sx_XC sr_lay sr_cl D cI cJ ad (fun _ _ => False) sz) args s 0 0 (sx_A sr_lay ad sz)) 0 0 μ 104 [] [] := by
  unfold sw_M_best_104 at h
  refine sx_iconst C dd_M_best_104 rfl ?_
  exact sx_iret C hr hlk dd_M_best_105 h
set_option maxHeartbeats 4000000 in
set_option maxRecDepth 100000 in
theorem sm_M_best_20 (C : sx_C sr_lay sr_cl D cI cJ ad (sx_A sr_lay ad sz) 5 "StoneRingsModel" prog_7_method_37_code sr_ts p s m args c) (hZ : sx_Z (sx_A sr_lay ad sz) s s.heap) (hr : meth.sig.returnType = (some .int)) (hlk : meth.locks = false) (ht : ∀ x ∈ c.exceptionTable.toList, False) (hlf : l.stackTraces = false) : ∀ (n : Nat) (x1 x2 : Int) (μ : sx_M), sw_M_best_20 Q n x1 x2 μ → sx_V sr_lay sr_cl D cI cJ ad (sx_A sr_lay ad sz) 5 p l e rm_M_best s m args below meth c (vx_MQ below (sx_T (sx_QI sr_lay sr_cl D cI cJ ad Q sz)) (sx_XC sr_lay sr_cl D cI cJ ad (fun _ _ => False) sz) args s 0 0 (sx_A sr_lay ad sz)) 0 0 μ 20 [(0, .ref (ad 19)), (1, .int (sx_i x1)), (2, .int (sx_i x2))] [] := by
  intro n
  induction n with
  | zero =>
    intro x1 x2 μ h
    exact h.elim
  | succ n ih =>
    intro x1 x2 μ h
    have hr20 := ih
    unfold sw_M_best_20 at h
    refine sx_iload_n C 2 dd_M_best_20 rfl rfl ?_
    refine sx_iconst C dd_M_best_21 rfl ?_
    refine sx_icmp_ge (tgt := 104) C dd_M_best_22 (by decide) h (fun h => ?_) (fun h => ?_)
    · refine sx_less (lu := []) C [] rfl ?_
      exact sm_M_best_104 C hZ hr hlk ht hlf h
    · refine sx_aload_n C 0 dd_M_best_25 rfl rfl ?_
      refine sx_geti (K := 0) (ref := "StoneRingsModel") C 19 0 rfl rfl rfl (rfl : sr_cl[5]? = some ("StoneRingsModel", tt_M, 21)) (by decide) in_M wd_592 rfl dd_M_best_26 ?_
      refine sx_if_ne (tgt := 104) C dd_M_best_29 (by decide) h (fun h => ?_) (fun h => ?_)
      · refine sx_less (lu := []) C [] rfl ?_
        exact sm_M_best_104 C hZ hr hlk ht hlf h
      · refine sx_iconst C dd_M_best_32 rfl ?_
        refine sx_istore_n (lu := [(3, .int (sx_i 0)), (0, .ref (ad 19)), (1, .int (sx_i x1)), (2, .int (sx_i x2))]) C dd_M_best_33 rfl (by decide) rfl ?_
        refine sx_iconst C dd_M_best_34 rfl ?_
        refine sx_istore (lu := [(4, .int (sx_i 0)), (3, .int (sx_i 0)), (0, .ref (ad 19)), (1, .int (sx_i x1)), (2, .int (sx_i x2))]) C dd_M_best_35 (by decide) rfl ?_
        refine sx_less (lu := [(0, .ref (ad 19)), (1, .int (sx_i x1)), (2, .int (sx_i x2)), (3, .int (sx_i 0)), (4, .int (sx_i 0))]) C [2, 3, 4, 1, 0] rfl ?_
        exact sm_M_best_37 C hZ hr hlk ht hlf hr20 600 _ _ _ _ _ h
set_option maxHeartbeats 4000000 in
set_option maxRecDepth 100000 in
theorem sm_M_best_15 (C : sx_C sr_lay sr_cl D cI cJ ad (sx_A sr_lay ad sz) 5 "StoneRingsModel" prog_7_method_37_code sr_ts p s m args c) (hZ : sx_Z (sx_A sr_lay ad sz) s s.heap) (hr : meth.sig.returnType = (some .int)) (hlk : meth.locks = false) (ht : ∀ x ∈ c.exceptionTable.toList, False) (hlf : l.stackTraces = false) {x1 y1 : Int} {μ : sx_M} (h : sw_M_best_15 Q x1 y1 μ) : sx_V sr_lay sr_cl D cI cJ ad (sx_A sr_lay ad sz) 5 p l e rm_M_best s m args below meth c (vx_MQ below (sx_T (sx_QI sr_lay sr_cl D cI cJ ad Q sz)) (sx_XC sr_lay sr_cl D cI cJ ad (fun _ _ => False) sz) args s 0 0 (sx_A sr_lay ad sz)) 0 0 μ 15 [(0, .ref (ad 19)), (1, .int (sx_i x1))] [.int (sx_i y1), .ref (ad 19)] := by
  unfold sw_M_best_15 at h
  refine sx_puti (K := 0) (ref := "StoneRingsModel") (ty := .int) C 19 0 rfl rfl rfl (rfl : sr_cl[5]? = some ("StoneRingsModel", tt_M, 21)) (by decide) in_M ty_M tyk_M nm_M wd_592 rfl rfl (by decide +kernel) rfl rfl dd_M_best_15 ?_
  refine sx_iconst C dd_M_best_18 rfl ?_
  refine sx_istore_n (lu := [(2, .int (sx_i 0)), (0, .ref (ad 19)), (1, .int (sx_i x1))]) C dd_M_best_19 rfl (by decide) rfl ?_
  refine sx_less (lu := [(0, .ref (ad 19)), (1, .int (sx_i x1)), (2, .int (sx_i 0))]) C [1, 2, 0] rfl ?_
  exact sm_M_best_20 C hZ hr hlk ht hlf 600 _ _ _ h
set_option maxHeartbeats 4000000 in
set_option maxRecDepth 100000 in
theorem sm_M_best {l : Launch} {D : va_G} {cI cJ : ClassId} {ad : Nat → Nat} {Q : Int → sx_M → Prop} (hlf : l.stackTraces = false) {μ : sx_M} {a1 : Int} (h : sw_M_best Q μ a1) (sz : Nat) : sx_MI l yy_M_best (Cond.code yy_M_best prog_7_method_37_code 5 (some .int) :: sr_ts) rm_M_best sr_lay sr_cl D cI cJ ad [.ref (ad 19), .int (sx_i a1)] μ Q (fun _ _ => False) 0 0 sz := by
  refine sx_body (plainFor_of_name (by decide +kernel)) rfl (Nat.le_of_ble_eq_true rfl) ?_
  intro p e s m below meth c C hZ hr hlk ht
  unfold sw_M_best at h
  show sx_V sr_lay sr_cl D cI cJ ad (sx_A sr_lay ad sz) 5 p l e rm_M_best s m _ below meth c (vx_MQ below (sx_T (sx_QI sr_lay sr_cl D cI cJ ad Q sz)) (sx_XC sr_lay sr_cl D cI cJ ad (fun _ _ => False) sz) _ s 0 0 (sx_A sr_lay ad sz)) 0 0 μ 0 [(0, .ref (ad 19)), (1, .int (sx_i a1))] []
  refine sx_aload_n C 0 dd_M_best_0 rfl rfl ?_
  refine sx_iload_n C 1 dd_M_best_1 rfl rfl ?_
  refine sx_iconst C dd_M_best_2 rfl ?_
  refine sx_iconst C dd_M_best_3 rfl ?_
  refine sx_stcI C hZ [.int (sx_i a1), .int (sx_i 0), .int (sx_i 3)] (fun sz2 => sm_M_isIn hlf h sz2) (sx_cwS (n := 3) C.2.2.2.2.1 wd_670 wd_668 wd_669 wd_8 rfl rfl (by decide +kernel) ⟨by decide, by decide⟩) rfl rfl (Nat.le_of_ble_eq_true rfl) dd_M_best_4 ⟨(Nat.le_of_ble_eq_true rfl), (Nat.le_of_ble_eq_true rfl)⟩ sx_noX (fun v1 μ1 h => ?_)
  refine sx_if_ne (tgt := 14) C dd_M_best_7 (by decide) h (fun h => ?_) (fun h => ?_)
  · refine sx_iconst C dd_M_best_14 rfl ?_
    exact sm_M_best_15 C hZ hr hlk ht hlf h
  · refine sx_iconst C dd_M_best_10 rfl ?_
    refine sx_goto (tgt := 15) C dd_M_best_11 (by decide) ?_
    exact sm_M_best_15 C hZ hr hlk ht hlf h
def rm_M_age : Room := { frames := 1, cells := 0, slots := 0, locals := 26 }
set_option maxHeartbeats 4000000 in
set_option maxRecDepth 100000 in
theorem sm_M_age_80 (C : sx_C sr_lay sr_cl D cI cJ ad (sx_A sr_lay ad sz) 5 "StoneRingsModel" prog_7_method_38_code sr_ts p s m args c) (hZ : sx_Z (sx_A sr_lay ad sz) s s.heap) (hr : meth.sig.returnType = (some .int)) (hlk : meth.locks = false) (ht : ∀ x ∈ c.exceptionTable.toList, False) (hlf : l.stackTraces = false) {y0 : Int} {μ : sx_M} (h : sw_M_age_80 Q y0 μ) : sx_V sr_lay sr_cl D cI cJ ad (sx_A sr_lay ad sz) 5 p l e rm_M_age s m args below meth c (vx_MQ below (sx_T (sx_QI sr_lay sr_cl D cI cJ ad Q sz)) (sx_XC sr_lay sr_cl D cI cJ ad (fun _ _ => False) sz) args s 0 0 (sx_A sr_lay ad sz)) 0 0 μ 80 [] [.int (sx_i y0)] := by
  unfold sw_M_age_80 at h
  exact sx_iret C hr hlk dd_M_age_80 h
set_option maxHeartbeats 4000000 in
set_option maxRecDepth 100000 in
theorem sm_M_age_78 (C : sx_C sr_lay sr_cl D cI cJ ad (sx_A sr_lay ad sz) 5 "StoneRingsModel" prog_7_method_38_code sr_ts p s m args c) (hZ : sx_Z (sx_A sr_lay ad sz) s s.heap) (hr : meth.sig.returnType = (some .int)) (hlk : meth.locks = false) (ht : ∀ x ∈ c.exceptionTable.toList, False) (hlf : l.stackTraces = false) {x4 : Int} {μ : sx_M} (h : sw_M_age_78 Q x4 μ) : sx_V sr_lay sr_cl D cI cJ ad (sx_A sr_lay ad sz) 5 p l e rm_M_age s m args below meth c (vx_MQ below (sx_T (sx_QI sr_lay sr_cl D cI cJ ad Q sz)) (sx_XC sr_lay sr_cl D cI cJ ad (fun _ _ => False) sz) args s 0 0 (sx_A sr_lay ad sz)) 0 0 μ 78 [(4, .int (sx_i x4))] [] := by
  unfold sw_M_age_78 at h
  refine sx_iload C 0 dd_M_age_78 rfl ?_
  refine sx_less (lu := []) C [] rfl ?_
  exact sm_M_age_80 C hZ hr hlk ht hlf h
set_option maxHeartbeats 4000000 in
set_option maxRecDepth 100000 in
theorem sm_M_age_42 (C : sx_C sr_lay sr_cl D cI cJ ad (sx_A sr_lay ad sz) 5 "StoneRingsModel" prog_7_method_38_code sr_ts p s m args c) (hZ : sx_Z (sx_A sr_lay ad sz) s s.heap) (hr : meth.sig.returnType = (some .int)) (hlk : meth.locks = false) (ht : ∀ x ∈ c.exceptionTable.toList, False) (hlf : l.stackTraces = false) {x1 x2 x3 y1 : Int} {μ : sx_M} (h : sw_M_age_42 Q x1 x2 x3 y1 μ) : sx_V sr_lay sr_cl D cI cJ ad (sx_A sr_lay ad sz) 5 p l e rm_M_age s m args below meth c (vx_MQ below (sx_T (sx_QI sr_lay sr_cl D cI cJ ad Q sz)) (sx_XC sr_lay sr_cl D cI cJ ad (fun _ _ => False) sz) args s 0 0 (sx_A sr_lay ad sz)) 0 0 μ 42 [(0, .ref (ad 19)), (1, .int (sx_i x1)), (2, .int (sx_i x2)), (3, .int (sx_i x3))] [.int (sx_i y1), .ref (ad 19)] := by
  unfold sw_M_age_42 at h
  refine sx_puti (K := 0) (ref := "StoneRingsModel") (ty := .int) C 19 0 rfl rfl rfl (rfl : sr_cl[5]? = some ("StoneRingsModel", tt_M, 21)) (by decide) in_M ty_M tyk_M nm_M wd_592 rfl rfl (by decide +kernel) rfl rfl dd_M_age_42 ?_
  refine sx_aload_n C 0 dd_M_age_45 rfl rfl ?_
  refine sx_geti (K := 0) (ref := "StoneRingsModel") C 19 0 rfl rfl rfl (rfl : sr_cl[5]? = some ("StoneRingsModel", tt_M, 21)) (by decide) in_M wd_592 rfl dd_M_age_46 ?_
  refine sx_if_le (tgt := 54) C dd_M_age_49 (by decide) h (fun h => ?_) (fun h => ?_)
  · refine sx_aload_n C 0 dd_M_age_54 rfl rfl ?_
    refine sx_iload_n C 1 dd_M_age_55 rfl rfl ?_
    refine sx_invI (c0 := 19) C hZ [.int (sx_i x1)] (fun sz2 => sm_M_toldOf hlf h sz2) (sx_cwV (n := 1) C.2.2.2.2.1 wd_786 wd_783 wd_785 wp_M_toldOf wd_8 rfl rfl (by decide +kernel) ⟨by decide, by decide⟩) rfl (rfl : sr_cl[5]? = some ("StoneRingsModel", tt_M, 21)) rfl rfl (Nat.le_of_ble_eq_true rfl) dd_M_age_56 ⟨(Nat.le_of_ble_eq_true rfl), (Nat.le_of_ble_eq_true rfl)⟩ sx_noX (fun v1 μ1 h => ?_)
    refine sx_istore (lu := [(4, .int (sx_i v1)), (0, .ref (ad 19)), (1, .int (sx_i x1)), (2, .int (sx_i x2)), (3, .int (sx_i x3))]) C dd_M_age_59 (by decide) rfl ?_
    refine sx_iload C 0 dd_M_age_61 rfl ?_
    refine sx_if_le (tgt := 78) C dd_M_age_63 (by decide) h (fun h => ?_) (fun h => ?_)
    · refine sx_less (lu := [(4, .int (sx_i v1))]) C [0] rfl ?_
      exact sm_M_age_78 C hZ hr hlk ht hlf h
    · refine sx_iload_n C 3 dd_M_age_66 rfl rfl ?_
      refine sx_iload_n C 4 dd_M_age_67 rfl rfl ?_
      refine sx_icmp_ge (tgt := 78) C dd_M_age_68 (by decide) h (fun h => ?_) (fun h => ?_)
      · refine sx_less (lu := [(4, .int (sx_i v1))]) C [0] rfl ?_
        exact sm_M_age_78 C hZ hr hlk ht hlf h
      · refine sx_iload C 0 dd_M_age_71 rfl ?_
        refine sx_iconst C dd_M_age_73 rfl ?_
        refine sx_isub C dd_M_age_74 ?_
        refine sx_goto (tgt := 80) C dd_M_age_75 (by decide) ?_
        refine sx_less (lu := []) C [] rfl ?_
        exact sm_M_age_80 C hZ hr hlk ht hlf h
  · refine sx_iconst C dd_M_age_52 rfl ?_
    exact sx_iret C hr hlk dd_M_age_53 h
set_option maxHeartbeats 4000000 in
set_option maxRecDepth 100000 in
theorem sm_M_age_37 (C : sx_C sr_lay sr_cl D cI cJ ad (sx_A sr_lay ad sz) 5 "StoneRingsModel" prog_7_method_38_code sr_ts p s m args c) (hZ : sx_Z (sx_A sr_lay ad sz) s s.heap) (hr : meth.sig.returnType = (some .int)) (hlk : meth.locks = false) (ht : ∀ x ∈ c.exceptionTable.toList, False) (hlf : l.stackTraces = false) {x1 x2 x3 : Int} {μ : sx_M} (h : sw_M_age_37 Q x1 x2 x3 μ) : sx_V sr_lay sr_cl D cI cJ ad (sx_A sr_lay ad sz) 5 p l e rm_M_age s m args below meth c (vx_MQ below (sx_T (sx_QI sr_lay sr_cl D cI cJ ad Q sz)) (sx_XC sr_lay sr_cl D cI cJ ad (fun _ _ => False) sz) args s 0 0 (sx_A sr_lay ad sz)) 0 0 μ 37 [(0, .ref (ad 19)), (1, .int (sx_i x1)), (2, .int (sx_i x2)), (3, .int (sx_i x3))] [.ref (ad 19)] := by
  unfold sw_M_age_37 at h
  refine sx_iconst C dd_M_age_37 rfl ?_
  refine sx_goto (tgt := 42) C dd_M_age_38 (by decide) ?_
  exact sm_M_age_42 C hZ hr hlk ht hlf h
set_option maxHeartbeats 4000000 in
set_option maxRecDepth 100000 in
theorem sm_M_age {l : Launch} {D : va_G} {cI cJ : ClassId} {ad : Nat → Nat} {Q : Int → sx_M → Prop} (hlf : l.stackTraces = false) {μ : sx_M} {a1 a2 a3 : Int} (h : sw_M_age Q μ a1 a2 a3) (sz : Nat) : sx_MI l yy_M_age (Cond.code yy_M_age prog_7_method_38_code 5 (some .int) :: sr_ts) rm_M_age sr_lay sr_cl D cI cJ ad [.ref (ad 19), .int (sx_i a1), .int (sx_i a2), .int (sx_i a3)] μ Q (fun _ _ => False) 0 0 sz := by
  refine sx_body (plainFor_of_name (by decide +kernel)) rfl (Nat.le_of_ble_eq_true rfl) ?_
  intro p e s m below meth c C hZ hr hlk ht
  unfold sw_M_age at h
  show sx_V sr_lay sr_cl D cI cJ ad (sx_A sr_lay ad sz) 5 p l e rm_M_age s m _ below meth c (vx_MQ below (sx_T (sx_QI sr_lay sr_cl D cI cJ ad Q sz)) (sx_XC sr_lay sr_cl D cI cJ ad (fun _ _ => False) sz) _ s 0 0 (sx_A sr_lay ad sz)) 0 0 μ 0 [(0, .ref (ad 19)), (1, .int (sx_i a1)), (2, .int (sx_i a2)), (3, .int (sx_i a3))] []
  refine sx_aload_n C 0 dd_M_age_0 rfl rfl ?_
  refine sx_iload_n C 1 dd_M_age_1 rfl rfl ?_
  refine sx_iconst C dd_M_age_2 rfl ?_
  refine sx_bipush (v := 19) C dd_M_age_3 (by decide +kernel) ?_
  refine sx_stcI C hZ [.int (sx_i a1), .int (sx_i 0), .int (sx_i 19)] (fun sz2 => sm_M_isIn hlf h sz2) (sx_cwS (n := 3) C.2.2.2.2.1 wd_670 wd_668 wd_669 wd_8 rfl rfl (by decide +kernel) ⟨by decide, by decide⟩) rfl rfl (Nat.le_of_ble_eq_true rfl) dd_M_age_5 ⟨(Nat.le_of_ble_eq_true rfl), (Nat.le_of_ble_eq_true rfl)⟩ sx_noX (fun v1 μ1 h => ?_)
  refine sx_if_ne (tgt := 15) C dd_M_age_8 (by decide) h (fun h => ?_) (fun h => ?_)
  · refine sx_iload_n C 2 dd_M_age_15 rfl rfl ?_
    refine sx_iconst C dd_M_age_16 rfl ?_
    refine sx_sipush (v := 364) C dd_M_age_17 (by decide +kernel) ?_
    refine sx_stcI C hZ [.int (sx_i a2), .int (sx_i 0), .int (sx_i 364)] (fun sz2 => sm_M_isIn hlf h sz2) (sx_cwS (n := 3) C.2.2.2.2.1 wd_670 wd_668 wd_669 wd_8 rfl rfl (by decide +kernel) ⟨by decide, by decide⟩) rfl rfl (Nat.le_of_ble_eq_true rfl) dd_M_age_20 ⟨(Nat.le_of_ble_eq_true rfl), (Nat.le_of_ble_eq_true rfl)⟩ sx_noX (fun v2 μ2 h => ?_)
    refine sx_if_eq (tgt := 37) C dd_M_age_23 (by decide) h (fun h => ?_) (fun h => ?_)
    · exact sm_M_age_37 C hZ hr hlk ht hlf h
    · refine sx_iload_n C 3 dd_M_age_26 rfl rfl ?_
      refine sx_iconst C dd_M_age_27 rfl ?_
      refine sx_sipush (v := 364) C dd_M_age_28 (by decide +kernel) ?_
      refine sx_stcI C hZ [.int (sx_i a3), .int (sx_i 0), .int (sx_i 364)] (fun sz2 => sm_M_isIn hlf h sz2) (sx_cwS (n := 3) C.2.2.2.2.1 wd_670 wd_668 wd_669 wd_8 rfl rfl (by decide +kernel) ⟨by decide, by decide⟩) rfl rfl (Nat.le_of_ble_eq_true rfl) dd_M_age_31 ⟨(Nat.le_of_ble_eq_true rfl), (Nat.le_of_ble_eq_true rfl)⟩ sx_noX (fun v3 μ3 h => ?_)
      refine sx_if_ne (tgt := 41) C dd_M_age_34 (by decide) h (fun h => ?_) (fun h => ?_)
      · refine sx_iconst C dd_M_age_41 rfl ?_
        exact sm_M_age_42 C hZ hr hlk ht hlf h
      · exact sm_M_age_37 C hZ hr hlk ht hlf h
  · refine sx_iconst C dd_M_age_11 rfl ?_
    refine sx_goto (tgt := 42) C dd_M_age_12 (by decide) ?_
    exact sm_M_age_42 C hZ hr hlk ht hlf h
def rm_M_twin : Room := { frames := 3, cells := 0, slots := 0, locals := 73 }
set_option maxHeartbeats 4000000 in
set_option maxRecDepth 100000 in
theorem sm_M_twin_132 (C : sx_C sr_lay sr_cl D cI cJ ad (sx_A sr_lay ad sz) 6 "StoneRingsModel" prog_7_method_39_code sr_ts p s m args c) (hZ : sx_Z (sx_A sr_lay ad sz) s s.heap) (hr : meth.sig.returnType = (some .boolean)) (hlk : meth.locks = false) (ht : ∀ x ∈ c.exceptionTable.toList, False) (hlf : l.stackTraces = false) {r96 : Int → Int → sx_M → Prop} (hr96 : ∀ (x4 x5 : Int) (μ : sx_M), r96 x4 x5 μ → sx_V sr_lay sr_cl D cI cJ ad (sx_A sr_lay ad sz) 6 p l e rm_M_twin s m args below meth c (vx_MQ below (sx_T (sx_QI sr_lay sr_cl D cI cJ ad Q sz)) (sx_XC sr_lay sr_cl D cI cJ ad (fun _ _ => False) sz) args s 0 0 (sx_A sr_lay ad sz)) 0 0 μ 96 [(0, .ref (ad 19)), (4, .int (sx_i x4)), (5, .int (sx_i x5))] []) {x5 y0 : Int} {μ : sx_M} (h : sw_M_twin_132 Q r96 x5 y0 μ) : sx_V sr_lay sr_cl D cI cJ ad (sx_A sr_lay ad sz) 6 p l e rm_M_twin s m args below meth c (vx_MQ below (sx_T (sx_QI sr_lay sr_cl D cI cJ ad Q sz)) (sx_XC sr_lay sr_cl D cI cJ ad (fun _ _ => False) sz) args s 0 0 (sx_A sr_lay ad sz)) 0 0 μ 132 [(0, .ref (ad 19)), (5, .int (sx_i x5))] [.int (sx_i y0)] := by
  unfold sw_M_twin_132 at h
  refine sx_istore (lu := [(4, .int (sx_i y0)), (0, .ref (ad 19)), (5, .int (sx_i x5))]) C dd_M_twin_132 (by decide) rfl ?_
  refine sx_iinc (lu := [(5, .int (sx_i (x5 + 1))), (4, .int (sx_i y0)), (0, .ref (ad 19))]) C 2 dd_M_twin_134 rfl (by decide) rfl ?_
  refine sx_goto (tgt := 96) C dd_M_twin_137 (by decide) ?_
  refine sx_less (lu := [(0, .ref (ad 19)), (4, .int (sx_i y0)), (5, .int (sx_i (x5 + 1)))]) C [2, 1, 0] rfl ?_
  exact hr96 _ _ _ h
set_option maxHeartbeats 4000000 in
set_option maxRecDepth 100000 in
theorem sm_M_twin_140 (C : sx_C sr_lay sr_cl D cI cJ ad (sx_A sr_lay ad sz) 6 "StoneRingsModel" prog_7_method_39_code sr_ts p s m args c) (hZ : sx_Z (sx_A sr_lay ad sz) s s.heap) (hr : meth.sig.returnType = (some .boolean)) (hlk : meth.locks = false) (ht : ∀ x ∈ c.exceptionTable.toList, False) (hlf : l.stackTraces = false) {x4 : Int} {μ : sx_M} (h : sw_M_twin_140 Q x4 μ) : sx_V sr_lay sr_cl D cI cJ ad (sx_A sr_lay ad sz) 6 p l e rm_M_twin s m args below meth c (vx_MQ below (sx_T (sx_QI sr_lay sr_cl D cI cJ ad Q sz)) (sx_XC sr_lay sr_cl D cI cJ ad (fun _ _ => False) sz) args s 0 0 (sx_A sr_lay ad sz)) 0 0 μ 140 [(4, .int (sx_i x4))] [] := by
  unfold sw_M_twin_140 at h
  refine sx_iload C 0 dd_M_twin_140 rfl ?_
  exact sx_zret C hr hlk dd_M_twin_142 h
set_option maxHeartbeats 4000000 in
set_option maxRecDepth 100000 in
theorem sm_M_twin_96 (C : sx_C sr_lay sr_cl D cI cJ ad (sx_A sr_lay ad sz) 6 "StoneRingsModel" prog_7_method_39_code sr_ts p s m args c) (hZ : sx_Z (sx_A sr_lay ad sz) s s.heap) (hr : meth.sig.returnType = (some .boolean)) (hlk : meth.locks = false) (ht : ∀ x ∈ c.exceptionTable.toList, False) (hlf : l.stackTraces = false) : ∀ (n : Nat) (x4 x5 : Int) (μ : sx_M), sw_M_twin_96 Q n x4 x5 μ → sx_V sr_lay sr_cl D cI cJ ad (sx_A sr_lay ad sz) 6 p l e rm_M_twin s m args below meth c (vx_MQ below (sx_T (sx_QI sr_lay sr_cl D cI cJ ad Q sz)) (sx_XC sr_lay sr_cl D cI cJ ad (fun _ _ => False) sz) args s 0 0 (sx_A sr_lay ad sz)) 0 0 μ 96 [(0, .ref (ad 19)), (4, .int (sx_i x4)), (5, .int (sx_i x5))] [] := by
  intro n
  induction n with
  | zero =>
    intro x4 x5 μ h
    exact h.elim
  | succ n ih =>
    intro x4 x5 μ h
    have hr96 := ih
    unfold sw_M_twin_96 at h
    refine sx_iload C 2 dd_M_twin_96 rfl ?_
    refine sx_aload_n C 0 dd_M_twin_98 rfl rfl ?_
    refine sx_geti (K := 9) (ref := "StoneRingsModel") C 19 9 rfl rfl rfl (rfl : sr_cl[5]? = some ("StoneRingsModel", tt_M, 21)) (by decide) in_M wd_601 rfl dd_M_twin_99 ?_
    refine sx_icmp_ge (tgt := 140) C dd_M_twin_102 (by decide) h (fun h => ?_) (fun h => ?_)
    · refine sx_less (lu := [(4, .int (sx_i x4))]) C [1] rfl ?_
      exact sm_M_twin_140 C hZ hr hlk ht hlf h
    · refine sx_iload C 1 dd_M_twin_105 rfl ?_
      refine sx_if_eq (tgt := 140) C dd_M_twin_107 (by decide) h (fun h => ?_) (fun h => ?_)
      · refine sx_less (lu := [(4, .int (sx_i x4))]) C [1] rfl ?_
        exact sm_M_twin_140 C hZ hr hlk ht hlf h
      · refine sx_aload_n C 0 dd_M_twin_110 rfl rfl ?_
        refine sx_getr (ref := "StoneRingsModel") C 19 10 rfl rfl (rfl : sr_cl[5]? = some ("StoneRingsModel", tt_M, 21)) (by decide) in_M wd_602 rfl dd_M_twin_111 ?_
        refine sx_iload C 2 dd_M_twin_114 rfl ?_
        refine sx_iald (N := 16) C 23 rfl rfl (by decide) dd_M_twin_116 h (fun h => ?_)
        refine sx_aload_n C 0 dd_M_twin_117 rfl rfl ?_
        refine sx_getr (ref := "StoneRingsModel") C 19 15 rfl rfl (rfl : sr_cl[5]? = some ("StoneRingsModel", tt_M, 21)) (by decide) in_M wd_607 rfl dd_M_twin_118 ?_
        refine sx_iload C 2 dd_M_twin_121 rfl ?_
        refine sx_iald (N := 16) C 26 rfl rfl (by decide) dd_M_twin_123 h (fun h => ?_)
        refine sx_icmp_ne (tgt := 131) C dd_M_twin_124 (by decide) h (fun h => ?_) (fun h => ?_)
        · refine sx_iconst C dd_M_twin_131 rfl ?_
          refine sx_less (lu := [(0, .ref (ad 19)), (5, .int (sx_i x5))]) C [0, 2] rfl ?_
          exact sm_M_twin_132 C hZ hr hlk ht hlf hr96 h
        · refine sx_iconst C dd_M_twin_127 rfl ?_
          refine sx_goto (tgt := 132) C dd_M_twin_128 (by decide) ?_
          refine sx_less (lu := [(0, .ref (ad 19)), (5, .int (sx_i x5))]) C [0, 2] rfl ?_
          exact sm_M_twin_132 C hZ hr hlk ht hlf hr96 h
set_option maxHeartbeats 4000000 in
set_option maxRecDepth 100000 in
theorem sm_M_twin_91 (C : sx_C sr_lay sr_cl D cI cJ ad (sx_A sr_lay ad sz) 6 "StoneRingsModel" prog_7_method_39_code sr_ts p s m args c) (hZ : sx_Z (sx_A sr_lay ad sz) s s.heap) (hr : meth.sig.returnType = (some .boolean)) (hlk : meth.locks = false) (ht : ∀ x ∈ c.exceptionTable.toList, False) (hlf : l.stackTraces = false) {y0 : Int} {μ : sx_M} (h : sw_M_twin_91 Q y0 μ) : sx_V sr_lay sr_cl D cI cJ ad (sx_A sr_lay ad sz) 6 p l e rm_M_twin s m args below meth c (vx_MQ below (sx_T (sx_QI sr_lay sr_cl D cI cJ ad Q sz)) (sx_XC sr_lay sr_cl D cI cJ ad (fun _ _ => False) sz) args s 0 0 (sx_A sr_lay ad sz)) 0 0 μ 91 [(0, .ref (ad 19))] [.int (sx_i y0)] := by
  unfold sw_M_twin_91 at h
  refine sx_istore (lu := [(4, .int (sx_i y0)), (0, .ref (ad 19))]) C dd_M_twin_91 (by decide) rfl ?_
  refine sx_iconst C dd_M_twin_93 rfl ?_
  refine sx_istore (lu := [(5, .int (sx_i 0)), (4, .int (sx_i y0)), (0, .ref (ad 19))]) C dd_M_twin_94 (by decide) rfl ?_
  refine sx_less (lu := [(0, .ref (ad 19)), (4, .int (sx_i y0)), (5, .int (sx_i 0))]) C [2, 1, 0] rfl ?_
  exact sm_M_twin_96 C hZ hr hlk ht hlf 600 _ _ _ h
set_option maxHeartbeats 4000000 in
set_option maxRecDepth 100000 in
theorem sm_M_twin_47 (C : sx_C sr_lay sr_cl D cI cJ ad (sx_A sr_lay ad sz) 6 "StoneRingsModel" prog_7_method_39_code sr_ts p s m args c) (hZ : sx_Z (sx_A sr_lay ad sz) s s.heap) (hr : meth.sig.returnType = (some .boolean)) (hlk : meth.locks = false) (ht : ∀ x ∈ c.exceptionTable.toList, False) (hlf : l.stackTraces = false) : ∀ (n : Nat) (x1 x3 x4 : Int) (μ : sx_M), sw_M_twin_47 Q n x1 x3 x4 μ → sx_V sr_lay sr_cl D cI cJ ad (sx_A sr_lay ad sz) 6 p l e rm_M_twin s m args below meth c (vx_MQ below (sx_T (sx_QI sr_lay sr_cl D cI cJ ad Q sz)) (sx_XC sr_lay sr_cl D cI cJ ad (fun _ _ => False) sz) args s 0 0 (sx_A sr_lay ad sz)) 0 0 μ 47 [(0, .ref (ad 19)), (1, .int (sx_i x1)), (3, .int (sx_i x3)), (4, .int (sx_i x4))] [] := by
  intro n
  induction n with
  | zero =>
    intro x1 x3 x4 μ h
    exact h.elim
  | succ n ih =>
    intro x1 x3 x4 μ h
    have hr47 := ih
    unfold sw_M_twin_47 at h
    refine sx_iload C 3 dd_M_twin_47 rfl ?_
    refine sx_iload_n C 2 dd_M_twin_49 rfl rfl ?_
    refine sx_icmp_ge (tgt := 73) C dd_M_twin_50 (by decide) h (fun h => ?_) (fun h => ?_)
    · refine sx_aload_n C 0 dd_M_twin_73 rfl rfl ?_
      refine sx_iload_n C 1 dd_M_twin_74 rfl rfl ?_
      refine sx_invV (c0 := 19) C hZ [.int (sx_i x1)] (fun sz2 => sm_M_lay hlf h sz2) (sx_cwV (n := 1) C.2.2.2.2.1 wd_698 wd_695 wd_697 wp_M_lay wd_8 rfl rfl (by decide +kernel) ⟨by decide, by decide⟩) rfl (rfl : sr_cl[5]? = some ("StoneRingsModel", tt_M, 21)) rfl rfl (Nat.le_of_ble_eq_true rfl) dd_M_twin_75 ⟨(Nat.le_of_ble_eq_true rfl), (Nat.le_of_ble_eq_true rfl)⟩ sx_noX (fun v1 μ1 h => ?_)
      refine sx_aload_n C 0 dd_M_twin_78 rfl rfl ?_
      refine sx_geti (K := 9) (ref := "StoneRingsModel") C 19 9 rfl rfl rfl (rfl : sr_cl[5]? = some ("StoneRingsModel", tt_M, 21)) (by decide) in_M wd_601 rfl dd_M_twin_79 ?_
      refine sx_iload_n C 2 dd_M_twin_82 rfl rfl ?_
      refine sx_icmp_ne (tgt := 90) C dd_M_twin_83 (by decide) h (fun h => ?_) (fun h => ?_)
      · refine sx_iconst C dd_M_twin_90 rfl ?_
        refine sx_less (lu := [(0, .ref (ad 19))]) C [0] rfl ?_
        exact sm_M_twin_91 C hZ hr hlk ht hlf h
      · refine sx_iconst C dd_M_twin_86 rfl ?_
        refine sx_goto (tgt := 91) C dd_M_twin_87 (by decide) ?_
        refine sx_less (lu := [(0, .ref (ad 19))]) C [0] rfl ?_
        exact sm_M_twin_91 C hZ hr hlk ht hlf h
    · refine sx_aload_n C 0 dd_M_twin_53 rfl rfl ?_
      refine sx_getr (ref := "StoneRingsModel") C 19 15 rfl rfl (rfl : sr_cl[5]? = some ("StoneRingsModel", tt_M, 21)) (by decide) in_M wd_607 rfl dd_M_twin_54 ?_
      refine sx_iload C 3 dd_M_twin_57 rfl ?_
      refine sx_aload_n C 0 dd_M_twin_59 rfl rfl ?_
      refine sx_getr (ref := "StoneRingsModel") C 19 10 rfl rfl (rfl : sr_cl[5]? = some ("StoneRingsModel", tt_M, 21)) (by decide) in_M wd_602 rfl dd_M_twin_60 ?_
      refine sx_iload C 3 dd_M_twin_63 rfl ?_
      refine sx_iald (N := 16) C 23 rfl rfl (by decide) dd_M_twin_65 h (fun h => ?_)
      refine sx_iast (N := 16) C 26 rfl rfl (by decide) dd_M_twin_66 h (fun h => ?_)
      refine sx_iinc (lu := [(4, .int (sx_i (x4 + 1))), (0, .ref (ad 19)), (1, .int (sx_i x1)), (3, .int (sx_i x3))]) C 3 dd_M_twin_67 rfl (by decide) rfl ?_
      refine sx_goto (tgt := 47) C dd_M_twin_70 (by decide) ?_
      refine sx_less (lu := [(0, .ref (ad 19)), (1, .int (sx_i x1)), (3, .int (sx_i x3)), (4, .int (sx_i (x4 + 1)))]) C [1, 2, 3, 0] rfl ?_
      exact hr47 _ _ _ _ h
set_option maxHeartbeats 4000000 in
set_option maxRecDepth 100000 in
theorem sm_M_twin_22 (C : sx_C sr_lay sr_cl D cI cJ ad (sx_A sr_lay ad sz) 6 "StoneRingsModel" prog_7_method_39_code sr_ts p s m args c) (hZ : sx_Z (sx_A sr_lay ad sz) s s.heap) (hr : meth.sig.returnType = (some .boolean)) (hlk : meth.locks = false) (ht : ∀ x ∈ c.exceptionTable.toList, False) (hlf : l.stackTraces = false) {x1 x2 y1 : Int} {μ : sx_M} (h : sw_M_twin_22 Q x1 x2 y1 μ) : sx_V sr_lay sr_cl D cI cJ ad (sx_A sr_lay ad sz) 6 p l e rm_M_twin s m args below meth c (vx_MQ below (sx_T (sx_QI sr_lay sr_cl D cI cJ ad Q sz)) (sx_XC sr_lay sr_cl D cI cJ ad (fun _ _ => False) sz) args s 0 0 (sx_A sr_lay ad sz)) 0 0 μ 22 [(0, .ref (ad 19)), (1, .int (sx_i x1)), (2, .int (sx_i x2))] [.int (sx_i y1), .ref (ad 19)] := by
  unfold sw_M_twin_22 at h
  refine sx_puti (K := 0) (ref := "StoneRingsModel") (ty := .int) C 19 0 rfl rfl rfl (rfl : sr_cl[5]? = some ("StoneRingsModel", tt_M, 21)) (by decide) in_M ty_M tyk_M nm_M wd_592 rfl rfl (by decide +kernel) rfl rfl dd_M_twin_22 ?_
  refine sx_aload_n C 0 dd_M_twin_25 rfl rfl ?_
  refine sx_geti (K := 0) (ref := "StoneRingsModel") C 19 0 rfl rfl rfl (rfl : sr_cl[5]? = some ("StoneRingsModel", tt_M, 21)) (by decide) in_M wd_592 rfl dd_M_twin_26 ?_
  refine sx_if_le (tgt := 34) C dd_M_twin_29 (by decide) h (fun h => ?_) (fun h => ?_)
  · refine sx_aload_n C 0 dd_M_twin_34 rfl rfl ?_
    refine sx_iload_n C 2 dd_M_twin_35 rfl rfl ?_
    refine sx_invV (c0 := 19) C hZ [.int (sx_i x2)] (fun sz2 => sm_M_lay hlf h sz2) (sx_cwV (n := 1) C.2.2.2.2.1 wd_698 wd_695 wd_697 wp_M_lay wd_8 rfl rfl (by decide +kernel) ⟨by decide, by decide⟩) rfl (rfl : sr_cl[5]? = some ("StoneRingsModel", tt_M, 21)) rfl rfl (Nat.le_of_ble_eq_true rfl) dd_M_twin_36 ⟨(Nat.le_of_ble_eq_true rfl), (Nat.le_of_ble_eq_true rfl)⟩ sx_noX (fun v1 μ1 h => ?_)
    refine sx_aload_n C 0 dd_M_twin_39 rfl rfl ?_
    refine sx_geti (K := 9) (ref := "StoneRingsModel") C 19 9 rfl rfl rfl (rfl : sr_cl[5]? = some ("StoneRingsModel", tt_M, 21)) (by decide) in_M wd_601 rfl dd_M_twin_40 ?_
    refine sx_istore_n (lu := [(3, .int (sx_i (μ1 19 9))), (0, .ref (ad 19)), (1, .int (sx_i x1)), (2, .int (sx_i x2))]) C dd_M_twin_43 rfl (by decide) rfl ?_
    refine sx_iconst C dd_M_twin_44 rfl ?_
    refine sx_istore (lu := [(4, .int (sx_i 0)), (3, .int (sx_i (μ1 19 9))), (0, .ref (ad 19)), (1, .int (sx_i x1)), (2, .int (sx_i x2))]) C dd_M_twin_45 (by decide) rfl ?_
    refine sx_less (lu := [(0, .ref (ad 19)), (1, .int (sx_i x1)), (3, .int (sx_i (μ1 19 9))), (4, .int (sx_i 0))]) C [2, 3, 1, 0] rfl ?_
    exact sm_M_twin_47 C hZ hr hlk ht hlf 600 _ _ _ _ h
  · refine sx_iconst C dd_M_twin_32 rfl ?_
    exact sx_zret C hr hlk dd_M_twin_33 h
set_option maxHeartbeats 4000000 in
set_option maxRecDepth 100000 in
theorem sm_M_twin_17 (C : sx_C sr_lay sr_cl D cI cJ ad (sx_A sr_lay ad sz) 6 "StoneRingsModel" prog_7_method_39_code sr_ts p s m args c) (hZ : sx_Z (sx_A sr_lay ad sz) s s.heap) (hr : meth.sig.returnType = (some .boolean)) (hlk : meth.locks = false) (ht : ∀ x ∈ c.exceptionTable.toList, False) (hlf : l.stackTraces = false) {x1 x2 : Int} {μ : sx_M} (h : sw_M_twin_17 Q x1 x2 μ) : sx_V sr_lay sr_cl D cI cJ ad (sx_A sr_lay ad sz) 6 p l e rm_M_twin s m args below meth c (vx_MQ below (sx_T (sx_QI sr_lay sr_cl D cI cJ ad Q sz)) (sx_XC sr_lay sr_cl D cI cJ ad (fun _ _ => False) sz) args s 0 0 (sx_A sr_lay ad sz)) 0 0 μ 17 [(0, .ref (ad 19)), (1, .int (sx_i x1)), (2, .int (sx_i x2))] [.ref (ad 19)] := by
  unfold sw_M_twin_17 at h
  refine sx_iconst C dd_M_twin_17 rfl ?_
  refine sx_goto (tgt := 22) C dd_M_twin_18 (by decide) ?_
  exact sm_M_twin_22 C hZ hr hlk ht hlf h
set_option maxHeartbeats 4000000 in
set_option maxRecDepth 100000 in
theorem sm_M_twin {l : Launch} {D : va_G} {cI cJ : ClassId} {ad : Nat → Nat} {Q : Int → sx_M → Prop} (hlf : l.stackTraces = false) {μ : sx_M} {a1 a2 : Int} (h : sw_M_twin Q μ a1 a2) (sz : Nat) : sx_MI l yy_M_twin (Cond.code yy_M_twin prog_7_method_39_code 6 (some .boolean) :: sr_ts) rm_M_twin sr_lay sr_cl D cI cJ ad [.ref (ad 19), .int (sx_i a1), .int (sx_i a2)] μ Q (fun _ _ => False) 0 0 sz := by
  refine sx_body (plainFor_of_name (by decide +kernel)) rfl (Nat.le_of_ble_eq_true rfl) ?_
  intro p e s m below meth c C hZ hr hlk ht
  unfold sw_M_twin at h
  show sx_V sr_lay sr_cl D cI cJ ad (sx_A sr_lay ad sz) 6 p l e rm_M_twin s m _ below meth c (vx_MQ below (sx_T (sx_QI sr_lay sr_cl D cI cJ ad Q sz)) (sx_XC sr_lay sr_cl D cI cJ ad (fun _ _ => False) sz) _ s 0 0 (sx_A sr_lay ad sz)) 0 0 μ 0 [(0, .ref (ad 19)), (1, .int (sx_i a1)), (2, .int (sx_i a2))] []
  refine sx_aload_n C 0 dd_M_twin_0 rfl rfl ?_
  refine sx_aload_n C 0 dd_M_twin_1 rfl rfl ?_
  refine sx_iload_n C 1 dd_M_twin_2 rfl rfl ?_
  refine sx_invI (c0 := 19) C hZ [.int (sx_i a1)] (fun sz2 => sm_M_noRay hlf h sz2) (sx_cwV (n := 1) C.2.2.2.2.1 wd_694 wd_691 wd_693 wp_M_noRay wd_8 rfl rfl (by decide +kernel) ⟨by decide, by decide⟩) rfl (rfl : sr_cl[5]? = some ("StoneRingsModel", tt_M, 21)) rfl rfl (Nat.le_of_ble_eq_true rfl) dd_M_twin_3 ⟨(Nat.le_of_ble_eq_true rfl), (Nat.le_of_ble_eq_true rfl)⟩ sx_noX (fun v1 μ1 h => ?_)
  refine sx_if_ne (tgt := 17) C dd_M_twin_6 (by decide) h (fun h => ?_) (fun h => ?_)
  · exact sm_M_twin_17 C hZ hr hlk ht hlf h
  · refine sx_aload_n C 0 dd_M_twin_9 rfl rfl ?_
    refine sx_iload_n C 2 dd_M_twin_10 rfl rfl ?_
    refine sx_invI (c0 := 19) C hZ [.int (sx_i a2)] (fun sz2 => sm_M_noRay hlf h sz2) (sx_cwV (n := 1) C.2.2.2.2.1 wd_694 wd_691 wd_693 wp_M_noRay wd_8 rfl rfl (by decide +kernel) ⟨by decide, by decide⟩) rfl (rfl : sr_cl[5]? = some ("StoneRingsModel", tt_M, 21)) rfl rfl (Nat.le_of_ble_eq_true rfl) dd_M_twin_11 ⟨(Nat.le_of_ble_eq_true rfl), (Nat.le_of_ble_eq_true rfl)⟩ sx_noX (fun v2 μ2 h => ?_)
    refine sx_if_eq (tgt := 21) C dd_M_twin_14 (by decide) h (fun h => ?_) (fun h => ?_)
    · refine sx_iconst C dd_M_twin_21 rfl ?_
      exact sm_M_twin_22 C hZ hr hlk ht hlf h
    · exact sm_M_twin_17 C hZ hr hlk ht hlf h
def rm_M_count : Room := { frames := 1, cells := 0, slots := 0, locals := 26 }
set_option maxHeartbeats 4000000 in
set_option maxRecDepth 100000 in
theorem sm_M_count_69 (C : sx_C sr_lay sr_cl D cI cJ ad (sx_A sr_lay ad sz) 6 "StoneRingsModel" prog_7_method_40_code sr_ts p s m args c) (hZ : sx_Z (sx_A sr_lay ad sz) s s.heap) (hr : meth.sig.returnType = (some .int)) (hlk : meth.locks = false) (ht : ∀ x ∈ c.exceptionTable.toList, False) (hlf : l.stackTraces = false) {r12 : Int → Int → Int → Int → sx_M → Prop} {r40 : Int → Int → Int → Int → Int → sx_M → Prop} (hr12 : ∀ (x1 x2 x3 x4 : Int) (μ : sx_M), r12 x1 x2 x3 x4 μ → sx_V sr_lay sr_cl D cI cJ ad (sx_A sr_lay ad sz) 6 p l e rm_M_count s m args below meth c (vx_MQ below (sx_T (sx_QI sr_lay sr_cl D cI cJ ad Q sz)) (sx_XC sr_lay sr_cl D cI cJ ad (fun _ _ => False) sz) args s 0 0 (sx_A sr_lay ad sz)) 0 0 μ 12 [(0, .ref (ad 19)), (1, .int (sx_i x1)), (2, .int (sx_i x2)), (3, .int (sx_i x3)), (4, .int (sx_i x4))] []) (hr40 : ∀ (x1 x2 x3 x4 x5 : Int) (μ : sx_M), r40 x1 x2 x3 x4 x5 μ → sx_V sr_lay sr_cl D cI cJ ad (sx_A sr_lay ad sz) 6 p l e rm_M_count s m args below meth c (vx_MQ below (sx_T (sx_QI sr_lay sr_cl D cI cJ ad Q sz)) (sx_XC sr_lay sr_cl D cI cJ ad (fun _ _ => False) sz) args s 0 0 (sx_A sr_lay ad sz)) 0 0 μ 40 [(0, .ref (ad 19)), (1, .int (sx_i x1)), (2, .int (sx_i x2)), (3, .int (sx_i x3)), (4, .int (sx_i x4)), (5, .int (sx_i x5))] []) {x1 x2 x4 x5 y0 : Int} {μ : sx_M} (h : sw_M_count_69 Q r12 r40 x1 x2 x4 x5 y0 μ) : sx_V sr_lay sr_cl D cI cJ ad (sx_A sr_lay ad sz) 6 p l e rm_M_count s m args below meth c (vx_MQ below (sx_T (sx_QI sr_lay sr_cl D cI cJ ad Q sz)) (sx_XC sr_lay sr_cl D cI cJ ad (fun _ _ => False) sz) args s 0 0 (sx_A sr_lay ad sz)) 0 0 μ 69 [(0, .ref (ad 19)), (1, .int (sx_i x1)), (2, .int (sx_i x2)), (4, .int (sx_i x4)), (5, .int (sx_i x5))] [.int (sx_i y0)] := by
  unfold sw_M_count_69 at h
  refine sx_istore_n (lu := [(3, .int (sx_i y0)), (0, .ref (ad 19)), (1, .int (sx_i x1)), (2, .int (sx_i x2)), (4, .int (sx_i x4)), (5, .int (sx_i x5))]) C dd_M_count_69 rfl (by decide) rfl ?_
  refine sx_iinc (lu := [(5, .int (sx_i (x5 + 1))), (3, .int (sx_i y0)), (0, .ref (ad 19)), (1, .int (sx_i x1)), (2, .int (sx_i x2)), (4, .int (sx_i x4))]) C 5 dd_M_count_70 rfl (by decide) rfl ?_
  refine sx_goto (tgt := 40) C dd_M_count_73 (by decide) ?_
  refine sx_less (lu := [(0, .ref (ad 19)), (1, .int (sx_i x1)), (2, .int (sx_i x2)), (3, .int (sx_i y0)), (4, .int (sx_i x4)), (5, .int (sx_i (x5 + 1)))]) C [2, 3, 4, 1, 5, 0] rfl ?_
  exact hr40 _ _ _ _ _ _ h
set_option maxHeartbeats 4000000 in
set_option maxRecDepth 100000 in
theorem sm_M_count_40 (C : sx_C sr_lay sr_cl D cI cJ ad (sx_A sr_lay ad sz) 6 "StoneRingsModel" prog_7_method_40_code sr_ts p s m args c) (hZ : sx_Z (sx_A sr_lay ad sz) s s.heap) (hr : meth.sig.returnType = (some .int)) (hlk : meth.locks = false) (ht : ∀ x ∈ c.exceptionTable.toList, False) (hlf : l.stackTraces = false) {r12 : Int → Int → Int → Int → sx_M → Prop} (hr12 : ∀ (x1 x2 x3 x4 : Int) (μ : sx_M), r12 x1 x2 x3 x4 μ → sx_V sr_lay sr_cl D cI cJ ad (sx_A sr_lay ad sz) 6 p l e rm_M_count s m args below meth c (vx_MQ below (sx_T (sx_QI sr_lay sr_cl D cI cJ ad Q sz)) (sx_XC sr_lay sr_cl D cI cJ ad (fun _ _ => False) sz) args s 0 0 (sx_A sr_lay ad sz)) 0 0 μ 12 [(0, .ref (ad 19)), (1, .int (sx_i x1)), (2, .int (sx_i x2)), (3, .int (sx_i x3)), (4, .int (sx_i x4))] []) : ∀ (n : Nat) (x1 x2 x3 x4 x5 : Int) (μ : sx_M), sw_M_count_40 Q r12 n x1 x2 x3 x4 x5 μ → sx_V sr_lay sr_cl D cI cJ ad (sx_A sr_lay ad sz) 6 p l e rm_M_count s m args below meth c (vx_MQ below (sx_T (sx_QI sr_lay sr_cl D cI cJ ad Q sz)) (sx_XC sr_lay sr_cl D cI cJ ad (fun _ _ => False) sz) args s 0 0 (sx_A sr_lay ad sz)) 0 0 μ 40 [(0, .ref (ad 19)), (1, .int (sx_i x1)), (2, .int (sx_i x2)), (3, .int (sx_i x3)), (4, .int (sx_i x4)), (5, .int (sx_i x5))] [] := by
  intro n
  induction n with
  | zero =>
    intro x1 x2 x3 x4 x5 μ h
    exact h.elim
  | succ n ih =>
    intro x1 x2 x3 x4 x5 μ h
    have hr40 := ih
    unfold sw_M_count_40 at h
    refine sx_iload C 5 dd_M_count_40 rfl ?_
    refine sx_iconst C dd_M_count_42 rfl ?_
    refine sx_icmp_ge (tgt := 76) C dd_M_count_43 (by decide) h (fun h => ?_) (fun h => ?_)
    · refine sx_iinc (lu := [(4, .int (sx_i (x4 + 1))), (0, .ref (ad 19)), (1, .int (sx_i x1)), (2, .int (sx_i x2)), (3, .int (sx_i x3)), (5, .int (sx_i x5))]) C 4 dd_M_count_76 rfl (by decide) rfl ?_
      refine sx_goto (tgt := 12) C dd_M_count_79 (by decide) ?_
      refine sx_less (lu := [(0, .ref (ad 19)), (1, .int (sx_i x1)), (2, .int (sx_i x2)), (3, .int (sx_i x3)), (4, .int (sx_i (x4 + 1)))]) C [1, 2, 3, 4, 0] rfl ?_
      exact hr12 _ _ _ _ _ h
    · refine sx_aload_n C 0 dd_M_count_46 rfl rfl ?_
      refine sx_getr (ref := "StoneRingsModel") C 19 20 rfl rfl (rfl : sr_cl[5]? = some ("StoneRingsModel", tt_M, 21)) (by decide) in_M wd_612 rfl dd_M_count_47 ?_
      refine sx_bipush (v := 20) C dd_M_count_50 (by decide +kernel) ?_
      refine sx_iload C 5 dd_M_count_52 rfl ?_
      refine sx_imul C dd_M_count_54 ?_
      refine sx_iload C 4 dd_M_count_55 rfl ?_
      refine sx_iadd C dd_M_count_57 ?_
      refine sx_iald (N := 80) C 29 rfl rfl (by decide) dd_M_count_58 h (fun h => ?_)
      refine sx_if_le (tgt := 68) C dd_M_count_59 (by decide) h (fun h => ?_) (fun h => ?_)
      · refine sx_iload_n C 3 dd_M_count_68 rfl rfl ?_
        refine sx_less (lu := [(0, .ref (ad 19)), (1, .int (sx_i x1)), (2, .int (sx_i x2)), (4, .int (sx_i x4)), (5, .int (sx_i x5))]) C [0, 1, 2, 4, 5] rfl ?_
        exact sm_M_count_69 C hZ hr hlk ht hlf hr12 hr40 h
      · refine sx_iload_n C 3 dd_M_count_62 rfl rfl ?_
        refine sx_iconst C dd_M_count_63 rfl ?_
        refine sx_iadd C dd_M_count_64 ?_
        refine sx_goto (tgt := 69) C dd_M_count_65 (by decide) ?_
        refine sx_less (lu := [(0, .ref (ad 19)), (1, .int (sx_i x1)), (2, .int (sx_i x2)), (4, .int (sx_i x4)), (5, .int (sx_i x5))]) C [0, 1, 2, 4, 5] rfl ?_
        exact sm_M_count_69 C hZ hr hlk ht hlf hr12 hr40 h
set_option maxHeartbeats 4000000 in
set_option maxRecDepth 100000 in
theorem sm_M_count_36 (C : sx_C sr_lay sr_cl D cI cJ ad (sx_A sr_lay ad sz) 6 "StoneRingsModel" prog_7_method_40_code sr_ts p s m args c) (hZ : sx_Z (sx_A sr_lay ad sz) s s.heap) (hr : meth.sig.returnType = (some .int)) (hlk : meth.locks = false) (ht : ∀ x ∈ c.exceptionTable.toList, False) (hlf : l.stackTraces = false) {r12 : Int → Int → Int → Int → sx_M → Prop} (hr12 : ∀ (x1 x2 x3 x4 : Int) (μ : sx_M), r12 x1 x2 x3 x4 μ → sx_V sr_lay sr_cl D cI cJ ad (sx_A sr_lay ad sz) 6 p l e rm_M_count s m args below meth c (vx_MQ below (sx_T (sx_QI sr_lay sr_cl D cI cJ ad Q sz)) (sx_XC sr_lay sr_cl D cI cJ ad (fun _ _ => False) sz) args s 0 0 (sx_A sr_lay ad sz)) 0 0 μ 12 [(0, .ref (ad 19)), (1, .int (sx_i x1)), (2, .int (sx_i x2)), (3, .int (sx_i x3)), (4, .int (sx_i x4))] []) {x1 x3 x4 y0 : Int} {μ : sx_M} (h : sw_M_count_36 Q r12 x1 x3 x4 y0 μ) : sx_V sr_lay sr_cl D cI cJ ad (sx_A sr_lay ad sz) 6 p l e rm_M_count s m args below meth c (vx_MQ below (sx_T (sx_QI sr_lay sr_cl D cI cJ ad Q sz)) (sx_XC sr_lay sr_cl D cI cJ ad (fun _ _ => False) sz) args s 0 0 (sx_A sr_lay ad sz)) 0 0 μ 36 [(0, .ref (ad 19)), (1, .int (sx_i x1)), (3, .int (sx_i x3)), (4, .int (sx_i x4))] [.int (sx_i y0)] := by
  unfold sw_M_count_36 at h
  refine sx_istore_n (lu := [(2, .int (sx_i y0)), (0, .ref (ad 19)), (1, .int (sx_i x1)), (3, .int (sx_i x3)), (4, .int (sx_i x4))]) C dd_M_count_36 rfl (by decide) rfl ?_
  refine sx_iconst C dd_M_count_37 rfl ?_
  refine sx_istore (lu := [(5, .int (sx_i 0)), (2, .int (sx_i y0)), (0, .ref (ad 19)), (1, .int (sx_i x1)), (3, .int (sx_i x3)), (4, .int (sx_i x4))]) C dd_M_count_38 (by decide) rfl ?_
  refine sx_less (lu := [(0, .ref (ad 19)), (1, .int (sx_i x1)), (2, .int (sx_i y0)), (3, .int (sx_i x3)), (4, .int (sx_i x4)), (5, .int (sx_i 0))]) C [2, 3, 1, 4, 5, 0] rfl ?_
  exact sm_M_count_40 C hZ hr hlk ht hlf hr12 600 _ _ _ _ _ _ h
set_option maxHeartbeats 4000000 in
set_option maxRecDepth 100000 in
theorem sm_M_count_12 (C : sx_C sr_lay sr_cl D cI cJ ad (sx_A sr_lay ad sz) 6 "StoneRingsModel" prog_7_method_40_code sr_ts p s m args c) (hZ : sx_Z (sx_A sr_lay ad sz) s s.heap) (hr : meth.sig.returnType = (some .int)) (hlk : meth.locks = false) (ht : ∀ x ∈ c.exceptionTable.toList, False) (hlf : l.stackTraces = false) : ∀ (n : Nat) (x1 x2 x3 x4 : Int) (μ : sx_M), sw_M_count_12 Q n x1 x2 x3 x4 μ → sx_V sr_lay sr_cl D cI cJ ad (sx_A sr_lay ad sz) 6 p l e rm_M_count s m args below meth c (vx_MQ below (sx_T (sx_QI sr_lay sr_cl D cI cJ ad Q sz)) (sx_XC sr_lay sr_cl D cI cJ ad (fun _ _ => False) sz) args s 0 0 (sx_A sr_lay ad sz)) 0 0 μ 12 [(0, .ref (ad 19)), (1, .int (sx_i x1)), (2, .int (sx_i x2)), (3, .int (sx_i x3)), (4, .int (sx_i x4))] [] := by
  intro n
  induction n with
  | zero =>
    intro x1 x2 x3 x4 μ h
    exact h.elim
  | succ n ih =>
    intro x1 x2 x3 x4 μ h
    have hr12 := ih
    unfold sw_M_count_12 at h
    refine sx_iload C 4 dd_M_count_12 rfl ?_
    refine sx_bipush (v := 20) C dd_M_count_14 (by decide +kernel) ?_
    refine sx_icmp_ge (tgt := 82) C dd_M_count_16 (by decide) h (fun h => ?_) (fun h => ?_)
    · refine sx_iload_n C 1 dd_M_count_82 rfl rfl ?_
      obtain ⟨hR9, h_0, h_1, h_2, h_3, h_d⟩ := h
      rcases (show x1 = 0 ∨ x1 = 1 ∨ x1 = 2 ∨ x1 = 3 ∨ (x1 < 0 ∨ 3 < x1) by omega) with q9 | q9 | q9 | q9 | q9
      · have h := h_0 q9
        refine sx_tableIn (tgt := 112) C dd_M_count_83 hR9 (by omega) (by omega) (by rw [q9]; rfl) (by decide) ?_
        refine sx_aload_n C 0 dd_M_count_112 rfl rfl ?_
        refine sx_geti (K := 4) (ref := "StoneRingsModel") C 19 4 rfl rfl rfl (rfl : sr_cl[5]? = some ("StoneRingsModel", tt_M, 21)) (by decide) in_M wd_596 rfl dd_M_count_113 ?_
        exact sx_iret C hr hlk dd_M_count_116 h
      · have h := h_1 q9
        refine sx_tableIn (tgt := 117) C dd_M_count_83 hR9 (by omega) (by omega) (by rw [q9]; rfl) (by decide) ?_
        refine sx_iload_n C 2 dd_M_count_117 rfl rfl ?_
        exact sx_iret C hr hlk dd_M_count_118 h
      · have h := h_2 q9
        refine sx_tableIn (tgt := 119) C dd_M_count_83 hR9 (by omega) (by omega) (by rw [q9]; rfl) (by decide) ?_
        refine sx_iload_n C 3 dd_M_count_119 rfl rfl ?_
        exact sx_iret C hr hlk dd_M_count_120 h
      · have h := h_3 q9
        refine sx_tableIn (tgt := 121) C dd_M_count_83 hR9 (by omega) (by omega) (by rw [q9]; rfl) (by decide) ?_
        refine sx_aload_n C 0 dd_M_count_121 rfl rfl ?_
        refine sx_iconst C dd_M_count_122 rfl ?_
        refine sx_invI (c0 := 19) C hZ [.int (sx_i 2)] (fun sz2 => sm_M_sumOf hlf h sz2) (sx_cwV (n := 1) C.2.2.2.2.1 wd_682 wd_679 wd_681 wp_M_sumOf wd_8 rfl rfl (by decide +kernel) ⟨by decide, by decide⟩) rfl (rfl : sr_cl[5]? = some ("StoneRingsModel", tt_M, 21)) rfl rfl (Nat.le_of_ble_eq_true rfl) dd_M_count_123 ⟨(Nat.le_of_ble_eq_true rfl), (Nat.le_of_ble_eq_true rfl)⟩ sx_noX (fun v1 μ1 h => ?_)
        exact sx_iret C hr hlk dd_M_count_126 h
      · have h := h_d q9
        refine sx_tableOut (tgt := 127) C dd_M_count_83 hR9 q9 (by decide) ?_
        refine sx_iconst C dd_M_count_127 rfl ?_
        exact sx_iret C hr hlk dd_M_count_128 h
    · refine sx_aload_n C 0 dd_M_count_19 rfl rfl ?_
      refine sx_iload C 4 dd_M_count_20 rfl ?_
      refine sx_invI (c0 := 19) C hZ [.int (sx_i x4)] (fun sz2 => sm_M_toldOf hlf h sz2) (sx_cwV (n := 1) C.2.2.2.2.1 wd_786 wd_783 wd_785 wp_M_toldOf wd_8 rfl rfl (by decide +kernel) ⟨by decide, by decide⟩) rfl (rfl : sr_cl[5]? = some ("StoneRingsModel", tt_M, 21)) rfl rfl (Nat.le_of_ble_eq_true rfl) dd_M_count_22 ⟨(Nat.le_of_ble_eq_true rfl), (Nat.le_of_ble_eq_true rfl)⟩ sx_noX (fun v2 μ2 h => ?_)
      refine sx_iconst C dd_M_count_25 rfl ?_
      refine sx_icmp_eq (tgt := 35) C dd_M_count_26 (by decide) h (fun h => ?_) (fun h => ?_)
      · refine sx_iload_n C 2 dd_M_count_35 rfl rfl ?_
        refine sx_less (lu := [(0, .ref (ad 19)), (1, .int (sx_i x1)), (3, .int (sx_i x3)), (4, .int (sx_i x4))]) C [0, 1, 3, 4] rfl ?_
        exact sm_M_count_36 C hZ hr hlk ht hlf hr12 h
      · refine sx_iload_n C 2 dd_M_count_29 rfl rfl ?_
        refine sx_iconst C dd_M_count_30 rfl ?_
        refine sx_iadd C dd_M_count_31 ?_
        refine sx_goto (tgt := 36) C dd_M_count_32 (by decide) ?_
        refine sx_less (lu := [(0, .ref (ad 19)), (1, .int (sx_i x1)), (3, .int (sx_i x3)), (4, .int (sx_i x4))]) C [0, 1, 3, 4] rfl ?_
        exact sm_M_count_36 C hZ hr hlk ht hlf hr12 h
set_option maxHeartbeats 4000000 in
set_option maxRecDepth 100000 in
theorem sm_M_count {l : Launch} {D : va_G} {cI cJ : ClassId} {ad : Nat → Nat} {Q : Int → sx_M → Prop} (hlf : l.stackTraces = false) {μ : sx_M} {a1 : Int} (h : sw_M_count Q μ a1) (sz : Nat) : sx_MI l yy_M_count (Cond.code yy_M_count prog_7_method_40_code 6 (some .int) :: sr_ts) rm_M_count sr_lay sr_cl D cI cJ ad [.ref (ad 19), .int (sx_i a1)] μ Q (fun _ _ => False) 0 0 sz := by
  refine sx_body (plainFor_of_name (by decide +kernel)) rfl (Nat.le_of_ble_eq_true rfl) ?_
  intro p e s m below meth c C hZ hr hlk ht
  unfold sw_M_count at h
  show sx_V sr_lay sr_cl D cI cJ ad (sx_A sr_lay ad sz) 6 p l e rm_M_count s m _ below meth c (vx_MQ below (sx_T (sx_QI sr_lay sr_cl D cI cJ ad Q sz)) (sx_XC sr_lay sr_cl D cI cJ ad (fun _ _ => False) sz) _ s 0 0 (sx_A sr_lay ad sz)) 0 0 μ 0 [(0, .ref (ad 19)), (1, .int (sx_i a1))] []
  refine sx_aload_n C 0 dd_M_count_0 rfl rfl ?_
  refine sx_iconst C dd_M_count_1 rfl ?_
  refine sx_puti (K := 0) (ref := "StoneRingsModel") (ty := .int) C 19 0 rfl rfl rfl (rfl : sr_cl[5]? = some ("StoneRingsModel", tt_M, 21)) (by decide) in_M ty_M tyk_M nm_M wd_592 rfl rfl (by decide +kernel) rfl rfl dd_M_count_2 ?_
  refine sx_iconst C dd_M_count_5 rfl ?_
  refine sx_istore_n (lu := [(2, .int (sx_i 0)), (0, .ref (ad 19)), (1, .int (sx_i a1))]) C dd_M_count_6 rfl (by decide) rfl ?_
  refine sx_iconst C dd_M_count_7 rfl ?_
  refine sx_istore_n (lu := [(3, .int (sx_i 0)), (2, .int (sx_i 0)), (0, .ref (ad 19)), (1, .int (sx_i a1))]) C dd_M_count_8 rfl (by decide) rfl ?_
  refine sx_iconst C dd_M_count_9 rfl ?_
  refine sx_istore (lu := [(4, .int (sx_i 0)), (3, .int (sx_i 0)), (2, .int (sx_i 0)), (0, .ref (ad 19)), (1, .int (sx_i a1))]) C dd_M_count_10 (by decide) rfl ?_
  refine sx_less (lu := [(0, .ref (ad 19)), (1, .int (sx_i a1)), (2, .int (sx_i 0)), (3, .int (sx_i 0)), (4, .int (sx_i 0))]) C [3, 4, 2, 1, 0] rfl ?_
  exact sm_M_count_12 C hZ hr hlk ht hlf 600 _ _ _ _ _ h
end SXG
