section SXG
variable {D : va_G} {cI cJ : ClassId} {ad : Nat → Nat} {sz : Nat} {p : Program} {l : Launch} {e : Env} {s : State} {m : MethodId} {args : Array Value} {below : List Frame} {meth : Method} {c : Code} {Q : Int → sx_M → Prop} {X : String → sx_M → Prop}
def rm_M_agree : Room := { frames := 2, cells := 0, slots := 0, locals := 45 }
set_option maxHeartbeats 4000000 in
set_option maxRecDepth 100000 in
theorem sm_M_agree_109 (C : sx_C sr_lay sr_cl D cI cJ ad (sx_A sr_lay ad sz) 8 "StoneRingsModel" prog_7_method_31_code sr_ts p s m args c) (hZ : sx_Z (sx_A sr_lay ad sz) s s.heap) (hr : meth.sig.returnType = (some .int)) (hlk : meth.locks = false) (ht : ∀ x ∈ c.exceptionTable.toList, False) (hlf : l.stackTraces = false) {r28 : Int → Int → Int → Int → Int → Int → sx_M → Prop} (hr28 : ∀ (x1 x2 x3 x4 x5 x6 : Int) (μ : sx_M), r28 x1 x2 x3 x4 x5 x6 μ → sx_V sr_lay sr_cl D cI cJ ad (sx_A sr_lay ad sz) 8 p l e rm_M_agree s m args below meth c (vx_MQ below (sx_T (sx_QI sr_lay sr_cl D cI cJ ad Q sz)) (sx_XC sr_lay sr_cl D cI cJ ad (fun _ _ => False) sz) args s 0 0 (sx_A sr_lay ad sz)) 0 0 μ 28 [(0, .ref (ad 19)), (1, .int (sx_i x1)), (2, .int (sx_i x2)), (3, .int (sx_i x3)), (4, .int (sx_i x4)), (5, .int (sx_i x5)), (6, .int (sx_i x6))] []) {x1 x2 x3 x5 x6 y0 : Int} {μ : sx_M} (h : sw_M_agree_109 Q r28 x1 x2 x3 x5 x6 y0 μ) : sx_V sr_lay sr_cl D cI cJ ad (sx_A sr_lay ad sz) 8 p l e rm_M_agree s m args below meth c (vx_MQ below (sx_T (sx_QI sr_lay sr_cl D cI cJ ad Q sz)) (sx_XC sr_lay sr_cl D cI cJ ad (fun _ _ => False) sz) args s 0 0 (sx_A sr_lay ad sz)) 0 0 μ 109 [(0, .ref (ad 19)), (1, .int (sx_i x1)), (2, .int (sx_i x2)), (3, .int (sx_i x3)), (5, .int (sx_i x5)), (6, .int (sx_i x6))] [.int (sx_i y0)] := by
  unfold sw_M_agree_109 at h
  refine sx_istore (lu := [(4, .int (sx_i y0)), (0, .ref (ad 19)), (1, .int (sx_i x1)), (2, .int (sx_i x2)), (3, .int (sx_i x3)), (5, .int (sx_i x5)), (6, .int (sx_i x6))]) C dd_M_agree_109 (by decide) rfl ?_
  refine sx_iinc (lu := [(6, .int (sx_i (x6 + 1))), (4, .int (sx_i y0)), (0, .ref (ad 19)), (1, .int (sx_i x1)), (2, .int (sx_i x2)), (3, .int (sx_i x3)), (5, .int (sx_i x5))]) C 6 dd_M_agree_111 rfl (by decide) rfl ?_
  refine sx_goto (tgt := 28) C dd_M_agree_114 (by decide) ?_
  refine sx_less (lu := [(0, .ref (ad 19)), (1, .int (sx_i x1)), (2, .int (sx_i x2)), (3, .int (sx_i x3)), (4, .int (sx_i y0)), (5, .int (sx_i x5)), (6, .int (sx_i (x6 + 1)))]) C [2, 3, 4, 5, 1, 6, 0] rfl ?_
  exact hr28 _ _ _ _ _ _ _ h
set_option maxHeartbeats 4000000 in
set_option maxRecDepth 100000 in
theorem sm_M_agree_107 (C : sx_C sr_lay sr_cl D cI cJ ad (sx_A sr_lay ad sz) 8 "StoneRingsModel" prog_7_method_31_code sr_ts p s m args c) (hZ : sx_Z (sx_A sr_lay ad sz) s s.heap) (hr : meth.sig.returnType = (some .int)) (hlk : meth.locks = false) (ht : ∀ x ∈ c.exceptionTable.toList, False) (hlf : l.stackTraces = false) {r28 : Int → Int → Int → Int → Int → Int → sx_M → Prop} (hr28 : ∀ (x1 x2 x3 x4 x5 x6 : Int) (μ : sx_M), r28 x1 x2 x3 x4 x5 x6 μ → sx_V sr_lay sr_cl D cI cJ ad (sx_A sr_lay ad sz) 8 p l e rm_M_agree s m args below meth c (vx_MQ below (sx_T (sx_QI sr_lay sr_cl D cI cJ ad Q sz)) (sx_XC sr_lay sr_cl D cI cJ ad (fun _ _ => False) sz) args s 0 0 (sx_A sr_lay ad sz)) 0 0 μ 28 [(0, .ref (ad 19)), (1, .int (sx_i x1)), (2, .int (sx_i x2)), (3, .int (sx_i x3)), (4, .int (sx_i x4)), (5, .int (sx_i x5)), (6, .int (sx_i x6))] []) {x1 x2 x3 x4 x5 x6 : Int} {μ : sx_M} (h : sw_M_agree_107 Q r28 x1 x2 x3 x4 x5 x6 μ) : sx_V sr_lay sr_cl D cI cJ ad (sx_A sr_lay ad sz) 8 p l e rm_M_agree s m args below meth c (vx_MQ below (sx_T (sx_QI sr_lay sr_cl D cI cJ ad Q sz)) (sx_XC sr_lay sr_cl D cI cJ ad (fun _ _ => False) sz) args s 0 0 (sx_A sr_lay ad sz)) 0 0 μ 107 [(0, .ref (ad 19)), (1, .int (sx_i x1)), (2, .int (sx_i x2)), (3, .int (sx_i x3)), (4, .int (sx_i x4)), (5, .int (sx_i x5)), (6, .int (sx_i x6))] [] := by
  unfold sw_M_agree_107 at h
  refine sx_iload C 4 dd_M_agree_107 rfl ?_
  refine sx_less (lu := [(0, .ref (ad 19)), (1, .int (sx_i x1)), (2, .int (sx_i x2)), (3, .int (sx_i x3)), (5, .int (sx_i x5)), (6, .int (sx_i x6))]) C [0, 1, 2, 3, 5, 6] rfl ?_
  exact sm_M_agree_109 C hZ hr hlk ht hlf hr28 h
set_option maxHeartbeats 4000000 in
set_option maxRecDepth 100000 in
theorem sm_M_agree_66 (C : sx_C sr_lay sr_cl D cI cJ ad (sx_A sr_lay ad sz) 8 "StoneRingsModel" prog_7_method_31_code sr_ts p s m args c) (hZ : sx_Z (sx_A sr_lay ad sz) s s.heap) (hr : meth.sig.returnType = (some .int)) (hlk : meth.locks = false) (ht : ∀ x ∈ c.exceptionTable.toList, False) (hlf : l.stackTraces = false) {r28 : Int → Int → Int → Int → Int → Int → sx_M → Prop} (hr28 : ∀ (x1 x2 x3 x4 x5 x6 : Int) (μ : sx_M), r28 x1 x2 x3 x4 x5 x6 μ → sx_V sr_lay sr_cl D cI cJ ad (sx_A sr_lay ad sz) 8 p l e rm_M_agree s m args below meth c (vx_MQ below (sx_T (sx_QI sr_lay sr_cl D cI cJ ad Q sz)) (sx_XC sr_lay sr_cl D cI cJ ad (fun _ _ => False) sz) args s 0 0 (sx_A sr_lay ad sz)) 0 0 μ 28 [(0, .ref (ad 19)), (1, .int (sx_i x1)), (2, .int (sx_i x2)), (3, .int (sx_i x3)), (4, .int (sx_i x4)), (5, .int (sx_i x5)), (6, .int (sx_i x6))] []) {x1 x2 x3 x4 x6 x7 y0 : Int} {μ : sx_M} (h : sw_M_agree_66 Q r28 x1 x2 x3 x4 x6 x7 y0 μ) : sx_V sr_lay sr_cl D cI cJ ad (sx_A sr_lay ad sz) 8 p l e rm_M_agree s m args below meth c (vx_MQ below (sx_T (sx_QI sr_lay sr_cl D cI cJ ad Q sz)) (sx_XC sr_lay sr_cl D cI cJ ad (fun _ _ => False) sz) args s 0 0 (sx_A sr_lay ad sz)) 0 0 μ 66 [(0, .ref (ad 19)), (1, .int (sx_i x1)), (2, .int (sx_i x2)), (3, .int (sx_i x3)), (4, .int (sx_i x4)), (6, .int (sx_i x6)), (7, .int (sx_i x7))] [.int (sx_i y0)] := by
  unfold sw_M_agree_66 at h
  refine sx_istore (lu := [(5, .int (sx_i y0)), (0, .ref (ad 19)), (1, .int (sx_i x1)), (2, .int (sx_i x2)), (3, .int (sx_i x3)), (4, .int (sx_i x4)), (6, .int (sx_i x6)), (7, .int (sx_i x7))]) C dd_M_agree_66 (by decide) rfl ?_
  refine sx_iload C 7 dd_M_agree_68 rfl ?_
  refine sx_if_eq (tgt := 107) C dd_M_agree_70 (by decide) h (fun h => ?_) (fun h => ?_)
  · refine sx_less (lu := [(0, .ref (ad 19)), (1, .int (sx_i x1)), (2, .int (sx_i x2)), (3, .int (sx_i x3)), (4, .int (sx_i x4)), (5, .int (sx_i y0)), (6, .int (sx_i x6))]) C [1, 2, 3, 4, 5, 0, 6] rfl ?_
    exact sm_M_agree_107 C hZ hr hlk ht hlf hr28 h
  · refine sx_aload_n C 1 dd_M_agree_73 rfl rfl ?_
    refine sx_getr (ref := "StoneRingsModel") C 19 20 rfl rfl (rfl : sr_cl[5]? = some ("StoneRingsModel", tt_M, 21)) (by decide) in_M wd_612 rfl dd_M_agree_74 ?_
    refine sx_bipush (v := 20) C dd_M_agree_77 (by decide +kernel) ?_
    refine sx_iload_n C 2 dd_M_agree_79 rfl rfl ?_
    refine sx_imul C dd_M_agree_80 ?_
    refine sx_iload C 6 dd_M_agree_81 rfl ?_
    refine sx_iadd C dd_M_agree_83 ?_
    refine sx_iald (N := 80) C 29 rfl rfl (by decide) dd_M_agree_84 h (fun h => ?_)
    refine sx_aload_n C 1 dd_M_agree_85 rfl rfl ?_
    refine sx_getr (ref := "StoneRingsModel") C 19 20 rfl rfl (rfl : sr_cl[5]? = some ("StoneRingsModel", tt_M, 21)) (by decide) in_M wd_612 rfl dd_M_agree_86 ?_
    refine sx_bipush (v := 20) C dd_M_agree_89 (by decide +kernel) ?_
    refine sx_iload_n C 3 dd_M_agree_91 rfl rfl ?_
    refine sx_imul C dd_M_agree_92 ?_
    refine sx_iload C 6 dd_M_agree_93 rfl ?_
    refine sx_iadd C dd_M_agree_95 ?_
    refine sx_iald (N := 80) C 29 rfl rfl (by decide) dd_M_agree_96 h (fun h => ?_)
    refine sx_icmp_ne (tgt := 107) C dd_M_agree_97 (by decide) h (fun h => ?_) (fun h => ?_)
    · refine sx_less (lu := [(0, .ref (ad 19)), (1, .int (sx_i x1)), (2, .int (sx_i x2)), (3, .int (sx_i x3)), (4, .int (sx_i x4)), (5, .int (sx_i y0)), (6, .int (sx_i x6))]) C [1, 2, 3, 4, 5, 0, 6] rfl ?_
      exact sm_M_agree_107 C hZ hr hlk ht hlf hr28 h
    · refine sx_iload C 5 dd_M_agree_100 rfl ?_
      refine sx_iconst C dd_M_agree_102 rfl ?_
      refine sx_iadd C dd_M_agree_103 ?_
      refine sx_goto (tgt := 109) C dd_M_agree_104 (by decide) ?_
      refine sx_less (lu := [(0, .ref (ad 19)), (1, .int (sx_i x1)), (2, .int (sx_i x2)), (3, .int (sx_i x3)), (5, .int (sx_i y0)), (6, .int (sx_i x6))]) C [1, 2, 3, 4, 0, 6] rfl ?_
      exact sm_M_agree_109 C hZ hr hlk ht hlf hr28 h
set_option maxHeartbeats 4000000 in
set_option maxRecDepth 100000 in
theorem sm_M_agree_136 (C : sx_C sr_lay sr_cl D cI cJ ad (sx_A sr_lay ad sz) 8 "StoneRingsModel" prog_7_method_31_code sr_ts p s m args c) (hZ : sx_Z (sx_A sr_lay ad sz) s s.heap) (hr : meth.sig.returnType = (some .int)) (hlk : meth.locks = false) (ht : ∀ x ∈ c.exceptionTable.toList, False) (hlf : l.stackTraces = false) {y0 : Int} {μ : sx_M} (h : sw_M_agree_136 Q y0 μ) : sx_V sr_lay sr_cl D cI cJ ad (sx_A sr_lay ad sz) 8 p l e rm_M_agree s m args below meth c (vx_MQ below (sx_T (sx_QI sr_lay sr_cl D cI cJ ad Q sz)) (sx_XC sr_lay sr_cl D cI cJ ad (fun _ _ => False) sz) args s 0 0 (sx_A sr_lay ad sz)) 0 0 μ 136 [] [.int (sx_i y0)] := by
  unfold sw_M_agree_136 at h
  exact sx_iret C hr hlk dd_M_agree_136 h
set_option maxHeartbeats 4000000 in
set_option maxRecDepth 100000 in
theorem sm_M_agree_117 (C : sx_C sr_lay sr_cl D cI cJ ad (sx_A sr_lay ad sz) 8 "StoneRingsModel" prog_7_method_31_code sr_ts p s m args c) (hZ : sx_Z (sx_A sr_lay ad sz) s s.heap) (hr : meth.sig.returnType = (some .int)) (hlk : meth.locks = false) (ht : ∀ x ∈ c.exceptionTable.toList, False) (hlf : l.stackTraces = false) {x3 x4 x5 : Int} {μ : sx_M} (h : sw_M_agree_117 Q x3 x4 x5 μ) : sx_V sr_lay sr_cl D cI cJ ad (sx_A sr_lay ad sz) 8 p l e rm_M_agree s m args below meth c (vx_MQ below (sx_T (sx_QI sr_lay sr_cl D cI cJ ad Q sz)) (sx_XC sr_lay sr_cl D cI cJ ad (fun _ _ => False) sz) args s 0 0 (sx_A sr_lay ad sz)) 0 0 μ 117 [(0, .ref (ad 19)), (3, .int (sx_i x3)), (4, .int (sx_i x4)), (5, .int (sx_i x5))] [] := by
  unfold sw_M_agree_117 at h
  refine sx_aload_n C 0 dd_M_agree_117 rfl rfl ?_
  refine sx_geti (K := 0) (ref := "StoneRingsModel") C 19 0 rfl rfl rfl (rfl : sr_cl[5]? = some ("StoneRingsModel", tt_M, 21)) (by decide) in_M wd_592 rfl dd_M_agree_118 ?_
  refine sx_if_le (tgt := 128) C dd_M_agree_121 (by decide) h (fun h => ?_) (fun h => ?_)
  · refine sx_iload C 2 dd_M_agree_128 rfl ?_
    refine sx_iload C 3 dd_M_agree_130 rfl ?_
    refine sx_iload_n C 1 dd_M_agree_132 rfl rfl ?_
    refine sx_stcI C hZ [.int (sx_i x4), .int (sx_i x5), .int (sx_i x3)] (fun sz2 => sm_M_part hlf h sz2) (sx_cwS (n := 3) C.2.2.2.2.1 wd_774 wd_772 wd_773 wd_8 rfl rfl (by decide +kernel) ⟨by decide, by decide⟩) rfl rfl (Nat.le_of_ble_eq_true rfl) dd_M_agree_133 ⟨(Nat.le_of_ble_eq_true rfl), (Nat.le_of_ble_eq_true rfl)⟩ sx_noX (fun v1 μ1 h => ?_)
    refine sx_less (lu := []) C [] rfl ?_
    exact sm_M_agree_136 C hZ hr hlk ht hlf h
  · refine sx_iconst C dd_M_agree_124 rfl ?_
    refine sx_goto (tgt := 136) C dd_M_agree_125 (by decide) ?_
    refine sx_less (lu := []) C [] rfl ?_
    exact sm_M_agree_136 C hZ hr hlk ht hlf h
set_option maxHeartbeats 4000000 in
set_option maxRecDepth 100000 in
theorem sm_M_agree_28 (C : sx_C sr_lay sr_cl D cI cJ ad (sx_A sr_lay ad sz) 8 "StoneRingsModel" prog_7_method_31_code sr_ts p s m args c) (hZ : sx_Z (sx_A sr_lay ad sz) s s.heap) (hr : meth.sig.returnType = (some .int)) (hlk : meth.locks = false) (ht : ∀ x ∈ c.exceptionTable.toList, False) (hlf : l.stackTraces = false) : ∀ (n : Nat) (x1 x2 x3 x4 x5 x6 : Int) (μ : sx_M), sw_M_agree_28 Q n x1 x2 x3 x4 x5 x6 μ → sx_V sr_lay sr_cl D cI cJ ad (sx_A sr_lay ad sz) 8 p l e rm_M_agree s m args below meth c (vx_MQ below (sx_T (sx_QI sr_lay sr_cl D cI cJ ad Q sz)) (sx_XC sr_lay sr_cl D cI cJ ad (fun _ _ => False) sz) args s 0 0 (sx_A sr_lay ad sz)) 0 0 μ 28 [(0, .ref (ad 19)), (1, .int (sx_i x1)), (2, .int (sx_i x2)), (3, .int (sx_i x3)), (4, .int (sx_i x4)), (5, .int (sx_i x5)), (6, .int (sx_i x6))] [] := by
  intro n
  induction n with
  | zero =>
    intro x1 x2 x3 x4 x5 x6 μ h
    exact h.elim
  | succ n ih =>
    intro x1 x2 x3 x4 x5 x6 μ h
    have hr28 := ih
    unfold sw_M_agree_28 at h
    refine sx_iload C 6 dd_M_agree_28 rfl ?_
    refine sx_bipush (v := 20) C dd_M_agree_30 (by decide +kernel) ?_
    refine sx_icmp_ge (tgt := 117) C dd_M_agree_32 (by decide) h (fun h => ?_) (fun h => ?_)
    · refine sx_less (lu := [(0, .ref (ad 19)), (3, .int (sx_i x3)), (4, .int (sx_i x4)), (5, .int (sx_i x5))]) C [0, 3, 4, 5] rfl ?_
      exact sm_M_agree_117 C hZ hr hlk ht hlf h
    · refine sx_aload_n C 0 dd_M_agree_35 rfl rfl ?_
      refine sx_geti (K := 0) (ref := "StoneRingsModel") C 19 0 rfl rfl rfl (rfl : sr_cl[5]? = some ("StoneRingsModel", tt_M, 21)) (by decide) in_M wd_592 rfl dd_M_agree_36 ?_
      refine sx_if_ne (tgt := 117) C dd_M_agree_39 (by decide) h (fun h => ?_) (fun h => ?_)
      · refine sx_less (lu := [(0, .ref (ad 19)), (3, .int (sx_i x3)), (4, .int (sx_i x4)), (5, .int (sx_i x5))]) C [0, 3, 4, 5] rfl ?_
        exact sm_M_agree_117 C hZ hr hlk ht hlf h
      · refine sx_aload_n C 0 dd_M_agree_42 rfl rfl ?_
        refine sx_iload_n C 1 dd_M_agree_43 rfl rfl ?_
        refine sx_iload_n C 2 dd_M_agree_44 rfl rfl ?_
        refine sx_iload C 6 dd_M_agree_45 rfl ?_
        refine sx_invI (c0 := 19) C hZ [.int (sx_i x1), .int (sx_i x2), .int (sx_i x6)] (fun sz2 => sm_M_both hlf h sz2) (sx_cwV (n := 3) C.2.2.2.2.1 wd_771 wd_768 wd_770 wp_M_both wd_8 rfl rfl (by decide +kernel) ⟨by decide, by decide⟩) rfl (rfl : sr_cl[5]? = some ("StoneRingsModel", tt_M, 21)) rfl rfl (Nat.le_of_ble_eq_true rfl) dd_M_agree_47 ⟨(Nat.le_of_ble_eq_true rfl), (Nat.le_of_ble_eq_true rfl)⟩ sx_noX (fun v1 μ1 h => ?_)
        refine sx_istore (lu := [(7, .int (sx_i v1)), (0, .ref (ad 19)), (1, .int (sx_i x1)), (2, .int (sx_i x2)), (3, .int (sx_i x3)), (4, .int (sx_i x4)), (5, .int (sx_i x5)), (6, .int (sx_i x6))]) C dd_M_agree_50 (by decide) rfl ?_
        refine sx_iload C 0 dd_M_agree_52 rfl ?_
        refine sx_if_eq (tgt := 64) C dd_M_agree_54 (by decide) h (fun h => ?_) (fun h => ?_)
        · refine sx_iload C 6 dd_M_agree_64 rfl ?_
          refine sx_less (lu := [(0, .ref (ad 19)), (1, .int (sx_i x1)), (2, .int (sx_i x2)), (3, .int (sx_i x3)), (4, .int (sx_i x4)), (6, .int (sx_i x6)), (7, .int (sx_i v1))]) C [1, 2, 3, 4, 5, 7, 0] rfl ?_
          exact sm_M_agree_66 C hZ hr hlk ht hlf hr28 h
        · refine sx_iload C 6 dd_M_agree_57 rfl ?_
          refine sx_iconst C dd_M_agree_59 rfl ?_
          refine sx_iadd C dd_M_agree_60 ?_
          refine sx_goto (tgt := 66) C dd_M_agree_61 (by decide) ?_
          refine sx_less (lu := [(0, .ref (ad 19)), (1, .int (sx_i x1)), (2, .int (sx_i x2)), (3, .int (sx_i x3)), (4, .int (sx_i x4)), (6, .int (sx_i x6)), (7, .int (sx_i v1))]) C [1, 2, 3, 4, 5, 7, 0] rfl ?_
          exact sm_M_agree_66 C hZ hr hlk ht hlf hr28 h
set_option maxHeartbeats 4000000 in
set_option maxRecDepth 100000 in
theorem sm_M_agree_16 (C : sx_C sr_lay sr_cl D cI cJ ad (sx_A sr_lay ad sz) 8 "StoneRingsModel" prog_7_method_31_code sr_ts p s m args c) (hZ : sx_Z (sx_A sr_lay ad sz) s s.heap) (hr : meth.sig.returnType = (some .int)) (hlk : meth.locks = false) (ht : ∀ x ∈ c.exceptionTable.toList, False) (hlf : l.stackTraces = false) {x1 x2 x3 y1 : Int} {μ : sx_M} (h : sw_M_agree_16 Q x1 x2 x3 y1 μ) : sx_V sr_lay sr_cl D cI cJ ad (sx_A sr_lay ad sz) 8 p l e rm_M_agree s m args below meth c (vx_MQ below (sx_T (sx_QI sr_lay sr_cl D cI cJ ad Q sz)) (sx_XC sr_lay sr_cl D cI cJ ad (fun _ _ => False) sz) args s 0 0 (sx_A sr_lay ad sz)) 0 0 μ 16 [(0, .ref (ad 19)), (1, .int (sx_i x1)), (2, .int (sx_i x2)), (3, .int (sx_i x3))] [.int (sx_i y1), .ref (ad 19)] := by
  unfold sw_M_agree_16 at h
  refine sx_puti (K := 0) (ref := "StoneRingsModel") (ty := .int) C 19 0 rfl rfl rfl (rfl : sr_cl[5]? = some ("StoneRingsModel", tt_M, 21)) (by decide) in_M ty_M tyk_M nm_M wd_592 rfl rfl (by decide +kernel) rfl rfl dd_M_agree_16 ?_
  refine sx_iconst C dd_M_agree_19 rfl ?_
  refine sx_istore (lu := [(4, .int (sx_i 0)), (0, .ref (ad 19)), (1, .int (sx_i x1)), (2, .int (sx_i x2)), (3, .int (sx_i x3))]) C dd_M_agree_20 (by decide) rfl ?_
  refine sx_iconst C dd_M_agree_22 rfl ?_
  refine sx_istore (lu := [(5, .int (sx_i 0)), (4, .int (sx_i 0)), (0, .ref (ad 19)), (1, .int (sx_i x1)), (2, .int (sx_i x2)), (3, .int (sx_i x3))]) C dd_M_agree_23 (by decide) rfl ?_
  refine sx_iconst C dd_M_agree_25 rfl ?_
  refine sx_istore (lu := [(6, .int (sx_i 0)), (5, .int (sx_i 0)), (4, .int (sx_i 0)), (0, .ref (ad 19)), (1, .int (sx_i x1)), (2, .int (sx_i x2)), (3, .int (sx_i x3))]) C dd_M_agree_26 (by decide) rfl ?_
  refine sx_less (lu := [(0, .ref (ad 19)), (1, .int (sx_i x1)), (2, .int (sx_i x2)), (3, .int (sx_i x3)), (4, .int (sx_i 0)), (5, .int (sx_i 0)), (6, .int (sx_i 0))]) C [3, 4, 5, 6, 2, 1, 0] rfl ?_
  exact sm_M_agree_28 C hZ hr hlk ht hlf 600 _ _ _ _ _ _ _ h
set_option maxHeartbeats 4000000 in
set_option maxRecDepth 100000 in
theorem sm_M_agree {l : Launch} {D : va_G} {cI cJ : ClassId} {ad : Nat → Nat} {Q : Int → sx_M → Prop} (hlf : l.stackTraces = false) {μ : sx_M} {a1 a2 a3 : Int} (h : sw_M_agree Q μ a1 a2 a3) (sz : Nat) : sx_MI l yy_M_agree (Cond.code yy_M_agree prog_7_method_31_code 8 (some .int) :: sr_ts) rm_M_agree sr_lay sr_cl D cI cJ ad [.ref (ad 19), .int (sx_i a1), .int (sx_i a2), .int (sx_i a3)] μ Q (fun _ _ => False) 0 0 sz := by
  refine sx_body (plainFor_of_name (by decide +kernel)) rfl (Nat.le_of_ble_eq_true rfl) ?_
  intro p e s m below meth c C hZ hr hlk ht
  unfold sw_M_agree at h
  show sx_V sr_lay sr_cl D cI cJ ad (sx_A sr_lay ad sz) 8 p l e rm_M_agree s m _ below meth c (vx_MQ below (sx_T (sx_QI sr_lay sr_cl D cI cJ ad Q sz)) (sx_XC sr_lay sr_cl D cI cJ ad (fun _ _ => False) sz) _ s 0 0 (sx_A sr_lay ad sz)) 0 0 μ 0 [(0, .ref (ad 19)), (1, .int (sx_i a1)), (2, .int (sx_i a2)), (3, .int (sx_i a3))] []
  refine sx_aload_n C 0 dd_M_agree_0 rfl rfl ?_
  refine sx_aload_n C 0 dd_M_agree_1 rfl rfl ?_
  refine sx_iload_n C 1 dd_M_agree_2 rfl rfl ?_
  refine sx_iload_n C 2 dd_M_agree_3 rfl rfl ?_
  refine sx_iload_n C 3 dd_M_agree_4 rfl rfl ?_
  refine sx_invI (c0 := 19) C hZ [.int (sx_i a1), .int (sx_i a2), .int (sx_i a3)] (fun sz2 => sm_M_noTwo hlf h sz2) (sx_cwV (n := 3) C.2.2.2.2.1 wd_767 wd_764 wd_766 wp_M_noTwo wd_8 rfl rfl (by decide +kernel) ⟨by decide, by decide⟩) rfl (rfl : sr_cl[5]? = some ("StoneRingsModel", tt_M, 21)) rfl rfl (Nat.le_of_ble_eq_true rfl) dd_M_agree_5 ⟨(Nat.le_of_ble_eq_true rfl), (Nat.le_of_ble_eq_true rfl)⟩ sx_noX (fun v1 μ1 h => ?_)
  refine sx_if_eq (tgt := 15) C dd_M_agree_8 (by decide) h (fun h => ?_) (fun h => ?_)
  · refine sx_iconst C dd_M_agree_15 rfl ?_
    exact sm_M_agree_16 C hZ hr hlk ht hlf h
  · refine sx_iconst C dd_M_agree_11 rfl ?_
    refine sx_goto (tgt := 16) C dd_M_agree_12 (by decide) ?_
    exact sm_M_agree_16 C hZ hr hlk ht hlf h
def rm_M_bias : Room := { frames := 2, cells := 0, slots := 0, locals := 45 }
set_option maxHeartbeats 4000000 in
set_option maxRecDepth 100000 in
theorem sm_M_bias_106 (C : sx_C sr_lay sr_cl D cI cJ ad (sx_A sr_lay ad sz) 8 "StoneRingsModel" prog_7_method_32_code sr_ts p s m args c) (hZ : sx_Z (sx_A sr_lay ad sz) s s.heap) (hr : meth.sig.returnType = (some .int)) (hlk : meth.locks = false) (ht : ∀ x ∈ c.exceptionTable.toList, False) (hlf : l.stackTraces = false) {r28 : Int → Int → Int → Int → Int → Int → sx_M → Prop} (hr28 : ∀ (x1 x2 x3 x4 x5 x6 : Int) (μ : sx_M), r28 x1 x2 x3 x4 x5 x6 μ → sx_V sr_lay sr_cl D cI cJ ad (sx_A sr_lay ad sz) 8 p l e rm_M_bias s m args below meth c (vx_MQ below (sx_T (sx_QI sr_lay sr_cl D cI cJ ad Q sz)) (sx_XC sr_lay sr_cl D cI cJ ad (fun _ _ => False) sz) args s 0 0 (sx_A sr_lay ad sz)) 0 0 μ 28 [(0, .ref (ad 19)), (1, .int (sx_i x1)), (2, .int (sx_i x2)), (3, .int (sx_i x3)), (4, .int (sx_i x4)), (5, .int (sx_i x5)), (6, .int (sx_i x6))] []) {x1 x2 x3 x5 x6 y0 : Int} {μ : sx_M} (h : sw_M_bias_106 Q r28 x1 x2 x3 x5 x6 y0 μ) : sx_V sr_lay sr_cl D cI cJ ad (sx_A sr_lay ad sz) 8 p l e rm_M_bias s m args below meth c (vx_MQ below (sx_T (sx_QI sr_lay sr_cl D cI cJ ad Q sz)) (sx_XC sr_lay sr_cl D cI cJ ad (fun _ _ => False) sz) args s 0 0 (sx_A sr_lay ad sz)) 0 0 μ 106 [(0, .ref (ad 19)), (1, .int (sx_i x1)), (2, .int (sx_i x2)), (3, .int (sx_i x3)), (5, .int (sx_i x5)), (6, .int (sx_i x6))] [.int (sx_i y0)] := by
  unfold sw_M_bias_106 at h
  refine sx_istore (lu := [(4, .int (sx_i y0)), (0, .ref (ad 19)), (1, .int (sx_i x1)), (2, .int (sx_i x2)), (3, .int (sx_i x3)), (5, .int (sx_i x5)), (6, .int (sx_i x6))]) C dd_M_bias_106 (by decide) rfl ?_
  refine sx_iinc (lu := [(6, .int (sx_i (x6 + 1))), (4, .int (sx_i y0)), (0, .ref (ad 19)), (1, .int (sx_i x1)), (2, .int (sx_i x2)), (3, .int (sx_i x3)), (5, .int (sx_i x5))]) C 6 dd_M_bias_108 rfl (by decide) rfl ?_
  refine sx_goto (tgt := 28) C dd_M_bias_111 (by decide) ?_
  refine sx_less (lu := [(0, .ref (ad 19)), (1, .int (sx_i x1)), (2, .int (sx_i x2)), (3, .int (sx_i x3)), (4, .int (sx_i y0)), (5, .int (sx_i x5)), (6, .int (sx_i (x6 + 1)))]) C [2, 3, 4, 5, 1, 6, 0] rfl ?_
  exact hr28 _ _ _ _ _ _ _ h
set_option maxHeartbeats 4000000 in
set_option maxRecDepth 100000 in
theorem sm_M_bias_66 (C : sx_C sr_lay sr_cl D cI cJ ad (sx_A sr_lay ad sz) 8 "StoneRingsModel" prog_7_method_32_code sr_ts p s m args c) (hZ : sx_Z (sx_A sr_lay ad sz) s s.heap) (hr : meth.sig.returnType = (some .int)) (hlk : meth.locks = false) (ht : ∀ x ∈ c.exceptionTable.toList, False) (hlf : l.stackTraces = false) {r28 : Int → Int → Int → Int → Int → Int → sx_M → Prop} (hr28 : ∀ (x1 x2 x3 x4 x5 x6 : Int) (μ : sx_M), r28 x1 x2 x3 x4 x5 x6 μ → sx_V sr_lay sr_cl D cI cJ ad (sx_A sr_lay ad sz) 8 p l e rm_M_bias s m args below meth c (vx_MQ below (sx_T (sx_QI sr_lay sr_cl D cI cJ ad Q sz)) (sx_XC sr_lay sr_cl D cI cJ ad (fun _ _ => False) sz) args s 0 0 (sx_A sr_lay ad sz)) 0 0 μ 28 [(0, .ref (ad 19)), (1, .int (sx_i x1)), (2, .int (sx_i x2)), (3, .int (sx_i x3)), (4, .int (sx_i x4)), (5, .int (sx_i x5)), (6, .int (sx_i x6))] []) {x1 x2 x3 x4 x6 x7 y0 : Int} {μ : sx_M} (h : sw_M_bias_66 Q r28 x1 x2 x3 x4 x6 x7 y0 μ) : sx_V sr_lay sr_cl D cI cJ ad (sx_A sr_lay ad sz) 8 p l e rm_M_bias s m args below meth c (vx_MQ below (sx_T (sx_QI sr_lay sr_cl D cI cJ ad Q sz)) (sx_XC sr_lay sr_cl D cI cJ ad (fun _ _ => False) sz) args s 0 0 (sx_A sr_lay ad sz)) 0 0 μ 66 [(0, .ref (ad 19)), (1, .int (sx_i x1)), (2, .int (sx_i x2)), (3, .int (sx_i x3)), (4, .int (sx_i x4)), (6, .int (sx_i x6)), (7, .int (sx_i x7))] [.int (sx_i y0)] := by
  unfold sw_M_bias_66 at h
  refine sx_istore (lu := [(5, .int (sx_i y0)), (0, .ref (ad 19)), (1, .int (sx_i x1)), (2, .int (sx_i x2)), (3, .int (sx_i x3)), (4, .int (sx_i x4)), (6, .int (sx_i x6)), (7, .int (sx_i x7))]) C dd_M_bias_66 (by decide) rfl ?_
  refine sx_iload C 7 dd_M_bias_68 rfl ?_
  refine sx_if_eq (tgt := 104) C dd_M_bias_70 (by decide) h (fun h => ?_) (fun h => ?_)
  · refine sx_iload C 5 dd_M_bias_104 rfl ?_
    refine sx_less (lu := [(0, .ref (ad 19)), (1, .int (sx_i x1)), (2, .int (sx_i x2)), (3, .int (sx_i x3)), (5, .int (sx_i y0)), (6, .int (sx_i x6))]) C [1, 2, 3, 4, 0, 6] rfl ?_
    exact sm_M_bias_106 C hZ hr hlk ht hlf hr28 h
  · refine sx_iload C 5 dd_M_bias_73 rfl ?_
    refine sx_aload_n C 1 dd_M_bias_75 rfl rfl ?_
    refine sx_getr (ref := "StoneRingsModel") C 19 20 rfl rfl (rfl : sr_cl[5]? = some ("StoneRingsModel", tt_M, 21)) (by decide) in_M wd_612 rfl dd_M_bias_76 ?_
    refine sx_bipush (v := 20) C dd_M_bias_79 (by decide +kernel) ?_
    refine sx_iload_n C 2 dd_M_bias_81 rfl rfl ?_
    refine sx_imul C dd_M_bias_82 ?_
    refine sx_iload C 6 dd_M_bias_83 rfl ?_
    refine sx_iadd C dd_M_bias_85 ?_
    refine sx_iald (N := 80) C 29 rfl rfl (by decide) dd_M_bias_86 h (fun h => ?_)
    refine sx_iadd C dd_M_bias_87 ?_
    refine sx_aload_n C 1 dd_M_bias_88 rfl rfl ?_
    refine sx_getr (ref := "StoneRingsModel") C 19 20 rfl rfl (rfl : sr_cl[5]? = some ("StoneRingsModel", tt_M, 21)) (by decide) in_M wd_612 rfl dd_M_bias_89 ?_
    refine sx_bipush (v := 20) C dd_M_bias_92 (by decide +kernel) ?_
    refine sx_iload_n C 3 dd_M_bias_94 rfl rfl ?_
    refine sx_imul C dd_M_bias_95 ?_
    refine sx_iload C 6 dd_M_bias_96 rfl ?_
    refine sx_iadd C dd_M_bias_98 ?_
    refine sx_iald (N := 80) C 29 rfl rfl (by decide) dd_M_bias_99 h (fun h => ?_)
    refine sx_isub C dd_M_bias_100 ?_
    refine sx_goto (tgt := 106) C dd_M_bias_101 (by decide) ?_
    refine sx_less (lu := [(0, .ref (ad 19)), (1, .int (sx_i x1)), (2, .int (sx_i x2)), (3, .int (sx_i x3)), (5, .int (sx_i y0)), (6, .int (sx_i x6))]) C [1, 2, 3, 4, 0, 6] rfl ?_
    exact sm_M_bias_106 C hZ hr hlk ht hlf hr28 h
set_option maxHeartbeats 4000000 in
set_option maxRecDepth 100000 in
theorem sm_M_bias_133 (C : sx_C sr_lay sr_cl D cI cJ ad (sx_A sr_lay ad sz) 8 "StoneRingsModel" prog_7_method_32_code sr_ts p s m args c) (hZ : sx_Z (sx_A sr_lay ad sz) s s.heap) (hr : meth.sig.returnType = (some .int)) (hlk : meth.locks = false) (ht : ∀ x ∈ c.exceptionTable.toList, False) (hlf : l.stackTraces = false) {y0 : Int} {μ : sx_M} (h : sw_M_bias_133 Q y0 μ) : sx_V sr_lay sr_cl D cI cJ ad (sx_A sr_lay ad sz) 8 p l e rm_M_bias s m args below meth c (vx_MQ below (sx_T (sx_QI sr_lay sr_cl D cI cJ ad Q sz)) (sx_XC sr_lay sr_cl D cI cJ ad (fun _ _ => False) sz) args s 0 0 (sx_A sr_lay ad sz)) 0 0 μ 133 [] [.int (sx_i y0)] := by
  unfold sw_M_bias_133 at h
  exact sx_iret C hr hlk dd_M_bias_133 h
set_option maxHeartbeats 4000000 in
set_option maxRecDepth 100000 in
theorem sm_M_bias_114 (C : sx_C sr_lay sr_cl D cI cJ ad (sx_A sr_lay ad sz) 8 "StoneRingsModel" prog_7_method_32_code sr_ts p s m args c) (hZ : sx_Z (sx_A sr_lay ad sz) s s.heap) (hr : meth.sig.returnType = (some .int)) (hlk : meth.locks = false) (ht : ∀ x ∈ c.exceptionTable.toList, False) (hlf : l.stackTraces = false) {x3 x4 x5 : Int} {μ : sx_M} (h : sw_M_bias_114 Q x3 x4 x5 μ) : sx_V sr_lay sr_cl D cI cJ ad (sx_A sr_lay ad sz) 8 p l e rm_M_bias s m args below meth c (vx_MQ below (sx_T (sx_QI sr_lay sr_cl D cI cJ ad Q sz)) (sx_XC sr_lay sr_cl D cI cJ ad (fun _ _ => False) sz) args s 0 0 (sx_A sr_lay ad sz)) 0 0 μ 114 [(0, .ref (ad 19)), (3, .int (sx_i x3)), (4, .int (sx_i x4)), (5, .int (sx_i x5))] [] := by
  unfold sw_M_bias_114 at h
  refine sx_aload_n C 0 dd_M_bias_114 rfl rfl ?_
  refine sx_geti (K := 0) (ref := "StoneRingsModel") C 19 0 rfl rfl rfl (rfl : sr_cl[5]? = some ("StoneRingsModel", tt_M, 21)) (by decide) in_M wd_592 rfl dd_M_bias_115 ?_
  refine sx_if_le (tgt := 125) C dd_M_bias_118 (by decide) h (fun h => ?_) (fun h => ?_)
  · refine sx_iload C 2 dd_M_bias_125 rfl ?_
    refine sx_iload C 3 dd_M_bias_127 rfl ?_
    refine sx_iload_n C 1 dd_M_bias_129 rfl rfl ?_
    refine sx_stcI C hZ [.int (sx_i x4), .int (sx_i x5), .int (sx_i x3)] (fun sz2 => sm_M_part hlf h sz2) (sx_cwS (n := 3) C.2.2.2.2.1 wd_774 wd_772 wd_773 wd_8 rfl rfl (by decide +kernel) ⟨by decide, by decide⟩) rfl rfl (Nat.le_of_ble_eq_true rfl) dd_M_bias_130 ⟨(Nat.le_of_ble_eq_true rfl), (Nat.le_of_ble_eq_true rfl)⟩ sx_noX (fun v1 μ1 h => ?_)
    refine sx_less (lu := []) C [] rfl ?_
    exact sm_M_bias_133 C hZ hr hlk ht hlf h
  · refine sx_iconst C dd_M_bias_121 rfl ?_
    refine sx_goto (tgt := 133) C dd_M_bias_122 (by decide) ?_
    refine sx_less (lu := []) C [] rfl ?_
    exact sm_M_bias_133 C hZ hr hlk ht hlf h
set_option maxHeartbeats 4000000 in
set_option maxRecDepth 100000 in
theorem sm_M_bias_28 (C : sx_C sr_lay sr_cl D cI cJ ad (sx_A sr_lay ad sz) 8 "StoneRingsModel" prog_7_method_32_code sr_ts p s m args c) (hZ : sx_Z (sx_A sr_lay ad sz) s s.heap) (hr : meth.sig.returnType = (some .int)) (hlk : meth.locks = false) (ht : ∀ x ∈ c.exceptionTable.toList, False) (hlf : l.stackTraces = false) : ∀ (n : Nat) (x1 x2 x3 x4 x5 x6 : Int) (μ : sx_M), sw_M_bias_28 Q n x1 x2 x3 x4 x5 x6 μ → sx_V sr_lay sr_cl D cI cJ ad (sx_A sr_lay ad sz) 8 p l e rm_M_bias s m args below meth c (vx_MQ below (sx_T (sx_QI sr_lay sr_cl D cI cJ ad Q sz)) (sx_XC sr_lay sr_cl D cI cJ ad (fun _ _ => False) sz) args s 0 0 (sx_A sr_lay ad sz)) 0 0 μ 28 [(0, .ref (ad 19)), (1, .int (sx_i x1)), (2, .int (sx_i x2)), (3, .int (sx_i x3)), (4, .int (sx_i x4)), (5, .int (sx_i x5)), (6, .int (sx_i x6))] [] := by
  intro n
  induction n with
  | zero =>
    intro x1 x2 x3 x4 x5 x6 μ h
    exact h.elim
  | succ n ih =>
    intro x1 x2 x3 x4 x5 x6 μ h
    have hr28 := ih
    unfold sw_M_bias_28 at h
    refine sx_iload C 6 dd_M_bias_28 rfl ?_
    refine sx_bipush (v := 20) C dd_M_bias_30 (by decide +kernel) ?_
    refine sx_icmp_ge (tgt := 114) C dd_M_bias_32 (by decide) h (fun h => ?_) (fun h => ?_)
    · refine sx_less (lu := [(0, .ref (ad 19)), (3, .int (sx_i x3)), (4, .int (sx_i x4)), (5, .int (sx_i x5))]) C [0, 3, 4, 5] rfl ?_
      exact sm_M_bias_114 C hZ hr hlk ht hlf h
    · refine sx_aload_n C 0 dd_M_bias_35 rfl rfl ?_
      refine sx_geti (K := 0) (ref := "StoneRingsModel") C 19 0 rfl rfl rfl (rfl : sr_cl[5]? = some ("StoneRingsModel", tt_M, 21)) (by decide) in_M wd_592 rfl dd_M_bias_36 ?_
      refine sx_if_ne (tgt := 114) C dd_M_bias_39 (by decide) h (fun h => ?_) (fun h => ?_)
      · refine sx_less (lu := [(0, .ref (ad 19)), (3, .int (sx_i x3)), (4, .int (sx_i x4)), (5, .int (sx_i x5))]) C [0, 3, 4, 5] rfl ?_
        exact sm_M_bias_114 C hZ hr hlk ht hlf h
      · refine sx_aload_n C 0 dd_M_bias_42 rfl rfl ?_
        refine sx_iload_n C 1 dd_M_bias_43 rfl rfl ?_
        refine sx_iload_n C 2 dd_M_bias_44 rfl rfl ?_
        refine sx_iload C 6 dd_M_bias_45 rfl ?_
        refine sx_invI (c0 := 19) C hZ [.int (sx_i x1), .int (sx_i x2), .int (sx_i x6)] (fun sz2 => sm_M_both hlf h sz2) (sx_cwV (n := 3) C.2.2.2.2.1 wd_771 wd_768 wd_770 wp_M_both wd_8 rfl rfl (by decide +kernel) ⟨by decide, by decide⟩) rfl (rfl : sr_cl[5]? = some ("StoneRingsModel", tt_M, 21)) rfl rfl (Nat.le_of_ble_eq_true rfl) dd_M_bias_47 ⟨(Nat.le_of_ble_eq_true rfl), (Nat.le_of_ble_eq_true rfl)⟩ sx_noX (fun v1 μ1 h => ?_)
        refine sx_istore (lu := [(7, .int (sx_i v1)), (0, .ref (ad 19)), (1, .int (sx_i x1)), (2, .int (sx_i x2)), (3, .int (sx_i x3)), (4, .int (sx_i x4)), (5, .int (sx_i x5)), (6, .int (sx_i x6))]) C dd_M_bias_50 (by decide) rfl ?_
        refine sx_iload C 0 dd_M_bias_52 rfl ?_
        refine sx_if_eq (tgt := 64) C dd_M_bias_54 (by decide) h (fun h => ?_) (fun h => ?_)
        · refine sx_iload C 6 dd_M_bias_64 rfl ?_
          refine sx_less (lu := [(0, .ref (ad 19)), (1, .int (sx_i x1)), (2, .int (sx_i x2)), (3, .int (sx_i x3)), (4, .int (sx_i x4)), (6, .int (sx_i x6)), (7, .int (sx_i v1))]) C [1, 2, 3, 4, 5, 7, 0] rfl ?_
          exact sm_M_bias_66 C hZ hr hlk ht hlf hr28 h
        · refine sx_iload C 6 dd_M_bias_57 rfl ?_
          refine sx_iconst C dd_M_bias_59 rfl ?_
          refine sx_iadd C dd_M_bias_60 ?_
          refine sx_goto (tgt := 66) C dd_M_bias_61 (by decide) ?_
          refine sx_less (lu := [(0, .ref (ad 19)), (1, .int (sx_i x1)), (2, .int (sx_i x2)), (3, .int (sx_i x3)), (4, .int (sx_i x4)), (6, .int (sx_i x6)), (7, .int (sx_i v1))]) C [1, 2, 3, 4, 5, 7, 0] rfl ?_
          exact sm_M_bias_66 C hZ hr hlk ht hlf hr28 h
set_option maxHeartbeats 4000000 in
set_option maxRecDepth 100000 in
theorem sm_M_bias_16 (C : sx_C sr_lay sr_cl D cI cJ ad (sx_A sr_lay ad sz) 8 "StoneRingsModel" prog_7_method_32_code sr_ts p s m args c) (hZ : sx_Z (sx_A sr_lay ad sz) s s.heap) (hr : meth.sig.returnType = (some .int)) (hlk : meth.locks = false) (ht : ∀ x ∈ c.exceptionTable.toList, False) (hlf : l.stackTraces = false) {x1 x2 x3 y1 : Int} {μ : sx_M} (h : sw_M_bias_16 Q x1 x2 x3 y1 μ) : sx_V sr_lay sr_cl D cI cJ ad (sx_A sr_lay ad sz) 8 p l e rm_M_bias s m args below meth c (vx_MQ below (sx_T (sx_QI sr_lay sr_cl D cI cJ ad Q sz)) (sx_XC sr_lay sr_cl D cI cJ ad (fun _ _ => False) sz) args s 0 0 (sx_A sr_lay ad sz)) 0 0 μ 16 [(0, .ref (ad 19)), (1, .int (sx_i x1)), (2, .int (sx_i x2)), (3, .int (sx_i x3))] [.int (sx_i y1), .ref (ad 19)] := by
  unfold sw_M_bias_16 at h
  refine sx_puti (K := 0) (ref := "StoneRingsModel") (ty := .int) C 19 0 rfl rfl rfl (rfl : sr_cl[5]? = some ("StoneRingsModel", tt_M, 21)) (by decide) in_M ty_M tyk_M nm_M wd_592 rfl rfl (by decide +kernel) rfl rfl dd_M_bias_16 ?_
  refine sx_iconst C dd_M_bias_19 rfl ?_
  refine sx_istore (lu := [(4, .int (sx_i 0)), (0, .ref (ad 19)), (1, .int (sx_i x1)), (2, .int (sx_i x2)), (3, .int (sx_i x3))]) C dd_M_bias_20 (by decide) rfl ?_
  refine sx_iconst C dd_M_bias_22 rfl ?_
  refine sx_istore (lu := [(5, .int (sx_i 0)), (4, .int (sx_i 0)), (0, .ref (ad 19)), (1, .int (sx_i x1)), (2, .int (sx_i x2)), (3, .int (sx_i x3))]) C dd_M_bias_23 (by decide) rfl ?_
  refine sx_iconst C dd_M_bias_25 rfl ?_
  refine sx_istore (lu := [(6, .int (sx_i 0)), (5, .int (sx_i 0)), (4, .int (sx_i 0)), (0, .ref (ad 19)), (1, .int (sx_i x1)), (2, .int (sx_i x2)), (3, .int (sx_i x3))]) C dd_M_bias_26 (by decide) rfl ?_
  refine sx_less (lu := [(0, .ref (ad 19)), (1, .int (sx_i x1)), (2, .int (sx_i x2)), (3, .int (sx_i x3)), (4, .int (sx_i 0)), (5, .int (sx_i 0)), (6, .int (sx_i 0))]) C [3, 4, 5, 6, 2, 1, 0] rfl ?_
  exact sm_M_bias_28 C hZ hr hlk ht hlf 600 _ _ _ _ _ _ _ h
set_option maxHeartbeats 4000000 in
set_option maxRecDepth 100000 in
theorem sm_M_bias {l : Launch} {D : va_G} {cI cJ : ClassId} {ad : Nat → Nat} {Q : Int → sx_M → Prop} (hlf : l.stackTraces = false) {μ : sx_M} {a1 a2 a3 : Int} (h : sw_M_bias Q μ a1 a2 a3) (sz : Nat) : sx_MI l yy_M_bias (Cond.code yy_M_bias prog_7_method_32_code 8 (some .int) :: sr_ts) rm_M_bias sr_lay sr_cl D cI cJ ad [.ref (ad 19), .int (sx_i a1), .int (sx_i a2), .int (sx_i a3)] μ Q (fun _ _ => False) 0 0 sz := by
  refine sx_body (plainFor_of_name (by decide +kernel)) rfl (Nat.le_of_ble_eq_true rfl) ?_
  intro p e s m below meth c C hZ hr hlk ht
  unfold sw_M_bias at h
  show sx_V sr_lay sr_cl D cI cJ ad (sx_A sr_lay ad sz) 8 p l e rm_M_bias s m _ below meth c (vx_MQ below (sx_T (sx_QI sr_lay sr_cl D cI cJ ad Q sz)) (sx_XC sr_lay sr_cl D cI cJ ad (fun _ _ => False) sz) _ s 0 0 (sx_A sr_lay ad sz)) 0 0 μ 0 [(0, .ref (ad 19)), (1, .int (sx_i a1)), (2, .int (sx_i a2)), (3, .int (sx_i a3))] []
  refine sx_aload_n C 0 dd_M_bias_0 rfl rfl ?_
  refine sx_aload_n C 0 dd_M_bias_1 rfl rfl ?_
  refine sx_iload_n C 1 dd_M_bias_2 rfl rfl ?_
  refine sx_iload_n C 2 dd_M_bias_3 rfl rfl ?_
  refine sx_iload_n C 3 dd_M_bias_4 rfl rfl ?_
  refine sx_invI (c0 := 19) C hZ [.int (sx_i a1), .int (sx_i a2), .int (sx_i a3)] (fun sz2 => sm_M_noTwo hlf h sz2) (sx_cwV (n := 3) C.2.2.2.2.1 wd_767 wd_764 wd_766 wp_M_noTwo wd_8 rfl rfl (by decide +kernel) ⟨by decide, by decide⟩) rfl (rfl : sr_cl[5]? = some ("StoneRingsModel", tt_M, 21)) rfl rfl (Nat.le_of_ble_eq_true rfl) dd_M_bias_5 ⟨(Nat.le_of_ble_eq_true rfl), (Nat.le_of_ble_eq_true rfl)⟩ sx_noX (fun v1 μ1 h => ?_)
  refine sx_if_eq (tgt := 15) C dd_M_bias_8 (by decide) h (fun h => ?_) (fun h => ?_)
  · refine sx_iconst C dd_M_bias_15 rfl ?_
    exact sm_M_bias_16 C hZ hr hlk ht hlf h
  · refine sx_iconst C dd_M_bias_11 rfl ?_
    refine sx_goto (tgt := 16) C dd_M_bias_12 (by decide) ?_
    exact sm_M_bias_16 C hZ hr hlk ht hlf h
def rm_M_toldOf : Room := { frames := 0, cells := 0, slots := 0, locals := 0 }
set_option maxHeartbeats 4000000 in
set_option maxRecDepth 100000 in
theorem sm_M_toldOf_54 (C : sx_C sr_lay sr_cl D cI cJ ad (sx_A sr_lay ad sz) 7 "StoneRingsModel" prog_7_method_33_code sr_ts p s m args c) (hZ : sx_Z (sx_A sr_lay ad sz) s s.heap) (hr : meth.sig.returnType = (some .int)) (hlk : meth.locks = false) (ht : ∀ x ∈ c.exceptionTable.toList, False) (hlf : l.stackTraces = false) {r7 : Int → Int → Int → Int → sx_M → Prop} {r20 : Int → Int → Int → Int → Int → Int → sx_M → Prop} (hr7 : ∀ (x1 x2 x3 x4 : Int) (μ : sx_M), r7 x1 x2 x3 x4 μ → sx_V sr_lay sr_cl D cI cJ ad (sx_A sr_lay ad sz) 7 p l e rm_M_toldOf s m args below meth c (vx_MQ below (sx_T (sx_QI sr_lay sr_cl D cI cJ ad Q sz)) (sx_XC sr_lay sr_cl D cI cJ ad (fun _ _ => False) sz) args s 0 0 (sx_A sr_lay ad sz)) 0 0 μ 7 [(0, .ref (ad 19)), (1, .int (sx_i x1)), (2, .int (sx_i x2)), (3, .int (sx_i x3)), (4, .int (sx_i x4))] []) (hr20 : ∀ (x1 x2 x3 x4 x5 x6 : Int) (μ : sx_M), r20 x1 x2 x3 x4 x5 x6 μ → sx_V sr_lay sr_cl D cI cJ ad (sx_A sr_lay ad sz) 7 p l e rm_M_toldOf s m args below meth c (vx_MQ below (sx_T (sx_QI sr_lay sr_cl D cI cJ ad Q sz)) (sx_XC sr_lay sr_cl D cI cJ ad (fun _ _ => False) sz) args s 0 0 (sx_A sr_lay ad sz)) 0 0 μ 20 [(0, .ref (ad 19)), (1, .int (sx_i x1)), (2, .int (sx_i x2)), (3, .int (sx_i x3)), (4, .int (sx_i x4)), (5, .int (sx_i x5)), (6, .int (sx_i x6))] []) {x1 x2 x3 x4 x6 y0 : Int} {μ : sx_M} (h : sw_M_toldOf_54 Q r7 r20 x1 x2 x3 x4 x6 y0 μ) : sx_V sr_lay sr_cl D cI cJ ad (sx_A sr_lay ad sz) 7 p l e rm_M_toldOf s m args below meth c (vx_MQ below (sx_T (sx_QI sr_lay sr_cl D cI cJ ad Q sz)) (sx_XC sr_lay sr_cl D cI cJ ad (fun _ _ => False) sz) args s 0 0 (sx_A sr_lay ad sz)) 0 0 μ 54 [(0, .ref (ad 19)), (1, .int (sx_i x1)), (2, .int (sx_i x2)), (3, .int (sx_i x3)), (4, .int (sx_i x4)), (6, .int (sx_i x6))] [.int (sx_i y0)] := by
  unfold sw_M_toldOf_54 at h
  refine sx_istore (lu := [(5, .int (sx_i y0)), (0, .ref (ad 19)), (1, .int (sx_i x1)), (2, .int (sx_i x2)), (3, .int (sx_i x3)), (4, .int (sx_i x4)), (6, .int (sx_i x6))]) C dd_M_toldOf_54 (by decide) rfl ?_
  refine sx_iinc (lu := [(6, .int (sx_i (x6 + 1))), (5, .int (sx_i y0)), (0, .ref (ad 19)), (1, .int (sx_i x1)), (2, .int (sx_i x2)), (3, .int (sx_i x3)), (4, .int (sx_i x4))]) C 6 dd_M_toldOf_56 rfl (by decide) rfl ?_
  refine sx_goto (tgt := 20) C dd_M_toldOf_59 (by decide) ?_
  refine sx_less (lu := [(0, .ref (ad 19)), (1, .int (sx_i x1)), (2, .int (sx_i x2)), (3, .int (sx_i x3)), (4, .int (sx_i x4)), (5, .int (sx_i y0)), (6, .int (sx_i (x6 + 1)))]) C [2, 3, 4, 5, 6, 1, 0] rfl ?_
  exact hr20 _ _ _ _ _ _ _ h
set_option maxHeartbeats 4000000 in
set_option maxRecDepth 100000 in
theorem sm_M_toldOf_87 (C : sx_C sr_lay sr_cl D cI cJ ad (sx_A sr_lay ad sz) 7 "StoneRingsModel" prog_7_method_33_code sr_ts p s m args c) (hZ : sx_Z (sx_A sr_lay ad sz) s s.heap) (hr : meth.sig.returnType = (some .int)) (hlk : meth.locks = false) (ht : ∀ x ∈ c.exceptionTable.toList, False) (hlf : l.stackTraces = false) {r7 : Int → Int → Int → Int → sx_M → Prop} (hr7 : ∀ (x1 x2 x3 x4 : Int) (μ : sx_M), r7 x1 x2 x3 x4 μ → sx_V sr_lay sr_cl D cI cJ ad (sx_A sr_lay ad sz) 7 p l e rm_M_toldOf s m args below meth c (vx_MQ below (sx_T (sx_QI sr_lay sr_cl D cI cJ ad Q sz)) (sx_XC sr_lay sr_cl D cI cJ ad (fun _ _ => False) sz) args s 0 0 (sx_A sr_lay ad sz)) 0 0 μ 7 [(0, .ref (ad 19)), (1, .int (sx_i x1)), (2, .int (sx_i x2)), (3, .int (sx_i x3)), (4, .int (sx_i x4))] []) {x1 x2 x4 y0 : Int} {μ : sx_M} (h : sw_M_toldOf_87 Q r7 x1 x2 x4 y0 μ) : sx_V sr_lay sr_cl D cI cJ ad (sx_A sr_lay ad sz) 7 p l e rm_M_toldOf s m args below meth c (vx_MQ below (sx_T (sx_QI sr_lay sr_cl D cI cJ ad Q sz)) (sx_XC sr_lay sr_cl D cI cJ ad (fun _ _ => False) sz) args s 0 0 (sx_A sr_lay ad sz)) 0 0 μ 87 [(0, .ref (ad 19)), (1, .int (sx_i x1)), (2, .int (sx_i x2)), (4, .int (sx_i x4))] [.int (sx_i y0)] := by
  unfold sw_M_toldOf_87 at h
  refine sx_istore_n (lu := [(3, .int (sx_i y0)), (0, .ref (ad 19)), (1, .int (sx_i x1)), (2, .int (sx_i x2)), (4, .int (sx_i x4))]) C dd_M_toldOf_87 rfl (by decide) rfl ?_
  refine sx_iinc (lu := [(4, .int (sx_i (x4 + 1))), (3, .int (sx_i y0)), (0, .ref (ad 19)), (1, .int (sx_i x1)), (2, .int (sx_i x2))]) C 4 dd_M_toldOf_88 rfl (by decide) rfl ?_
  refine sx_goto (tgt := 7) C dd_M_toldOf_91 (by decide) ?_
  refine sx_less (lu := [(0, .ref (ad 19)), (1, .int (sx_i x1)), (2, .int (sx_i x2)), (3, .int (sx_i y0)), (4, .int (sx_i (x4 + 1)))]) C [2, 3, 4, 1, 0] rfl ?_
  exact hr7 _ _ _ _ _ h
set_option maxHeartbeats 4000000 in
set_option maxRecDepth 100000 in
theorem sm_M_toldOf_74 (C : sx_C sr_lay sr_cl D cI cJ ad (sx_A sr_lay ad sz) 7 "StoneRingsModel" prog_7_method_33_code sr_ts p s m args c) (hZ : sx_Z (sx_A sr_lay ad sz) s s.heap) (hr : meth.sig.returnType = (some .int)) (hlk : meth.locks = false) (ht : ∀ x ∈ c.exceptionTable.toList, False) (hlf : l.stackTraces = false) {r7 : Int → Int → Int → Int → sx_M → Prop} (hr7 : ∀ (x1 x2 x3 x4 : Int) (μ : sx_M), r7 x1 x2 x3 x4 μ → sx_V sr_lay sr_cl D cI cJ ad (sx_A sr_lay ad sz) 7 p l e rm_M_toldOf s m args below meth c (vx_MQ below (sx_T (sx_QI sr_lay sr_cl D cI cJ ad Q sz)) (sx_XC sr_lay sr_cl D cI cJ ad (fun _ _ => False) sz) args s 0 0 (sx_A sr_lay ad sz)) 0 0 μ 7 [(0, .ref (ad 19)), (1, .int (sx_i x1)), (2, .int (sx_i x2)), (3, .int (sx_i x3)), (4, .int (sx_i x4))] []) {x1 x3 x4 x5 y0 : Int} {μ : sx_M} (h : sw_M_toldOf_74 Q r7 x1 x3 x4 x5 y0 μ) : sx_V sr_lay sr_cl D cI cJ ad (sx_A sr_lay ad sz) 7 p l e rm_M_toldOf s m args below meth c (vx_MQ below (sx_T (sx_QI sr_lay sr_cl D cI cJ ad Q sz)) (sx_XC sr_lay sr_cl D cI cJ ad (fun _ _ => False) sz) args s 0 0 (sx_A sr_lay ad sz)) 0 0 μ 74 [(0, .ref (ad 19)), (1, .int (sx_i x1)), (3, .int (sx_i x3)), (4, .int (sx_i x4)), (5, .int (sx_i x5))] [.int (sx_i y0)] := by
  unfold sw_M_toldOf_74 at h
  refine sx_istore_n (lu := [(2, .int (sx_i y0)), (0, .ref (ad 19)), (1, .int (sx_i x1)), (3, .int (sx_i x3)), (4, .int (sx_i x4)), (5, .int (sx_i x5))]) C dd_M_toldOf_74 rfl (by decide) rfl ?_
  refine sx_iload C 5 dd_M_toldOf_75 rfl ?_
  refine sx_iload_n C 3 dd_M_toldOf_77 rfl rfl ?_
  refine sx_icmp_le (tgt := 86) C dd_M_toldOf_78 (by decide) h (fun h => ?_) (fun h => ?_)
  · refine sx_iload_n C 3 dd_M_toldOf_86 rfl rfl ?_
    refine sx_less (lu := [(0, .ref (ad 19)), (1, .int (sx_i x1)), (2, .int (sx_i y0)), (4, .int (sx_i x4))]) C [1, 2, 0, 4] rfl ?_
    exact sm_M_toldOf_87 C hZ hr hlk ht hlf hr7 h
  · refine sx_iload C 5 dd_M_toldOf_81 rfl ?_
    refine sx_goto (tgt := 87) C dd_M_toldOf_83 (by decide) ?_
    refine sx_less (lu := [(0, .ref (ad 19)), (1, .int (sx_i x1)), (2, .int (sx_i y0)), (4, .int (sx_i x4))]) C [1, 2, 0, 4] rfl ?_
    exact sm_M_toldOf_87 C hZ hr hlk ht hlf hr7 h
set_option maxHeartbeats 4000000 in
set_option maxRecDepth 100000 in
theorem sm_M_toldOf_20 (C : sx_C sr_lay sr_cl D cI cJ ad (sx_A sr_lay ad sz) 7 "StoneRingsModel" prog_7_method_33_code sr_ts p s m args c) (hZ : sx_Z (sx_A sr_lay ad sz) s s.heap) (hr : meth.sig.returnType = (some .int)) (hlk : meth.locks = false) (ht : ∀ x ∈ c.exceptionTable.toList, False) (hlf : l.stackTraces = false) {r7 : Int → Int → Int → Int → sx_M → Prop} (hr7 : ∀ (x1 x2 x3 x4 : Int) (μ : sx_M), r7 x1 x2 x3 x4 μ → sx_V sr_lay sr_cl D cI cJ ad (sx_A sr_lay ad sz) 7 p l e rm_M_toldOf s m args below meth c (vx_MQ below (sx_T (sx_QI sr_lay sr_cl D cI cJ ad Q sz)) (sx_XC sr_lay sr_cl D cI cJ ad (fun _ _ => False) sz) args s 0 0 (sx_A sr_lay ad sz)) 0 0 μ 7 [(0, .ref (ad 19)), (1, .int (sx_i x1)), (2, .int (sx_i x2)), (3, .int (sx_i x3)), (4, .int (sx_i x4))] []) : ∀ (n : Nat) (x1 x2 x3 x4 x5 x6 : Int) (μ : sx_M), sw_M_toldOf_20 Q r7 n x1 x2 x3 x4 x5 x6 μ → sx_V sr_lay sr_cl D cI cJ ad (sx_A sr_lay ad sz) 7 p l e rm_M_toldOf s m args below meth c (vx_MQ below (sx_T (sx_QI sr_lay sr_cl D cI cJ ad Q sz)) (sx_XC sr_lay sr_cl D cI cJ ad (fun _ _ => False) sz) args s 0 0 (sx_A sr_lay ad sz)) 0 0 μ 20 [(0, .ref (ad 19)), (1, .int (sx_i x1)), (2, .int (sx_i x2)), (3, .int (sx_i x3)), (4, .int (sx_i x4)), (5, .int (sx_i x5)), (6, .int (sx_i x6))] [] := by
  intro n
  induction n with
  | zero =>
    intro x1 x2 x3 x4 x5 x6 μ h
    exact h.elim
  | succ n ih =>
    intro x1 x2 x3 x4 x5 x6 μ h
    have hr20 := ih
    unfold sw_M_toldOf_20 at h
    refine sx_iload C 6 dd_M_toldOf_20 rfl ?_
    refine sx_iconst C dd_M_toldOf_22 rfl ?_
    refine sx_icmp_ge (tgt := 62) C dd_M_toldOf_23 (by decide) h (fun h => ?_) (fun h => ?_)
    · refine sx_iload C 5 dd_M_toldOf_62 rfl ?_
      refine sx_iload_n C 3 dd_M_toldOf_64 rfl rfl ?_
      refine sx_icmp_le (tgt := 73) C dd_M_toldOf_65 (by decide) h (fun h => ?_) (fun h => ?_)
      · refine sx_iload_n C 2 dd_M_toldOf_73 rfl rfl ?_
        refine sx_less (lu := [(0, .ref (ad 19)), (1, .int (sx_i x1)), (3, .int (sx_i x3)), (4, .int (sx_i x4)), (5, .int (sx_i x5))]) C [0, 1, 3, 4, 5] rfl ?_
        exact sm_M_toldOf_74 C hZ hr hlk ht hlf hr7 h
      · refine sx_iload C 4 dd_M_toldOf_68 rfl ?_
        refine sx_goto (tgt := 74) C dd_M_toldOf_70 (by decide) ?_
        refine sx_less (lu := [(0, .ref (ad 19)), (1, .int (sx_i x1)), (3, .int (sx_i x3)), (4, .int (sx_i x4)), (5, .int (sx_i x5))]) C [0, 1, 3, 4, 5] rfl ?_
        exact sm_M_toldOf_74 C hZ hr hlk ht hlf hr7 h
    · refine sx_aload_n C 0 dd_M_toldOf_26 rfl rfl ?_
      refine sx_getr (ref := "StoneRingsModel") C 19 20 rfl rfl (rfl : sr_cl[5]? = some ("StoneRingsModel", tt_M, 21)) (by decide) in_M wd_612 rfl dd_M_toldOf_27 ?_
      refine sx_bipush (v := 20) C dd_M_toldOf_30 (by decide +kernel) ?_
      refine sx_iload C 6 dd_M_toldOf_32 rfl ?_
      refine sx_imul C dd_M_toldOf_34 ?_
      refine sx_iload_n C 1 dd_M_toldOf_35 rfl rfl ?_
      refine sx_iadd C dd_M_toldOf_36 ?_
      refine sx_iald (N := 80) C 29 rfl rfl (by decide) dd_M_toldOf_37 h (fun h => ?_)
      refine sx_iload C 4 dd_M_toldOf_38 rfl ?_
      refine sx_iconst C dd_M_toldOf_40 rfl ?_
      refine sx_iadd C dd_M_toldOf_41 ?_
      refine sx_icmp_ne (tgt := 52) C dd_M_toldOf_42 (by decide) h (fun h => ?_) (fun h => ?_)
      · refine sx_iload C 5 dd_M_toldOf_52 rfl ?_
        refine sx_less (lu := [(0, .ref (ad 19)), (1, .int (sx_i x1)), (2, .int (sx_i x2)), (3, .int (sx_i x3)), (4, .int (sx_i x4)), (6, .int (sx_i x6))]) C [0, 1, 2, 3, 4, 6] rfl ?_
        exact sm_M_toldOf_54 C hZ hr hlk ht hlf hr7 hr20 h
      · refine sx_iload C 5 dd_M_toldOf_45 rfl ?_
        refine sx_iconst C dd_M_toldOf_47 rfl ?_
        refine sx_iadd C dd_M_toldOf_48 ?_
        refine sx_goto (tgt := 54) C dd_M_toldOf_49 (by decide) ?_
        refine sx_less (lu := [(0, .ref (ad 19)), (1, .int (sx_i x1)), (2, .int (sx_i x2)), (3, .int (sx_i x3)), (4, .int (sx_i x4)), (6, .int (sx_i x6))]) C [0, 1, 2, 3, 4, 6] rfl ?_
        exact sm_M_toldOf_54 C hZ hr hlk ht hlf hr7 hr20 h
set_option maxHeartbeats 4000000 in
set_option maxRecDepth 100000 in
theorem sm_M_toldOf_7 (C : sx_C sr_lay sr_cl D cI cJ ad (sx_A sr_lay ad sz) 7 "StoneRingsModel" prog_7_method_33_code sr_ts p s m args c) (hZ : sx_Z (sx_A sr_lay ad sz) s s.heap) (hr : meth.sig.returnType = (some .int)) (hlk : meth.locks = false) (ht : ∀ x ∈ c.exceptionTable.toList, False) (hlf : l.stackTraces = false) : ∀ (n : Nat) (x1 x2 x3 x4 : Int) (μ : sx_M), sw_M_toldOf_7 Q n x1 x2 x3 x4 μ → sx_V sr_lay sr_cl D cI cJ ad (sx_A sr_lay ad sz) 7 p l e rm_M_toldOf s m args below meth c (vx_MQ below (sx_T (sx_QI sr_lay sr_cl D cI cJ ad Q sz)) (sx_XC sr_lay sr_cl D cI cJ ad (fun _ _ => False) sz) args s 0 0 (sx_A sr_lay ad sz)) 0 0 μ 7 [(0, .ref (ad 19)), (1, .int (sx_i x1)), (2, .int (sx_i x2)), (3, .int (sx_i x3)), (4, .int (sx_i x4))] [] := by
  intro n
  induction n with
  | zero =>
    intro x1 x2 x3 x4 μ h
    exact h.elim
  | succ n ih =>
    intro x1 x2 x3 x4 μ h
    have hr7 := ih
    unfold sw_M_toldOf_7 at h
    refine sx_iload C 4 dd_M_toldOf_7 rfl ?_
    refine sx_bipush (v := 60) C dd_M_toldOf_9 (by decide +kernel) ?_
    refine sx_icmp_gt (tgt := 94) C dd_M_toldOf_11 (by decide) h (fun h => ?_) (fun h => ?_)
    · refine sx_iload_n C 2 dd_M_toldOf_94 rfl rfl ?_
      exact sx_iret C hr hlk dd_M_toldOf_95 h
    · refine sx_iconst C dd_M_toldOf_14 rfl ?_
      refine sx_istore (lu := [(5, .int (sx_i 0)), (0, .ref (ad 19)), (1, .int (sx_i x1)), (2, .int (sx_i x2)), (3, .int (sx_i x3)), (4, .int (sx_i x4))]) C dd_M_toldOf_15 (by decide) rfl ?_
      refine sx_iconst C dd_M_toldOf_17 rfl ?_
      refine sx_istore (lu := [(6, .int (sx_i 0)), (5, .int (sx_i 0)), (0, .ref (ad 19)), (1, .int (sx_i x1)), (2, .int (sx_i x2)), (3, .int (sx_i x3)), (4, .int (sx_i x4))]) C dd_M_toldOf_18 (by decide) rfl ?_
      refine sx_less (lu := [(0, .ref (ad 19)), (1, .int (sx_i x1)), (2, .int (sx_i x2)), (3, .int (sx_i x3)), (4, .int (sx_i x4)), (5, .int (sx_i 0)), (6, .int (sx_i 0))]) C [2, 3, 4, 5, 6, 1, 0] rfl ?_
      exact sm_M_toldOf_20 C hZ hr hlk ht hlf hr7 600 _ _ _ _ _ _ _ h
set_option maxHeartbeats 4000000 in
set_option maxRecDepth 100000 in
theorem sm_M_toldOf {l : Launch} {D : va_G} {cI cJ : ClassId} {ad : Nat → Nat} {Q : Int → sx_M → Prop} (hlf : l.stackTraces = false) {μ : sx_M} {a1 : Int} (h : sw_M_toldOf Q μ a1) (sz : Nat) : sx_MI l yy_M_toldOf (Cond.code yy_M_toldOf prog_7_method_33_code 7 (some .int) :: sr_ts) rm_M_toldOf sr_lay sr_cl D cI cJ ad [.ref (ad 19), .int (sx_i a1)] μ Q (fun _ _ => False) 0 0 sz := by
  refine sx_body (plainFor_of_name (by decide +kernel)) rfl (Nat.le_of_ble_eq_true rfl) ?_
  intro p e s m below meth c C hZ hr hlk ht
  unfold sw_M_toldOf at h
  show sx_V sr_lay sr_cl D cI cJ ad (sx_A sr_lay ad sz) 7 p l e rm_M_toldOf s m _ below meth c (vx_MQ below (sx_T (sx_QI sr_lay sr_cl D cI cJ ad Q sz)) (sx_XC sr_lay sr_cl D cI cJ ad (fun _ _ => False) sz) _ s 0 0 (sx_A sr_lay ad sz)) 0 0 μ 0 [(0, .ref (ad 19)), (1, .int (sx_i a1))] []
  refine sx_iconst C dd_M_toldOf_0 rfl ?_
  refine sx_istore_n (lu := [(2, .int (sx_i (-1))), (0, .ref (ad 19)), (1, .int (sx_i a1))]) C dd_M_toldOf_1 rfl (by decide) rfl ?_
  refine sx_iconst C dd_M_toldOf_2 rfl ?_
  refine sx_istore_n (lu := [(3, .int (sx_i 0)), (2, .int (sx_i (-1))), (0, .ref (ad 19)), (1, .int (sx_i a1))]) C dd_M_toldOf_3 rfl (by decide) rfl ?_
  refine sx_iconst C dd_M_toldOf_4 rfl ?_
  refine sx_istore (lu := [(4, .int (sx_i 0)), (3, .int (sx_i 0)), (2, .int (sx_i (-1))), (0, .ref (ad 19)), (1, .int (sx_i a1))]) C dd_M_toldOf_5 (by decide) rfl ?_
  refine sx_less (lu := [(0, .ref (ad 19)), (1, .int (sx_i a1)), (2, .int (sx_i (-1))), (3, .int (sx_i 0)), (4, .int (sx_i 0))]) C [3, 4, 2, 1, 0] rfl ?_
  exact sm_M_toldOf_7 C hZ hr hlk ht hlf 600 _ _ _ _ _ h
def rm_M_told : Room := { frames := 1, cells := 0, slots := 0, locals := 26 }
set_option maxHeartbeats 4000000 in
set_option maxRecDepth 100000 in
theorem sm_M_told_35 (C : sx_C sr_lay sr_cl D cI cJ ad (sx_A sr_lay ad sz) 2 "StoneRingsModel" prog_7_method_34_code sr_ts p s m args c) (hZ : sx_Z (sx_A sr_lay ad sz) s s.heap) (hr : meth.sig.returnType = (some .int)) (hlk : meth.locks = false) (ht : ∀ x ∈ c.exceptionTable.toList, False) (hlf : l.stackTraces = false) {y0 : Int} {μ : sx_M} (h : sw_M_told_35 Q y0 μ) : sx_V sr_lay sr_cl D cI cJ ad (sx_A sr_lay ad sz) 2 p l e rm_M_told s m args below meth c (vx_MQ below (sx_T (sx_QI sr_lay sr_cl D cI cJ ad Q sz)) (sx_XC sr_lay sr_cl D cI cJ ad (fun _ _ => False) sz) args s 0 0 (sx_A sr_lay ad sz)) 0 0 μ 35 [] [.int (sx_i y0)] := by
  unfold sw_M_told_35 at h
  exact sx_iret C hr hlk dd_M_told_35 h
set_option maxHeartbeats 4000000 in
set_option maxRecDepth 100000 in
theorem sm_M_told_16 (C : sx_C sr_lay sr_cl D cI cJ ad (sx_A sr_lay ad sz) 2 "StoneRingsModel" prog_7_method_34_code sr_ts p s m args c) (hZ : sx_Z (sx_A sr_lay ad sz) s s.heap) (hr : meth.sig.returnType = (some .int)) (hlk : meth.locks = false) (ht : ∀ x ∈ c.exceptionTable.toList, False) (hlf : l.stackTraces = false) {x1 y1 : Int} {μ : sx_M} (h : sw_M_told_16 Q x1 y1 μ) : sx_V sr_lay sr_cl D cI cJ ad (sx_A sr_lay ad sz) 2 p l e rm_M_told s m args below meth c (vx_MQ below (sx_T (sx_QI sr_lay sr_cl D cI cJ ad Q sz)) (sx_XC sr_lay sr_cl D cI cJ ad (fun _ _ => False) sz) args s 0 0 (sx_A sr_lay ad sz)) 0 0 μ 16 [(0, .ref (ad 19)), (1, .int (sx_i x1))] [.int (sx_i y1), .ref (ad 19)] := by
  unfold sw_M_told_16 at h
  refine sx_puti (K := 0) (ref := "StoneRingsModel") (ty := .int) C 19 0 rfl rfl rfl (rfl : sr_cl[5]? = some ("StoneRingsModel", tt_M, 21)) (by decide) in_M ty_M tyk_M nm_M wd_592 rfl rfl (by decide +kernel) rfl rfl dd_M_told_16 ?_
  refine sx_aload_n C 0 dd_M_told_19 rfl rfl ?_
  refine sx_geti (K := 0) (ref := "StoneRingsModel") C 19 0 rfl rfl rfl (rfl : sr_cl[5]? = some ("StoneRingsModel", tt_M, 21)) (by decide) in_M wd_592 rfl dd_M_told_20 ?_
  refine sx_if_le (tgt := 30) C dd_M_told_23 (by decide) h (fun h => ?_) (fun h => ?_)
  · refine sx_aload_n C 0 dd_M_told_30 rfl rfl ?_
    refine sx_iload_n C 1 dd_M_told_31 rfl rfl ?_
    refine sx_invI (c0 := 19) C hZ [.int (sx_i x1)] (fun sz2 => sm_M_toldOf hlf h sz2) (sx_cwV (n := 1) C.2.2.2.2.1 wd_786 wd_783 wd_785 wp_M_toldOf wd_8 rfl rfl (by decide +kernel) ⟨by decide, by decide⟩) rfl (rfl : sr_cl[5]? = some ("StoneRingsModel", tt_M, 21)) rfl rfl (Nat.le_of_ble_eq_true rfl) dd_M_told_32 ⟨(Nat.le_of_ble_eq_true rfl), (Nat.le_of_ble_eq_true rfl)⟩ sx_noX (fun v1 μ1 h => ?_)
    refine sx_less (lu := []) C [] rfl ?_
    exact sm_M_told_35 C hZ hr hlk ht hlf h
  · refine sx_iconst C dd_M_told_26 rfl ?_
    refine sx_goto (tgt := 35) C dd_M_told_27 (by decide) ?_
    refine sx_less (lu := []) C [] rfl ?_
    exact sm_M_told_35 C hZ hr hlk ht hlf h
set_option maxHeartbeats 4000000 in
set_option maxRecDepth 100000 in
theorem sm_M_told {l : Launch} {D : va_G} {cI cJ : ClassId} {ad : Nat → Nat} {Q : Int → sx_M → Prop} (hlf : l.stackTraces = false) {μ : sx_M} {a1 : Int} (h : sw_M_told Q μ a1) (sz : Nat) : sx_MI l yy_M_told (Cond.code yy_M_told prog_7_method_34_code 2 (some .int) :: sr_ts) rm_M_told sr_lay sr_cl D cI cJ ad [.ref (ad 19), .int (sx_i a1)] μ Q (fun _ _ => False) 0 0 sz := by
  refine sx_body (plainFor_of_name (by decide +kernel)) rfl (Nat.le_of_ble_eq_true rfl) ?_
  intro p e s m below meth c C hZ hr hlk ht
  unfold sw_M_told at h
  show sx_V sr_lay sr_cl D cI cJ ad (sx_A sr_lay ad sz) 2 p l e rm_M_told s m _ below meth c (vx_MQ below (sx_T (sx_QI sr_lay sr_cl D cI cJ ad Q sz)) (sx_XC sr_lay sr_cl D cI cJ ad (fun _ _ => False) sz) _ s 0 0 (sx_A sr_lay ad sz)) 0 0 μ 0 [(0, .ref (ad 19)), (1, .int (sx_i a1))] []
  refine sx_aload_n C 0 dd_M_told_0 rfl rfl ?_
  refine sx_iload_n C 1 dd_M_told_1 rfl rfl ?_
  refine sx_iconst C dd_M_told_2 rfl ?_
  refine sx_bipush (v := 19) C dd_M_told_3 (by decide +kernel) ?_
  refine sx_stcI C hZ [.int (sx_i a1), .int (sx_i 0), .int (sx_i 19)] (fun sz2 => sm_M_isIn hlf h sz2) (sx_cwS (n := 3) C.2.2.2.2.1 wd_670 wd_668 wd_669 wd_8 rfl rfl (by decide +kernel) ⟨by decide, by decide⟩) rfl rfl (Nat.le_of_ble_eq_true rfl) dd_M_told_5 ⟨(Nat.le_of_ble_eq_true rfl), (Nat.le_of_ble_eq_true rfl)⟩ sx_noX (fun v1 μ1 h => ?_)
  refine sx_if_ne (tgt := 15) C dd_M_told_8 (by decide) h (fun h => ?_) (fun h => ?_)
  · refine sx_iconst C dd_M_told_15 rfl ?_
    exact sm_M_told_16 C hZ hr hlk ht hlf h
  · refine sx_iconst C dd_M_told_11 rfl ?_
    refine sx_goto (tgt := 16) C dd_M_told_12 (by decide) ?_
    exact sm_M_told_16 C hZ hr hlk ht hlf h
def rm_M_rightOf : Room := { frames := 1, cells := 0, slots := 0, locals := 26 }
set_option maxHeartbeats 4000000 in
set_option maxRecDepth 100000 in
theorem sm_M_rightOf_47 (C : sx_C sr_lay sr_cl D cI cJ ad (sx_A sr_lay ad sz) 5 "StoneRingsModel" prog_7_method_35_code sr_ts p s m args c) (hZ : sx_Z (sx_A sr_lay ad sz) s s.heap) (hr : meth.sig.returnType = (some .int)) (hlk : meth.locks = false) (ht : ∀ x ∈ c.exceptionTable.toList, False) (hlf : l.stackTraces = false) {r4 : Int → Int → Int → sx_M → Prop} (hr4 : ∀ (x1 x2 x3 : Int) (μ : sx_M), r4 x1 x2 x3 μ → sx_V sr_lay sr_cl D cI cJ ad (sx_A sr_lay ad sz) 5 p l e rm_M_rightOf s m args below meth c (vx_MQ below (sx_T (sx_QI sr_lay sr_cl D cI cJ ad Q sz)) (sx_XC sr_lay sr_cl D cI cJ ad (fun _ _ => False) sz) args s 0 0 (sx_A sr_lay ad sz)) 0 0 μ 4 [(0, .ref (ad 19)), (1, .int (sx_i x1)), (2, .int (sx_i x2)), (3, .int (sx_i x3))] []) {x1 x3 y0 : Int} {μ : sx_M} (h : sw_M_rightOf_47 Q r4 x1 x3 y0 μ) : sx_V sr_lay sr_cl D cI cJ ad (sx_A sr_lay ad sz) 5 p l e rm_M_rightOf s m args below meth c (vx_MQ below (sx_T (sx_QI sr_lay sr_cl D cI cJ ad Q sz)) (sx_XC sr_lay sr_cl D cI cJ ad (fun _ _ => False) sz) args s 0 0 (sx_A sr_lay ad sz)) 0 0 μ 47 [(0, .ref (ad 19)), (1, .int (sx_i x1)), (3, .int (sx_i x3))] [.int (sx_i y0)] := by
  unfold sw_M_rightOf_47 at h
  refine sx_istore_n (lu := [(2, .int (sx_i y0)), (0, .ref (ad 19)), (1, .int (sx_i x1)), (3, .int (sx_i x3))]) C dd_M_rightOf_47 rfl (by decide) rfl ?_
  refine sx_iinc (lu := [(3, .int (sx_i (x3 + 1))), (2, .int (sx_i y0)), (0, .ref (ad 19)), (1, .int (sx_i x1))]) C 3 dd_M_rightOf_48 rfl (by decide) rfl ?_
  refine sx_goto (tgt := 4) C dd_M_rightOf_51 (by decide) ?_
  refine sx_less (lu := [(0, .ref (ad 19)), (1, .int (sx_i x1)), (2, .int (sx_i y0)), (3, .int (sx_i (x3 + 1)))]) C [2, 3, 1, 0] rfl ?_
  exact hr4 _ _ _ _ h
set_option maxHeartbeats 4000000 in
set_option maxRecDepth 100000 in
theorem sm_M_rightOf_46 (C : sx_C sr_lay sr_cl D cI cJ ad (sx_A sr_lay ad sz) 5 "StoneRingsModel" prog_7_method_35_code sr_ts p s m args c) (hZ : sx_Z (sx_A sr_lay ad sz) s s.heap) (hr : meth.sig.returnType = (some .int)) (hlk : meth.locks = false) (ht : ∀ x ∈ c.exceptionTable.toList, False) (hlf : l.stackTraces = false) {r4 : Int → Int → Int → sx_M → Prop} (hr4 : ∀ (x1 x2 x3 : Int) (μ : sx_M), r4 x1 x2 x3 μ → sx_V sr_lay sr_cl D cI cJ ad (sx_A sr_lay ad sz) 5 p l e rm_M_rightOf s m args below meth c (vx_MQ below (sx_T (sx_QI sr_lay sr_cl D cI cJ ad Q sz)) (sx_XC sr_lay sr_cl D cI cJ ad (fun _ _ => False) sz) args s 0 0 (sx_A sr_lay ad sz)) 0 0 μ 4 [(0, .ref (ad 19)), (1, .int (sx_i x1)), (2, .int (sx_i x2)), (3, .int (sx_i x3))] []) {x1 x2 x3 : Int} {μ : sx_M} (h : sw_M_rightOf_46 Q r4 x1 x2 x3 μ) : sx_V sr_lay sr_cl D cI cJ ad (sx_A sr_lay ad sz) 5 p l e rm_M_rightOf s m args below meth c (vx_MQ below (sx_T (sx_QI sr_lay sr_cl D cI cJ ad Q sz)) (sx_XC sr_lay sr_cl D cI cJ ad (fun _ _ => False) sz) args s 0 0 (sx_A sr_lay ad sz)) 0 0 μ 46 [(0, .ref (ad 19)), (1, .int (sx_i x1)), (2, .int (sx_i x2)), (3, .int (sx_i x3))] [] := by
  unfold sw_M_rightOf_46 at h
  refine sx_iload_n C 2 dd_M_rightOf_46 rfl rfl ?_
  refine sx_less (lu := [(0, .ref (ad 19)), (1, .int (sx_i x1)), (3, .int (sx_i x3))]) C [0, 1, 3] rfl ?_
  exact sm_M_rightOf_47 C hZ hr hlk ht hlf hr4 h
set_option maxHeartbeats 4000000 in
set_option maxRecDepth 100000 in
theorem sm_M_rightOf_4 (C : sx_C sr_lay sr_cl D cI cJ ad (sx_A sr_lay ad sz) 5 "StoneRingsModel" prog_7_method_35_code sr_ts p s m args c) (hZ : sx_Z (sx_A sr_lay ad sz) s s.heap) (hr : meth.sig.returnType = (some .int)) (hlk : meth.locks = false) (ht : ∀ x ∈ c.exceptionTable.toList, False) (hlf : l.stackTraces = false) : ∀ (n : Nat) (x1 x2 x3 : Int) (μ : sx_M), sw_M_rightOf_4 Q n x1 x2 x3 μ → sx_V sr_lay sr_cl D cI cJ ad (sx_A sr_lay ad sz) 5 p l e rm_M_rightOf s m args below meth c (vx_MQ below (sx_T (sx_QI sr_lay sr_cl D cI cJ ad Q sz)) (sx_XC sr_lay sr_cl D cI cJ ad (fun _ _ => False) sz) args s 0 0 (sx_A sr_lay ad sz)) 0 0 μ 4 [(0, .ref (ad 19)), (1, .int (sx_i x1)), (2, .int (sx_i x2)), (3, .int (sx_i x3))] [] := by
  intro n
  induction n with
  | zero =>
    intro x1 x2 x3 μ h
    exact h.elim
  | succ n ih =>
    intro x1 x2 x3 μ h
    have hr4 := ih
    unfold sw_M_rightOf_4 at h
    refine sx_iload_n C 3 dd_M_rightOf_4 rfl rfl ?_
    refine sx_bipush (v := 20) C dd_M_rightOf_5 (by decide +kernel) ?_
    refine sx_icmp_ge (tgt := 54) C dd_M_rightOf_7 (by decide) h (fun h => ?_) (fun h => ?_)
    · refine sx_iload_n C 2 dd_M_rightOf_54 rfl rfl ?_
      exact sx_iret C hr hlk dd_M_rightOf_55 h
    · refine sx_aload_n C 0 dd_M_rightOf_10 rfl rfl ?_
      refine sx_getr (ref := "StoneRingsModel") C 19 20 rfl rfl (rfl : sr_cl[5]? = some ("StoneRingsModel", tt_M, 21)) (by decide) in_M wd_612 rfl dd_M_rightOf_11 ?_
      refine sx_bipush (v := 20) C dd_M_rightOf_14 (by decide +kernel) ?_
      refine sx_iload_n C 1 dd_M_rightOf_16 rfl rfl ?_
      refine sx_imul C dd_M_rightOf_17 ?_
      refine sx_iload_n C 3 dd_M_rightOf_18 rfl rfl ?_
      refine sx_iadd C dd_M_rightOf_19 ?_
      refine sx_iald (N := 80) C 29 rfl rfl (by decide) dd_M_rightOf_20 h (fun h => ?_)
      refine sx_istore (lu := [(4, .int (sx_i (μ 29 ((20 * x1) + x3)))), (0, .ref (ad 19)), (1, .int (sx_i x1)), (2, .int (sx_i x2)), (3, .int (sx_i x3))]) C dd_M_rightOf_21 (by decide) rfl ?_
      refine sx_iload C 0 dd_M_rightOf_23 rfl ?_
      refine sx_if_le (tgt := 46) C dd_M_rightOf_25 (by decide) h (fun h => ?_) (fun h => ?_)
      · refine sx_less (lu := [(0, .ref (ad 19)), (1, .int (sx_i x1)), (2, .int (sx_i x2)), (3, .int (sx_i x3))]) C [1, 2, 3, 4] rfl ?_
        exact sm_M_rightOf_46 C hZ hr hlk ht hlf hr4 h
      · refine sx_iload C 0 dd_M_rightOf_28 rfl ?_
        refine sx_iconst C dd_M_rightOf_30 rfl ?_
        refine sx_isub C dd_M_rightOf_31 ?_
        refine sx_aload_n C 1 dd_M_rightOf_32 rfl rfl ?_
        refine sx_iload_n C 4 dd_M_rightOf_33 rfl rfl ?_
        refine sx_invI (c0 := 19) C hZ [.int (sx_i x3)] (fun sz2 => sm_M_toldOf hlf h sz2) (sx_cwV (n := 1) C.2.2.2.2.1 wd_786 wd_783 wd_785 wp_M_toldOf wd_8 rfl rfl (by decide +kernel) ⟨by decide, by decide⟩) rfl (rfl : sr_cl[5]? = some ("StoneRingsModel", tt_M, 21)) rfl rfl (Nat.le_of_ble_eq_true rfl) dd_M_rightOf_34 ⟨(Nat.le_of_ble_eq_true rfl), (Nat.le_of_ble_eq_true rfl)⟩ sx_noX (fun v1 μ1 h => ?_)
        refine sx_icmp_ne (tgt := 46) C dd_M_rightOf_37 (by decide) h (fun h => ?_) (fun h => ?_)
        · refine sx_less (lu := [(0, .ref (ad 19)), (1, .int (sx_i x1)), (2, .int (sx_i x2)), (3, .int (sx_i x3))]) C [1, 2, 3, 4] rfl ?_
          exact sm_M_rightOf_46 C hZ hr hlk ht hlf hr4 h
        · refine sx_iload_n C 3 dd_M_rightOf_40 rfl rfl ?_
          refine sx_iconst C dd_M_rightOf_41 rfl ?_
          refine sx_iadd C dd_M_rightOf_42 ?_
          refine sx_goto (tgt := 47) C dd_M_rightOf_43 (by decide) ?_
          refine sx_less (lu := [(0, .ref (ad 19)), (1, .int (sx_i x1)), (3, .int (sx_i x3))]) C [1, 2, 4] rfl ?_
          exact sm_M_rightOf_47 C hZ hr hlk ht hlf hr4 h
set_option maxHeartbeats 4000000 in
set_option maxRecDepth 100000 in
theorem sm_M_rightOf {l : Launch} {D : va_G} {cI cJ : ClassId} {ad : Nat → Nat} {Q : Int → sx_M → Prop} (hlf : l.stackTraces = false) {μ : sx_M} {a1 : Int} (h : sw_M_rightOf Q μ a1) (sz : Nat) : sx_MI l yy_M_rightOf (Cond.code yy_M_rightOf prog_7_method_35_code 5 (some .int) :: sr_ts) rm_M_rightOf sr_lay sr_cl D cI cJ ad [.ref (ad 19), .int (sx_i a1)] μ Q (fun _ _ => False) 0 0 sz := by
  refine sx_body (plainFor_of_name (by decide +kernel)) rfl (Nat.le_of_ble_eq_true rfl) ?_
  intro p e s m below meth c C hZ hr hlk ht
  unfold sw_M_rightOf at h
  show sx_V sr_lay sr_cl D cI cJ ad (sx_A sr_lay ad sz) 5 p l e rm_M_rightOf s m _ below meth c (vx_MQ below (sx_T (sx_QI sr_lay sr_cl D cI cJ ad Q sz)) (sx_XC sr_lay sr_cl D cI cJ ad (fun _ _ => False) sz) _ s 0 0 (sx_A sr_lay ad sz)) 0 0 μ 0 [(0, .ref (ad 19)), (1, .int (sx_i a1))] []
  refine sx_iconst C dd_M_rightOf_0 rfl ?_
  refine sx_istore_n (lu := [(2, .int (sx_i 0)), (0, .ref (ad 19)), (1, .int (sx_i a1))]) C dd_M_rightOf_1 rfl (by decide) rfl ?_
  refine sx_iconst C dd_M_rightOf_2 rfl ?_
  refine sx_istore_n (lu := [(3, .int (sx_i 0)), (2, .int (sx_i 0)), (0, .ref (ad 19)), (1, .int (sx_i a1))]) C dd_M_rightOf_3 rfl (by decide) rfl ?_
  refine sx_less (lu := [(0, .ref (ad 19)), (1, .int (sx_i a1)), (2, .int (sx_i 0)), (3, .int (sx_i 0))]) C [2, 3, 1, 0] rfl ?_
  exact sm_M_rightOf_4 C hZ hr hlk ht hlf 600 _ _ _ _ h
end SXG
