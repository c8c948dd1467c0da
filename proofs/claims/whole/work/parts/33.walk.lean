section SXG
variable {D : va_G} {cI cJ : ClassId} {ad : Nat → Nat} {sz : Nat} {p : Program} {l : Launch} {e : Env} {s : State} {m : MethodId} {args : Array Value} {below : List Frame} {meth : Method} {c : Code} {Q : Int → sx_M → Prop} {X : String → sx_M → Prop}
def rm_G_choosePartners : Room := { frames := 2, cells := 0, slots := 0, locals := 45 }
set_option maxHeartbeats 4000000 in
set_option maxRecDepth 100000 in
theorem sm_G_choosePartners_137 (C : sx_C sr_lay sr_cl D cI cJ ad (sx_A sr_lay ad sz) 8 "StoneRings$Pairing" prog_2_method_6_code sr_ts p s m args c) (hZ : sx_Z (sx_A sr_lay ad sz) s s.heap) (hr : meth.sig.returnType = none) (hlk : meth.locks = false) (ht : ∀ x ∈ c.exceptionTable.toList, False) (hlf : l.stackTraces = false) {r9 : Int → Int → Int → Int → sx_M → Prop} (hr9 : ∀ (x3 x4 x5 x6 : Int) (μ : sx_M), r9 x3 x4 x5 x6 μ → sx_V sr_lay sr_cl D cI cJ ad (sx_A sr_lay ad sz) 8 p l e rm_G_choosePartners s m args below meth c (vx_MQ below (sx_T (sx_QV sr_lay sr_cl D cI cJ ad Q sz)) (sx_XC sr_lay sr_cl D cI cJ ad (fun _ _ => False) sz) args s 0 0 (sx_A sr_lay ad sz)) 0 0 μ 9 [(0, .ref (ad 13)), (1, .ref (ad 5)), (2, .ref (ad 9)), (3, .int (sx_i x3)), (4, .int (sx_i x4)), (5, .int (sx_i x5)), (6, .int (sx_i x6))] []) {x3 x4 x5 x6 : Int} {μ : sx_M} (h : sw_G_choosePartners_137 Q r9 x3 x4 x5 x6 μ) : sx_V sr_lay sr_cl D cI cJ ad (sx_A sr_lay ad sz) 8 p l e rm_G_choosePartners s m args below meth c (vx_MQ below (sx_T (sx_QV sr_lay sr_cl D cI cJ ad Q sz)) (sx_XC sr_lay sr_cl D cI cJ ad (fun _ _ => False) sz) args s 0 0 (sx_A sr_lay ad sz)) 0 0 μ 137 [(0, .ref (ad 13)), (1, .ref (ad 5)), (2, .ref (ad 9)), (3, .int (sx_i x3)), (4, .int (sx_i x4)), (5, .int (sx_i x5)), (6, .int (sx_i x6))] [] := by
  unfold sw_G_choosePartners_137 at h
  refine sx_iinc (lu := [(6, .int (sx_i (x6 + 1))), (0, .ref (ad 13)), (1, .ref (ad 5)), (2, .ref (ad 9)), (3, .int (sx_i x3)), (4, .int (sx_i x4)), (5, .int (sx_i x5))]) C 6 dd_G_choosePartners_137 rfl (by decide) rfl ?_
  refine sx_goto (tgt := 9) C dd_G_choosePartners_140 (by decide) ?_
  refine sx_less (lu := [(0, .ref (ad 13)), (1, .ref (ad 5)), (2, .ref (ad 9)), (3, .int (sx_i x3)), (4, .int (sx_i x4)), (5, .int (sx_i x5)), (6, .int (sx_i (x6 + 1)))]) C [1, 2, 3, 4, 5, 6, 0] rfl ?_
  exact hr9 _ _ _ _ _ h
set_option maxHeartbeats 4000000 in
set_option maxRecDepth 100000 in
theorem sm_G_choosePartners_120 (C : sx_C sr_lay sr_cl D cI cJ ad (sx_A sr_lay ad sz) 8 "StoneRings$Pairing" prog_2_method_6_code sr_ts p s m args c) (hZ : sx_Z (sx_A sr_lay ad sz) s s.heap) (hr : meth.sig.returnType = none) (hlk : meth.locks = false) (ht : ∀ x ∈ c.exceptionTable.toList, False) (hlf : l.stackTraces = false) {r9 : Int → Int → Int → Int → sx_M → Prop} (hr9 : ∀ (x3 x4 x5 x6 : Int) (μ : sx_M), r9 x3 x4 x5 x6 μ → sx_V sr_lay sr_cl D cI cJ ad (sx_A sr_lay ad sz) 8 p l e rm_G_choosePartners s m args below meth c (vx_MQ below (sx_T (sx_QV sr_lay sr_cl D cI cJ ad Q sz)) (sx_XC sr_lay sr_cl D cI cJ ad (fun _ _ => False) sz) args s 0 0 (sx_A sr_lay ad sz)) 0 0 μ 9 [(0, .ref (ad 13)), (1, .ref (ad 5)), (2, .ref (ad 9)), (3, .int (sx_i x3)), (4, .int (sx_i x4)), (5, .int (sx_i x5)), (6, .int (sx_i x6))] []) {x3 x4 x5 x6 : Int} {μ : sx_M} (h : sw_G_choosePartners_120 Q r9 x3 x4 x5 x6 μ) : sx_V sr_lay sr_cl D cI cJ ad (sx_A sr_lay ad sz) 8 p l e rm_G_choosePartners s m args below meth c (vx_MQ below (sx_T (sx_QV sr_lay sr_cl D cI cJ ad Q sz)) (sx_XC sr_lay sr_cl D cI cJ ad (fun _ _ => False) sz) args s 0 0 (sx_A sr_lay ad sz)) 0 0 μ 120 [(0, .ref (ad 13)), (1, .ref (ad 5)), (2, .ref (ad 9)), (3, .int (sx_i x3)), (4, .int (sx_i x4)), (5, .int (sx_i x5)), (6, .int (sx_i x6))] [] := by
  unfold sw_G_choosePartners_120 at h
  refine sx_aload_n C 0 dd_G_choosePartners_120 rfl rfl ?_
  refine sx_getr (ref := "StoneRings$Pairing") C 13 1 rfl rfl (rfl : sr_cl[0]? = some ("StoneRings$Pairing", tt_G, 4)) (by decide) in_G wd_60 rfl dd_G_choosePartners_121 ?_
  refine sx_iload C 4 dd_G_choosePartners_124 rfl ?_
  refine sx_iconst C dd_G_choosePartners_126 rfl ?_
  refine sx_iast (N := 8) C 15 rfl rfl (by decide) dd_G_choosePartners_127 h (fun h => ?_)
  refine sx_iinc (lu := [(4, .int (sx_i (x4 + 1))), (0, .ref (ad 13)), (1, .ref (ad 5)), (2, .ref (ad 9)), (3, .int (sx_i x3)), (5, .int (sx_i x5)), (6, .int (sx_i x6))]) C 4 dd_G_choosePartners_128 rfl (by decide) rfl ?_
  refine sx_goto (tgt := 137) C dd_G_choosePartners_131 (by decide) ?_
  refine sx_less (lu := [(0, .ref (ad 13)), (1, .ref (ad 5)), (2, .ref (ad 9)), (3, .int (sx_i x3)), (4, .int (sx_i (x4 + 1))), (5, .int (sx_i x5)), (6, .int (sx_i x6))]) C [1, 2, 3, 4, 0, 5, 6] rfl ?_
  exact sm_G_choosePartners_137 C hZ hr hlk ht hlf hr9 h
set_option maxHeartbeats 4000000 in
set_option maxRecDepth 100000 in
theorem sm_G_choosePartners_89 (C : sx_C sr_lay sr_cl D cI cJ ad (sx_A sr_lay ad sz) 8 "StoneRings$Pairing" prog_2_method_6_code sr_ts p s m args c) (hZ : sx_Z (sx_A sr_lay ad sz) s s.heap) (hr : meth.sig.returnType = none) (hlk : meth.locks = false) (ht : ∀ x ∈ c.exceptionTable.toList, False) (hlf : l.stackTraces = false) {r9 : Int → Int → Int → Int → sx_M → Prop} (hr9 : ∀ (x3 x4 x5 x6 : Int) (μ : sx_M), r9 x3 x4 x5 x6 μ → sx_V sr_lay sr_cl D cI cJ ad (sx_A sr_lay ad sz) 8 p l e rm_G_choosePartners s m args below meth c (vx_MQ below (sx_T (sx_QV sr_lay sr_cl D cI cJ ad Q sz)) (sx_XC sr_lay sr_cl D cI cJ ad (fun _ _ => False) sz) args s 0 0 (sx_A sr_lay ad sz)) 0 0 μ 9 [(0, .ref (ad 13)), (1, .ref (ad 5)), (2, .ref (ad 9)), (3, .int (sx_i x3)), (4, .int (sx_i x4)), (5, .int (sx_i x5)), (6, .int (sx_i x6))] []) {x3 x4 x5 x6 x7 : Int} {μ : sx_M} (h : sw_G_choosePartners_89 Q r9 x3 x4 x5 x6 x7 μ) : sx_V sr_lay sr_cl D cI cJ ad (sx_A sr_lay ad sz) 8 p l e rm_G_choosePartners s m args below meth c (vx_MQ below (sx_T (sx_QV sr_lay sr_cl D cI cJ ad Q sz)) (sx_XC sr_lay sr_cl D cI cJ ad (fun _ _ => False) sz) args s 0 0 (sx_A sr_lay ad sz)) 0 0 μ 89 [(0, .ref (ad 13)), (1, .ref (ad 5)), (2, .ref (ad 9)), (3, .int (sx_i x3)), (4, .int (sx_i x4)), (5, .int (sx_i x5)), (6, .int (sx_i x6)), (7, .int (sx_i x7))] [] := by
  unfold sw_G_choosePartners_89 at h
  refine sx_iload C 5 dd_G_choosePartners_89 rfl ?_
  refine sx_aload_n C 2 dd_G_choosePartners_91 rfl rfl ?_
  refine sx_geti (K := 4) (ref := "StoneRings$Trace") C 9 4 rfl rfl rfl (rfl : sr_cl[3]? = some ("StoneRings$Trace", tt_T, 5)) (by decide) in_T wd_39 rfl dd_G_choosePartners_92 ?_
  refine sx_icmp_ge (tgt := 120) C dd_G_choosePartners_95 (by decide) h (fun h => ?_) (fun h => ?_)
  · refine sx_less (lu := [(0, .ref (ad 13)), (1, .ref (ad 5)), (2, .ref (ad 9)), (3, .int (sx_i x3)), (4, .int (sx_i x4)), (5, .int (sx_i x5)), (6, .int (sx_i x6))]) C [0, 1, 2, 3, 4, 5, 6] rfl ?_
    exact sm_G_choosePartners_120 C hZ hr hlk ht hlf hr9 h
  · refine sx_iload_n C 3 dd_G_choosePartners_98 rfl rfl ?_
    refine sx_aload_n C 0 dd_G_choosePartners_99 rfl rfl ?_
    refine sx_getr (ref := "StoneRings$Pairing") C 13 0 rfl rfl (rfl : sr_cl[0]? = some ("StoneRings$Pairing", tt_G, 4)) (by decide) in_G wd_59 rfl dd_G_choosePartners_100 ?_
    refine sx_iload C 4 dd_G_choosePartners_103 rfl ?_
    refine sx_iconst C dd_G_choosePartners_105 rfl ?_
    refine sx_iadd C dd_G_choosePartners_106 ?_
    refine sx_bipush (v := 9) C dd_G_choosePartners_107 (by decide +kernel) ?_
    refine sx_imul C dd_G_choosePartners_109 ?_
    refine sx_iload C 5 dd_G_choosePartners_110 rfl ?_
    refine sx_iadd C dd_G_choosePartners_112 ?_
    refine sx_iald (N := 81) C 14 rfl rfl (by decide) dd_G_choosePartners_113 h (fun h => ?_)
    refine sx_iadd C dd_G_choosePartners_114 ?_
    refine sx_iload C 7 dd_G_choosePartners_115 rfl ?_
    refine sx_icmp_ne (tgt := 134) C dd_G_choosePartners_117 (by decide) h (fun h => ?_) (fun h => ?_)
    · refine sx_iinc (lu := [(5, .int (sx_i (x5 + 1))), (0, .ref (ad 13)), (1, .ref (ad 5)), (2, .ref (ad 9)), (3, .int (sx_i x3)), (4, .int (sx_i x4)), (6, .int (sx_i x6)), (7, .int (sx_i x7))]) C 5 dd_G_choosePartners_134 rfl (by decide) rfl ?_
      refine sx_less (lu := [(0, .ref (ad 13)), (1, .ref (ad 5)), (2, .ref (ad 9)), (3, .int (sx_i x3)), (4, .int (sx_i x4)), (5, .int (sx_i (x5 + 1))), (6, .int (sx_i x6))]) C [1, 2, 3, 4, 5, 0, 6] rfl ?_
      exact sm_G_choosePartners_137 C hZ hr hlk ht hlf hr9 h
    · refine sx_less (lu := [(0, .ref (ad 13)), (1, .ref (ad 5)), (2, .ref (ad 9)), (3, .int (sx_i x3)), (4, .int (sx_i x4)), (5, .int (sx_i x5)), (6, .int (sx_i x6))]) C [0, 1, 2, 3, 4, 5, 6] rfl ?_
      exact sm_G_choosePartners_120 C hZ hr hlk ht hlf hr9 h
set_option maxHeartbeats 4000000 in
set_option maxRecDepth 100000 in
theorem sm_G_choosePartners_143 (C : sx_C sr_lay sr_cl D cI cJ ad (sx_A sr_lay ad sz) 8 "StoneRings$Pairing" prog_2_method_6_code sr_ts p s m args c) (hZ : sx_Z (sx_A sr_lay ad sz) s s.heap) (hr : meth.sig.returnType = none) (hlk : meth.locks = false) (ht : ∀ x ∈ c.exceptionTable.toList, False) (hlf : l.stackTraces = false) {μ : sx_M} (h : sw_G_choosePartners_143 Q μ) : sx_V sr_lay sr_cl D cI cJ ad (sx_A sr_lay ad sz) 8 p l e rm_G_choosePartners s m args below meth c (vx_MQ below (sx_T (sx_QV sr_lay sr_cl D cI cJ ad Q sz)) (sx_XC sr_lay sr_cl D cI cJ ad (fun _ _ => False) sz) args s 0 0 (sx_A sr_lay ad sz)) 0 0 μ 143 [] [] := by
  unfold sw_G_choosePartners_143 at h
  exact sx_vret C hr hlk dd_G_choosePartners_143 h
set_option maxHeartbeats 4000000 in
set_option maxRecDepth 100000 in
theorem sm_G_choosePartners_9 (C : sx_C sr_lay sr_cl D cI cJ ad (sx_A sr_lay ad sz) 8 "StoneRings$Pairing" prog_2_method_6_code sr_ts p s m args c) (hZ : sx_Z (sx_A sr_lay ad sz) s s.heap) (hr : meth.sig.returnType = none) (hlk : meth.locks = false) (ht : ∀ x ∈ c.exceptionTable.toList, False) (hlf : l.stackTraces = false) : ∀ (n : Nat) (x3 x4 x5 x6 : Int) (μ : sx_M), sw_G_choosePartners_9 Q n x3 x4 x5 x6 μ → sx_V sr_lay sr_cl D cI cJ ad (sx_A sr_lay ad sz) 8 p l e rm_G_choosePartners s m args below meth c (vx_MQ below (sx_T (sx_QV sr_lay sr_cl D cI cJ ad Q sz)) (sx_XC sr_lay sr_cl D cI cJ ad (fun _ _ => False) sz) args s 0 0 (sx_A sr_lay ad sz)) 0 0 μ 9 [(0, .ref (ad 13)), (1, .ref (ad 5)), (2, .ref (ad 9)), (3, .int (sx_i x3)), (4, .int (sx_i x4)), (5, .int (sx_i x5)), (6, .int (sx_i x6))] [] := by
  intro n
  induction n with
  | zero =>
    intro x3 x4 x5 x6 μ h
    exact h.elim
  | succ n ih =>
    intro x3 x4 x5 x6 μ h
    have hr9 := ih
    unfold sw_G_choosePartners_9 at h
    refine sx_iload C 6 dd_G_choosePartners_9 rfl ?_
    refine sx_aload_n C 1 dd_G_choosePartners_11 rfl rfl ?_
    refine sx_geti (K := 4) (ref := "StoneRings$Trace") C 5 4 rfl rfl rfl (rfl : sr_cl[3]? = some ("StoneRings$Trace", tt_T, 5)) (by decide) in_T wd_39 rfl dd_G_choosePartners_12 ?_
    refine sx_aload_n C 2 dd_G_choosePartners_15 rfl rfl ?_
    refine sx_geti (K := 4) (ref := "StoneRings$Trace") C 9 4 rfl rfl rfl (rfl : sr_cl[3]? = some ("StoneRings$Trace", tt_T, 5)) (by decide) in_T wd_39 rfl dd_G_choosePartners_16 ?_
    refine sx_iadd C dd_G_choosePartners_19 ?_
    refine sx_icmp_ge (tgt := 143) C dd_G_choosePartners_20 (by decide) h (fun h => ?_) (fun h => ?_)
    · refine sx_less (lu := []) C [] rfl ?_
      exact sm_G_choosePartners_143 C hZ hr hlk ht hlf h
    · refine sx_iload C 4 dd_G_choosePartners_23 rfl ?_
      refine sx_aload_n C 1 dd_G_choosePartners_25 rfl rfl ?_
      refine sx_geti (K := 4) (ref := "StoneRings$Trace") C 5 4 rfl rfl rfl (rfl : sr_cl[3]? = some ("StoneRings$Trace", tt_T, 5)) (by decide) in_T wd_39 rfl dd_G_choosePartners_26 ?_
      refine sx_icmp_ge (tgt := 143) C dd_G_choosePartners_29 (by decide) h (fun h => ?_) (fun h => ?_)
      · refine sx_less (lu := []) C [] rfl ?_
        exact sm_G_choosePartners_143 C hZ hr hlk ht hlf h
      · refine sx_aload_n C 0 dd_G_choosePartners_32 rfl rfl ?_
        refine sx_getr (ref := "StoneRings$Pairing") C 13 0 rfl rfl (rfl : sr_cl[0]? = some ("StoneRings$Pairing", tt_G, 4)) (by decide) in_G wd_59 rfl dd_G_choosePartners_33 ?_
        refine sx_iload C 4 dd_G_choosePartners_36 rfl ?_
        refine sx_bipush (v := 9) C dd_G_choosePartners_38 (by decide +kernel) ?_
        refine sx_imul C dd_G_choosePartners_40 ?_
        refine sx_iload C 5 dd_G_choosePartners_41 rfl ?_
        refine sx_iadd C dd_G_choosePartners_43 ?_
        refine sx_iald (N := 81) C 14 rfl rfl (by decide) dd_G_choosePartners_44 h (fun h => ?_)
        refine sx_istore (lu := [(7, .int (sx_i (μ 14 ((x4 * 9) + x5)))), (0, .ref (ad 13)), (1, .ref (ad 5)), (2, .ref (ad 9)), (3, .int (sx_i x3)), (4, .int (sx_i x4)), (5, .int (sx_i x5)), (6, .int (sx_i x6))]) C dd_G_choosePartners_45 (by decide) rfl ?_
        refine sx_iload C 6 dd_G_choosePartners_47 rfl ?_
        refine sx_aload_n C 3 dd_G_choosePartners_49 rfl rfl ?_
        refine sx_geti (K := 4) (ref := "StoneRings$Trace") C 9 4 rfl rfl rfl (rfl : sr_cl[3]? = some ("StoneRings$Trace", tt_T, 5)) (by decide) in_T wd_39 rfl dd_G_choosePartners_50 ?_
        refine sx_icmp_ge (tgt := 89) C dd_G_choosePartners_53 (by decide) h (fun h => ?_) (fun h => ?_)
        · refine sx_less (lu := [(0, .ref (ad 13)), (1, .ref (ad 5)), (2, .ref (ad 9)), (3, .int (sx_i x3)), (4, .int (sx_i x4)), (5, .int (sx_i x5)), (6, .int (sx_i x6)), (7, .int (sx_i (μ 14 ((x4 * 9) + x5))))]) C [1, 2, 3, 4, 5, 6, 7, 0] rfl ?_
          exact sm_G_choosePartners_89 C hZ hr hlk ht hlf hr9 h
        · refine sx_aload_n C 1 dd_G_choosePartners_56 rfl rfl ?_
          refine sx_aload_n C 2 dd_G_choosePartners_57 rfl rfl ?_
          refine sx_aload_n C 3 dd_G_choosePartners_58 rfl rfl ?_
          refine sx_iload C 5 dd_G_choosePartners_59 rfl ?_
          refine sx_iload C 6 dd_G_choosePartners_61 rfl ?_
          refine sx_invI (c0 := 13) C hZ [.ref (ad 5), .ref (ad 9), .int (sx_i x4), .int (sx_i x5)] (fun sz2 => sm_G_together hlf h sz2) (sx_cwV (n := 4) C.2.2.2.2.1 wd_437 wd_434 wd_435 wd_436 wd_3 rfl rfl (by decide +kernel) ⟨by decide, by decide⟩) rfl (rfl : sr_cl[0]? = some ("StoneRings$Pairing", tt_G, 4)) rfl rfl (Nat.le_of_ble_eq_true rfl) dd_G_choosePartners_63 ⟨(Nat.le_of_ble_eq_true rfl), (Nat.le_of_ble_eq_true rfl)⟩ sx_noX (fun v1 μ1 h => ?_)
          refine sx_iload C 0 dd_G_choosePartners_66 rfl ?_
          refine sx_icmp_ne (tgt := 89) C dd_G_choosePartners_68 (by decide) h (fun h => ?_) (fun h => ?_)
          · refine sx_less (lu := [(0, .ref (ad 13)), (1, .ref (ad 5)), (2, .ref (ad 9)), (3, .int (sx_i x3)), (4, .int (sx_i x4)), (5, .int (sx_i x5)), (6, .int (sx_i x6)), (7, .int (sx_i (μ 14 ((x4 * 9) + x5))))]) C [1, 2, 3, 4, 5, 6, 7, 0] rfl ?_
            exact sm_G_choosePartners_89 C hZ hr hlk ht hlf hr9 h
          · refine sx_aload_n C 1 dd_G_choosePartners_71 rfl rfl ?_
            refine sx_getr (ref := "StoneRings$Pairing") C 13 1 rfl rfl (rfl : sr_cl[0]? = some ("StoneRings$Pairing", tt_G, 4)) (by decide) in_G wd_60 rfl dd_G_choosePartners_72 ?_
            refine sx_iload C 5 dd_G_choosePartners_75 rfl ?_
            refine sx_iload C 6 dd_G_choosePartners_77 rfl ?_
            refine sx_iast (N := 8) C 15 rfl rfl (by decide) dd_G_choosePartners_79 h (fun h => ?_)
            refine sx_iinc (lu := [(4, .int (sx_i (x4 + 1))), (7, .int (sx_i (μ 14 ((x4 * 9) + x5)))), (0, .ref (ad 13)), (1, .ref (ad 5)), (2, .ref (ad 9)), (3, .int (sx_i x3)), (5, .int (sx_i x5)), (6, .int (sx_i x6))]) C 5 dd_G_choosePartners_80 rfl (by decide) rfl ?_
            refine sx_iinc (lu := [(5, .int (sx_i (x5 + 1))), (4, .int (sx_i (x4 + 1))), (7, .int (sx_i (μ 14 ((x4 * 9) + x5)))), (0, .ref (ad 13)), (1, .ref (ad 5)), (2, .ref (ad 9)), (3, .int (sx_i x3)), (6, .int (sx_i x6))]) C 6 dd_G_choosePartners_83 rfl (by decide) rfl ?_
            refine sx_goto (tgt := 137) C dd_G_choosePartners_86 (by decide) ?_
            refine sx_less (lu := [(0, .ref (ad 13)), (1, .ref (ad 5)), (2, .ref (ad 9)), (3, .int (sx_i x3)), (4, .int (sx_i (x4 + 1))), (5, .int (sx_i (x5 + 1))), (6, .int (sx_i x6))]) C [3, 4, 5, 6, 1, 0, 7] rfl ?_
            exact sm_G_choosePartners_137 C hZ hr hlk ht hlf hr9 h
set_option maxHeartbeats 4000000 in
set_option maxRecDepth 100000 in
theorem sm_G_choosePartners {l : Launch} {D : va_G} {cI cJ : ClassId} {ad : Nat → Nat} {Q : Int → sx_M → Prop} (hlf : l.stackTraces = false) {μ : sx_M} {a3 : Int} (h : sw_G_choosePartners Q μ a3) (sz : Nat) : sx_MV l yy_G_choosePartners (Cond.code yy_G_choosePartners prog_2_method_6_code 8 none :: sr_ts) rm_G_choosePartners sr_lay sr_cl D cI cJ ad [.ref (ad 13), .ref (ad 5), .ref (ad 9), .int (sx_i a3)] μ Q (fun _ _ => False) 0 0 sz := by
  refine sx_body (plainFor_of_name (by decide +kernel)) rfl (Nat.le_of_ble_eq_true rfl) ?_
  intro p e s m below meth c C hZ hr hlk ht
  unfold sw_G_choosePartners at h
  show sx_V sr_lay sr_cl D cI cJ ad (sx_A sr_lay ad sz) 8 p l e rm_G_choosePartners s m _ below meth c (vx_MQ below (sx_T (sx_QV sr_lay sr_cl D cI cJ ad Q sz)) (sx_XC sr_lay sr_cl D cI cJ ad (fun _ _ => False) sz) _ s 0 0 (sx_A sr_lay ad sz)) 0 0 μ 0 [(0, .ref (ad 13)), (1, .ref (ad 5)), (2, .ref (ad 9)), (3, .int (sx_i a3))] []
  refine sx_iconst C dd_G_choosePartners_0 rfl ?_
  refine sx_istore (lu := [(4, .int (sx_i 0)), (0, .ref (ad 13)), (1, .ref (ad 5)), (2, .ref (ad 9)), (3, .int (sx_i a3))]) C dd_G_choosePartners_1 (by decide) rfl ?_
  refine sx_iconst C dd_G_choosePartners_3 rfl ?_
  refine sx_istore (lu := [(5, .int (sx_i 0)), (4, .int (sx_i 0)), (0, .ref (ad 13)), (1, .ref (ad 5)), (2, .ref (ad 9)), (3, .int (sx_i a3))]) C dd_G_choosePartners_4 (by decide) rfl ?_
  refine sx_iconst C dd_G_choosePartners_6 rfl ?_
  refine sx_istore (lu := [(6, .int (sx_i 0)), (5, .int (sx_i 0)), (4, .int (sx_i 0)), (0, .ref (ad 13)), (1, .ref (ad 5)), (2, .ref (ad 9)), (3, .int (sx_i a3))]) C dd_G_choosePartners_7 (by decide) rfl ?_
  refine sx_less (lu := [(0, .ref (ad 13)), (1, .ref (ad 5)), (2, .ref (ad 9)), (3, .int (sx_i a3)), (4, .int (sx_i 0)), (5, .int (sx_i 0)), (6, .int (sx_i 0))]) C [3, 4, 5, 6, 2, 1, 0] rfl ?_
  exact sm_G_choosePartners_9 C hZ hr hlk ht hlf 600 _ _ _ _ _ h
def rm_G_pair : Room := { frames := 4, cells := 0, slots := 0, locals := 96 }
set_option maxHeartbeats 4000000 in
set_option maxRecDepth 100000 in
theorem sm_G_pair {l : Launch} {D : va_G} {cI cJ : ClassId} {ad : Nat → Nat} {Q : Int → sx_M → Prop} (hlf : l.stackTraces = false) {μ : sx_M} {a3 : Int} (h : sw_G_pair Q μ a3) (sz : Nat) : sx_MI l yy_G_pair (Cond.code yy_G_pair prog_2_method_2_code 4 (some .int) :: sr_ts) rm_G_pair sr_lay sr_cl D cI cJ ad [.ref (ad 13), .ref (ad 5), .ref (ad 9), .int (sx_i a3)] μ Q (fun _ _ => False) 0 0 sz := by
  refine sx_body (plainFor_of_name (by decide +kernel)) rfl (Nat.le_of_ble_eq_true rfl) ?_
  intro p e s m below meth c C hZ hr hlk ht
  unfold sw_G_pair at h
  show sx_V sr_lay sr_cl D cI cJ ad (sx_A sr_lay ad sz) 4 p l e rm_G_pair s m _ below meth c (vx_MQ below (sx_T (sx_QI sr_lay sr_cl D cI cJ ad Q sz)) (sx_XC sr_lay sr_cl D cI cJ ad (fun _ _ => False) sz) _ s 0 0 (sx_A sr_lay ad sz)) 0 0 μ 0 [(0, .ref (ad 13)), (1, .ref (ad 5)), (2, .ref (ad 9)), (3, .int (sx_i a3))] []
  refine sx_aload_n C 0 dd_G_pair_0 rfl rfl ?_
  refine sx_iconst C dd_G_pair_1 rfl ?_
  refine sx_puti (K := 3) (ref := "StoneRings$Pairing") (ty := .boolean) C 13 3 rfl rfl rfl (rfl : sr_cl[0]? = some ("StoneRings$Pairing", tt_G, 4)) (by decide) in_G ty_G tyk_G nm_G wd_64 rfl rfl (by decide +kernel) (sx_bool (Or.inr rfl)).1 (sx_bool (Or.inr rfl)).2 dd_G_pair_2 ?_
  refine sx_aload_n C 0 dd_G_pair_5 rfl rfl ?_
  refine sx_aload_n C 1 dd_G_pair_6 rfl rfl ?_
  refine sx_geti (K := 4) (ref := "StoneRings$Trace") C 5 4 rfl rfl rfl (rfl : sr_cl[3]? = some ("StoneRings$Trace", tt_T, 5)) (by decide) in_T wd_39 rfl dd_G_pair_7 ?_
  refine sx_puti (K := 2) (ref := "StoneRings$Pairing") (ty := .int) C 13 2 rfl rfl rfl (rfl : sr_cl[0]? = some ("StoneRings$Pairing", tt_G, 4)) (by decide) in_G ty_G tyk_G nm_G wd_62 rfl rfl (by decide +kernel) rfl rfl dd_G_pair_10 ?_
  refine sx_aload_n C 0 dd_G_pair_13 rfl rfl ?_
  refine sx_aload_n C 1 dd_G_pair_14 rfl rfl ?_
  refine sx_aload_n C 2 dd_G_pair_15 rfl rfl ?_
  refine sx_iload_n C 3 dd_G_pair_16 rfl rfl ?_
  refine sx_invV (c0 := 13) C hZ [.ref (ad 5), .ref (ad 9), .int (sx_i a3)] (fun sz2 => sm_G_fillCosts hlf h sz2) (sx_cwV (n := 3) C.2.2.2.2.1 wd_428 wd_425 wd_426 wd_427 wd_3 rfl rfl (by decide +kernel) ⟨by decide, by decide⟩) rfl (rfl : sr_cl[0]? = some ("StoneRings$Pairing", tt_G, 4)) rfl rfl (Nat.le_of_ble_eq_true rfl) dd_G_pair_17 ⟨(Nat.le_of_ble_eq_true rfl), (Nat.le_of_ble_eq_true rfl)⟩ sx_noX (fun v1 μ1 h => ?_)
  refine sx_aload_n C 0 dd_G_pair_20 rfl rfl ?_
  refine sx_aload_n C 1 dd_G_pair_21 rfl rfl ?_
  refine sx_aload_n C 2 dd_G_pair_22 rfl rfl ?_
  refine sx_iload_n C 3 dd_G_pair_23 rfl rfl ?_
  refine sx_invV (c0 := 13) C hZ [.ref (ad 5), .ref (ad 9), .int (sx_i a3)] (fun sz2 => sm_G_choosePartners hlf h sz2) (sx_cwV (n := 3) C.2.2.2.2.1 wd_442 wd_439 wd_440 wd_441 wd_3 rfl rfl (by decide +kernel) ⟨by decide, by decide⟩) rfl (rfl : sr_cl[0]? = some ("StoneRings$Pairing", tt_G, 4)) rfl rfl (Nat.le_of_ble_eq_true rfl) dd_G_pair_24 ⟨(Nat.le_of_ble_eq_true rfl), (Nat.le_of_ble_eq_true rfl)⟩ sx_noX (fun v2 μ2 h => ?_)
  refine sx_aload_n C 0 dd_G_pair_27 rfl rfl ?_
  refine sx_getr (ref := "StoneRings$Pairing") C 13 0 rfl rfl (rfl : sr_cl[0]? = some ("StoneRings$Pairing", tt_G, 4)) (by decide) in_G wd_59 rfl dd_G_pair_28 ?_
  refine sx_iconst C dd_G_pair_31 rfl ?_
  refine sx_iald (N := 81) C 14 rfl rfl (by decide) dd_G_pair_32 h (fun h => ?_)
  exact sx_iret C hr hlk dd_G_pair_33 h
def rm_S_join : Room := { frames := 8, cells := 1, slots := 6, locals := 125 }
set_option maxHeartbeats 4000000 in
set_option maxRecDepth 100000 in
theorem sm_S_join {l : Launch} {D : va_G} {cI cJ : ClassId} {ad : Nat → Nat} {Q : Int → sx_M → Prop} {X : String → sx_M → Prop} (hlf : l.stackTraces = false) {μ : sx_M} {a1 a2 a3 : Int} (h : sw_S_join Q X μ a1 a2 a3) (sz : Nat) : sx_MI l yy_S_join (Cond.code yy_S_join prog_1_method_10_code 4 (some .int) :: sr_ts) rm_S_join sr_lay sr_cl D cI cJ ad [.ref (ad 0), .int (sx_i a1), .int (sx_i a2), .int (sx_i a3)] μ Q X 1 6 sz := by
  refine sx_body (plainFor_of_name (by decide +kernel)) rfl (Nat.le_of_ble_eq_true rfl) ?_
  intro p e s m below meth c C hZ hr hlk ht
  unfold sw_S_join at h
  show sx_V sr_lay sr_cl D cI cJ ad (sx_A sr_lay ad sz) 4 p l e rm_S_join s m _ below meth c (vx_MQ below (sx_T (sx_QI sr_lay sr_cl D cI cJ ad Q sz)) (sx_XC sr_lay sr_cl D cI cJ ad X sz) _ s 1 6 (sx_A sr_lay ad sz)) 0 0 μ 0 [(0, .ref (ad 0)), (1, .int (sx_i a1)), (2, .int (sx_i a2)), (3, .int (sx_i a3))] []
  refine sx_aload_n C 0 dd_S_join_0 rfl rfl ?_
  refine sx_iload_n C 1 dd_S_join_1 rfl rfl ?_
  refine sx_aload_n C 0 dd_S_join_2 rfl rfl ?_
  refine sx_getr (ref := "StoneRings") C 0 3 rfl rfl (rfl : sr_cl[4]? = some ("StoneRings", tt_S, 10)) (by decide) in_S wd_134 rfl dd_S_join_3 ?_
  refine sx_invV (c0 := 0) C hZ [.int (sx_i a1), .ref (ad 5)] (fun sz2 => sm_S_follow hlf rfl rfl rfl rfl h sz2) (sx_cwV (n := 2) C.2.2.2.2.1 wd_354 wd_351 wd_353 wp_S_follow wd_1 rfl rfl (by decide +kernel) ⟨by decide, by decide⟩) rfl (rfl : sr_cl[4]? = some ("StoneRings", tt_S, 10)) rfl rfl (Nat.le_of_ble_eq_true rfl) dd_S_join_6 ⟨(Nat.le_of_ble_eq_true rfl), (Nat.le_of_ble_eq_true rfl)⟩ (sx_prop hlk ht (Nat.le_of_ble_eq_true rfl) (Nat.le_of_ble_eq_true rfl)) (fun v1 μ1 h => ?_)
  refine sx_aload_n C 0 dd_S_join_9 rfl rfl ?_
  refine sx_iload_n C 2 dd_S_join_10 rfl rfl ?_
  refine sx_aload_n C 0 dd_S_join_11 rfl rfl ?_
  refine sx_getr (ref := "StoneRings") C 0 4 rfl rfl (rfl : sr_cl[4]? = some ("StoneRings", tt_S, 10)) (by decide) in_S wd_135 rfl dd_S_join_12 ?_
  refine sx_invV (c0 := 0) C hZ [.int (sx_i a2), .ref (ad 9)] (fun sz2 => sm_S_follow hlf rfl rfl rfl rfl h sz2) (sx_cwV (n := 2) C.2.2.2.2.1 wd_354 wd_351 wd_353 wp_S_follow wd_1 rfl rfl (by decide +kernel) ⟨by decide, by decide⟩) rfl (rfl : sr_cl[4]? = some ("StoneRings", tt_S, 10)) rfl rfl (Nat.le_of_ble_eq_true rfl) dd_S_join_15 ⟨(Nat.le_of_ble_eq_true rfl), (Nat.le_of_ble_eq_true rfl)⟩ (sx_prop hlk ht (Nat.le_of_ble_eq_true rfl) (Nat.le_of_ble_eq_true rfl)) (fun v2 μ2 h => ?_)
  refine sx_iload_n C 3 dd_S_join_18 rfl rfl ?_
  refine sx_iconst C dd_S_join_19 rfl ?_
  refine sx_bipush (v := 50) C dd_S_join_20 (by decide +kernel) ?_
  refine sx_stcV C hZ [.int (sx_i a3), .int (sx_i 0), .int (sx_i 50)] (fun sz2 => sm_S_needNumber hlf h sz2) (sx_cwS (n := 3) C.2.2.2.2.1 wd_268 wd_266 wd_267 wd_1 rfl rfl (by decide +kernel) ⟨by decide, by decide⟩) rfl rfl (Nat.le_of_ble_eq_true rfl) dd_S_join_22 ⟨(Nat.le_of_ble_eq_true rfl), (Nat.le_of_ble_eq_true rfl)⟩ (sx_prop hlk ht (Nat.le_of_ble_eq_true rfl) (Nat.le_of_ble_eq_true rfl)) (fun v3 μ3 h => ?_)
  refine sx_aload_n C 0 dd_S_join_25 rfl rfl ?_
  refine sx_getr (ref := "StoneRings") C 0 5 rfl rfl (rfl : sr_cl[4]? = some ("StoneRings", tt_S, 10)) (by decide) in_S wd_136 rfl dd_S_join_26 ?_
  refine sx_aload_n C 0 dd_S_join_29 rfl rfl ?_
  refine sx_getr (ref := "StoneRings") C 0 3 rfl rfl (rfl : sr_cl[4]? = some ("StoneRings", tt_S, 10)) (by decide) in_S wd_134 rfl dd_S_join_30 ?_
  refine sx_aload_n C 0 dd_S_join_33 rfl rfl ?_
  refine sx_getr (ref := "StoneRings") C 0 4 rfl rfl (rfl : sr_cl[4]? = some ("StoneRings", tt_S, 10)) (by decide) in_S wd_135 rfl dd_S_join_34 ?_
  refine sx_iload_n C 3 dd_S_join_37 rfl rfl ?_
  refine sx_invI (c0 := 13) C hZ [.ref (ad 5), .ref (ad 9), .int (sx_i a3)] (fun sz2 => sm_G_pair hlf h sz2) (sx_cwV (n := 3) C.2.2.2.2.1 wd_424 wd_421 wd_422 wd_423 wd_3 rfl rfl (by decide +kernel) ⟨by decide, by decide⟩) rfl (rfl : sr_cl[0]? = some ("StoneRings$Pairing", tt_G, 4)) rfl rfl (Nat.le_of_ble_eq_true rfl) dd_S_join_38 ⟨(Nat.le_of_ble_eq_true rfl), (Nat.le_of_ble_eq_true rfl)⟩ sx_noX (fun v4 μ4 h => ?_)
  exact sx_iret C hr hlk dd_S_join_41 h
def rm_S_joined : Room := { frames := 7, cells := 1, slots := 6, locals := 103 }
set_option maxHeartbeats 4000000 in
set_option maxRecDepth 100000 in
theorem sm_S_joined {l : Launch} {D : va_G} {cI cJ : ClassId} {ad : Nat → Nat} {Q : Int → sx_M → Prop} {X : String → sx_M → Prop} (hlf : l.stackTraces = false) {μ : sx_M} {a1 : Int} (h : sw_S_joined Q X μ a1) (sz : Nat) : sx_MI l yy_S_joined (Cond.code yy_S_joined prog_1_method_11_code 2 (some .int) :: sr_ts) rm_S_joined sr_lay sr_cl D cI cJ ad [.ref (ad 0), .int (sx_i a1)] μ Q X 1 6 sz := by
  refine sx_body (plainFor_of_name (by decide +kernel)) rfl (Nat.le_of_ble_eq_true rfl) ?_
  intro p e s m below meth c C hZ hr hlk ht
  unfold sw_S_joined at h
  show sx_V sr_lay sr_cl D cI cJ ad (sx_A sr_lay ad sz) 2 p l e rm_S_joined s m _ below meth c (vx_MQ below (sx_T (sx_QI sr_lay sr_cl D cI cJ ad Q sz)) (sx_XC sr_lay sr_cl D cI cJ ad X sz) _ s 1 6 (sx_A sr_lay ad sz)) 0 0 μ 0 [(0, .ref (ad 0)), (1, .int (sx_i a1))] []
  refine sx_aload_n C 0 dd_S_joined_0 rfl rfl ?_
  refine sx_getr (ref := "StoneRings") C 0 5 rfl rfl (rfl : sr_cl[4]? = some ("StoneRings", tt_S, 10)) (by decide) in_S wd_136 rfl dd_S_joined_1 ?_
  refine sx_geti (K := 3) (ref := "StoneRings$Pairing") C 13 3 rfl rfl rfl (rfl : sr_cl[0]? = some ("StoneRings$Pairing", tt_G, 4)) (by decide) in_G wd_65 rfl dd_S_joined_4 ?_
  refine sx_if_ne (tgt := 20) C dd_S_joined_7 (by decide) h (fun h => ?_) (fun h => ?_)
  · refine sx_iload_n C 1 dd_S_joined_20 rfl rfl ?_
    refine sx_aload_n C 0 dd_S_joined_21 rfl rfl ?_
    refine sx_getr (ref := "StoneRings") C 0 5 rfl rfl (rfl : sr_cl[4]? = some ("StoneRings", tt_S, 10)) (by decide) in_S wd_136 rfl dd_S_joined_22 ?_
    refine sx_geti (K := 2) (ref := "StoneRings$Pairing") C 13 2 rfl rfl rfl (rfl : sr_cl[0]? = some ("StoneRings$Pairing", tt_G, 4)) (by decide) in_G wd_63 rfl dd_S_joined_25 ?_
    refine sx_stcV C hZ [.int (sx_i a1), .int (sx_i (μ 13 2))] (fun sz2 => sm_S_needPlace hlf h sz2) (sx_cwS (n := 2) C.2.2.2.2.1 wd_303 wd_301 wd_302 wd_1 rfl rfl (by decide +kernel) ⟨by decide, by decide⟩) rfl rfl (Nat.le_of_ble_eq_true rfl) dd_S_joined_28 ⟨(Nat.le_of_ble_eq_true rfl), (Nat.le_of_ble_eq_true rfl)⟩ (sx_prop hlk ht (Nat.le_of_ble_eq_true rfl) (Nat.le_of_ble_eq_true rfl)) (fun v1 μ1 h => ?_)
    refine sx_aload_n C 0 dd_S_joined_31 rfl rfl ?_
    refine sx_getr (ref := "StoneRings") C 0 5 rfl rfl (rfl : sr_cl[4]? = some ("StoneRings", tt_S, 10)) (by decide) in_S wd_136 rfl dd_S_joined_32 ?_
    refine sx_getr (ref := "StoneRings$Pairing") C 13 1 rfl rfl (rfl : sr_cl[0]? = some ("StoneRings$Pairing", tt_G, 4)) (by decide) in_G wd_61 rfl dd_S_joined_35 ?_
    refine sx_iload_n C 1 dd_S_joined_38 rfl rfl ?_
    refine sx_iald (N := 8) C 15 rfl rfl (by decide) dd_S_joined_39 h (fun h => ?_)
    exact sx_iret C hr hlk dd_S_joined_40 h
  · exact sx_throw (cls := "java/lang/IllegalStateException") (text := "no rays were joined") (names := ["java/lang/RuntimeException", "java/lang/Exception"]) C hlf hZ hlk ht (by decide +kernel) (by decide +kernel) wd_328 wd_14 (List.mem_of_getElem? (i := 5) rfl) at_S_101 gd_S_97_101 dd_S_joined_10 dd_S_joined_13 dd_S_joined_14 dd_S_joined_16 dd_S_joined_19 (by decide) (Nat.le_of_ble_eq_true rfl) (by decide) (by decide) (by decide) (by decide) h
def rm_S_back : Room := { frames := 8, cells := 1, slots := 6, locals := 125 }
set_option maxHeartbeats 4000000 in
set_option maxRecDepth 100000 in
theorem sm_S_back {l : Launch} {D : va_G} {cI cJ : ClassId} {ad : Nat → Nat} {Q : Int → sx_M → Prop} {X : String → sx_M → Prop} (hlf : l.stackTraces = false) {μ : sx_M} {a1 a2 a3 : Int} (h : sw_S_back Q X μ a1 a2 a3) (sz : Nat) : sx_MI l yy_S_back (Cond.code yy_S_back prog_1_method_12_code 4 (some .int) :: sr_ts) rm_S_back sr_lay sr_cl D cI cJ ad [.ref (ad 0), .int (sx_i a1), .int (sx_i a2), .int (sx_i a3)] μ Q X 1 6 sz := by
  refine sx_body (plainFor_of_name (by decide +kernel)) rfl (Nat.le_of_ble_eq_true rfl) ?_
  intro p e s m below meth c C hZ hr hlk ht
  unfold sw_S_back at h
  show sx_V sr_lay sr_cl D cI cJ ad (sx_A sr_lay ad sz) 4 p l e rm_S_back s m _ below meth c (vx_MQ below (sx_T (sx_QI sr_lay sr_cl D cI cJ ad Q sz)) (sx_XC sr_lay sr_cl D cI cJ ad X sz) _ s 1 6 (sx_A sr_lay ad sz)) 0 0 μ 0 [(0, .ref (ad 0)), (1, .int (sx_i a1)), (2, .int (sx_i a2)), (3, .int (sx_i a3))] []
  refine sx_aload_n C 0 dd_S_back_0 rfl rfl ?_
  refine sx_iload_n C 1 dd_S_back_1 rfl rfl ?_
  refine sx_aload_n C 0 dd_S_back_2 rfl rfl ?_
  refine sx_getr (ref := "StoneRings") C 0 3 rfl rfl (rfl : sr_cl[4]? = some ("StoneRings", tt_S, 10)) (by decide) in_S wd_134 rfl dd_S_back_3 ?_
  refine sx_invV (c0 := 0) C hZ [.int (sx_i a1), .ref (ad 5)] (fun sz2 => sm_S_follow hlf rfl rfl rfl rfl h sz2) (sx_cwV (n := 2) C.2.2.2.2.1 wd_354 wd_351 wd_353 wp_S_follow wd_1 rfl rfl (by decide +kernel) ⟨by decide, by decide⟩) rfl (rfl : sr_cl[4]? = some ("StoneRings", tt_S, 10)) rfl rfl (Nat.le_of_ble_eq_true rfl) dd_S_back_6 ⟨(Nat.le_of_ble_eq_true rfl), (Nat.le_of_ble_eq_true rfl)⟩ (sx_prop hlk ht (Nat.le_of_ble_eq_true rfl) (Nat.le_of_ble_eq_true rfl)) (fun v1 μ1 h => ?_)
  refine sx_iload_n C 2 dd_S_back_9 rfl rfl ?_
  refine sx_aload_n C 0 dd_S_back_10 rfl rfl ?_
  refine sx_getr (ref := "StoneRings") C 0 3 rfl rfl (rfl : sr_cl[4]? = some ("StoneRings", tt_S, 10)) (by decide) in_S wd_134 rfl dd_S_back_11 ?_
  refine sx_geti (K := 4) (ref := "StoneRings$Trace") C 5 4 rfl rfl rfl (rfl : sr_cl[3]? = some ("StoneRings$Trace", tt_T, 5)) (by decide) in_T wd_40 rfl dd_S_back_14 ?_
  refine sx_stcV C hZ [.int (sx_i a2), .int (sx_i (μ1 5 4))] (fun sz2 => sm_S_needPlace hlf h sz2) (sx_cwS (n := 2) C.2.2.2.2.1 wd_303 wd_301 wd_302 wd_1 rfl rfl (by decide +kernel) ⟨by decide, by decide⟩) rfl rfl (Nat.le_of_ble_eq_true rfl) dd_S_back_17 ⟨(Nat.le_of_ble_eq_true rfl), (Nat.le_of_ble_eq_true rfl)⟩ (sx_prop hlk ht (Nat.le_of_ble_eq_true rfl) (Nat.le_of_ble_eq_true rfl)) (fun v2 μ2 h => ?_)
  refine sx_iload_n C 3 dd_S_back_20 rfl rfl ?_
  refine sx_iconst C dd_S_back_21 rfl ?_
  refine sx_ldc (v := 100000) C dd_S_back_22 (by rw [show sx_i 100000 = 100000 from by decide +kernel]; exact wd_458) ?_
  refine sx_stcV C hZ [.int (sx_i a3), .int (sx_i 0), .int (sx_i 100000)] (fun sz2 => sm_S_needNumber hlf h sz2) (sx_cwS (n := 3) C.2.2.2.2.1 wd_268 wd_266 wd_267 wd_1 rfl rfl (by decide +kernel) ⟨by decide, by decide⟩) rfl rfl (Nat.le_of_ble_eq_true rfl) dd_S_back_24 ⟨(Nat.le_of_ble_eq_true rfl), (Nat.le_of_ble_eq_true rfl)⟩ (sx_prop hlk ht (Nat.le_of_ble_eq_true rfl) (Nat.le_of_ble_eq_true rfl)) (fun v3 μ3 h => ?_)
  refine sx_iload_n C 3 dd_S_back_27 rfl rfl ?_
  refine sx_aload_n C 0 dd_S_back_28 rfl rfl ?_
  refine sx_getr (ref := "StoneRings") C 0 3 rfl rfl (rfl : sr_cl[4]? = some ("StoneRings", tt_S, 10)) (by decide) in_S wd_134 rfl dd_S_back_29 ?_
  refine sx_getr (ref := "StoneRings$Trace") C 5 2 rfl rfl (rfl : sr_cl[3]? = some ("StoneRings$Trace", tt_T, 5)) (by decide) in_T wd_35 rfl dd_S_back_32 ?_
  refine sx_iload_n C 2 dd_S_back_35 rfl rfl ?_
  refine sx_iald (N := 8) C 8 rfl rfl (by decide) dd_S_back_36 h (fun h => ?_)
  refine sx_imul C dd_S_back_37 ?_
  refine sx_aload_n C 0 dd_S_back_38 rfl rfl ?_
  refine sx_getr (ref := "StoneRings") C 0 3 rfl rfl (rfl : sr_cl[4]? = some ("StoneRings", tt_S, 10)) (by decide) in_S wd_134 rfl dd_S_back_39 ?_
  refine sx_geti (K := 3) (ref := "StoneRings$Trace") C 5 3 rfl rfl rfl (rfl : sr_cl[3]? = some ("StoneRings$Trace", tt_T, 5)) (by decide) in_T wd_37 rfl dd_S_back_42 ?_
  refine sx_iconst C dd_S_back_45 rfl ?_
  refine sx_isub C dd_S_back_46 ?_
  refine sx_stcI C hZ [.int (sx_i (a3 * (μ3 8 a2))), .int (sx_i ((μ3 5 3) - 1))] (fun sz2 => sm_S_floorOf hlf h sz2) (sx_cwS (n := 2) C.2.2.2.2.1 wd_311 wd_459 wd_310 wd_1 rfl rfl (by decide +kernel) ⟨by decide, by decide⟩) rfl rfl (Nat.le_of_ble_eq_true rfl) dd_S_back_47 ⟨(Nat.le_of_ble_eq_true rfl), (Nat.le_of_ble_eq_true rfl)⟩ sx_noX (fun v4 μ4 h => ?_)
  exact sx_iret C hr hlk dd_S_back_50 h
def rm_D_has : Room := { frames := 1, cells := 0, slots := 0, locals := 22 }
set_option maxHeartbeats 4000000 in
set_option maxRecDepth 100000 in
theorem sm_D_has_15 (C : sx_C sr_lay sr_cl D cI cJ ad (sx_A sr_lay ad sz) 3 "StoneRings$Readings" prog_4_method_3_code sr_ts p s m args c) (hZ : sx_Z (sx_A sr_lay ad sz) s s.heap) (hr : meth.sig.returnType = (some .boolean)) (hlk : meth.locks = false) (ht : ∀ x ∈ c.exceptionTable.toList, False) (hlf : l.stackTraces = false) {y0 : Int} {μ : sx_M} (h : sw_D_has_15 Q y0 μ) : sx_V sr_lay sr_cl D cI cJ ad (sx_A sr_lay ad sz) 3 p l e rm_D_has s m args below meth c (vx_MQ below (sx_T (sx_QI sr_lay sr_cl D cI cJ ad Q sz)) (sx_XC sr_lay sr_cl D cI cJ ad (fun _ _ => False) sz) args s 0 0 (sx_A sr_lay ad sz)) 0 0 μ 15 [] [.int (sx_i y0)] := by
  unfold sw_D_has_15 at h
  exact sx_zret C hr hlk dd_D_has_15 h
set_option maxHeartbeats 4000000 in
set_option maxRecDepth 100000 in
theorem sm_D_has {l : Launch} {D : va_G} {cI cJ : ClassId} {ad : Nat → Nat} {Q : Int → sx_M → Prop} (hlf : l.stackTraces = false) {μ : sx_M} {a1 a2 : Int} (h : sw_D_has Q μ a1 a2) (sz : Nat) : sx_MI l yy_D_has (Cond.code yy_D_has prog_4_method_3_code 3 (some .boolean) :: sr_ts) rm_D_has sr_lay sr_cl D cI cJ ad [.ref (ad 16), .int (sx_i a1), .int (sx_i a2)] μ Q (fun _ _ => False) 0 0 sz := by
  refine sx_body (plainFor_of_name (by decide +kernel)) rfl (Nat.le_of_ble_eq_true rfl) ?_
  intro p e s m below meth c C hZ hr hlk ht
  unfold sw_D_has at h
  show sx_V sr_lay sr_cl D cI cJ ad (sx_A sr_lay ad sz) 3 p l e rm_D_has s m _ below meth c (vx_MQ below (sx_T (sx_QI sr_lay sr_cl D cI cJ ad Q sz)) (sx_XC sr_lay sr_cl D cI cJ ad (fun _ _ => False) sz) _ s 0 0 (sx_A sr_lay ad sz)) 0 0 μ 0 [(0, .ref (ad 16)), (1, .int (sx_i a1)), (2, .int (sx_i a2))] []
  refine sx_aload_n C 0 dd_D_has_0 rfl rfl ?_
  refine sx_iload_n C 1 dd_D_has_1 rfl rfl ?_
  refine sx_iload_n C 2 dd_D_has_2 rfl rfl ?_
  refine sx_invI (c0 := 16) C hZ [.int (sx_i a1), .int (sx_i a2)] (fun sz2 => sm_D_of hlf h sz2) (sx_cwV (n := 2) C.2.2.2.2.1 wd_177 wd_174 wd_175 wd_176 wd_4 rfl rfl (by decide +kernel) ⟨by decide, by decide⟩) rfl (rfl : sr_cl[2]? = some ("StoneRings$Readings", tt_D, 3)) rfl rfl (Nat.le_of_ble_eq_true rfl) dd_D_has_3 ⟨(Nat.le_of_ble_eq_true rfl), (Nat.le_of_ble_eq_true rfl)⟩ sx_noX (fun v1 μ1 h => ?_)
  refine sx_iconst C dd_D_has_6 rfl ?_
  refine sx_icmp_eq (tgt := 14) C dd_D_has_7 (by decide) h (fun h => ?_) (fun h => ?_)
  · refine sx_iconst C dd_D_has_14 rfl ?_
    refine sx_less (lu := []) C [] rfl ?_
    exact sm_D_has_15 C hZ hr hlk ht hlf h
  · refine sx_iconst C dd_D_has_10 rfl ?_
    refine sx_goto (tgt := 15) C dd_D_has_11 (by decide) ?_
    refine sx_less (lu := []) C [] rfl ?_
    exact sm_D_has_15 C hZ hr hlk ht hlf h
def rm_D_put : Room := { frames := 0, cells := 0, slots := 0, locals := 0 }
set_option maxHeartbeats 4000000 in
set_option maxRecDepth 100000 in
theorem sm_D_put {l : Launch} {D : va_G} {cI cJ : ClassId} {ad : Nat → Nat} {Q : Int → sx_M → Prop} (hlf : l.stackTraces = false) {μ : sx_M} {a1 a2 a3 : Int} (h : sw_D_put Q μ a1 a2 a3) (sz : Nat) : sx_MV l yy_D_put (Cond.code yy_D_put prog_4_method_4_code 4 none :: sr_ts) rm_D_put sr_lay sr_cl D cI cJ ad [.ref (ad 16), .int (sx_i a1), .int (sx_i a2), .int (sx_i a3)] μ Q (fun _ _ => False) 0 0 sz := by
  refine sx_body (plainFor_of_name (by decide +kernel)) rfl (Nat.le_of_ble_eq_true rfl) ?_
  intro p e s m below meth c C hZ hr hlk ht
  unfold sw_D_put at h
  show sx_V sr_lay sr_cl D cI cJ ad (sx_A sr_lay ad sz) 4 p l e rm_D_put s m _ below meth c (vx_MQ below (sx_T (sx_QV sr_lay sr_cl D cI cJ ad Q sz)) (sx_XC sr_lay sr_cl D cI cJ ad (fun _ _ => False) sz) _ s 0 0 (sx_A sr_lay ad sz)) 0 0 μ 0 [(0, .ref (ad 16)), (1, .int (sx_i a1)), (2, .int (sx_i a2)), (3, .int (sx_i a3))] []
  refine sx_aload_n C 0 dd_D_put_0 rfl rfl ?_
  refine sx_getr (ref := "StoneRings$Readings") C 16 0 rfl rfl (rfl : sr_cl[2]? = some ("StoneRings$Readings", tt_D, 3)) (by decide) in_D wd_84 rfl dd_D_put_1 ?_
  refine sx_iload_n C 1 dd_D_put_4 rfl rfl ?_
  refine sx_bipush (v := 20) C dd_D_put_5 (by decide +kernel) ?_
  refine sx_imul C dd_D_put_7 ?_
  refine sx_iload_n C 2 dd_D_put_8 rfl rfl ?_
  refine sx_iadd C dd_D_put_9 ?_
  refine sx_iload_n C 3 dd_D_put_10 rfl rfl ?_
  refine sx_iast (N := 80) C 17 rfl rfl (by decide) dd_D_put_11 h (fun h => ?_)
  refine sx_aload_n C 0 dd_D_put_12 rfl rfl ?_
  refine sx_dup C dd_D_put_13 rfl ?_
  refine sx_geti (K := 2) (ref := "StoneRings$Readings") C 16 2 rfl rfl rfl (rfl : sr_cl[2]? = some ("StoneRings$Readings", tt_D, 3)) (by decide) in_D wd_86 rfl dd_D_put_14 ?_
  refine sx_iconst C dd_D_put_17 rfl ?_
  refine sx_iadd C dd_D_put_18 ?_
  refine sx_puti (K := 2) (ref := "StoneRings$Readings") (ty := .int) C 16 2 rfl rfl rfl (rfl : sr_cl[2]? = some ("StoneRings$Readings", tt_D, 3)) (by decide) in_D ty_D tyk_D nm_D wd_86 rfl rfl (by decide +kernel) rfl rfl dd_D_put_19 ?_
  exact sx_vret C hr hlk dd_D_put_22 h
def rm_S_tell : Room := { frames := 7, cells := 1, slots := 6, locals := 104 }
set_option maxHeartbeats 4000000 in
set_option maxRecDepth 100000 in
theorem sm_S_tell {l : Launch} {D : va_G} {cI cJ : ClassId} {ad : Nat → Nat} {Q : Int → sx_M → Prop} {X : String → sx_M → Prop} (hlf : l.stackTraces = false) {μ : sx_M} {a1 a2 a3 : Int} (h : sw_S_tell Q X μ a1 a2 a3) (sz : Nat) : sx_MV l yy_S_tell (Cond.code yy_S_tell prog_1_method_13_code 4 none :: sr_ts) rm_S_tell sr_lay sr_cl D cI cJ ad [.ref (ad 0), .int (sx_i a1), .int (sx_i a2), .int (sx_i a3)] μ Q X 1 6 sz := by
  refine sx_body (plainFor_of_name (by decide +kernel)) rfl (Nat.le_of_ble_eq_true rfl) ?_
  intro p e s m below meth c C hZ hr hlk ht
  unfold sw_S_tell at h
  show sx_V sr_lay sr_cl D cI cJ ad (sx_A sr_lay ad sz) 4 p l e rm_S_tell s m _ below meth c (vx_MQ below (sx_T (sx_QV sr_lay sr_cl D cI cJ ad Q sz)) (sx_XC sr_lay sr_cl D cI cJ ad X sz) _ s 1 6 (sx_A sr_lay ad sz)) 0 0 μ 0 [(0, .ref (ad 0)), (1, .int (sx_i a1)), (2, .int (sx_i a2)), (3, .int (sx_i a3))] []
  refine sx_iload_n C 1 dd_S_tell_0 rfl rfl ?_
  refine sx_iconst C dd_S_tell_1 rfl ?_
  refine sx_stcV C hZ [.int (sx_i a1), .int (sx_i 4)] (fun sz2 => sm_S_needPlace hlf h sz2) (sx_cwS (n := 2) C.2.2.2.2.1 wd_303 wd_301 wd_302 wd_1 rfl rfl (by decide +kernel) ⟨by decide, by decide⟩) rfl rfl (Nat.le_of_ble_eq_true rfl) dd_S_tell_2 ⟨(Nat.le_of_ble_eq_true rfl), (Nat.le_of_ble_eq_true rfl)⟩ (sx_prop hlk ht (Nat.le_of_ble_eq_true rfl) (Nat.le_of_ble_eq_true rfl)) (fun v1 μ1 h => ?_)
  refine sx_iload_n C 2 dd_S_tell_5 rfl rfl ?_
  refine sx_bipush (v := 20) C dd_S_tell_6 (by decide +kernel) ?_
  refine sx_stcV C hZ [.int (sx_i a2), .int (sx_i 20)] (fun sz2 => sm_S_needPlace hlf h sz2) (sx_cwS (n := 2) C.2.2.2.2.1 wd_303 wd_301 wd_302 wd_1 rfl rfl (by decide +kernel) ⟨by decide, by decide⟩) rfl rfl (Nat.le_of_ble_eq_true rfl) dd_S_tell_8 ⟨(Nat.le_of_ble_eq_true rfl), (Nat.le_of_ble_eq_true rfl)⟩ (sx_prop hlk ht (Nat.le_of_ble_eq_true rfl) (Nat.le_of_ble_eq_true rfl)) (fun v2 μ2 h => ?_)
  refine sx_iload_n C 3 dd_S_tell_11 rfl rfl ?_
  refine sx_iconst C dd_S_tell_12 rfl ?_
  refine sx_bipush (v := 60) C dd_S_tell_13 (by decide +kernel) ?_
  refine sx_stcV C hZ [.int (sx_i a3), .int (sx_i 0), .int (sx_i 60)] (fun sz2 => sm_S_needNumber hlf h sz2) (sx_cwS (n := 3) C.2.2.2.2.1 wd_268 wd_266 wd_267 wd_1 rfl rfl (by decide +kernel) ⟨by decide, by decide⟩) rfl rfl (Nat.le_of_ble_eq_true rfl) dd_S_tell_15 ⟨(Nat.le_of_ble_eq_true rfl), (Nat.le_of_ble_eq_true rfl)⟩ (sx_prop hlk ht (Nat.le_of_ble_eq_true rfl) (Nat.le_of_ble_eq_true rfl)) (fun v3 μ3 h => ?_)
  refine sx_aload_n C 0 dd_S_tell_18 rfl rfl ?_
  refine sx_getr (ref := "StoneRings") C 0 6 rfl rfl (rfl : sr_cl[4]? = some ("StoneRings", tt_S, 10)) (by decide) in_S wd_137 rfl dd_S_tell_19 ?_
  refine sx_iload_n C 1 dd_S_tell_22 rfl rfl ?_
  refine sx_iload_n C 2 dd_S_tell_23 rfl rfl ?_
  refine sx_invI (c0 := 16) C hZ [.int (sx_i a1), .int (sx_i a2)] (fun sz2 => sm_D_has hlf h sz2) (sx_cwV (n := 2) C.2.2.2.2.1 wd_470 wd_467 wd_468 wd_469 wd_4 rfl rfl (by decide +kernel) ⟨by decide, by decide⟩) rfl (rfl : sr_cl[2]? = some ("StoneRings$Readings", tt_D, 3)) rfl rfl (Nat.le_of_ble_eq_true rfl) dd_S_tell_24 ⟨(Nat.le_of_ble_eq_true rfl), (Nat.le_of_ble_eq_true rfl)⟩ sx_noX (fun v4 μ4 h => ?_)
  refine sx_if_eq (tgt := 40) C dd_S_tell_27 (by decide) h (fun h => ?_) (fun h => ?_)
  · refine sx_aload_n C 0 dd_S_tell_40 rfl rfl ?_
    refine sx_getr (ref := "StoneRings") C 0 6 rfl rfl (rfl : sr_cl[4]? = some ("StoneRings", tt_S, 10)) (by decide) in_S wd_137 rfl dd_S_tell_41 ?_
    refine sx_iload_n C 1 dd_S_tell_44 rfl rfl ?_
    refine sx_iload_n C 2 dd_S_tell_45 rfl rfl ?_
    refine sx_iload_n C 3 dd_S_tell_46 rfl rfl ?_
    refine sx_invV (c0 := 16) C hZ [.int (sx_i a1), .int (sx_i a2), .int (sx_i a3)] (fun sz2 => sm_D_put hlf h sz2) (sx_cwV (n := 3) C.2.2.2.2.1 wd_475 wd_472 wd_473 wd_474 wd_4 rfl rfl (by decide +kernel) ⟨by decide, by decide⟩) rfl (rfl : sr_cl[2]? = some ("StoneRings$Readings", tt_D, 3)) rfl rfl (Nat.le_of_ble_eq_true rfl) dd_S_tell_47 ⟨(Nat.le_of_ble_eq_true rfl), (Nat.le_of_ble_eq_true rfl)⟩ sx_noX (fun v5 μ5 h => ?_)
    exact sx_vret C hr hlk dd_S_tell_50 h
  · exact sx_throw (cls := "java/lang/IllegalStateException") (text := "the reader told a count of that stone before") (names := ["java/lang/RuntimeException", "java/lang/Exception"]) C hlf hZ hlk ht (by decide +kernel) (by decide +kernel) wd_328 wd_14 (List.mem_of_getElem? (i := 6) rfl) at_S_101 gd_S_97_101 dd_S_tell_30 dd_S_tell_33 dd_S_tell_34 dd_S_tell_36 dd_S_tell_39 (by decide) (Nat.le_of_ble_eq_true rfl) (by decide) (by decide) (by decide) (by decide) h
def rm_S_may : Room := { frames := 7, cells := 1, slots := 6, locals := 103 }
set_option maxHeartbeats 4000000 in
set_option maxRecDepth 100000 in
theorem sm_S_may {l : Launch} {D : va_G} {cI cJ : ClassId} {ad : Nat → Nat} {Q : Int → sx_M → Prop} {X : String → sx_M → Prop} (hlf : l.stackTraces = false) {μ : sx_M} {a1 a2 : Int} (h : sw_S_may Q X μ a1 a2) (sz : Nat) : sx_MI l yy_S_may (Cond.code yy_S_may prog_1_method_14_code 3 (some .boolean) :: sr_ts) rm_S_may sr_lay sr_cl D cI cJ ad [.ref (ad 0), .int (sx_i a1), .int (sx_i a2)] μ Q X 1 6 sz := by
  refine sx_body (plainFor_of_name (by decide +kernel)) rfl (Nat.le_of_ble_eq_true rfl) ?_
  intro p e s m below meth c C hZ hr hlk ht
  unfold sw_S_may at h
  show sx_V sr_lay sr_cl D cI cJ ad (sx_A sr_lay ad sz) 3 p l e rm_S_may s m _ below meth c (vx_MQ below (sx_T (sx_QI sr_lay sr_cl D cI cJ ad Q sz)) (sx_XC sr_lay sr_cl D cI cJ ad X sz) _ s 1 6 (sx_A sr_lay ad sz)) 0 0 μ 0 [(0, .ref (ad 0)), (1, .int (sx_i a1)), (2, .int (sx_i a2))] []
  refine sx_iload_n C 1 dd_S_may_0 rfl rfl ?_
  refine sx_iconst C dd_S_may_1 rfl ?_
  refine sx_stcV C hZ [.int (sx_i a1), .int (sx_i 4)] (fun sz2 => sm_S_needPlace hlf h sz2) (sx_cwS (n := 2) C.2.2.2.2.1 wd_303 wd_301 wd_302 wd_1 rfl rfl (by decide +kernel) ⟨by decide, by decide⟩) rfl rfl (Nat.le_of_ble_eq_true rfl) dd_S_may_2 ⟨(Nat.le_of_ble_eq_true rfl), (Nat.le_of_ble_eq_true rfl)⟩ (sx_prop hlk ht (Nat.le_of_ble_eq_true rfl) (Nat.le_of_ble_eq_true rfl)) (fun v1 μ1 h => ?_)
  refine sx_iload_n C 2 dd_S_may_5 rfl rfl ?_
  refine sx_bipush (v := 20) C dd_S_may_6 (by decide +kernel) ?_
  refine sx_stcV C hZ [.int (sx_i a2), .int (sx_i 20)] (fun sz2 => sm_S_needPlace hlf h sz2) (sx_cwS (n := 2) C.2.2.2.2.1 wd_303 wd_301 wd_302 wd_1 rfl rfl (by decide +kernel) ⟨by decide, by decide⟩) rfl rfl (Nat.le_of_ble_eq_true rfl) dd_S_may_8 ⟨(Nat.le_of_ble_eq_true rfl), (Nat.le_of_ble_eq_true rfl)⟩ (sx_prop hlk ht (Nat.le_of_ble_eq_true rfl) (Nat.le_of_ble_eq_true rfl)) (fun v2 μ2 h => ?_)
  refine sx_aload_n C 0 dd_S_may_11 rfl rfl ?_
  refine sx_getr (ref := "StoneRings") C 0 6 rfl rfl (rfl : sr_cl[4]? = some ("StoneRings", tt_S, 10)) (by decide) in_S wd_137 rfl dd_S_may_12 ?_
  refine sx_iload_n C 1 dd_S_may_15 rfl rfl ?_
  refine sx_iload_n C 2 dd_S_may_16 rfl rfl ?_
  refine sx_invI (c0 := 16) C hZ [.int (sx_i a1), .int (sx_i a2)] (fun sz2 => sm_D_has hlf h sz2) (sx_cwV (n := 2) C.2.2.2.2.1 wd_470 wd_467 wd_468 wd_469 wd_4 rfl rfl (by decide +kernel) ⟨by decide, by decide⟩) rfl (rfl : sr_cl[2]? = some ("StoneRings$Readings", tt_D, 3)) rfl rfl (Nat.le_of_ble_eq_true rfl) dd_S_may_17 ⟨(Nat.le_of_ble_eq_true rfl), (Nat.le_of_ble_eq_true rfl)⟩ sx_noX (fun v3 μ3 h => ?_)
  exact sx_zret C hr hlk dd_S_may_20 h
def rm_S_seen : Room := { frames := 7, cells := 1, slots := 6, locals := 103 }
set_option maxHeartbeats 4000000 in
set_option maxRecDepth 100000 in
theorem sm_S_seen {l : Launch} {D : va_G} {cI cJ : ClassId} {ad : Nat → Nat} {Q : Int → sx_M → Prop} {X : String → sx_M → Prop} (hlf : l.stackTraces = false) {μ : sx_M} {a1 a2 a3 : Int} (h : sw_S_seen Q X μ a1 a2 a3) (sz : Nat) : sx_MI l yy_S_seen (Cond.code yy_S_seen prog_1_method_15_code 4 (some .int) :: sr_ts) rm_S_seen sr_lay sr_cl D cI cJ ad [.ref (ad 0), .int (sx_i a1), .int (sx_i a2), .int (sx_i a3)] μ Q X 1 6 sz := by
  refine sx_body (plainFor_of_name (by decide +kernel)) rfl (Nat.le_of_ble_eq_true rfl) ?_
  intro p e s m below meth c C hZ hr hlk ht
  unfold sw_S_seen at h
  show sx_V sr_lay sr_cl D cI cJ ad (sx_A sr_lay ad sz) 4 p l e rm_S_seen s m _ below meth c (vx_MQ below (sx_T (sx_QI sr_lay sr_cl D cI cJ ad Q sz)) (sx_XC sr_lay sr_cl D cI cJ ad X sz) _ s 1 6 (sx_A sr_lay ad sz)) 0 0 μ 0 [(0, .ref (ad 0)), (1, .int (sx_i a1)), (2, .int (sx_i a2)), (3, .int (sx_i a3))] []
  refine sx_iload_n C 1 dd_S_seen_0 rfl rfl ?_
  refine sx_iconst C dd_S_seen_1 rfl ?_
  refine sx_stcV C hZ [.int (sx_i a1), .int (sx_i 4)] (fun sz2 => sm_S_needPlace hlf h sz2) (sx_cwS (n := 2) C.2.2.2.2.1 wd_303 wd_301 wd_302 wd_1 rfl rfl (by decide +kernel) ⟨by decide, by decide⟩) rfl rfl (Nat.le_of_ble_eq_true rfl) dd_S_seen_2 ⟨(Nat.le_of_ble_eq_true rfl), (Nat.le_of_ble_eq_true rfl)⟩ (sx_prop hlk ht (Nat.le_of_ble_eq_true rfl) (Nat.le_of_ble_eq_true rfl)) (fun v1 μ1 h => ?_)
  refine sx_iload_n C 2 dd_S_seen_5 rfl rfl ?_
  refine sx_iconst C dd_S_seen_6 rfl ?_
  refine sx_stcV C hZ [.int (sx_i a2), .int (sx_i 4)] (fun sz2 => sm_S_needPlace hlf h sz2) (sx_cwS (n := 2) C.2.2.2.2.1 wd_303 wd_301 wd_302 wd_1 rfl rfl (by decide +kernel) ⟨by decide, by decide⟩) rfl rfl (Nat.le_of_ble_eq_true rfl) dd_S_seen_7 ⟨(Nat.le_of_ble_eq_true rfl), (Nat.le_of_ble_eq_true rfl)⟩ (sx_prop hlk ht (Nat.le_of_ble_eq_true rfl) (Nat.le_of_ble_eq_true rfl)) (fun v2 μ2 h => ?_)
  refine sx_iload_n C 3 dd_S_seen_10 rfl rfl ?_
  refine sx_bipush (v := 20) C dd_S_seen_11 (by decide +kernel) ?_
  refine sx_stcV C hZ [.int (sx_i a3), .int (sx_i 20)] (fun sz2 => sm_S_needPlace hlf h sz2) (sx_cwS (n := 2) C.2.2.2.2.1 wd_303 wd_301 wd_302 wd_1 rfl rfl (by decide +kernel) ⟨by decide, by decide⟩) rfl rfl (Nat.le_of_ble_eq_true rfl) dd_S_seen_13 ⟨(Nat.le_of_ble_eq_true rfl), (Nat.le_of_ble_eq_true rfl)⟩ (sx_prop hlk ht (Nat.le_of_ble_eq_true rfl) (Nat.le_of_ble_eq_true rfl)) (fun v3 μ3 h => ?_)
  refine sx_aload_n C 0 dd_S_seen_16 rfl rfl ?_
  refine sx_getr (ref := "StoneRings") C 0 6 rfl rfl (rfl : sr_cl[4]? = some ("StoneRings", tt_S, 10)) (by decide) in_S wd_137 rfl dd_S_seen_17 ?_
  refine sx_iload_n C 1 dd_S_seen_20 rfl rfl ?_
  refine sx_iload_n C 3 dd_S_seen_21 rfl rfl ?_
  refine sx_invI (c0 := 16) C hZ [.int (sx_i a1), .int (sx_i a3)] (fun sz2 => sm_D_has hlf h sz2) (sx_cwV (n := 2) C.2.2.2.2.1 wd_470 wd_467 wd_468 wd_469 wd_4 rfl rfl (by decide +kernel) ⟨by decide, by decide⟩) rfl (rfl : sr_cl[2]? = some ("StoneRings$Readings", tt_D, 3)) rfl rfl (Nat.le_of_ble_eq_true rfl) dd_S_seen_22 ⟨(Nat.le_of_ble_eq_true rfl), (Nat.le_of_ble_eq_true rfl)⟩ sx_noX (fun v4 μ4 h => ?_)
  refine sx_if_ne (tgt := 38) C dd_S_seen_25 (by decide) h (fun h => ?_) (fun h => ?_)
  · refine sx_aload_n C 0 dd_S_seen_38 rfl rfl ?_
    refine sx_getr (ref := "StoneRings") C 0 6 rfl rfl (rfl : sr_cl[4]? = some ("StoneRings", tt_S, 10)) (by decide) in_S wd_137 rfl dd_S_seen_39 ?_
    refine sx_iload_n C 2 dd_S_seen_42 rfl rfl ?_
    refine sx_iload_n C 3 dd_S_seen_43 rfl rfl ?_
    refine sx_invI (c0 := 16) C hZ [.int (sx_i a2), .int (sx_i a3)] (fun sz2 => sm_D_of hlf h sz2) (sx_cwV (n := 2) C.2.2.2.2.1 wd_177 wd_491 wd_175 wd_176 wd_4 rfl rfl (by decide +kernel) ⟨by decide, by decide⟩) rfl (rfl : sr_cl[2]? = some ("StoneRings$Readings", tt_D, 3)) rfl rfl (Nat.le_of_ble_eq_true rfl) dd_S_seen_44 ⟨(Nat.le_of_ble_eq_true rfl), (Nat.le_of_ble_eq_true rfl)⟩ sx_noX (fun v5 μ5 h => ?_)
    exact sx_iret C hr hlk dd_S_seen_47 h
  · exact sx_throw (cls := "java/lang/IllegalStateException") (text := "the reader told no count of that stone yet") (names := ["java/lang/RuntimeException", "java/lang/Exception"]) C hlf hZ hlk ht (by decide +kernel) (by decide +kernel) wd_328 wd_14 (List.mem_of_getElem? (i := 7) rfl) at_S_101 gd_S_97_101 dd_S_seen_28 dd_S_seen_31 dd_S_seen_32 dd_S_seen_34 dd_S_seen_37 (by decide) (Nat.le_of_ble_eq_true rfl) (by decide) (by decide) (by decide) (by decide) h
def rm_S_needPair : Room := { frames := 7, cells := 1, slots := 6, locals := 103 }
set_option maxHeartbeats 4000000 in
set_option maxRecDepth 100000 in
theorem sm_S_needPair {l : Launch} {D : va_G} {cI cJ : ClassId} {ad : Nat → Nat} {Q : Int → sx_M → Prop} {X : String → sx_M → Prop} (hlf : l.stackTraces = false) {μ : sx_M} {a0 a1 a2 : Int} (h : sw_S_needPair Q X μ a0 a1 a2) (sz : Nat) : sx_MV l yy_S_needPair (Cond.code yy_S_needPair prog_1_method_27_code 3 none :: sr_ts) rm_S_needPair sr_lay sr_cl D cI cJ ad [.int (sx_i a0), .int (sx_i a1), .int (sx_i a2)] μ Q X 1 6 sz := by
  refine sx_body (plainFor_of_name (by decide +kernel)) rfl (Nat.le_of_ble_eq_true rfl) ?_
  intro p e s m below meth c C hZ hr hlk ht
  unfold sw_S_needPair at h
  show sx_V sr_lay sr_cl D cI cJ ad (sx_A sr_lay ad sz) 3 p l e rm_S_needPair s m _ below meth c (vx_MQ below (sx_T (sx_QV sr_lay sr_cl D cI cJ ad Q sz)) (sx_XC sr_lay sr_cl D cI cJ ad X sz) _ s 1 6 (sx_A sr_lay ad sz)) 0 0 μ 0 [(0, .int (sx_i a0)), (1, .int (sx_i a1)), (2, .int (sx_i a2))] []
  refine sx_iload_n C 0 dd_S_needPair_0 rfl rfl ?_
  refine sx_iconst C dd_S_needPair_1 rfl ?_
  refine sx_stcV C hZ [.int (sx_i a0), .int (sx_i 4)] (fun sz2 => sm_S_needPlace hlf h sz2) (sx_cwS (n := 2) C.2.2.2.2.1 wd_303 wd_301 wd_302 wd_1 rfl rfl (by decide +kernel) ⟨by decide, by decide⟩) rfl rfl (Nat.le_of_ble_eq_true rfl) dd_S_needPair_2 ⟨(Nat.le_of_ble_eq_true rfl), (Nat.le_of_ble_eq_true rfl)⟩ (sx_prop hlk ht (Nat.le_of_ble_eq_true rfl) (Nat.le_of_ble_eq_true rfl)) (fun v1 μ1 h => ?_)
  refine sx_iload_n C 1 dd_S_needPair_5 rfl rfl ?_
  refine sx_iconst C dd_S_needPair_6 rfl ?_
  refine sx_stcV C hZ [.int (sx_i a1), .int (sx_i 4)] (fun sz2 => sm_S_needPlace hlf h sz2) (sx_cwS (n := 2) C.2.2.2.2.1 wd_303 wd_301 wd_302 wd_1 rfl rfl (by decide +kernel) ⟨by decide, by decide⟩) rfl rfl (Nat.le_of_ble_eq_true rfl) dd_S_needPair_7 ⟨(Nat.le_of_ble_eq_true rfl), (Nat.le_of_ble_eq_true rfl)⟩ (sx_prop hlk ht (Nat.le_of_ble_eq_true rfl) (Nat.le_of_ble_eq_true rfl)) (fun v2 μ2 h => ?_)
  refine sx_iload_n C 2 dd_S_needPair_10 rfl rfl ?_
  refine sx_iconst C dd_S_needPair_11 rfl ?_
  refine sx_stcV C hZ [.int (sx_i a2), .int (sx_i 2)] (fun sz2 => sm_S_needPlace hlf h sz2) (sx_cwS (n := 2) C.2.2.2.2.1 wd_303 wd_301 wd_302 wd_1 rfl rfl (by decide +kernel) ⟨by decide, by decide⟩) rfl rfl (Nat.le_of_ble_eq_true rfl) dd_S_needPair_12 ⟨(Nat.le_of_ble_eq_true rfl), (Nat.le_of_ble_eq_true rfl)⟩ (sx_prop hlk ht (Nat.le_of_ble_eq_true rfl) (Nat.le_of_ble_eq_true rfl)) (fun v3 μ3 h => ?_)
  exact sx_vret C hr hlk dd_S_needPair_15 h
def rm_D_bothTold : Room := { frames := 2, cells := 0, slots := 0, locals := 44 }
set_option maxHeartbeats 4000000 in
set_option maxRecDepth 100000 in
theorem sm_D_bothTold_23 (C : sx_C sr_lay sr_cl D cI cJ ad (sx_A sr_lay ad sz) 4 "StoneRings$Readings" prog_4_method_5_code sr_ts p s m args c) (hZ : sx_Z (sx_A sr_lay ad sz) s s.heap) (hr : meth.sig.returnType = (some .boolean)) (hlk : meth.locks = false) (ht : ∀ x ∈ c.exceptionTable.toList, False) (hlf : l.stackTraces = false) {y0 : Int} {μ : sx_M} (h : sw_D_bothTold_23 Q y0 μ) : sx_V sr_lay sr_cl D cI cJ ad (sx_A sr_lay ad sz) 4 p l e rm_D_bothTold s m args below meth c (vx_MQ below (sx_T (sx_QI sr_lay sr_cl D cI cJ ad Q sz)) (sx_XC sr_lay sr_cl D cI cJ ad (fun _ _ => False) sz) args s 0 0 (sx_A sr_lay ad sz)) 0 0 μ 23 [] [.int (sx_i y0)] := by
  unfold sw_D_bothTold_23 at h
  exact sx_zret C hr hlk dd_D_bothTold_23 h
set_option maxHeartbeats 4000000 in
set_option maxRecDepth 100000 in
theorem sm_D_bothTold_22 (C : sx_C sr_lay sr_cl D cI cJ ad (sx_A sr_lay ad sz) 4 "StoneRings$Readings" prog_4_method_5_code sr_ts p s m args c) (hZ : sx_Z (sx_A sr_lay ad sz) s s.heap) (hr : meth.sig.returnType = (some .boolean)) (hlk : meth.locks = false) (ht : ∀ x ∈ c.exceptionTable.toList, False) (hlf : l.stackTraces = false) {μ : sx_M} (h : sw_D_bothTold_22 Q μ) : sx_V sr_lay sr_cl D cI cJ ad (sx_A sr_lay ad sz) 4 p l e rm_D_bothTold s m args below meth c (vx_MQ below (sx_T (sx_QI sr_lay sr_cl D cI cJ ad Q sz)) (sx_XC sr_lay sr_cl D cI cJ ad (fun _ _ => False) sz) args s 0 0 (sx_A sr_lay ad sz)) 0 0 μ 22 [] [] := by
  unfold sw_D_bothTold_22 at h
  refine sx_iconst C dd_D_bothTold_22 rfl ?_
  exact sm_D_bothTold_23 C hZ hr hlk ht hlf h
set_option maxHeartbeats 4000000 in
set_option maxRecDepth 100000 in
theorem sm_D_bothTold {l : Launch} {D : va_G} {cI cJ : ClassId} {ad : Nat → Nat} {Q : Int → sx_M → Prop} (hlf : l.stackTraces = false) {μ : sx_M} {a1 a2 a3 : Int} (h : sw_D_bothTold Q μ a1 a2 a3) (sz : Nat) : sx_MI l yy_D_bothTold (Cond.code yy_D_bothTold prog_4_method_5_code 4 (some .boolean) :: sr_ts) rm_D_bothTold sr_lay sr_cl D cI cJ ad [.ref (ad 16), .int (sx_i a1), .int (sx_i a2), .int (sx_i a3)] μ Q (fun _ _ => False) 0 0 sz := by
  refine sx_body (plainFor_of_name (by decide +kernel)) rfl (Nat.le_of_ble_eq_true rfl) ?_
  intro p e s m below meth c C hZ hr hlk ht
  unfold sw_D_bothTold at h
  show sx_V sr_lay sr_cl D cI cJ ad (sx_A sr_lay ad sz) 4 p l e rm_D_bothTold s m _ below meth c (vx_MQ below (sx_T (sx_QI sr_lay sr_cl D cI cJ ad Q sz)) (sx_XC sr_lay sr_cl D cI cJ ad (fun _ _ => False) sz) _ s 0 0 (sx_A sr_lay ad sz)) 0 0 μ 0 [(0, .ref (ad 16)), (1, .int (sx_i a1)), (2, .int (sx_i a2)), (3, .int (sx_i a3))] []
  refine sx_aload_n C 0 dd_D_bothTold_0 rfl rfl ?_
  refine sx_iload_n C 1 dd_D_bothTold_1 rfl rfl ?_
  refine sx_iload_n C 3 dd_D_bothTold_2 rfl rfl ?_
  refine sx_invI (c0 := 16) C hZ [.int (sx_i a1), .int (sx_i a3)] (fun sz2 => sm_D_has hlf h sz2) (sx_cwV (n := 2) C.2.2.2.2.1 wd_470 wd_510 wd_468 wd_469 wd_4 rfl rfl (by decide +kernel) ⟨by decide, by decide⟩) rfl (rfl : sr_cl[2]? = some ("StoneRings$Readings", tt_D, 3)) rfl rfl (Nat.le_of_ble_eq_true rfl) dd_D_bothTold_3 ⟨(Nat.le_of_ble_eq_true rfl), (Nat.le_of_ble_eq_true rfl)⟩ sx_noX (fun v1 μ1 h => ?_)
  refine sx_if_eq (tgt := 22) C dd_D_bothTold_6 (by decide) h (fun h => ?_) (fun h => ?_)
  · refine sx_less (lu := []) C [] rfl ?_
    exact sm_D_bothTold_22 C hZ hr hlk ht hlf h
  · refine sx_aload_n C 0 dd_D_bothTold_9 rfl rfl ?_
    refine sx_iload_n C 2 dd_D_bothTold_10 rfl rfl ?_
    refine sx_iload_n C 3 dd_D_bothTold_11 rfl rfl ?_
    refine sx_invI (c0 := 16) C hZ [.int (sx_i a2), .int (sx_i a3)] (fun sz2 => sm_D_has hlf h sz2) (sx_cwV (n := 2) C.2.2.2.2.1 wd_470 wd_510 wd_468 wd_469 wd_4 rfl rfl (by decide +kernel) ⟨by decide, by decide⟩) rfl (rfl : sr_cl[2]? = some ("StoneRings$Readings", tt_D, 3)) rfl rfl (Nat.le_of_ble_eq_true rfl) dd_D_bothTold_12 ⟨(Nat.le_of_ble_eq_true rfl), (Nat.le_of_ble_eq_true rfl)⟩ sx_noX (fun v2 μ2 h => ?_)
    refine sx_if_eq (tgt := 22) C dd_D_bothTold_15 (by decide) h (fun h => ?_) (fun h => ?_)
    · refine sx_less (lu := []) C [] rfl ?_
      exact sm_D_bothTold_22 C hZ hr hlk ht hlf h
    · refine sx_iconst C dd_D_bothTold_18 rfl ?_
      refine sx_goto (tgt := 23) C dd_D_bothTold_19 (by decide) ?_
      refine sx_less (lu := []) C [] rfl ?_
      exact sm_D_bothTold_23 C hZ hr hlk ht hlf h
def rm_D_alike : Room := { frames := 3, cells := 0, slots := 0, locals := 67 }
set_option maxHeartbeats 4000000 in
set_option maxRecDepth 100000 in
theorem sm_D_alike_43 (C : sx_C sr_lay sr_cl D cI cJ ad (sx_A sr_lay ad sz) 5 "StoneRings$Readings" prog_4_method_7_code sr_ts p s m args c) (hZ : sx_Z (sx_A sr_lay ad sz) s s.heap) (hr : meth.sig.returnType = (some .int)) (hlk : meth.locks = false) (ht : ∀ x ∈ c.exceptionTable.toList, False) (hlf : l.stackTraces = false) {r5 : Int → Int → Int → Int → sx_M → Prop} (hr5 : ∀ (x1 x2 x3 x4 : Int) (μ : sx_M), r5 x1 x2 x3 x4 μ → sx_V sr_lay sr_cl D cI cJ ad (sx_A sr_lay ad sz) 5 p l e rm_D_alike s m args below meth c (vx_MQ below (sx_T (sx_QI sr_lay sr_cl D cI cJ ad Q sz)) (sx_XC sr_lay sr_cl D cI cJ ad (fun _ _ => False) sz) args s 0 0 (sx_A sr_lay ad sz)) 0 0 μ 5 [(0, .ref (ad 16)), (1, .int (sx_i x1)), (2, .int (sx_i x2)), (3, .int (sx_i x3)), (4, .int (sx_i x4))] []) {x1 x2 x3 x4 : Int} {μ : sx_M} (h : sw_D_alike_43 Q r5 x1 x2 x3 x4 μ) : sx_V sr_lay sr_cl D cI cJ ad (sx_A sr_lay ad sz) 5 p l e rm_D_alike s m args below meth c (vx_MQ below (sx_T (sx_QI sr_lay sr_cl D cI cJ ad Q sz)) (sx_XC sr_lay sr_cl D cI cJ ad (fun _ _ => False) sz) args s 0 0 (sx_A sr_lay ad sz)) 0 0 μ 43 [(0, .ref (ad 16)), (1, .int (sx_i x1)), (2, .int (sx_i x2)), (3, .int (sx_i x3)), (4, .int (sx_i x4))] [] := by
  unfold sw_D_alike_43 at h
  refine sx_iinc (lu := [(4, .int (sx_i (x4 + 1))), (0, .ref (ad 16)), (1, .int (sx_i x1)), (2, .int (sx_i x2)), (3, .int (sx_i x3))]) C 4 dd_D_alike_43 rfl (by decide) rfl ?_
  refine sx_goto (tgt := 5) C dd_D_alike_46 (by decide) ?_
  refine sx_less (lu := [(0, .ref (ad 16)), (1, .int (sx_i x1)), (2, .int (sx_i x2)), (3, .int (sx_i x3)), (4, .int (sx_i (x4 + 1)))]) C [1, 2, 3, 4, 0] rfl ?_
  exact hr5 _ _ _ _ _ h
set_option maxHeartbeats 4000000 in
set_option maxRecDepth 100000 in
theorem sm_D_alike_5 (C : sx_C sr_lay sr_cl D cI cJ ad (sx_A sr_lay ad sz) 5 "StoneRings$Readings" prog_4_method_7_code sr_ts p s m args c) (hZ : sx_Z (sx_A sr_lay ad sz) s s.heap) (hr : meth.sig.returnType = (some .int)) (hlk : meth.locks = false) (ht : ∀ x ∈ c.exceptionTable.toList, False) (hlf : l.stackTraces = false) : ∀ (n : Nat) (x1 x2 x3 x4 : Int) (μ : sx_M), sw_D_alike_5 Q n x1 x2 x3 x4 μ → sx_V sr_lay sr_cl D cI cJ ad (sx_A sr_lay ad sz) 5 p l e rm_D_alike s m args below meth c (vx_MQ below (sx_T (sx_QI sr_lay sr_cl D cI cJ ad Q sz)) (sx_XC sr_lay sr_cl D cI cJ ad (fun _ _ => False) sz) args s 0 0 (sx_A sr_lay ad sz)) 0 0 μ 5 [(0, .ref (ad 16)), (1, .int (sx_i x1)), (2, .int (sx_i x2)), (3, .int (sx_i x3)), (4, .int (sx_i x4))] [] := by
  intro n
  induction n with
  | zero =>
    intro x1 x2 x3 x4 μ h
    exact h.elim
  | succ n ih =>
    intro x1 x2 x3 x4 μ h
    have hr5 := ih
    unfold sw_D_alike_5 at h
    refine sx_iload C 4 dd_D_alike_5 rfl ?_
    refine sx_bipush (v := 20) C dd_D_alike_7 (by decide +kernel) ?_
    refine sx_icmp_ge (tgt := 49) C dd_D_alike_9 (by decide) h (fun h => ?_) (fun h => ?_)
    · refine sx_iload_n C 3 dd_D_alike_49 rfl rfl ?_
      exact sx_iret C hr hlk dd_D_alike_50 h
    · refine sx_aload_n C 0 dd_D_alike_12 rfl rfl ?_
      refine sx_iload_n C 1 dd_D_alike_13 rfl rfl ?_
      refine sx_iload_n C 2 dd_D_alike_14 rfl rfl ?_
      refine sx_iload C 4 dd_D_alike_15 rfl ?_
      refine sx_invI (c0 := 16) C hZ [.int (sx_i x1), .int (sx_i x2), .int (sx_i x4)] (fun sz2 => sm_D_bothTold hlf h sz2) (sx_cwV (n := 3) C.2.2.2.2.1 wd_509 wd_506 wd_507 wd_508 wd_4 rfl rfl (by decide +kernel) ⟨by decide, by decide⟩) rfl (rfl : sr_cl[2]? = some ("StoneRings$Readings", tt_D, 3)) rfl rfl (Nat.le_of_ble_eq_true rfl) dd_D_alike_17 ⟨(Nat.le_of_ble_eq_true rfl), (Nat.le_of_ble_eq_true rfl)⟩ sx_noX (fun v1 μ1 h => ?_)
      refine sx_if_eq (tgt := 43) C dd_D_alike_20 (by decide) h (fun h => ?_) (fun h => ?_)
      · exact sm_D_alike_43 C hZ hr hlk ht hlf hr5 h
      · refine sx_aload_n C 0 dd_D_alike_23 rfl rfl ?_
        refine sx_iload_n C 1 dd_D_alike_24 rfl rfl ?_
        refine sx_iload C 4 dd_D_alike_25 rfl ?_
        refine sx_invI (c0 := 16) C hZ [.int (sx_i x1), .int (sx_i x4)] (fun sz2 => sm_D_of hlf h sz2) (sx_cwV (n := 2) C.2.2.2.2.1 wd_177 wd_174 wd_175 wd_176 wd_4 rfl rfl (by decide +kernel) ⟨by decide, by decide⟩) rfl (rfl : sr_cl[2]? = some ("StoneRings$Readings", tt_D, 3)) rfl rfl (Nat.le_of_ble_eq_true rfl) dd_D_alike_27 ⟨(Nat.le_of_ble_eq_true rfl), (Nat.le_of_ble_eq_true rfl)⟩ sx_noX (fun v2 μ2 h => ?_)
        refine sx_aload_n C 0 dd_D_alike_30 rfl rfl ?_
        refine sx_iload_n C 2 dd_D_alike_31 rfl rfl ?_
        refine sx_iload C 4 dd_D_alike_32 rfl ?_
        refine sx_invI (c0 := 16) C hZ [.int (sx_i x2), .int (sx_i x4)] (fun sz2 => sm_D_of hlf h sz2) (sx_cwV (n := 2) C.2.2.2.2.1 wd_177 wd_174 wd_175 wd_176 wd_4 rfl rfl (by decide +kernel) ⟨by decide, by decide⟩) rfl (rfl : sr_cl[2]? = some ("StoneRings$Readings", tt_D, 3)) rfl rfl (Nat.le_of_ble_eq_true rfl) dd_D_alike_34 ⟨(Nat.le_of_ble_eq_true rfl), (Nat.le_of_ble_eq_true rfl)⟩ sx_noX (fun v3 μ3 h => ?_)
        refine sx_icmp_ne (tgt := 43) C dd_D_alike_37 (by decide) h (fun h => ?_) (fun h => ?_)
        · exact sm_D_alike_43 C hZ hr hlk ht hlf hr5 h
        · refine sx_iinc (lu := [(3, .int (sx_i (x3 + 1))), (0, .ref (ad 16)), (1, .int (sx_i x1)), (2, .int (sx_i x2)), (4, .int (sx_i x4))]) C 3 dd_D_alike_40 rfl (by decide) rfl ?_
          refine sx_less (lu := [(0, .ref (ad 16)), (1, .int (sx_i x1)), (2, .int (sx_i x2)), (3, .int (sx_i (x3 + 1))), (4, .int (sx_i x4))]) C [1, 2, 3, 0, 4] rfl ?_
          exact sm_D_alike_43 C hZ hr hlk ht hlf hr5 h
set_option maxHeartbeats 4000000 in
set_option maxRecDepth 100000 in
theorem sm_D_alike {l : Launch} {D : va_G} {cI cJ : ClassId} {ad : Nat → Nat} {Q : Int → sx_M → Prop} (hlf : l.stackTraces = false) {μ : sx_M} {a1 a2 : Int} (h : sw_D_alike Q μ a1 a2) (sz : Nat) : sx_MI l yy_D_alike (Cond.code yy_D_alike prog_4_method_7_code 5 (some .int) :: sr_ts) rm_D_alike sr_lay sr_cl D cI cJ ad [.ref (ad 16), .int (sx_i a1), .int (sx_i a2)] μ Q (fun _ _ => False) 0 0 sz := by
  refine sx_body (plainFor_of_name (by decide +kernel)) rfl (Nat.le_of_ble_eq_true rfl) ?_
  intro p e s m below meth c C hZ hr hlk ht
  unfold sw_D_alike at h
  show sx_V sr_lay sr_cl D cI cJ ad (sx_A sr_lay ad sz) 5 p l e rm_D_alike s m _ below meth c (vx_MQ below (sx_T (sx_QI sr_lay sr_cl D cI cJ ad Q sz)) (sx_XC sr_lay sr_cl D cI cJ ad (fun _ _ => False) sz) _ s 0 0 (sx_A sr_lay ad sz)) 0 0 μ 0 [(0, .ref (ad 16)), (1, .int (sx_i a1)), (2, .int (sx_i a2))] []
  refine sx_iconst C dd_D_alike_0 rfl ?_
  refine sx_istore_n (lu := [(3, .int (sx_i 0)), (0, .ref (ad 16)), (1, .int (sx_i a1)), (2, .int (sx_i a2))]) C dd_D_alike_1 rfl (by decide) rfl ?_
  refine sx_iconst C dd_D_alike_2 rfl ?_
  refine sx_istore (lu := [(4, .int (sx_i 0)), (3, .int (sx_i 0)), (0, .ref (ad 16)), (1, .int (sx_i a1)), (2, .int (sx_i a2))]) C dd_D_alike_3 (by decide) rfl ?_
  refine sx_less (lu := [(0, .ref (ad 16)), (1, .int (sx_i a1)), (2, .int (sx_i a2)), (3, .int (sx_i 0)), (4, .int (sx_i 0))]) C [2, 3, 4, 1, 0] rfl ?_
  exact sm_D_alike_5 C hZ hr hlk ht hlf 600 _ _ _ _ _ h
end SXG
