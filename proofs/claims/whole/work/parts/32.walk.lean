section SXG
variable {D : va_G} {cI cJ : ClassId} {ad : Nat → Nat} {sz : Nat} {p : Program} {l : Launch} {e : Env} {s : State} {m : MethodId} {args : Array Value} {below : List Frame} {meth : Method} {c : Code} {Q : Int → sx_M → Prop} {X : String → sx_M → Prop}
def rm_S_follow : Room := { frames := 7, cells := 1, slots := 6, locals := 103 }
set_option maxHeartbeats 4000000 in
set_option maxRecDepth 100000 in
theorem sm_S_follow {l : Launch} {D : va_G} {cI cJ : ClassId} {ad : Nat → Nat} {Q : Int → sx_M → Prop} {X : String → sx_M → Prop} (hlf : l.stackTraces = false) {t : Nat} (ht0 : sr_lay[t]? = some (.inl (3, [some (t + 1), some (t + 2), some (t + 3), none, none]))) (ht1 : sr_lay[t + 1]? = some (.inr (.inl 16))) (ht2 : sr_lay[t + 2]? = some (.inr (.inl 16))) (ht3 : sr_lay[t + 3]? = some (.inr (.inl 8))) {μ : sx_M} {a1 : Int} (h : sw_S_follow Q X t μ a1) (sz : Nat) : sx_MV l yy_S_follow (Cond.code yy_S_follow prog_1_method_24_code 3 none :: sr_ts) rm_S_follow sr_lay sr_cl D cI cJ ad [.ref (ad 0), .int (sx_i a1), .ref (ad t)] μ Q X 1 6 sz := by
  refine sx_body (plainFor_of_name (by decide +kernel)) rfl (Nat.le_of_ble_eq_true rfl) ?_
  intro p e s m below meth c C hZ hr hlk ht
  unfold sw_S_follow at h
  show sx_V sr_lay sr_cl D cI cJ ad (sx_A sr_lay ad sz) 3 p l e rm_S_follow s m _ below meth c (vx_MQ below (sx_T (sx_QV sr_lay sr_cl D cI cJ ad Q sz)) (sx_XC sr_lay sr_cl D cI cJ ad X sz) _ s 1 6 (sx_A sr_lay ad sz)) 0 0 μ 0 [(0, .ref (ad 0)), (1, .int (sx_i a1)), (2, .ref (ad t))] []
  refine sx_iload_n C 1 dd_S_follow_0 rfl rfl ?_
  refine sx_aload_n C 0 dd_S_follow_1 rfl rfl ?_
  refine sx_geti (K := 7) (ref := "StoneRings") C 0 7 rfl rfl rfl (rfl : sr_cl[4]? = some ("StoneRings", tt_S, 10)) (by decide) in_S wd_138 rfl dd_S_follow_2 ?_
  refine sx_stcV C hZ [.int (sx_i a1), .int (sx_i (μ 0 7))] (fun sz2 => sm_S_needPlace hlf h sz2) (sx_cwS (n := 2) C.2.2.2.2.1 wd_303 wd_301 wd_302 wd_1 rfl rfl (by decide +kernel) ⟨by decide, by decide⟩) rfl rfl (Nat.le_of_ble_eq_true rfl) dd_S_follow_5 ⟨(Nat.le_of_ble_eq_true rfl), (Nat.le_of_ble_eq_true rfl)⟩ (sx_prop hlk ht (Nat.le_of_ble_eq_true rfl) (Nat.le_of_ble_eq_true rfl)) (fun v1 μ1 h => ?_)
  refine sx_aload_n C 2 dd_S_follow_8 rfl rfl ?_
  refine sx_aload_n C 0 dd_S_follow_9 rfl rfl ?_
  refine sx_getr (ref := "StoneRings") C 0 0 rfl rfl (rfl : sr_cl[4]? = some ("StoneRings", tt_S, 10)) (by decide) in_S wd_131 rfl dd_S_follow_10 ?_
  refine sx_aload_n C 0 dd_S_follow_13 rfl rfl ?_
  refine sx_getr (ref := "StoneRings") C 0 1 rfl rfl (rfl : sr_cl[4]? = some ("StoneRings", tt_S, 10)) (by decide) in_S wd_132 rfl dd_S_follow_14 ?_
  refine sx_iload_n C 1 dd_S_follow_17 rfl rfl ?_
  refine sx_iald (N := 8) C 1 rfl rfl (by decide) dd_S_follow_18 h (fun h => ?_)
  refine sx_aload_n C 0 dd_S_follow_19 rfl rfl ?_
  refine sx_getr (ref := "StoneRings") C 0 2 rfl rfl (rfl : sr_cl[4]? = some ("StoneRings", tt_S, 10)) (by decide) in_S wd_133 rfl dd_S_follow_20 ?_
  refine sx_iload_n C 1 dd_S_follow_23 rfl rfl ?_
  refine sx_iald (N := 8) C 2 rfl rfl (by decide) dd_S_follow_24 h (fun h => ?_)
  refine sx_invV (c0 := t) C hZ [.ref (ad 3), .int (sx_i (μ1 1 a1)), .int (sx_i (μ1 2 a1))] (fun sz2 => sm_T_walk hlf ht0 ht1 ht2 ht3 h sz2) (sx_cwV (n := 3) C.2.2.2.2.1 wd_358 wd_355 wd_356 wd_357 wd_2 rfl rfl (by decide +kernel) ⟨by decide, by decide⟩) ht0 (rfl : sr_cl[3]? = some ("StoneRings$Trace", tt_T, 5)) rfl rfl (Nat.le_of_ble_eq_true rfl) dd_S_follow_25 ⟨(Nat.le_of_ble_eq_true rfl), (Nat.le_of_ble_eq_true rfl)⟩ sx_noX (fun v2 μ2 h => ?_)
  refine sx_aload_n C 2 dd_S_follow_28 rfl rfl ?_
  refine sx_invV (c0 := t) C hZ [] (fun sz2 => sm_T_evenOut hlf ht0 ht1 ht2 ht3 h sz2) (sx_cwV (n := 0) C.2.2.2.2.1 wd_371 wd_368 wd_369 wd_370 wd_2 rfl rfl (by decide +kernel) ⟨by decide, by decide⟩) ht0 (rfl : sr_cl[3]? = some ("StoneRings$Trace", tt_T, 5)) rfl rfl (Nat.le_of_ble_eq_true rfl) dd_S_follow_29 ⟨(Nat.le_of_ble_eq_true rfl), (Nat.le_of_ble_eq_true rfl)⟩ sx_noX (fun v3 μ3 h => ?_)
  refine sx_aload_n C 2 dd_S_follow_32 rfl rfl ?_
  refine sx_aload_n C 0 dd_S_follow_33 rfl rfl ?_
  refine sx_geti (K := 8) (ref := "StoneRings") C 0 8 rfl rfl rfl (rfl : sr_cl[4]? = some ("StoneRings", tt_S, 10)) (by decide) in_S wd_139 rfl dd_S_follow_34 ?_
  refine sx_aload_n C 0 dd_S_follow_37 rfl rfl ?_
  refine sx_geti (K := 9) (ref := "StoneRings") C 0 9 rfl rfl rfl (rfl : sr_cl[4]? = some ("StoneRings", tt_S, 10)) (by decide) in_S wd_140 rfl dd_S_follow_38 ?_
  refine sx_invV (c0 := t) C hZ [.int (sx_i (μ3 0 8)), .int (sx_i (μ3 0 9))] (fun sz2 => sm_T_findRings hlf ht0 ht1 ht2 ht3 h sz2) (sx_cwV (n := 2) C.2.2.2.2.1 wd_375 wd_372 wd_373 wd_374 wd_2 rfl rfl (by decide +kernel) ⟨by decide, by decide⟩) ht0 (rfl : sr_cl[3]? = some ("StoneRings$Trace", tt_T, 5)) rfl rfl (Nat.le_of_ble_eq_true rfl) dd_S_follow_41 ⟨(Nat.le_of_ble_eq_true rfl), (Nat.le_of_ble_eq_true rfl)⟩ sx_noX (fun v4 μ4 h => ?_)
  exact sx_vret C hr hlk dd_S_follow_44 h
def rm_S_samples : Room := { frames := 8, cells := 1, slots := 6, locals := 125 }
set_option maxHeartbeats 4000000 in
set_option maxRecDepth 100000 in
theorem sm_S_samples {l : Launch} {D : va_G} {cI cJ : ClassId} {ad : Nat → Nat} {Q : Int → sx_M → Prop} {X : String → sx_M → Prop} (hlf : l.stackTraces = false) {μ : sx_M} {a1 : Int} (h : sw_S_samples Q X μ a1) (sz : Nat) : sx_MI l yy_S_samples (Cond.code yy_S_samples prog_1_method_5_code 2 (some .int) :: sr_ts) rm_S_samples sr_lay sr_cl D cI cJ ad [.ref (ad 0), .int (sx_i a1)] μ Q X 1 6 sz := by
  refine sx_body (plainFor_of_name (by decide +kernel)) rfl (Nat.le_of_ble_eq_true rfl) ?_
  intro p e s m below meth c C hZ hr hlk ht
  unfold sw_S_samples at h
  show sx_V sr_lay sr_cl D cI cJ ad (sx_A sr_lay ad sz) 2 p l e rm_S_samples s m _ below meth c (vx_MQ below (sx_T (sx_QI sr_lay sr_cl D cI cJ ad Q sz)) (sx_XC sr_lay sr_cl D cI cJ ad X sz) _ s 1 6 (sx_A sr_lay ad sz)) 0 0 μ 0 [(0, .ref (ad 0)), (1, .int (sx_i a1))] []
  refine sx_aload_n C 0 dd_S_samples_0 rfl rfl ?_
  refine sx_iload_n C 1 dd_S_samples_1 rfl rfl ?_
  refine sx_aload_n C 0 dd_S_samples_2 rfl rfl ?_
  refine sx_getr (ref := "StoneRings") C 0 3 rfl rfl (rfl : sr_cl[4]? = some ("StoneRings", tt_S, 10)) (by decide) in_S wd_134 rfl dd_S_samples_3 ?_
  refine sx_invV (c0 := 0) C hZ [.int (sx_i a1), .ref (ad 5)] (fun sz2 => sm_S_follow hlf rfl rfl rfl rfl h sz2) (sx_cwV (n := 2) C.2.2.2.2.1 wd_354 wd_351 wd_353 wp_S_follow wd_1 rfl rfl (by decide +kernel) ⟨by decide, by decide⟩) rfl (rfl : sr_cl[4]? = some ("StoneRings", tt_S, 10)) rfl rfl (Nat.le_of_ble_eq_true rfl) dd_S_samples_6 ⟨(Nat.le_of_ble_eq_true rfl), (Nat.le_of_ble_eq_true rfl)⟩ (sx_prop hlk ht (Nat.le_of_ble_eq_true rfl) (Nat.le_of_ble_eq_true rfl)) (fun v1 μ1 h => ?_)
  refine sx_aload_n C 0 dd_S_samples_9 rfl rfl ?_
  refine sx_getr (ref := "StoneRings") C 0 3 rfl rfl (rfl : sr_cl[4]? = some ("StoneRings", tt_S, 10)) (by decide) in_S wd_134 rfl dd_S_samples_10 ?_
  refine sx_geti (K := 3) (ref := "StoneRings$Trace") C 5 3 rfl rfl rfl (rfl : sr_cl[3]? = some ("StoneRings$Trace", tt_T, 5)) (by decide) in_T wd_37 rfl dd_S_samples_13 ?_
  exact sx_iret C hr hlk dd_S_samples_16 h
def rm_S_sample : Room := { frames := 8, cells := 1, slots := 6, locals := 125 }
set_option maxHeartbeats 4000000 in
set_option maxRecDepth 100000 in
theorem sm_S_sample_45 (C : sx_C sr_lay sr_cl D cI cJ ad (sx_A sr_lay ad sz) 4 "StoneRings" prog_1_method_6_code sr_ts p s m args c) (hZ : sx_Z (sx_A sr_lay ad sz) s s.heap) (hr : meth.sig.returnType = (some .int)) (hlk : meth.locks = false) (ht : ∀ x ∈ c.exceptionTable.toList, False) (hlf : l.stackTraces = false) {y0 : Int} {μ : sx_M} (h : sw_S_sample_45 Q X y0 μ) : sx_V sr_lay sr_cl D cI cJ ad (sx_A sr_lay ad sz) 4 p l e rm_S_sample s m args below meth c (vx_MQ below (sx_T (sx_QI sr_lay sr_cl D cI cJ ad Q sz)) (sx_XC sr_lay sr_cl D cI cJ ad X sz) args s 1 6 (sx_A sr_lay ad sz)) 0 0 μ 45 [] [.int (sx_i y0)] := by
  unfold sw_S_sample_45 at h
  exact sx_iret C hr hlk dd_S_sample_45 h
set_option maxHeartbeats 4000000 in
set_option maxRecDepth 100000 in
theorem sm_S_sample {l : Launch} {D : va_G} {cI cJ : ClassId} {ad : Nat → Nat} {Q : Int → sx_M → Prop} {X : String → sx_M → Prop} (hlf : l.stackTraces = false) {μ : sx_M} {a1 a2 a3 : Int} (h : sw_S_sample Q X μ a1 a2 a3) (sz : Nat) : sx_MI l yy_S_sample (Cond.code yy_S_sample prog_1_method_6_code 4 (some .int) :: sr_ts) rm_S_sample sr_lay sr_cl D cI cJ ad [.ref (ad 0), .int (sx_i a1), .int (sx_i a2), .int (sx_i a3)] μ Q X 1 6 sz := by
  refine sx_body (plainFor_of_name (by decide +kernel)) rfl (Nat.le_of_ble_eq_true rfl) ?_
  intro p e s m below meth c C hZ hr hlk ht
  unfold sw_S_sample at h
  show sx_V sr_lay sr_cl D cI cJ ad (sx_A sr_lay ad sz) 4 p l e rm_S_sample s m _ below meth c (vx_MQ below (sx_T (sx_QI sr_lay sr_cl D cI cJ ad Q sz)) (sx_XC sr_lay sr_cl D cI cJ ad X sz) _ s 1 6 (sx_A sr_lay ad sz)) 0 0 μ 0 [(0, .ref (ad 0)), (1, .int (sx_i a1)), (2, .int (sx_i a2)), (3, .int (sx_i a3))] []
  refine sx_aload_n C 0 dd_S_sample_0 rfl rfl ?_
  refine sx_iload_n C 1 dd_S_sample_1 rfl rfl ?_
  refine sx_aload_n C 0 dd_S_sample_2 rfl rfl ?_
  refine sx_getr (ref := "StoneRings") C 0 3 rfl rfl (rfl : sr_cl[4]? = some ("StoneRings", tt_S, 10)) (by decide) in_S wd_134 rfl dd_S_sample_3 ?_
  refine sx_invV (c0 := 0) C hZ [.int (sx_i a1), .ref (ad 5)] (fun sz2 => sm_S_follow hlf rfl rfl rfl rfl h sz2) (sx_cwV (n := 2) C.2.2.2.2.1 wd_354 wd_351 wd_353 wp_S_follow wd_1 rfl rfl (by decide +kernel) ⟨by decide, by decide⟩) rfl (rfl : sr_cl[4]? = some ("StoneRings", tt_S, 10)) rfl rfl (Nat.le_of_ble_eq_true rfl) dd_S_sample_6 ⟨(Nat.le_of_ble_eq_true rfl), (Nat.le_of_ble_eq_true rfl)⟩ (sx_prop hlk ht (Nat.le_of_ble_eq_true rfl) (Nat.le_of_ble_eq_true rfl)) (fun v1 μ1 h => ?_)
  refine sx_iload_n C 2 dd_S_sample_9 rfl rfl ?_
  refine sx_aload_n C 0 dd_S_sample_10 rfl rfl ?_
  refine sx_getr (ref := "StoneRings") C 0 3 rfl rfl (rfl : sr_cl[4]? = some ("StoneRings", tt_S, 10)) (by decide) in_S wd_134 rfl dd_S_sample_11 ?_
  refine sx_geti (K := 3) (ref := "StoneRings$Trace") C 5 3 rfl rfl rfl (rfl : sr_cl[3]? = some ("StoneRings$Trace", tt_T, 5)) (by decide) in_T wd_37 rfl dd_S_sample_14 ?_
  refine sx_stcV C hZ [.int (sx_i a2), .int (sx_i (μ1 5 3))] (fun sz2 => sm_S_needPlace hlf h sz2) (sx_cwS (n := 2) C.2.2.2.2.1 wd_303 wd_301 wd_302 wd_1 rfl rfl (by decide +kernel) ⟨by decide, by decide⟩) rfl rfl (Nat.le_of_ble_eq_true rfl) dd_S_sample_17 ⟨(Nat.le_of_ble_eq_true rfl), (Nat.le_of_ble_eq_true rfl)⟩ (sx_prop hlk ht (Nat.le_of_ble_eq_true rfl) (Nat.le_of_ble_eq_true rfl)) (fun v2 μ2 h => ?_)
  refine sx_iload_n C 3 dd_S_sample_20 rfl rfl ?_
  refine sx_if_eq (tgt := 36) C dd_S_sample_21 (by decide) h (fun h => ?_) (fun h => ?_)
  · refine sx_aload_n C 0 dd_S_sample_36 rfl rfl ?_
    refine sx_getr (ref := "StoneRings") C 0 3 rfl rfl (rfl : sr_cl[4]? = some ("StoneRings", tt_S, 10)) (by decide) in_S wd_134 rfl dd_S_sample_37 ?_
    refine sx_getr (ref := "StoneRings$Trace") C 5 0 rfl rfl (rfl : sr_cl[3]? = some ("StoneRings$Trace", tt_T, 5)) (by decide) in_T wd_30 rfl dd_S_sample_40 ?_
    refine sx_iload_n C 2 dd_S_sample_43 rfl rfl ?_
    refine sx_iald (N := 16) C 6 rfl rfl (by decide) dd_S_sample_44 h (fun h => ?_)
    refine sx_less (lu := []) C [] rfl ?_
    exact sm_S_sample_45 C hZ hr hlk ht hlf h
  · refine sx_aload_n C 0 dd_S_sample_24 rfl rfl ?_
    refine sx_getr (ref := "StoneRings") C 0 3 rfl rfl (rfl : sr_cl[4]? = some ("StoneRings", tt_S, 10)) (by decide) in_S wd_134 rfl dd_S_sample_25 ?_
    refine sx_getr (ref := "StoneRings$Trace") C 5 1 rfl rfl (rfl : sr_cl[3]? = some ("StoneRings$Trace", tt_T, 5)) (by decide) in_T wd_32 rfl dd_S_sample_28 ?_
    refine sx_iload_n C 2 dd_S_sample_31 rfl rfl ?_
    refine sx_iald (N := 16) C 7 rfl rfl (by decide) dd_S_sample_32 h (fun h => ?_)
    refine sx_goto (tgt := 45) C dd_S_sample_33 (by decide) ?_
    refine sx_less (lu := []) C [] rfl ?_
    exact sm_S_sample_45 C hZ hr hlk ht hlf h
def rm_S_rule : Room := { frames := 7, cells := 1, slots := 6, locals := 104 }
set_option maxHeartbeats 4000000 in
set_option maxRecDepth 100000 in
theorem sm_S_rule {l : Launch} {D : va_G} {cI cJ : ClassId} {ad : Nat → Nat} {Q : Int → sx_M → Prop} {X : String → sx_M → Prop} (hlf : l.stackTraces = false) {μ : sx_M} {a1 a2 : Int} (h : sw_S_rule Q X μ a1 a2) (sz : Nat) : sx_MV l yy_S_rule (Cond.code yy_S_rule prog_1_method_7_code 3 none :: sr_ts) rm_S_rule sr_lay sr_cl D cI cJ ad [.ref (ad 0), .int (sx_i a1), .int (sx_i a2)] μ Q X 1 6 sz := by
  refine sx_body (plainFor_of_name (by decide +kernel)) rfl (Nat.le_of_ble_eq_true rfl) ?_
  intro p e s m below meth c C hZ hr hlk ht
  unfold sw_S_rule at h
  show sx_V sr_lay sr_cl D cI cJ ad (sx_A sr_lay ad sz) 3 p l e rm_S_rule s m _ below meth c (vx_MQ below (sx_T (sx_QV sr_lay sr_cl D cI cJ ad Q sz)) (sx_XC sr_lay sr_cl D cI cJ ad X sz) _ s 1 6 (sx_A sr_lay ad sz)) 0 0 μ 0 [(0, .ref (ad 0)), (1, .int (sx_i a1)), (2, .int (sx_i a2))] []
  refine sx_iload_n C 1 dd_S_rule_0 rfl rfl ?_
  refine sx_iconst C dd_S_rule_1 rfl ?_
  refine sx_bipush (v := 10) C dd_S_rule_2 (by decide +kernel) ?_
  refine sx_stcV C hZ [.int (sx_i a1), .int (sx_i 1), .int (sx_i 10)] (fun sz2 => sm_S_needNumber hlf h sz2) (sx_cwS (n := 3) C.2.2.2.2.1 wd_268 wd_266 wd_267 wd_1 rfl rfl (by decide +kernel) ⟨by decide, by decide⟩) rfl rfl (Nat.le_of_ble_eq_true rfl) dd_S_rule_4 ⟨(Nat.le_of_ble_eq_true rfl), (Nat.le_of_ble_eq_true rfl)⟩ (sx_prop hlk ht (Nat.le_of_ble_eq_true rfl) (Nat.le_of_ble_eq_true rfl)) (fun v1 μ1 h => ?_)
  refine sx_iload_n C 2 dd_S_rule_7 rfl rfl ?_
  refine sx_iconst C dd_S_rule_8 rfl ?_
  refine sx_sipush (v := 255) C dd_S_rule_9 (by decide +kernel) ?_
  refine sx_stcV C hZ [.int (sx_i a2), .int (sx_i 0), .int (sx_i 255)] (fun sz2 => sm_S_needNumber hlf h sz2) (sx_cwS (n := 3) C.2.2.2.2.1 wd_268 wd_266 wd_267 wd_1 rfl rfl (by decide +kernel) ⟨by decide, by decide⟩) rfl rfl (Nat.le_of_ble_eq_true rfl) dd_S_rule_12 ⟨(Nat.le_of_ble_eq_true rfl), (Nat.le_of_ble_eq_true rfl)⟩ (sx_prop hlk ht (Nat.le_of_ble_eq_true rfl) (Nat.le_of_ble_eq_true rfl)) (fun v2 μ2 h => ?_)
  refine sx_aload_n C 0 dd_S_rule_15 rfl rfl ?_
  refine sx_iload_n C 1 dd_S_rule_16 rfl rfl ?_
  refine sx_puti (K := 8) (ref := "StoneRings") (ty := .int) C 0 8 rfl rfl rfl (rfl : sr_cl[4]? = some ("StoneRings", tt_S, 10)) (by decide) in_S ty_S tyk_S nm_S wd_139 rfl rfl (by decide +kernel) rfl rfl dd_S_rule_17 ?_
  refine sx_aload_n C 0 dd_S_rule_20 rfl rfl ?_
  refine sx_iload_n C 2 dd_S_rule_21 rfl rfl ?_
  refine sx_puti (K := 9) (ref := "StoneRings") (ty := .int) C 0 9 rfl rfl rfl (rfl : sr_cl[4]? = some ("StoneRings", tt_S, 10)) (by decide) in_S ty_S tyk_S nm_S wd_140 rfl rfl (by decide +kernel) rfl rfl dd_S_rule_22 ?_
  exact sx_vret C hr hlk dd_S_rule_25 h
def rm_S_rings : Room := { frames := 8, cells := 1, slots := 6, locals := 125 }
set_option maxHeartbeats 4000000 in
set_option maxRecDepth 100000 in
theorem sm_S_rings {l : Launch} {D : va_G} {cI cJ : ClassId} {ad : Nat → Nat} {Q : Int → sx_M → Prop} {X : String → sx_M → Prop} (hlf : l.stackTraces = false) {μ : sx_M} {a1 : Int} (h : sw_S_rings Q X μ a1) (sz : Nat) : sx_MI l yy_S_rings (Cond.code yy_S_rings prog_1_method_8_code 2 (some .int) :: sr_ts) rm_S_rings sr_lay sr_cl D cI cJ ad [.ref (ad 0), .int (sx_i a1)] μ Q X 1 6 sz := by
  refine sx_body (plainFor_of_name (by decide +kernel)) rfl (Nat.le_of_ble_eq_true rfl) ?_
  intro p e s m below meth c C hZ hr hlk ht
  unfold sw_S_rings at h
  show sx_V sr_lay sr_cl D cI cJ ad (sx_A sr_lay ad sz) 2 p l e rm_S_rings s m _ below meth c (vx_MQ below (sx_T (sx_QI sr_lay sr_cl D cI cJ ad Q sz)) (sx_XC sr_lay sr_cl D cI cJ ad X sz) _ s 1 6 (sx_A sr_lay ad sz)) 0 0 μ 0 [(0, .ref (ad 0)), (1, .int (sx_i a1))] []
  refine sx_aload_n C 0 dd_S_rings_0 rfl rfl ?_
  refine sx_iload_n C 1 dd_S_rings_1 rfl rfl ?_
  refine sx_aload_n C 0 dd_S_rings_2 rfl rfl ?_
  refine sx_getr (ref := "StoneRings") C 0 3 rfl rfl (rfl : sr_cl[4]? = some ("StoneRings", tt_S, 10)) (by decide) in_S wd_134 rfl dd_S_rings_3 ?_
  refine sx_invV (c0 := 0) C hZ [.int (sx_i a1), .ref (ad 5)] (fun sz2 => sm_S_follow hlf rfl rfl rfl rfl h sz2) (sx_cwV (n := 2) C.2.2.2.2.1 wd_354 wd_351 wd_353 wp_S_follow wd_1 rfl rfl (by decide +kernel) ⟨by decide, by decide⟩) rfl (rfl : sr_cl[4]? = some ("StoneRings", tt_S, 10)) rfl rfl (Nat.le_of_ble_eq_true rfl) dd_S_rings_6 ⟨(Nat.le_of_ble_eq_true rfl), (Nat.le_of_ble_eq_true rfl)⟩ (sx_prop hlk ht (Nat.le_of_ble_eq_true rfl) (Nat.le_of_ble_eq_true rfl)) (fun v1 μ1 h => ?_)
  refine sx_aload_n C 0 dd_S_rings_9 rfl rfl ?_
  refine sx_getr (ref := "StoneRings") C 0 3 rfl rfl (rfl : sr_cl[4]? = some ("StoneRings", tt_S, 10)) (by decide) in_S wd_134 rfl dd_S_rings_10 ?_
  refine sx_geti (K := 4) (ref := "StoneRings$Trace") C 5 4 rfl rfl rfl (rfl : sr_cl[3]? = some ("StoneRings$Trace", tt_T, 5)) (by decide) in_T wd_40 rfl dd_S_rings_13 ?_
  exact sx_iret C hr hlk dd_S_rings_16 h
def rm_T_widthOf : Room := { frames := 0, cells := 0, slots := 0, locals := 0 }
set_option maxHeartbeats 4000000 in
set_option maxRecDepth 100000 in
theorem sm_T_widthOf_28 (C : sx_C sr_lay sr_cl D cI cJ ad (sx_A sr_lay ad sz) 2 "StoneRings$Trace" prog_5_method_5_code sr_ts p s m args c) (hZ : sx_Z (sx_A sr_lay ad sz) s s.heap) (hr : meth.sig.returnType = (some .int)) (hlk : meth.locks = false) (ht : ∀ x ∈ c.exceptionTable.toList, False) (hlf : l.stackTraces = false) {y0 : Int} {μ : sx_M} (h : sw_T_widthOf_28 Q y0 μ) : sx_V sr_lay sr_cl D cI cJ ad (sx_A sr_lay ad sz) 2 p l e rm_T_widthOf s m args below meth c (vx_MQ below (sx_T (sx_QI sr_lay sr_cl D cI cJ ad Q sz)) (sx_XC sr_lay sr_cl D cI cJ ad (fun _ _ => False) sz) args s 0 0 (sx_A sr_lay ad sz)) 0 0 μ 28 [] [.int (sx_i y0)] := by
  unfold sw_T_widthOf_28 at h
  exact sx_iret C hr hlk dd_T_widthOf_28 h
set_option maxHeartbeats 4000000 in
set_option maxRecDepth 100000 in
theorem sm_T_widthOf {l : Launch} {D : va_G} {cI cJ : ClassId} {ad : Nat → Nat} {Q : Int → sx_M → Prop} (hlf : l.stackTraces = false) {μ : sx_M} {a1 : Int} (h : sw_T_widthOf Q μ a1) (sz : Nat) : sx_MI l yy_T_widthOf (Cond.code yy_T_widthOf prog_5_method_5_code 2 (some .int) :: sr_ts) rm_T_widthOf sr_lay sr_cl D cI cJ ad [.ref (ad 5), .int (sx_i a1)] μ Q (fun _ _ => False) 0 0 sz := by
  refine sx_body (plainFor_of_name (by decide +kernel)) rfl (Nat.le_of_ble_eq_true rfl) ?_
  intro p e s m below meth c C hZ hr hlk ht
  unfold sw_T_widthOf at h
  show sx_V sr_lay sr_cl D cI cJ ad (sx_A sr_lay ad sz) 2 p l e rm_T_widthOf s m _ below meth c (vx_MQ below (sx_T (sx_QI sr_lay sr_cl D cI cJ ad Q sz)) (sx_XC sr_lay sr_cl D cI cJ ad (fun _ _ => False) sz) _ s 0 0 (sx_A sr_lay ad sz)) 0 0 μ 0 [(0, .ref (ad 5)), (1, .int (sx_i a1))] []
  refine sx_iload_n C 1 dd_T_widthOf_0 rfl rfl ?_
  refine sx_if_le (tgt := 22) C dd_T_widthOf_1 (by decide) h (fun h => ?_) (fun h => ?_)
  · refine sx_aload_n C 0 dd_T_widthOf_22 rfl rfl ?_
    refine sx_getr (ref := "StoneRings$Trace") C 5 2 rfl rfl (rfl : sr_cl[3]? = some ("StoneRings$Trace", tt_T, 5)) (by decide) in_T wd_33 rfl dd_T_widthOf_23 ?_
    refine sx_iload_n C 1 dd_T_widthOf_26 rfl rfl ?_
    refine sx_iald (N := 8) C 8 rfl rfl (by decide) dd_T_widthOf_27 h (fun h => ?_)
    refine sx_less (lu := []) C [] rfl ?_
    exact sm_T_widthOf_28 C hZ hr hlk ht hlf h
  · refine sx_aload_n C 0 dd_T_widthOf_4 rfl rfl ?_
    refine sx_getr (ref := "StoneRings$Trace") C 5 2 rfl rfl (rfl : sr_cl[3]? = some ("StoneRings$Trace", tt_T, 5)) (by decide) in_T wd_33 rfl dd_T_widthOf_5 ?_
    refine sx_iload_n C 1 dd_T_widthOf_8 rfl rfl ?_
    refine sx_iald (N := 8) C 8 rfl rfl (by decide) dd_T_widthOf_9 h (fun h => ?_)
    refine sx_aload_n C 0 dd_T_widthOf_10 rfl rfl ?_
    refine sx_getr (ref := "StoneRings$Trace") C 5 2 rfl rfl (rfl : sr_cl[3]? = some ("StoneRings$Trace", tt_T, 5)) (by decide) in_T wd_33 rfl dd_T_widthOf_11 ?_
    refine sx_iload_n C 1 dd_T_widthOf_14 rfl rfl ?_
    refine sx_iconst C dd_T_widthOf_15 rfl ?_
    refine sx_isub C dd_T_widthOf_16 ?_
    refine sx_iald (N := 8) C 8 rfl rfl (by decide) dd_T_widthOf_17 h (fun h => ?_)
    refine sx_isub C dd_T_widthOf_18 ?_
    refine sx_goto (tgt := 28) C dd_T_widthOf_19 (by decide) ?_
    refine sx_less (lu := []) C [] rfl ?_
    exact sm_T_widthOf_28 C hZ hr hlk ht hlf h
def rm_T_isFalse : Room := { frames := 1, cells := 0, slots := 0, locals := 21 }
set_option maxHeartbeats 4000000 in
set_option maxRecDepth 100000 in
theorem sm_T_isFalse_15 (C : sx_C sr_lay sr_cl D cI cJ ad (sx_A sr_lay ad sz) 3 "StoneRings$Trace" prog_5_method_6_code sr_ts p s m args c) (hZ : sx_Z (sx_A sr_lay ad sz) s s.heap) (hr : meth.sig.returnType = (some .boolean)) (hlk : meth.locks = false) (ht : ∀ x ∈ c.exceptionTable.toList, False) (hlf : l.stackTraces = false) {μ : sx_M} (h : sw_T_isFalse_15 Q μ) : sx_V sr_lay sr_cl D cI cJ ad (sx_A sr_lay ad sz) 3 p l e rm_T_isFalse s m args below meth c (vx_MQ below (sx_T (sx_QI sr_lay sr_cl D cI cJ ad Q sz)) (sx_XC sr_lay sr_cl D cI cJ ad (fun _ _ => False) sz) args s 0 0 (sx_A sr_lay ad sz)) 0 0 μ 15 [] [] := by
  unfold sw_T_isFalse_15 at h
  refine sx_iconst C dd_T_isFalse_15 rfl ?_
  exact sx_zret C hr hlk dd_T_isFalse_16 h
set_option maxHeartbeats 4000000 in
set_option maxRecDepth 100000 in
theorem sm_T_isFalse_52 (C : sx_C sr_lay sr_cl D cI cJ ad (sx_A sr_lay ad sz) 3 "StoneRings$Trace" prog_5_method_6_code sr_ts p s m args c) (hZ : sx_Z (sx_A sr_lay ad sz) s s.heap) (hr : meth.sig.returnType = (some .boolean)) (hlk : meth.locks = false) (ht : ∀ x ∈ c.exceptionTable.toList, False) (hlf : l.stackTraces = false) {y0 : Int} {μ : sx_M} (h : sw_T_isFalse_52 Q y0 μ) : sx_V sr_lay sr_cl D cI cJ ad (sx_A sr_lay ad sz) 3 p l e rm_T_isFalse s m args below meth c (vx_MQ below (sx_T (sx_QI sr_lay sr_cl D cI cJ ad Q sz)) (sx_XC sr_lay sr_cl D cI cJ ad (fun _ _ => False) sz) args s 0 0 (sx_A sr_lay ad sz)) 0 0 μ 52 [] [.int (sx_i y0)] := by
  unfold sw_T_isFalse_52 at h
  exact sx_zret C hr hlk dd_T_isFalse_52 h
set_option maxHeartbeats 4000000 in
set_option maxRecDepth 100000 in
theorem sm_T_isFalse_51 (C : sx_C sr_lay sr_cl D cI cJ ad (sx_A sr_lay ad sz) 3 "StoneRings$Trace" prog_5_method_6_code sr_ts p s m args c) (hZ : sx_Z (sx_A sr_lay ad sz) s s.heap) (hr : meth.sig.returnType = (some .boolean)) (hlk : meth.locks = false) (ht : ∀ x ∈ c.exceptionTable.toList, False) (hlf : l.stackTraces = false) {μ : sx_M} (h : sw_T_isFalse_51 Q μ) : sx_V sr_lay sr_cl D cI cJ ad (sx_A sr_lay ad sz) 3 p l e rm_T_isFalse s m args below meth c (vx_MQ below (sx_T (sx_QI sr_lay sr_cl D cI cJ ad Q sz)) (sx_XC sr_lay sr_cl D cI cJ ad (fun _ _ => False) sz) args s 0 0 (sx_A sr_lay ad sz)) 0 0 μ 51 [] [] := by
  unfold sw_T_isFalse_51 at h
  refine sx_iconst C dd_T_isFalse_51 rfl ?_
  exact sm_T_isFalse_52 C hZ hr hlk ht hlf h
set_option maxHeartbeats 4000000 in
set_option maxRecDepth 100000 in
theorem sm_T_isFalse {l : Launch} {D : va_G} {cI cJ : ClassId} {ad : Nat → Nat} {Q : Int → sx_M → Prop} (hlf : l.stackTraces = false) {μ : sx_M} {a1 : Int} (h : sw_T_isFalse Q μ a1) (sz : Nat) : sx_MI l yy_T_isFalse (Cond.code yy_T_isFalse prog_5_method_6_code 3 (some .boolean) :: sr_ts) rm_T_isFalse sr_lay sr_cl D cI cJ ad [.ref (ad 5), .int (sx_i a1)] μ Q (fun _ _ => False) 0 0 sz := by
  refine sx_body (plainFor_of_name (by decide +kernel)) rfl (Nat.le_of_ble_eq_true rfl) ?_
  intro p e s m below meth c C hZ hr hlk ht
  unfold sw_T_isFalse at h
  show sx_V sr_lay sr_cl D cI cJ ad (sx_A sr_lay ad sz) 3 p l e rm_T_isFalse s m _ below meth c (vx_MQ below (sx_T (sx_QI sr_lay sr_cl D cI cJ ad Q sz)) (sx_XC sr_lay sr_cl D cI cJ ad (fun _ _ => False) sz) _ s 0 0 (sx_A sr_lay ad sz)) 0 0 μ 0 [(0, .ref (ad 5)), (1, .int (sx_i a1))] []
  refine sx_iload_n C 1 dd_T_isFalse_0 rfl rfl ?_
  refine sx_iconst C dd_T_isFalse_1 rfl ?_
  refine sx_icmp_lt (tgt := 15) C dd_T_isFalse_2 (by decide) h (fun h => ?_) (fun h => ?_)
  · refine sx_less (lu := []) C [] rfl ?_
    exact sm_T_isFalse_15 C hZ hr hlk ht hlf h
  · refine sx_iload_n C 1 dd_T_isFalse_5 rfl rfl ?_
    refine sx_aload_n C 0 dd_T_isFalse_6 rfl rfl ?_
    refine sx_geti (K := 4) (ref := "StoneRings$Trace") C 5 4 rfl rfl rfl (rfl : sr_cl[3]? = some ("StoneRings$Trace", tt_T, 5)) (by decide) in_T wd_38 rfl dd_T_isFalse_7 ?_
    refine sx_iconst C dd_T_isFalse_10 rfl ?_
    refine sx_isub C dd_T_isFalse_11 ?_
    refine sx_icmp_lt (tgt := 17) C dd_T_isFalse_12 (by decide) h (fun h => ?_) (fun h => ?_)
    · refine sx_iconst C dd_T_isFalse_17 rfl ?_
      refine sx_aload_n C 0 dd_T_isFalse_18 rfl rfl ?_
      refine sx_iload_n C 1 dd_T_isFalse_19 rfl rfl ?_
      refine sx_invI (c0 := 5) C hZ [.int (sx_i a1)] (fun sz2 => sm_T_widthOf hlf h sz2) (sx_cwV (n := 1) C.2.2.2.2.1 wd_408 wd_413 wd_406 wd_407 wd_2 rfl rfl (by decide +kernel) ⟨by decide, by decide⟩) rfl (rfl : sr_cl[3]? = some ("StoneRings$Trace", tt_T, 5)) rfl rfl (Nat.le_of_ble_eq_true rfl) dd_T_isFalse_20 ⟨(Nat.le_of_ble_eq_true rfl), (Nat.le_of_ble_eq_true rfl)⟩ sx_noX (fun v1 μ1 h => ?_)
      refine sx_imul C dd_T_isFalse_23 ?_
      refine sx_istore_n (lu := [(2, .int (sx_i (2 * v1))), (0, .ref (ad 5)), (1, .int (sx_i a1))]) C dd_T_isFalse_24 rfl (by decide) rfl ?_
      refine sx_iload_n C 0 dd_T_isFalse_25 rfl rfl ?_
      refine sx_aload_n C 1 dd_T_isFalse_26 rfl rfl ?_
      refine sx_iload_n C 2 dd_T_isFalse_27 rfl rfl ?_
      refine sx_iconst C dd_T_isFalse_28 rfl ?_
      refine sx_isub C dd_T_isFalse_29 ?_
      refine sx_invI (c0 := 5) C hZ [.int (sx_i (a1 - 1))] (fun sz2 => sm_T_widthOf hlf h sz2) (sx_cwV (n := 1) C.2.2.2.2.1 wd_408 wd_413 wd_406 wd_407 wd_2 rfl rfl (by decide +kernel) ⟨by decide, by decide⟩) rfl (rfl : sr_cl[3]? = some ("StoneRings$Trace", tt_T, 5)) rfl rfl (Nat.le_of_ble_eq_true rfl) dd_T_isFalse_30 ⟨(Nat.le_of_ble_eq_true rfl), (Nat.le_of_ble_eq_true rfl)⟩ sx_noX (fun v2 μ2 h => ?_)
      refine sx_icmp_ge (tgt := 51) C dd_T_isFalse_33 (by decide) h (fun h => ?_) (fun h => ?_)
      · refine sx_less (lu := []) C [] rfl ?_
        exact sm_T_isFalse_51 C hZ hr hlk ht hlf h
      · refine sx_iload_n C 0 dd_T_isFalse_36 rfl rfl ?_
        refine sx_aload_n C 1 dd_T_isFalse_37 rfl rfl ?_
        refine sx_iload_n C 2 dd_T_isFalse_38 rfl rfl ?_
        refine sx_iconst C dd_T_isFalse_39 rfl ?_
        refine sx_iadd C dd_T_isFalse_40 ?_
        refine sx_invI (c0 := 5) C hZ [.int (sx_i (a1 + 1))] (fun sz2 => sm_T_widthOf hlf h sz2) (sx_cwV (n := 1) C.2.2.2.2.1 wd_408 wd_413 wd_406 wd_407 wd_2 rfl rfl (by decide +kernel) ⟨by decide, by decide⟩) rfl (rfl : sr_cl[3]? = some ("StoneRings$Trace", tt_T, 5)) rfl rfl (Nat.le_of_ble_eq_true rfl) dd_T_isFalse_41 ⟨(Nat.le_of_ble_eq_true rfl), (Nat.le_of_ble_eq_true rfl)⟩ sx_noX (fun v3 μ3 h => ?_)
        refine sx_icmp_ge (tgt := 51) C dd_T_isFalse_44 (by decide) h (fun h => ?_) (fun h => ?_)
        · refine sx_less (lu := []) C [] rfl ?_
          exact sm_T_isFalse_51 C hZ hr hlk ht hlf h
        · refine sx_iconst C dd_T_isFalse_47 rfl ?_
          refine sx_goto (tgt := 52) C dd_T_isFalse_48 (by decide) ?_
          refine sx_less (lu := []) C [] rfl ?_
          exact sm_T_isFalse_52 C hZ hr hlk ht hlf h
    · refine sx_less (lu := []) C [] rfl ?_
      exact sm_T_isFalse_15 C hZ hr hlk ht hlf h
def rm_S_ring : Room := { frames := 8, cells := 1, slots := 6, locals := 125 }
set_option maxHeartbeats 4000000 in
set_option maxRecDepth 100000 in
theorem sm_S_ring_105 (C : sx_C sr_lay sr_cl D cI cJ ad (sx_A sr_lay ad sz) 4 "StoneRings" prog_1_method_9_code sr_ts p s m args c) (hZ : sx_Z (sx_A sr_lay ad sz) s s.heap) (hr : meth.sig.returnType = (some .int)) (hlk : meth.locks = false) (ht : ∀ x ∈ c.exceptionTable.toList, False) (hlf : l.stackTraces = false) {y0 : Int} {μ : sx_M} (h : sw_S_ring_105 Q X y0 μ) : sx_V sr_lay sr_cl D cI cJ ad (sx_A sr_lay ad sz) 4 p l e rm_S_ring s m args below meth c (vx_MQ below (sx_T (sx_QI sr_lay sr_cl D cI cJ ad Q sz)) (sx_XC sr_lay sr_cl D cI cJ ad X sz) args s 1 6 (sx_A sr_lay ad sz)) 0 0 μ 105 [] [.int (sx_i y0)] := by
  unfold sw_S_ring_105 at h
  exact sx_iret C hr hlk dd_S_ring_105 h
set_option maxHeartbeats 4000000 in
set_option maxRecDepth 100000 in
theorem sm_S_ring {l : Launch} {D : va_G} {cI cJ : ClassId} {ad : Nat → Nat} {Q : Int → sx_M → Prop} {X : String → sx_M → Prop} (hlf : l.stackTraces = false) {μ : sx_M} {a1 a2 a3 : Int} (h : sw_S_ring Q X μ a1 a2 a3) (sz : Nat) : sx_MI l yy_S_ring (Cond.code yy_S_ring prog_1_method_9_code 4 (some .int) :: sr_ts) rm_S_ring sr_lay sr_cl D cI cJ ad [.ref (ad 0), .int (sx_i a1), .int (sx_i a2), .int (sx_i a3)] μ Q X 1 6 sz := by
  refine sx_body (plainFor_of_name (by decide +kernel)) rfl (Nat.le_of_ble_eq_true rfl) ?_
  intro p e s m below meth c C hZ hr hlk ht
  unfold sw_S_ring at h
  show sx_V sr_lay sr_cl D cI cJ ad (sx_A sr_lay ad sz) 4 p l e rm_S_ring s m _ below meth c (vx_MQ below (sx_T (sx_QI sr_lay sr_cl D cI cJ ad Q sz)) (sx_XC sr_lay sr_cl D cI cJ ad X sz) _ s 1 6 (sx_A sr_lay ad sz)) 0 0 μ 0 [(0, .ref (ad 0)), (1, .int (sx_i a1)), (2, .int (sx_i a2)), (3, .int (sx_i a3))] []
  refine sx_aload_n C 0 dd_S_ring_0 rfl rfl ?_
  refine sx_iload_n C 1 dd_S_ring_1 rfl rfl ?_
  refine sx_aload_n C 0 dd_S_ring_2 rfl rfl ?_
  refine sx_getr (ref := "StoneRings") C 0 3 rfl rfl (rfl : sr_cl[4]? = some ("StoneRings", tt_S, 10)) (by decide) in_S wd_134 rfl dd_S_ring_3 ?_
  refine sx_invV (c0 := 0) C hZ [.int (sx_i a1), .ref (ad 5)] (fun sz2 => sm_S_follow hlf rfl rfl rfl rfl h sz2) (sx_cwV (n := 2) C.2.2.2.2.1 wd_354 wd_351 wd_353 wp_S_follow wd_1 rfl rfl (by decide +kernel) ⟨by decide, by decide⟩) rfl (rfl : sr_cl[4]? = some ("StoneRings", tt_S, 10)) rfl rfl (Nat.le_of_ble_eq_true rfl) dd_S_ring_6 ⟨(Nat.le_of_ble_eq_true rfl), (Nat.le_of_ble_eq_true rfl)⟩ (sx_prop hlk ht (Nat.le_of_ble_eq_true rfl) (Nat.le_of_ble_eq_true rfl)) (fun v1 μ1 h => ?_)
  refine sx_iload_n C 2 dd_S_ring_9 rfl rfl ?_
  refine sx_aload_n C 0 dd_S_ring_10 rfl rfl ?_
  refine sx_getr (ref := "StoneRings") C 0 3 rfl rfl (rfl : sr_cl[4]? = some ("StoneRings", tt_S, 10)) (by decide) in_S wd_134 rfl dd_S_ring_11 ?_
  refine sx_geti (K := 4) (ref := "StoneRings$Trace") C 5 4 rfl rfl rfl (rfl : sr_cl[3]? = some ("StoneRings$Trace", tt_T, 5)) (by decide) in_T wd_40 rfl dd_S_ring_14 ?_
  refine sx_stcV C hZ [.int (sx_i a2), .int (sx_i (μ1 5 4))] (fun sz2 => sm_S_needPlace hlf h sz2) (sx_cwS (n := 2) C.2.2.2.2.1 wd_303 wd_301 wd_302 wd_1 rfl rfl (by decide +kernel) ⟨by decide, by decide⟩) rfl rfl (Nat.le_of_ble_eq_true rfl) dd_S_ring_17 ⟨(Nat.le_of_ble_eq_true rfl), (Nat.le_of_ble_eq_true rfl)⟩ (sx_prop hlk ht (Nat.le_of_ble_eq_true rfl) (Nat.le_of_ble_eq_true rfl)) (fun v2 μ2 h => ?_)
  refine sx_iload_n C 3 dd_S_ring_20 rfl rfl ?_
  refine sx_iconst C dd_S_ring_21 rfl ?_
  refine sx_stcV C hZ [.int (sx_i a3), .int (sx_i 4)] (fun sz2 => sm_S_needPlace hlf h sz2) (sx_cwS (n := 2) C.2.2.2.2.1 wd_303 wd_301 wd_302 wd_1 rfl rfl (by decide +kernel) ⟨by decide, by decide⟩) rfl rfl (Nat.le_of_ble_eq_true rfl) dd_S_ring_22 ⟨(Nat.le_of_ble_eq_true rfl), (Nat.le_of_ble_eq_true rfl)⟩ (sx_prop hlk ht (Nat.le_of_ble_eq_true rfl) (Nat.le_of_ble_eq_true rfl)) (fun v3 μ3 h => ?_)
  refine sx_iload_n C 3 dd_S_ring_25 rfl rfl ?_
  obtain ⟨hR9, h_0, h_1, h_2, h_d⟩ := h
  rcases (show a3 = 0 ∨ a3 = 1 ∨ a3 = 2 ∨ (a3 < 0 ∨ 2 < a3) by omega) with q9 | q9 | q9 | q9
  · have h := h_0 q9
    refine sx_tableIn (tgt := 52) C dd_S_ring_26 hR9 (by omega) (by omega) (by rw [q9]; rfl) (by decide) ?_
    refine sx_aload_n C 0 dd_S_ring_52 rfl rfl ?_
    refine sx_getr (ref := "StoneRings") C 0 3 rfl rfl (rfl : sr_cl[4]? = some ("StoneRings", tt_S, 10)) (by decide) in_S wd_134 rfl dd_S_ring_53 ?_
    refine sx_getr (ref := "StoneRings$Trace") C 5 2 rfl rfl (rfl : sr_cl[3]? = some ("StoneRings$Trace", tt_T, 5)) (by decide) in_T wd_35 rfl dd_S_ring_56 ?_
    refine sx_iload_n C 2 dd_S_ring_59 rfl rfl ?_
    refine sx_iald (N := 8) C 8 rfl rfl (by decide) dd_S_ring_60 h (fun h => ?_)
    exact sx_iret C hr hlk dd_S_ring_61 h
  · have h := h_1 q9
    refine sx_tableIn (tgt := 62) C dd_S_ring_26 hR9 (by omega) (by omega) (by rw [q9]; rfl) (by decide) ?_
    refine sx_aload_n C 0 dd_S_ring_62 rfl rfl ?_
    refine sx_getr (ref := "StoneRings") C 0 3 rfl rfl (rfl : sr_cl[4]? = some ("StoneRings", tt_S, 10)) (by decide) in_S wd_134 rfl dd_S_ring_63 ?_
    refine sx_getr (ref := "StoneRings$Trace") C 5 1 rfl rfl (rfl : sr_cl[3]? = some ("StoneRings$Trace", tt_T, 5)) (by decide) in_T wd_32 rfl dd_S_ring_66 ?_
    refine sx_aload_n C 0 dd_S_ring_69 rfl rfl ?_
    refine sx_getr (ref := "StoneRings") C 0 3 rfl rfl (rfl : sr_cl[4]? = some ("StoneRings", tt_S, 10)) (by decide) in_S wd_134 rfl dd_S_ring_70 ?_
    refine sx_getr (ref := "StoneRings$Trace") C 5 2 rfl rfl (rfl : sr_cl[3]? = some ("StoneRings$Trace", tt_T, 5)) (by decide) in_T wd_35 rfl dd_S_ring_73 ?_
    refine sx_iload_n C 2 dd_S_ring_76 rfl rfl ?_
    refine sx_iald (N := 8) C 8 rfl rfl (by decide) dd_S_ring_77 h (fun h => ?_)
    refine sx_iald (N := 16) C 7 rfl rfl (by decide) dd_S_ring_78 h (fun h => ?_)
    exact sx_iret C hr hlk dd_S_ring_79 h
  · have h := h_2 q9
    refine sx_tableIn (tgt := 80) C dd_S_ring_26 hR9 (by omega) (by omega) (by rw [q9]; rfl) (by decide) ?_
    refine sx_aload_n C 0 dd_S_ring_80 rfl rfl ?_
    refine sx_getr (ref := "StoneRings") C 0 3 rfl rfl (rfl : sr_cl[4]? = some ("StoneRings", tt_S, 10)) (by decide) in_S wd_134 rfl dd_S_ring_81 ?_
    refine sx_iload_n C 2 dd_S_ring_84 rfl rfl ?_
    refine sx_invI (c0 := 5) C hZ [.int (sx_i a2)] (fun sz2 => sm_T_widthOf hlf h sz2) (sx_cwV (n := 1) C.2.2.2.2.1 wd_408 wd_405 wd_406 wd_407 wd_2 rfl rfl (by decide +kernel) ⟨by decide, by decide⟩) rfl (rfl : sr_cl[3]? = some ("StoneRings$Trace", tt_T, 5)) rfl rfl (Nat.le_of_ble_eq_true rfl) dd_S_ring_85 ⟨(Nat.le_of_ble_eq_true rfl), (Nat.le_of_ble_eq_true rfl)⟩ sx_noX (fun v4 μ4 h => ?_)
    exact sx_iret C hr hlk dd_S_ring_88 h
  · have h := h_d q9
    refine sx_tableOut (tgt := 89) C dd_S_ring_26 hR9 q9 (by decide) ?_
    refine sx_aload_n C 0 dd_S_ring_89 rfl rfl ?_
    refine sx_getr (ref := "StoneRings") C 0 3 rfl rfl (rfl : sr_cl[4]? = some ("StoneRings", tt_S, 10)) (by decide) in_S wd_134 rfl dd_S_ring_90 ?_
    refine sx_iload_n C 2 dd_S_ring_93 rfl rfl ?_
    refine sx_invI (c0 := 5) C hZ [.int (sx_i a2)] (fun sz2 => sm_T_isFalse hlf h sz2) (sx_cwV (n := 1) C.2.2.2.2.1 wd_412 wd_409 wd_410 wd_411 wd_2 rfl rfl (by decide +kernel) ⟨by decide, by decide⟩) rfl (rfl : sr_cl[3]? = some ("StoneRings$Trace", tt_T, 5)) rfl rfl (Nat.le_of_ble_eq_true rfl) dd_S_ring_94 ⟨(Nat.le_of_ble_eq_true rfl), (Nat.le_of_ble_eq_true rfl)⟩ sx_noX (fun v5 μ5 h => ?_)
    refine sx_if_eq (tgt := 104) C dd_S_ring_97 (by decide) h (fun h => ?_) (fun h => ?_)
    · refine sx_iconst C dd_S_ring_104 rfl ?_
      refine sx_less (lu := []) C [] rfl ?_
      exact sm_S_ring_105 C hZ hr hlk ht hlf h
    · refine sx_iconst C dd_S_ring_100 rfl ?_
      refine sx_goto (tgt := 105) C dd_S_ring_101 (by decide) ?_
      refine sx_less (lu := []) C [] rfl ?_
      exact sm_S_ring_105 C hZ hr hlk ht hlf h
def rm_G_together : Room := { frames := 1, cells := 0, slots := 0, locals := 21 }
set_option maxHeartbeats 4000000 in
set_option maxRecDepth 100000 in
theorem sm_G_together {l : Launch} {D : va_G} {cI cJ : ClassId} {ad : Nat → Nat} {Q : Int → sx_M → Prop} (hlf : l.stackTraces = false) {μ : sx_M} {a3 a4 : Int} (h : sw_G_together Q μ a3 a4) (sz : Nat) : sx_MI l yy_G_together (Cond.code yy_G_together prog_2_method_5_code 5 (some .int) :: sr_ts) rm_G_together sr_lay sr_cl D cI cJ ad [.ref (ad 13), .ref (ad 5), .ref (ad 9), .int (sx_i a3), .int (sx_i a4)] μ Q (fun _ _ => False) 0 0 sz := by
  refine sx_body (plainFor_of_name (by decide +kernel)) rfl (Nat.le_of_ble_eq_true rfl) ?_
  intro p e s m below meth c C hZ hr hlk ht
  unfold sw_G_together at h
  show sx_V sr_lay sr_cl D cI cJ ad (sx_A sr_lay ad sz) 5 p l e rm_G_together s m _ below meth c (vx_MQ below (sx_T (sx_QI sr_lay sr_cl D cI cJ ad Q sz)) (sx_XC sr_lay sr_cl D cI cJ ad (fun _ _ => False) sz) _ s 0 0 (sx_A sr_lay ad sz)) 0 0 μ 0 [(0, .ref (ad 13)), (1, .ref (ad 5)), (2, .ref (ad 9)), (3, .int (sx_i a3)), (4, .int (sx_i a4))] []
  refine sx_aload_n C 1 dd_G_together_0 rfl rfl ?_
  refine sx_getr (ref := "StoneRings$Trace") C 5 2 rfl rfl (rfl : sr_cl[3]? = some ("StoneRings$Trace", tt_T, 5)) (by decide) in_T wd_34 rfl dd_G_together_1 ?_
  refine sx_iload_n C 3 dd_G_together_4 rfl rfl ?_
  refine sx_iald (N := 8) C 8 rfl rfl (by decide) dd_G_together_5 h (fun h => ?_)
  refine sx_aload_n C 2 dd_G_together_6 rfl rfl ?_
  refine sx_getr (ref := "StoneRings$Trace") C 9 2 rfl rfl (rfl : sr_cl[3]? = some ("StoneRings$Trace", tt_T, 5)) (by decide) in_T wd_34 rfl dd_G_together_7 ?_
  refine sx_iload C 4 dd_G_together_10 rfl ?_
  refine sx_iald (N := 8) C 12 rfl rfl (by decide) dd_G_together_12 h (fun h => ?_)
  refine sx_isub C dd_G_together_13 ?_
  refine sx_abs C wl_G_55 wm_abs_s wd_7 wm_abs_c (by decide) (Nat.le_of_ble_eq_true rfl) (by decide) (by decide) dd_G_together_14 h (fun h => ?_)
  refine sx_aload_n C 0 dd_G_together_17 rfl rfl ?_
  refine sx_getr (ref := "StoneRings$Pairing") C 13 0 rfl rfl (rfl : sr_cl[0]? = some ("StoneRings$Pairing", tt_G, 4)) (by decide) in_G wd_59 rfl dd_G_together_18 ?_
  refine sx_iload_n C 3 dd_G_together_21 rfl rfl ?_
  refine sx_iconst C dd_G_together_22 rfl ?_
  refine sx_iadd C dd_G_together_23 ?_
  refine sx_bipush (v := 9) C dd_G_together_24 (by decide +kernel) ?_
  refine sx_imul C dd_G_together_26 ?_
  refine sx_iload C 4 dd_G_together_27 rfl ?_
  refine sx_iadd C dd_G_together_29 ?_
  refine sx_iconst C dd_G_together_30 rfl ?_
  refine sx_iadd C dd_G_together_31 ?_
  refine sx_iald (N := 81) C 14 rfl rfl (by decide) dd_G_together_32 h (fun h => ?_)
  refine sx_iadd C dd_G_together_33 ?_
  exact sx_iret C hr hlk dd_G_together_34 h
def rm_G_leastFrom : Room := { frames := 2, cells := 0, slots := 0, locals := 45 }
set_option maxHeartbeats 4000000 in
set_option maxRecDepth 100000 in
theorem sm_G_leastFrom {l : Launch} {D : va_G} {cI cJ : ClassId} {ad : Nat → Nat} {Q : Int → sx_M → Prop} (hlf : l.stackTraces = false) {μ : sx_M} {a3 a4 a5 : Int} (h : sw_G_leastFrom Q μ a3 a4 a5) (sz : Nat) : sx_MI l yy_G_leastFrom (Cond.code yy_G_leastFrom prog_2_method_4_code 7 (some .int) :: sr_ts) rm_G_leastFrom sr_lay sr_cl D cI cJ ad [.ref (ad 13), .ref (ad 5), .ref (ad 9), .int (sx_i a3), .int (sx_i a4), .int (sx_i a5)] μ Q (fun _ _ => False) 0 0 sz := by
  refine sx_body (plainFor_of_name (by decide +kernel)) rfl (Nat.le_of_ble_eq_true rfl) ?_
  intro p e s m below meth c C hZ hr hlk ht
  unfold sw_G_leastFrom at h
  show sx_V sr_lay sr_cl D cI cJ ad (sx_A sr_lay ad sz) 7 p l e rm_G_leastFrom s m _ below meth c (vx_MQ below (sx_T (sx_QI sr_lay sr_cl D cI cJ ad Q sz)) (sx_XC sr_lay sr_cl D cI cJ ad (fun _ _ => False) sz) _ s 0 0 (sx_A sr_lay ad sz)) 0 0 μ 0 [(0, .ref (ad 13)), (1, .ref (ad 5)), (2, .ref (ad 9)), (3, .int (sx_i a3)), (4, .int (sx_i a4)), (5, .int (sx_i a5))] []
  refine sx_iload_n C 3 dd_G_leastFrom_0 rfl rfl ?_
  refine sx_aload_n C 1 dd_G_leastFrom_1 rfl rfl ?_
  refine sx_geti (K := 4) (ref := "StoneRings$Trace") C 5 4 rfl rfl rfl (rfl : sr_cl[3]? = some ("StoneRings$Trace", tt_T, 5)) (by decide) in_T wd_39 rfl dd_G_leastFrom_2 ?_
  refine sx_icmp_lt (tgt := 19) C dd_G_leastFrom_5 (by decide) h (fun h => ?_) (fun h => ?_)
  · refine sx_iload C 4 dd_G_leastFrom_19 rfl ?_
    refine sx_aload_n C 2 dd_G_leastFrom_21 rfl rfl ?_
    refine sx_geti (K := 4) (ref := "StoneRings$Trace") C 9 4 rfl rfl rfl (rfl : sr_cl[3]? = some ("StoneRings$Trace", tt_T, 5)) (by decide) in_T wd_39 rfl dd_G_leastFrom_22 ?_
    refine sx_icmp_lt (tgt := 38) C dd_G_leastFrom_25 (by decide) h (fun h => ?_) (fun h => ?_)
    · refine sx_iload C 5 dd_G_leastFrom_38 rfl ?_
      refine sx_aload_n C 0 dd_G_leastFrom_40 rfl rfl ?_
      refine sx_getr (ref := "StoneRings$Pairing") C 13 0 rfl rfl (rfl : sr_cl[0]? = some ("StoneRings$Pairing", tt_G, 4)) (by decide) in_G wd_59 rfl dd_G_leastFrom_41 ?_
      refine sx_iload_n C 3 dd_G_leastFrom_44 rfl rfl ?_
      refine sx_iconst C dd_G_leastFrom_45 rfl ?_
      refine sx_iadd C dd_G_leastFrom_46 ?_
      refine sx_bipush (v := 9) C dd_G_leastFrom_47 (by decide +kernel) ?_
      refine sx_imul C dd_G_leastFrom_49 ?_
      refine sx_iload C 4 dd_G_leastFrom_50 rfl ?_
      refine sx_iadd C dd_G_leastFrom_52 ?_
      refine sx_iald (N := 81) C 14 rfl rfl (by decide) dd_G_leastFrom_53 h (fun h => ?_)
      refine sx_aload_n C 0 dd_G_leastFrom_54 rfl rfl ?_
      refine sx_getr (ref := "StoneRings$Pairing") C 13 0 rfl rfl (rfl : sr_cl[0]? = some ("StoneRings$Pairing", tt_G, 4)) (by decide) in_G wd_59 rfl dd_G_leastFrom_55 ?_
      refine sx_iload_n C 3 dd_G_leastFrom_58 rfl rfl ?_
      refine sx_bipush (v := 9) C dd_G_leastFrom_59 (by decide +kernel) ?_
      refine sx_imul C dd_G_leastFrom_61 ?_
      refine sx_iload C 4 dd_G_leastFrom_62 rfl ?_
      refine sx_iadd C dd_G_leastFrom_64 ?_
      refine sx_iconst C dd_G_leastFrom_65 rfl ?_
      refine sx_iadd C dd_G_leastFrom_66 ?_
      refine sx_iald (N := 81) C 14 rfl rfl (by decide) dd_G_leastFrom_67 h (fun h => ?_)
      refine sx_min C wl_G_42 wm_min_s wd_7 wm_min_c (by decide) (Nat.le_of_ble_eq_true rfl) (by decide) (by decide) dd_G_leastFrom_68 h (fun h => ?_)
      refine sx_iadd C dd_G_leastFrom_71 ?_
      refine sx_istore (lu := [(6, .int (sx_i (a5 + (if (μ 14 (((a3 * 9) + a4) + 1)) < (μ 14 (((a3 + 1) * 9) + a4)) then (μ 14 (((a3 * 9) + a4) + 1)) else (μ 14 (((a3 + 1) * 9) + a4)))))), (0, .ref (ad 13)), (1, .ref (ad 5)), (2, .ref (ad 9)), (3, .int (sx_i a3)), (4, .int (sx_i a4)), (5, .int (sx_i a5))]) C dd_G_leastFrom_72 (by decide) rfl ?_
      refine sx_aload_n C 1 dd_G_leastFrom_74 rfl rfl ?_
      refine sx_aload_n C 2 dd_G_leastFrom_75 rfl rfl ?_
      refine sx_aload_n C 3 dd_G_leastFrom_76 rfl rfl ?_
      refine sx_iload_n C 4 dd_G_leastFrom_77 rfl rfl ?_
      refine sx_iload C 5 dd_G_leastFrom_78 rfl ?_
      refine sx_invI (c0 := 13) C hZ [.ref (ad 5), .ref (ad 9), .int (sx_i a3), .int (sx_i a4)] (fun sz2 => sm_G_together hlf h sz2) (sx_cwV (n := 4) C.2.2.2.2.1 wd_437 wd_434 wd_435 wd_436 wd_3 rfl rfl (by decide +kernel) ⟨by decide, by decide⟩) rfl (rfl : sr_cl[0]? = some ("StoneRings$Pairing", tt_G, 4)) rfl rfl (Nat.le_of_ble_eq_true rfl) dd_G_leastFrom_80 ⟨(Nat.le_of_ble_eq_true rfl), (Nat.le_of_ble_eq_true rfl)⟩ sx_noX (fun v1 μ1 h => ?_)
      refine sx_iload C 0 dd_G_leastFrom_83 rfl ?_
      refine sx_min C wl_G_42 wm_min_s wd_7 wm_min_c (by decide) (Nat.le_of_ble_eq_true rfl) (by decide) (by decide) dd_G_leastFrom_85 h (fun h => ?_)
      exact sx_iret C hr hlk dd_G_leastFrom_88 h
    · refine sx_aload_n C 1 dd_G_leastFrom_28 rfl rfl ?_
      refine sx_geti (K := 4) (ref := "StoneRings$Trace") C 5 4 rfl rfl rfl (rfl : sr_cl[3]? = some ("StoneRings$Trace", tt_T, 5)) (by decide) in_T wd_39 rfl dd_G_leastFrom_29 ?_
      refine sx_iload_n C 3 dd_G_leastFrom_32 rfl rfl ?_
      refine sx_isub C dd_G_leastFrom_33 ?_
      refine sx_iload C 5 dd_G_leastFrom_34 rfl ?_
      refine sx_imul C dd_G_leastFrom_36 ?_
      exact sx_iret C hr hlk dd_G_leastFrom_37 h
  · refine sx_aload_n C 2 dd_G_leastFrom_8 rfl rfl ?_
    refine sx_geti (K := 4) (ref := "StoneRings$Trace") C 9 4 rfl rfl rfl (rfl : sr_cl[3]? = some ("StoneRings$Trace", tt_T, 5)) (by decide) in_T wd_39 rfl dd_G_leastFrom_9 ?_
    refine sx_iload C 4 dd_G_leastFrom_12 rfl ?_
    refine sx_isub C dd_G_leastFrom_14 ?_
    refine sx_iload C 5 dd_G_leastFrom_15 rfl ?_
    refine sx_imul C dd_G_leastFrom_17 ?_
    exact sx_iret C hr hlk dd_G_leastFrom_18 h
def rm_G_fillCosts : Room := { frames := 3, cells := 0, slots := 0, locals := 71 }
set_option maxHeartbeats 4000000 in
set_option maxRecDepth 100000 in
theorem sm_G_fillCosts_17 (C : sx_C sr_lay sr_cl D cI cJ ad (sx_A sr_lay ad sz) 6 "StoneRings$Pairing" prog_2_method_3_code sr_ts p s m args c) (hZ : sx_Z (sx_A sr_lay ad sz) s s.heap) (hr : meth.sig.returnType = none) (hlk : meth.locks = false) (ht : ∀ x ∈ c.exceptionTable.toList, False) (hlf : l.stackTraces = false) {r6 : Int → Int → sx_M → Prop} (hr6 : ∀ (x3 x4 : Int) (μ : sx_M), r6 x3 x4 μ → sx_V sr_lay sr_cl D cI cJ ad (sx_A sr_lay ad sz) 6 p l e rm_G_fillCosts s m args below meth c (vx_MQ below (sx_T (sx_QV sr_lay sr_cl D cI cJ ad Q sz)) (sx_XC sr_lay sr_cl D cI cJ ad (fun _ _ => False) sz) args s 0 0 (sx_A sr_lay ad sz)) 0 0 μ 6 [(0, .ref (ad 13)), (1, .ref (ad 5)), (2, .ref (ad 9)), (3, .int (sx_i x3)), (4, .int (sx_i x4))] []) : ∀ (n : Nat) (x3 x4 x5 : Int) (μ : sx_M), sw_G_fillCosts_17 Q r6 n x3 x4 x5 μ → sx_V sr_lay sr_cl D cI cJ ad (sx_A sr_lay ad sz) 6 p l e rm_G_fillCosts s m args below meth c (vx_MQ below (sx_T (sx_QV sr_lay sr_cl D cI cJ ad Q sz)) (sx_XC sr_lay sr_cl D cI cJ ad (fun _ _ => False) sz) args s 0 0 (sx_A sr_lay ad sz)) 0 0 μ 17 [(0, .ref (ad 13)), (1, .ref (ad 5)), (2, .ref (ad 9)), (3, .int (sx_i x3)), (4, .int (sx_i x4)), (5, .int (sx_i x5))] [] := by
  intro n
  induction n with
  | zero =>
    intro x3 x4 x5 μ h
    exact h.elim
  | succ n ih =>
    intro x3 x4 x5 μ h
    have hr17 := ih
    unfold sw_G_fillCosts_17 at h
    refine sx_iload C 5 dd_G_fillCosts_17 rfl ?_
    refine sx_if_lt (tgt := 52) C dd_G_fillCosts_19 (by decide) h (fun h => ?_) (fun h => ?_)
    · refine sx_iinc (lu := [(4, .int (sx_i (x4 + (-1)))), (0, .ref (ad 13)), (1, .ref (ad 5)), (2, .ref (ad 9)), (3, .int (sx_i x3)), (5, .int (sx_i x5))]) C 4 dd_G_fillCosts_52 rfl (by decide) rfl ?_
      refine sx_goto (tgt := 6) C dd_G_fillCosts_55 (by decide) ?_
      refine sx_less (lu := [(0, .ref (ad 13)), (1, .ref (ad 5)), (2, .ref (ad 9)), (3, .int (sx_i x3)), (4, .int (sx_i (x4 + (-1))))]) C [1, 2, 3, 4, 0] rfl ?_
      exact hr6 _ _ _ h
    · refine sx_aload_n C 0 dd_G_fillCosts_22 rfl rfl ?_
      refine sx_getr (ref := "StoneRings$Pairing") C 13 0 rfl rfl (rfl : sr_cl[0]? = some ("StoneRings$Pairing", tt_G, 4)) (by decide) in_G wd_59 rfl dd_G_fillCosts_23 ?_
      refine sx_iload C 4 dd_G_fillCosts_26 rfl ?_
      refine sx_bipush (v := 9) C dd_G_fillCosts_28 (by decide +kernel) ?_
      refine sx_imul C dd_G_fillCosts_30 ?_
      refine sx_iload C 5 dd_G_fillCosts_31 rfl ?_
      refine sx_iadd C dd_G_fillCosts_33 ?_
      refine sx_aload_n C 0 dd_G_fillCosts_34 rfl rfl ?_
      refine sx_aload_n C 1 dd_G_fillCosts_35 rfl rfl ?_
      refine sx_aload_n C 2 dd_G_fillCosts_36 rfl rfl ?_
      refine sx_iload C 4 dd_G_fillCosts_37 rfl ?_
      refine sx_iload C 5 dd_G_fillCosts_39 rfl ?_
      refine sx_iload_n C 3 dd_G_fillCosts_41 rfl rfl ?_
      refine sx_invI (c0 := 13) C hZ [.ref (ad 5), .ref (ad 9), .int (sx_i x4), .int (sx_i x5), .int (sx_i x3)] (fun sz2 => sm_G_leastFrom hlf h sz2) (sx_cwV (n := 5) C.2.2.2.2.1 wd_432 wd_429 wd_430 wd_431 wd_3 rfl rfl (by decide +kernel) ⟨by decide, by decide⟩) rfl (rfl : sr_cl[0]? = some ("StoneRings$Pairing", tt_G, 4)) rfl rfl (Nat.le_of_ble_eq_true rfl) dd_G_fillCosts_42 ⟨(Nat.le_of_ble_eq_true rfl), (Nat.le_of_ble_eq_true rfl)⟩ sx_noX (fun v1 μ1 h => ?_)
      refine sx_iast (N := 81) C 14 rfl rfl (by decide) dd_G_fillCosts_45 h (fun h => ?_)
      refine sx_iinc (lu := [(5, .int (sx_i (x5 + (-1)))), (0, .ref (ad 13)), (1, .ref (ad 5)), (2, .ref (ad 9)), (3, .int (sx_i x3)), (4, .int (sx_i x4))]) C 5 dd_G_fillCosts_46 rfl (by decide) rfl ?_
      refine sx_goto (tgt := 17) C dd_G_fillCosts_49 (by decide) ?_
      refine sx_less (lu := [(0, .ref (ad 13)), (1, .ref (ad 5)), (2, .ref (ad 9)), (3, .int (sx_i x3)), (4, .int (sx_i x4)), (5, .int (sx_i (x5 + (-1))))]) C [1, 2, 3, 4, 5, 0] rfl ?_
      exact hr17 _ _ _ _ h
set_option maxHeartbeats 4000000 in
set_option maxRecDepth 100000 in
theorem sm_G_fillCosts_6 (C : sx_C sr_lay sr_cl D cI cJ ad (sx_A sr_lay ad sz) 6 "StoneRings$Pairing" prog_2_method_3_code sr_ts p s m args c) (hZ : sx_Z (sx_A sr_lay ad sz) s s.heap) (hr : meth.sig.returnType = none) (hlk : meth.locks = false) (ht : ∀ x ∈ c.exceptionTable.toList, False) (hlf : l.stackTraces = false) : ∀ (n : Nat) (x3 x4 : Int) (μ : sx_M), sw_G_fillCosts_6 Q n x3 x4 μ → sx_V sr_lay sr_cl D cI cJ ad (sx_A sr_lay ad sz) 6 p l e rm_G_fillCosts s m args below meth c (vx_MQ below (sx_T (sx_QV sr_lay sr_cl D cI cJ ad Q sz)) (sx_XC sr_lay sr_cl D cI cJ ad (fun _ _ => False) sz) args s 0 0 (sx_A sr_lay ad sz)) 0 0 μ 6 [(0, .ref (ad 13)), (1, .ref (ad 5)), (2, .ref (ad 9)), (3, .int (sx_i x3)), (4, .int (sx_i x4))] [] := by
  intro n
  induction n with
  | zero =>
    intro x3 x4 μ h
    exact h.elim
  | succ n ih =>
    intro x3 x4 μ h
    have hr6 := ih
    unfold sw_G_fillCosts_6 at h
    refine sx_iload C 4 dd_G_fillCosts_6 rfl ?_
    refine sx_if_lt (tgt := 58) C dd_G_fillCosts_8 (by decide) h (fun h => ?_) (fun h => ?_)
    · exact sx_vret C hr hlk dd_G_fillCosts_58 h
    · refine sx_aload_n C 2 dd_G_fillCosts_11 rfl rfl ?_
      refine sx_geti (K := 4) (ref := "StoneRings$Trace") C 9 4 rfl rfl rfl (rfl : sr_cl[3]? = some ("StoneRings$Trace", tt_T, 5)) (by decide) in_T wd_39 rfl dd_G_fillCosts_12 ?_
      refine sx_istore (lu := [(5, .int (sx_i (μ 9 4))), (0, .ref (ad 13)), (1, .ref (ad 5)), (2, .ref (ad 9)), (3, .int (sx_i x3)), (4, .int (sx_i x4))]) C dd_G_fillCosts_15 (by decide) rfl ?_
      refine sx_less (lu := [(0, .ref (ad 13)), (1, .ref (ad 5)), (2, .ref (ad 9)), (3, .int (sx_i x3)), (4, .int (sx_i x4)), (5, .int (sx_i (μ 9 4)))]) C [1, 2, 3, 4, 5, 0] rfl ?_
      exact sm_G_fillCosts_17 C hZ hr hlk ht hlf hr6 600 _ _ _ _ h
set_option maxHeartbeats 4000000 in
set_option maxRecDepth 100000 in
theorem sm_G_fillCosts {l : Launch} {D : va_G} {cI cJ : ClassId} {ad : Nat → Nat} {Q : Int → sx_M → Prop} (hlf : l.stackTraces = false) {μ : sx_M} {a3 : Int} (h : sw_G_fillCosts Q μ a3) (sz : Nat) : sx_MV l yy_G_fillCosts (Cond.code yy_G_fillCosts prog_2_method_3_code 6 none :: sr_ts) rm_G_fillCosts sr_lay sr_cl D cI cJ ad [.ref (ad 13), .ref (ad 5), .ref (ad 9), .int (sx_i a3)] μ Q (fun _ _ => False) 0 0 sz := by
  refine sx_body (plainFor_of_name (by decide +kernel)) rfl (Nat.le_of_ble_eq_true rfl) ?_
  intro p e s m below meth c C hZ hr hlk ht
  unfold sw_G_fillCosts at h
  show sx_V sr_lay sr_cl D cI cJ ad (sx_A sr_lay ad sz) 6 p l e rm_G_fillCosts s m _ below meth c (vx_MQ below (sx_T (sx_QV sr_lay sr_cl D cI cJ ad Q sz)) (sx_XC sr_lay sr_cl D cI cJ ad (fun _ _ => False) sz) _ s 0 0 (sx_A sr_lay ad sz)) 0 0 μ 0 [(0, .ref (ad 13)), (1, .ref (ad 5)), (2, .ref (ad 9)), (3, .int (sx_i a3))] []
  refine sx_aload_n C 1 dd_G_fillCosts_0 rfl rfl ?_
  refine sx_geti (K := 4) (ref := "StoneRings$Trace") C 5 4 rfl rfl rfl (rfl : sr_cl[3]? = some ("StoneRings$Trace", tt_T, 5)) (by decide) in_T wd_39 rfl dd_G_fillCosts_1 ?_
  refine sx_istore (lu := [(4, .int (sx_i (μ 5 4))), (0, .ref (ad 13)), (1, .ref (ad 5)), (2, .ref (ad 9)), (3, .int (sx_i a3))]) C dd_G_fillCosts_4 (by decide) rfl ?_
  refine sx_less (lu := [(0, .ref (ad 13)), (1, .ref (ad 5)), (2, .ref (ad 9)), (3, .int (sx_i a3)), (4, .int (sx_i (μ 5 4)))]) C [1, 2, 3, 4, 0] rfl ?_
  exact sm_G_fillCosts_6 C hZ hr hlk ht hlf 600 _ _ _ h
end SXG
