section SXG
variable {D : va_G} {cI cJ : ClassId} {ad : Nat → Nat} {sz : Nat} {p : Program} {l : Launch} {e : Env} {s : State} {m : MethodId} {args : Array Value} {below : List Frame} {meth : Method} {c : Code} {Q : Int → sx_M → Prop} {X : String → sx_M → Prop}
def rm_S_best : Room := { frames := 7, cells := 1, slots := 6, locals := 117 }
set_option maxHeartbeats 4000000 in
set_option maxRecDepth 100000 in
theorem sm_S_best {l : Launch} {D : va_G} {cI cJ : ClassId} {ad : Nat → Nat} {Q : Int → sx_M → Prop} {X : String → sx_M → Prop} (hlf : l.stackTraces = false) {μ : sx_M} {a1 : Int} (h : sw_S_best Q X μ a1) (sz : Nat) : sx_MI l yy_S_best (Cond.code yy_S_best prog_1_method_20_code 2 (some .int) :: sr_ts) rm_S_best sr_lay sr_cl D cI cJ ad [.ref (ad 0), .int (sx_i a1)] μ Q X 1 6 sz := by
  refine sx_body (plainFor_of_name (by decide +kernel)) rfl (Nat.le_of_ble_eq_true rfl) ?_
  intro p e s m below meth c C hZ hr hlk ht
  unfold sw_S_best at h
  show sx_V sr_lay sr_cl D cI cJ ad (sx_A sr_lay ad sz) 2 p l e rm_S_best s m _ below meth c (vx_MQ below (sx_T (sx_QI sr_lay sr_cl D cI cJ ad Q sz)) (sx_XC sr_lay sr_cl D cI cJ ad X sz) _ s 1 6 (sx_A sr_lay ad sz)) 0 0 μ 0 [(0, .ref (ad 0)), (1, .int (sx_i a1))] []
  refine sx_iload_n C 1 dd_S_best_0 rfl rfl ?_
  refine sx_iconst C dd_S_best_1 rfl ?_
  refine sx_stcV C hZ [.int (sx_i a1), .int (sx_i 4)] (fun sz2 => sm_S_needPlace hlf h sz2) (sx_cwS (n := 2) C.2.2.2.2.1 wd_303 wd_301 wd_302 wd_1 rfl rfl (by decide +kernel) ⟨by decide, by decide⟩) rfl rfl (Nat.le_of_ble_eq_true rfl) dd_S_best_2 ⟨(Nat.le_of_ble_eq_true rfl), (Nat.le_of_ble_eq_true rfl)⟩ (sx_prop hlk ht (Nat.le_of_ble_eq_true rfl) (Nat.le_of_ble_eq_true rfl)) (fun v1 μ1 h => ?_)
  refine sx_aload_n C 0 dd_S_best_5 rfl rfl ?_
  refine sx_getr (ref := "StoneRings") C 0 6 rfl rfl (rfl : sr_cl[4]? = some ("StoneRings", tt_S, 10)) (by decide) in_S wd_137 rfl dd_S_best_6 ?_
  refine sx_iload_n C 1 dd_S_best_9 rfl rfl ?_
  refine sx_invI (c0 := 16) C hZ [.int (sx_i a1)] (fun sz2 => sm_D_readerAt hlf h sz2) (sx_cwV (n := 1) C.2.2.2.2.1 wd_562 wd_559 wd_560 wd_561 wd_4 rfl rfl (by decide +kernel) ⟨by decide, by decide⟩) rfl (rfl : sr_cl[2]? = some ("StoneRings$Readings", tt_D, 3)) rfl rfl (Nat.le_of_ble_eq_true rfl) dd_S_best_10 ⟨(Nat.le_of_ble_eq_true rfl), (Nat.le_of_ble_eq_true rfl)⟩ sx_noX (fun v2 μ2 h => ?_)
  exact sx_iret C hr hlk dd_S_best_13 h
def rm_S_age : Room := { frames := 7, cells := 1, slots := 6, locals := 104 }
set_option maxHeartbeats 4000000 in
set_option maxRecDepth 100000 in
theorem sm_S_age_58 (C : sx_C sr_lay sr_cl D cI cJ ad (sx_A sr_lay ad sz) 5 "StoneRings" prog_1_method_21_code sr_ts p s m args c) (hZ : sx_Z (sx_A sr_lay ad sz) s s.heap) (hr : meth.sig.returnType = (some .int)) (hlk : meth.locks = false) (ht : ∀ x ∈ c.exceptionTable.toList, False) (hlf : l.stackTraces = false) {y0 : Int} {μ : sx_M} (h : sw_S_age_58 Q X y0 μ) : sx_V sr_lay sr_cl D cI cJ ad (sx_A sr_lay ad sz) 5 p l e rm_S_age s m args below meth c (vx_MQ below (sx_T (sx_QI sr_lay sr_cl D cI cJ ad Q sz)) (sx_XC sr_lay sr_cl D cI cJ ad X sz) args s 1 6 (sx_A sr_lay ad sz)) 0 0 μ 58 [] [.int (sx_i y0)] := by
  unfold sw_S_age_58 at h
  exact sx_iret C hr hlk dd_S_age_58 h
set_option maxHeartbeats 4000000 in
set_option maxRecDepth 100000 in
theorem sm_S_age {l : Launch} {D : va_G} {cI cJ : ClassId} {ad : Nat → Nat} {Q : Int → sx_M → Prop} {X : String → sx_M → Prop} (hlf : l.stackTraces = false) {μ : sx_M} {a1 a2 a3 : Int} (h : sw_S_age Q X μ a1 a2 a3) (sz : Nat) : sx_MI l yy_S_age (Cond.code yy_S_age prog_1_method_21_code 5 (some .int) :: sr_ts) rm_S_age sr_lay sr_cl D cI cJ ad [.ref (ad 0), .int (sx_i a1), .int (sx_i a2), .int (sx_i a3)] μ Q X 1 6 sz := by
  refine sx_body (plainFor_of_name (by decide +kernel)) rfl (Nat.le_of_ble_eq_true rfl) ?_
  intro p e s m below meth c C hZ hr hlk ht
  unfold sw_S_age at h
  show sx_V sr_lay sr_cl D cI cJ ad (sx_A sr_lay ad sz) 5 p l e rm_S_age s m _ below meth c (vx_MQ below (sx_T (sx_QI sr_lay sr_cl D cI cJ ad Q sz)) (sx_XC sr_lay sr_cl D cI cJ ad X sz) _ s 1 6 (sx_A sr_lay ad sz)) 0 0 μ 0 [(0, .ref (ad 0)), (1, .int (sx_i a1)), (2, .int (sx_i a2)), (3, .int (sx_i a3))] []
  refine sx_iload_n C 1 dd_S_age_0 rfl rfl ?_
  refine sx_bipush (v := 20) C dd_S_age_1 (by decide +kernel) ?_
  refine sx_stcV C hZ [.int (sx_i a1), .int (sx_i 20)] (fun sz2 => sm_S_needPlace hlf h sz2) (sx_cwS (n := 2) C.2.2.2.2.1 wd_303 wd_301 wd_302 wd_1 rfl rfl (by decide +kernel) ⟨by decide, by decide⟩) rfl rfl (Nat.le_of_ble_eq_true rfl) dd_S_age_3 ⟨(Nat.le_of_ble_eq_true rfl), (Nat.le_of_ble_eq_true rfl)⟩ (sx_prop hlk ht (Nat.le_of_ble_eq_true rfl) (Nat.le_of_ble_eq_true rfl)) (fun v1 μ1 h => ?_)
  refine sx_iload_n C 2 dd_S_age_6 rfl rfl ?_
  refine sx_iconst C dd_S_age_7 rfl ?_
  refine sx_sipush (v := 364) C dd_S_age_8 (by decide +kernel) ?_
  refine sx_stcV C hZ [.int (sx_i a2), .int (sx_i 0), .int (sx_i 364)] (fun sz2 => sm_S_needNumber hlf h sz2) (sx_cwS (n := 3) C.2.2.2.2.1 wd_268 wd_266 wd_267 wd_1 rfl rfl (by decide +kernel) ⟨by decide, by decide⟩) rfl rfl (Nat.le_of_ble_eq_true rfl) dd_S_age_11 ⟨(Nat.le_of_ble_eq_true rfl), (Nat.le_of_ble_eq_true rfl)⟩ (sx_prop hlk ht (Nat.le_of_ble_eq_true rfl) (Nat.le_of_ble_eq_true rfl)) (fun v2 μ2 h => ?_)
  refine sx_iload_n C 3 dd_S_age_14 rfl rfl ?_
  refine sx_iconst C dd_S_age_15 rfl ?_
  refine sx_sipush (v := 364) C dd_S_age_16 (by decide +kernel) ?_
  refine sx_stcV C hZ [.int (sx_i a3), .int (sx_i 0), .int (sx_i 364)] (fun sz2 => sm_S_needNumber hlf h sz2) (sx_cwS (n := 3) C.2.2.2.2.1 wd_268 wd_266 wd_267 wd_1 rfl rfl (by decide +kernel) ⟨by decide, by decide⟩) rfl rfl (Nat.le_of_ble_eq_true rfl) dd_S_age_19 ⟨(Nat.le_of_ble_eq_true rfl), (Nat.le_of_ble_eq_true rfl)⟩ (sx_prop hlk ht (Nat.le_of_ble_eq_true rfl) (Nat.le_of_ble_eq_true rfl)) (fun v3 μ3 h => ?_)
  refine sx_aload_n C 0 dd_S_age_22 rfl rfl ?_
  refine sx_getr (ref := "StoneRings") C 0 6 rfl rfl (rfl : sr_cl[4]? = some ("StoneRings", tt_S, 10)) (by decide) in_S wd_137 rfl dd_S_age_23 ?_
  refine sx_iload_n C 1 dd_S_age_26 rfl rfl ?_
  refine sx_invI (c0 := 16) C hZ [.int (sx_i a1)] (fun sz2 => sm_D_mostTold hlf h sz2) (sx_cwV (n := 1) C.2.2.2.2.1 wd_173 wd_540 wd_171 wd_172 wd_4 rfl rfl (by decide +kernel) ⟨by decide, by decide⟩) rfl (rfl : sr_cl[2]? = some ("StoneRings$Readings", tt_D, 3)) rfl rfl (Nat.le_of_ble_eq_true rfl) dd_S_age_27 ⟨(Nat.le_of_ble_eq_true rfl), (Nat.le_of_ble_eq_true rfl)⟩ sx_noX (fun v4 μ4 h => ?_)
  refine sx_istore (lu := [(4, .int (sx_i v4)), (0, .ref (ad 0)), (1, .int (sx_i a1)), (2, .int (sx_i a2)), (3, .int (sx_i a3))]) C dd_S_age_30 (by decide) rfl ?_
  refine sx_iload C 0 dd_S_age_32 rfl ?_
  refine sx_iconst C dd_S_age_34 rfl ?_
  refine sx_icmp_ne (tgt := 40) C dd_S_age_35 (by decide) h (fun h => ?_) (fun h => ?_)
  · refine sx_iload_n C 3 dd_S_age_40 rfl rfl ?_
    refine sx_iload_n C 4 dd_S_age_41 rfl rfl ?_
    refine sx_icmp_ge (tgt := 56) C dd_S_age_42 (by decide) h (fun h => ?_) (fun h => ?_)
    · refine sx_iload C 0 dd_S_age_56 rfl ?_
      refine sx_less (lu := []) C [] rfl ?_
      exact sm_S_age_58 C hZ hr hlk ht hlf h
    · refine sx_iload C 0 dd_S_age_45 rfl ?_
      refine sx_iconst C dd_S_age_47 rfl ?_
      refine sx_isub C dd_S_age_48 ?_
      refine sx_iconst C dd_S_age_49 rfl ?_
      refine sx_max C wl_S_186 wm_max_s wd_7 wm_max_c (by decide) (Nat.le_of_ble_eq_true rfl) (by decide) (by decide) dd_S_age_50 h (fun h => ?_)
      refine sx_goto (tgt := 58) C dd_S_age_53 (by decide) ?_
      refine sx_less (lu := []) C [] rfl ?_
      exact sm_S_age_58 C hZ hr hlk ht hlf h
  · refine sx_iconst C dd_S_age_38 rfl ?_
    exact sx_iret C hr hlk dd_S_age_39 h
def rm_T_sameValues : Room := { frames := 0, cells := 0, slots := 0, locals := 0 }
set_option maxHeartbeats 4000000 in
set_option maxRecDepth 100000 in
theorem sm_T_sameValues_15 (C : sx_C sr_lay sr_cl D cI cJ ad (sx_A sr_lay ad sz) 3 "StoneRings$Trace" prog_5_method_7_code sr_ts p s m args c) (hZ : sx_Z (sx_A sr_lay ad sz) s s.heap) (hr : meth.sig.returnType = (some .boolean)) (hlk : meth.locks = false) (ht : ∀ x ∈ c.exceptionTable.toList, False) (hlf : l.stackTraces = false) : ∀ (n : Nat) (x2 : Int) (μ : sx_M), sw_T_sameValues_15 Q n x2 μ → sx_V sr_lay sr_cl D cI cJ ad (sx_A sr_lay ad sz) 3 p l e rm_T_sameValues s m args below meth c (vx_MQ below (sx_T (sx_QI sr_lay sr_cl D cI cJ ad Q sz)) (sx_XC sr_lay sr_cl D cI cJ ad (fun _ _ => False) sz) args s 0 0 (sx_A sr_lay ad sz)) 0 0 μ 15 [(0, .ref (ad 5)), (1, .ref (ad 9)), (2, .int (sx_i x2))] [] := by
  intro n
  induction n with
  | zero =>
    intro x2 μ h
    exact h.elim
  | succ n ih =>
    intro x2 μ h
    have hr15 := ih
    unfold sw_T_sameValues_15 at h
    refine sx_iload_n C 2 dd_T_sameValues_15 rfl rfl ?_
    refine sx_aload_n C 0 dd_T_sameValues_16 rfl rfl ?_
    refine sx_geti (K := 3) (ref := "StoneRings$Trace") C 5 3 rfl rfl rfl (rfl : sr_cl[3]? = some ("StoneRings$Trace", tt_T, 5)) (by decide) in_T wd_36 rfl dd_T_sameValues_17 ?_
    refine sx_icmp_ge (tgt := 46) C dd_T_sameValues_20 (by decide) h (fun h => ?_) (fun h => ?_)
    · refine sx_iconst C dd_T_sameValues_46 rfl ?_
      exact sx_zret C hr hlk dd_T_sameValues_47 h
    · refine sx_aload_n C 0 dd_T_sameValues_23 rfl rfl ?_
      refine sx_getr (ref := "StoneRings$Trace") C 5 0 rfl rfl (rfl : sr_cl[3]? = some ("StoneRings$Trace", tt_T, 5)) (by decide) in_T wd_29 rfl dd_T_sameValues_24 ?_
      refine sx_iload_n C 2 dd_T_sameValues_27 rfl rfl ?_
      refine sx_iald (N := 16) C 6 rfl rfl (by decide) dd_T_sameValues_28 h (fun h => ?_)
      refine sx_aload_n C 1 dd_T_sameValues_29 rfl rfl ?_
      refine sx_getr (ref := "StoneRings$Trace") C 9 0 rfl rfl (rfl : sr_cl[3]? = some ("StoneRings$Trace", tt_T, 5)) (by decide) in_T wd_29 rfl dd_T_sameValues_30 ?_
      refine sx_iload_n C 2 dd_T_sameValues_33 rfl rfl ?_
      refine sx_iald (N := 16) C 10 rfl rfl (by decide) dd_T_sameValues_34 h (fun h => ?_)
      refine sx_icmp_eq (tgt := 40) C dd_T_sameValues_35 (by decide) h (fun h => ?_) (fun h => ?_)
      · refine sx_iinc (lu := [(2, .int (sx_i (x2 + 1))), (0, .ref (ad 5)), (1, .ref (ad 9))]) C 2 dd_T_sameValues_40 rfl (by decide) rfl ?_
        refine sx_goto (tgt := 15) C dd_T_sameValues_43 (by decide) ?_
        refine sx_less (lu := [(0, .ref (ad 5)), (1, .ref (ad 9)), (2, .int (sx_i (x2 + 1)))]) C [1, 2, 0] rfl ?_
        exact hr15 _ _ h
      · refine sx_iconst C dd_T_sameValues_38 rfl ?_
        exact sx_zret C hr hlk dd_T_sameValues_39 h
set_option maxHeartbeats 4000000 in
set_option maxRecDepth 100000 in
theorem sm_T_sameValues {l : Launch} {D : va_G} {cI cJ : ClassId} {ad : Nat → Nat} {Q : Int → sx_M → Prop} (hlf : l.stackTraces = false) {μ : sx_M} (h : sw_T_sameValues Q μ ) (sz : Nat) : sx_MI l yy_T_sameValues (Cond.code yy_T_sameValues prog_5_method_7_code 3 (some .boolean) :: sr_ts) rm_T_sameValues sr_lay sr_cl D cI cJ ad [.ref (ad 5), .ref (ad 9)] μ Q (fun _ _ => False) 0 0 sz := by
  refine sx_body (plainFor_of_name (by decide +kernel)) rfl (Nat.le_of_ble_eq_true rfl) ?_
  intro p e s m below meth c C hZ hr hlk ht
  unfold sw_T_sameValues at h
  show sx_V sr_lay sr_cl D cI cJ ad (sx_A sr_lay ad sz) 3 p l e rm_T_sameValues s m _ below meth c (vx_MQ below (sx_T (sx_QI sr_lay sr_cl D cI cJ ad Q sz)) (sx_XC sr_lay sr_cl D cI cJ ad (fun _ _ => False) sz) _ s 0 0 (sx_A sr_lay ad sz)) 0 0 μ 0 [(0, .ref (ad 5)), (1, .ref (ad 9))] []
  refine sx_aload_n C 0 dd_T_sameValues_0 rfl rfl ?_
  refine sx_geti (K := 3) (ref := "StoneRings$Trace") C 5 3 rfl rfl rfl (rfl : sr_cl[3]? = some ("StoneRings$Trace", tt_T, 5)) (by decide) in_T wd_36 rfl dd_T_sameValues_1 ?_
  refine sx_aload_n C 1 dd_T_sameValues_4 rfl rfl ?_
  refine sx_geti (K := 3) (ref := "StoneRings$Trace") C 9 3 rfl rfl rfl (rfl : sr_cl[3]? = some ("StoneRings$Trace", tt_T, 5)) (by decide) in_T wd_36 rfl dd_T_sameValues_5 ?_
  refine sx_icmp_eq (tgt := 13) C dd_T_sameValues_8 (by decide) h (fun h => ?_) (fun h => ?_)
  · refine sx_iconst C dd_T_sameValues_13 rfl ?_
    refine sx_istore_n (lu := [(2, .int (sx_i 0)), (0, .ref (ad 5)), (1, .ref (ad 9))]) C dd_T_sameValues_14 rfl (by decide) rfl ?_
    refine sx_less (lu := [(0, .ref (ad 5)), (1, .ref (ad 9)), (2, .int (sx_i 0))]) C [1, 2, 0] rfl ?_
    exact sm_T_sameValues_15 C hZ hr hlk ht hlf 600 _ _ h
  · refine sx_iconst C dd_T_sameValues_11 rfl ?_
    exact sx_zret C hr hlk dd_T_sameValues_12 h
def rm_S_twin : Room := { frames := 8, cells := 1, slots := 6, locals := 125 }
set_option maxHeartbeats 4000000 in
set_option maxRecDepth 100000 in
theorem sm_S_twin {l : Launch} {D : va_G} {cI cJ : ClassId} {ad : Nat → Nat} {Q : Int → sx_M → Prop} {X : String → sx_M → Prop} (hlf : l.stackTraces = false) {μ : sx_M} {a1 a2 : Int} (h : sw_S_twin Q X μ a1 a2) (sz : Nat) : sx_MI l yy_S_twin (Cond.code yy_S_twin prog_1_method_22_code 3 (some .boolean) :: sr_ts) rm_S_twin sr_lay sr_cl D cI cJ ad [.ref (ad 0), .int (sx_i a1), .int (sx_i a2)] μ Q X 1 6 sz := by
  refine sx_body (plainFor_of_name (by decide +kernel)) rfl (Nat.le_of_ble_eq_true rfl) ?_
  intro p e s m below meth c C hZ hr hlk ht
  unfold sw_S_twin at h
  show sx_V sr_lay sr_cl D cI cJ ad (sx_A sr_lay ad sz) 3 p l e rm_S_twin s m _ below meth c (vx_MQ below (sx_T (sx_QI sr_lay sr_cl D cI cJ ad Q sz)) (sx_XC sr_lay sr_cl D cI cJ ad X sz) _ s 1 6 (sx_A sr_lay ad sz)) 0 0 μ 0 [(0, .ref (ad 0)), (1, .int (sx_i a1)), (2, .int (sx_i a2))] []
  refine sx_aload_n C 0 dd_S_twin_0 rfl rfl ?_
  refine sx_iload_n C 1 dd_S_twin_1 rfl rfl ?_
  refine sx_aload_n C 0 dd_S_twin_2 rfl rfl ?_
  refine sx_getr (ref := "StoneRings") C 0 3 rfl rfl (rfl : sr_cl[4]? = some ("StoneRings", tt_S, 10)) (by decide) in_S wd_134 rfl dd_S_twin_3 ?_
  refine sx_invV (c0 := 0) C hZ [.int (sx_i a1), .ref (ad 5)] (fun sz2 => sm_S_follow hlf rfl rfl rfl rfl h sz2) (sx_cwV (n := 2) C.2.2.2.2.1 wd_354 wd_351 wd_353 wp_S_follow wd_1 rfl rfl (by decide +kernel) ⟨by decide, by decide⟩) rfl (rfl : sr_cl[4]? = some ("StoneRings", tt_S, 10)) rfl rfl (Nat.le_of_ble_eq_true rfl) dd_S_twin_6 ⟨(Nat.le_of_ble_eq_true rfl), (Nat.le_of_ble_eq_true rfl)⟩ (sx_prop hlk ht (Nat.le_of_ble_eq_true rfl) (Nat.le_of_ble_eq_true rfl)) (fun v1 μ1 h => ?_)
  refine sx_aload_n C 0 dd_S_twin_9 rfl rfl ?_
  refine sx_iload_n C 2 dd_S_twin_10 rfl rfl ?_
  refine sx_aload_n C 0 dd_S_twin_11 rfl rfl ?_
  refine sx_getr (ref := "StoneRings") C 0 4 rfl rfl (rfl : sr_cl[4]? = some ("StoneRings", tt_S, 10)) (by decide) in_S wd_135 rfl dd_S_twin_12 ?_
  refine sx_invV (c0 := 0) C hZ [.int (sx_i a2), .ref (ad 9)] (fun sz2 => sm_S_follow hlf rfl rfl rfl rfl h sz2) (sx_cwV (n := 2) C.2.2.2.2.1 wd_354 wd_351 wd_353 wp_S_follow wd_1 rfl rfl (by decide +kernel) ⟨by decide, by decide⟩) rfl (rfl : sr_cl[4]? = some ("StoneRings", tt_S, 10)) rfl rfl (Nat.le_of_ble_eq_true rfl) dd_S_twin_15 ⟨(Nat.le_of_ble_eq_true rfl), (Nat.le_of_ble_eq_true rfl)⟩ (sx_prop hlk ht (Nat.le_of_ble_eq_true rfl) (Nat.le_of_ble_eq_true rfl)) (fun v2 μ2 h => ?_)
  refine sx_aload_n C 0 dd_S_twin_18 rfl rfl ?_
  refine sx_getr (ref := "StoneRings") C 0 3 rfl rfl (rfl : sr_cl[4]? = some ("StoneRings", tt_S, 10)) (by decide) in_S wd_134 rfl dd_S_twin_19 ?_
  refine sx_aload_n C 0 dd_S_twin_22 rfl rfl ?_
  refine sx_getr (ref := "StoneRings") C 0 4 rfl rfl (rfl : sr_cl[4]? = some ("StoneRings", tt_S, 10)) (by decide) in_S wd_135 rfl dd_S_twin_23 ?_
  refine sx_invI (c0 := 5) C hZ [.ref (ad 9)] (fun sz2 => sm_T_sameValues hlf h sz2) (sx_cwV (n := 1) C.2.2.2.2.1 wd_585 wd_582 wd_583 wd_584 wd_2 rfl rfl (by decide +kernel) ⟨by decide, by decide⟩) rfl (rfl : sr_cl[3]? = some ("StoneRings$Trace", tt_T, 5)) rfl rfl (Nat.le_of_ble_eq_true rfl) dd_S_twin_26 ⟨(Nat.le_of_ble_eq_true rfl), (Nat.le_of_ble_eq_true rfl)⟩ sx_noX (fun v3 μ3 h => ?_)
  exact sx_zret C hr hlk dd_S_twin_29 h
def rm_M_thrown : Room := { frames := 0, cells := 0, slots := 0, locals := 0 }
set_option maxHeartbeats 4000000 in
set_option maxRecDepth 100000 in
theorem sm_M_thrown {l : Launch} {D : va_G} {cI cJ : ClassId} {ad : Nat → Nat} {Q : Int → sx_M → Prop} (hlf : l.stackTraces = false) {μ : sx_M} (h : sw_M_thrown Q μ ) (sz : Nat) : sx_MI l yy_M_thrown (Cond.code yy_M_thrown prog_7_method_2_code 1 (some .int) :: sr_ts) rm_M_thrown sr_lay sr_cl D cI cJ ad [.ref (ad 19)] μ Q (fun _ _ => False) 0 0 sz := by
  refine sx_body (plainFor_of_name (by decide +kernel)) rfl (Nat.le_of_ble_eq_true rfl) ?_
  intro p e s m below meth c C hZ hr hlk ht
  unfold sw_M_thrown at h
  show sx_V sr_lay sr_cl D cI cJ ad (sx_A sr_lay ad sz) 1 p l e rm_M_thrown s m _ below meth c (vx_MQ below (sx_T (sx_QI sr_lay sr_cl D cI cJ ad Q sz)) (sx_XC sr_lay sr_cl D cI cJ ad (fun _ _ => False) sz) _ s 0 0 (sx_A sr_lay ad sz)) 0 0 μ 0 [(0, .ref (ad 19))] []
  refine sx_aload_n C 0 dd_M_thrown_0 rfl rfl ?_
  refine sx_geti (K := 0) (ref := "StoneRingsModel") C 19 0 rfl rfl rfl (rfl : sr_cl[5]? = some ("StoneRingsModel", tt_M, 21)) (by decide) in_M wd_592 rfl dd_M_thrown_1 ?_
  exact sx_iret C hr hlk dd_M_thrown_4 h
def rm_M_isIn : Room := { frames := 0, cells := 0, slots := 0, locals := 0 }
set_option maxHeartbeats 4000000 in
set_option maxRecDepth 100000 in
theorem sm_M_isIn_15 (C : sx_C sr_lay sr_cl D cI cJ ad (sx_A sr_lay ad sz) 3 "StoneRingsModel" prog_7_method_3_code sr_ts p s m args c) (hZ : sx_Z (sx_A sr_lay ad sz) s s.heap) (hr : meth.sig.returnType = (some .boolean)) (hlk : meth.locks = false) (ht : ∀ x ∈ c.exceptionTable.toList, False) (hlf : l.stackTraces = false) {y0 : Int} {μ : sx_M} (h : sw_M_isIn_15 Q y0 μ) : sx_V sr_lay sr_cl D cI cJ ad (sx_A sr_lay ad sz) 3 p l e rm_M_isIn s m args below meth c (vx_MQ below (sx_T (sx_QI sr_lay sr_cl D cI cJ ad Q sz)) (sx_XC sr_lay sr_cl D cI cJ ad (fun _ _ => False) sz) args s 0 0 (sx_A sr_lay ad sz)) 0 0 μ 15 [] [.int (sx_i y0)] := by
  unfold sw_M_isIn_15 at h
  exact sx_zret C hr hlk dd_M_isIn_15 h
set_option maxHeartbeats 4000000 in
set_option maxRecDepth 100000 in
theorem sm_M_isIn_14 (C : sx_C sr_lay sr_cl D cI cJ ad (sx_A sr_lay ad sz) 3 "StoneRingsModel" prog_7_method_3_code sr_ts p s m args c) (hZ : sx_Z (sx_A sr_lay ad sz) s s.heap) (hr : meth.sig.returnType = (some .boolean)) (hlk : meth.locks = false) (ht : ∀ x ∈ c.exceptionTable.toList, False) (hlf : l.stackTraces = false) {μ : sx_M} (h : sw_M_isIn_14 Q μ) : sx_V sr_lay sr_cl D cI cJ ad (sx_A sr_lay ad sz) 3 p l e rm_M_isIn s m args below meth c (vx_MQ below (sx_T (sx_QI sr_lay sr_cl D cI cJ ad Q sz)) (sx_XC sr_lay sr_cl D cI cJ ad (fun _ _ => False) sz) args s 0 0 (sx_A sr_lay ad sz)) 0 0 μ 14 [] [] := by
  unfold sw_M_isIn_14 at h
  refine sx_iconst C dd_M_isIn_14 rfl ?_
  exact sm_M_isIn_15 C hZ hr hlk ht hlf h
set_option maxHeartbeats 4000000 in
set_option maxRecDepth 100000 in
theorem sm_M_isIn {l : Launch} {D : va_G} {cI cJ : ClassId} {ad : Nat → Nat} {Q : Int → sx_M → Prop} (hlf : l.stackTraces = false) {μ : sx_M} {a0 a1 a2 : Int} (h : sw_M_isIn Q μ a0 a1 a2) (sz : Nat) : sx_MI l yy_M_isIn (Cond.code yy_M_isIn prog_7_method_3_code 3 (some .boolean) :: sr_ts) rm_M_isIn sr_lay sr_cl D cI cJ ad [.int (sx_i a0), .int (sx_i a1), .int (sx_i a2)] μ Q (fun _ _ => False) 0 0 sz := by
  refine sx_body (plainFor_of_name (by decide +kernel)) rfl (Nat.le_of_ble_eq_true rfl) ?_
  intro p e s m below meth c C hZ hr hlk ht
  unfold sw_M_isIn at h
  show sx_V sr_lay sr_cl D cI cJ ad (sx_A sr_lay ad sz) 3 p l e rm_M_isIn s m _ below meth c (vx_MQ below (sx_T (sx_QI sr_lay sr_cl D cI cJ ad Q sz)) (sx_XC sr_lay sr_cl D cI cJ ad (fun _ _ => False) sz) _ s 0 0 (sx_A sr_lay ad sz)) 0 0 μ 0 [(0, .int (sx_i a0)), (1, .int (sx_i a1)), (2, .int (sx_i a2))] []
  refine sx_iload_n C 0 dd_M_isIn_0 rfl rfl ?_
  refine sx_iload_n C 1 dd_M_isIn_1 rfl rfl ?_
  refine sx_icmp_lt (tgt := 14) C dd_M_isIn_2 (by decide) h (fun h => ?_) (fun h => ?_)
  · refine sx_less (lu := []) C [] rfl ?_
    exact sm_M_isIn_14 C hZ hr hlk ht hlf h
  · refine sx_iload_n C 0 dd_M_isIn_5 rfl rfl ?_
    refine sx_iload_n C 2 dd_M_isIn_6 rfl rfl ?_
    refine sx_icmp_gt (tgt := 14) C dd_M_isIn_7 (by decide) h (fun h => ?_) (fun h => ?_)
    · refine sx_less (lu := []) C [] rfl ?_
      exact sm_M_isIn_14 C hZ hr hlk ht hlf h
    · refine sx_iconst C dd_M_isIn_10 rfl ?_
      refine sx_goto (tgt := 15) C dd_M_isIn_11 (by decide) ?_
      refine sx_less (lu := []) C [] rfl ?_
      exact sm_M_isIn_15 C hZ hr hlk ht hlf h
def rm_M_isThere : Room := { frames := 1, cells := 0, slots := 0, locals := 22 }
set_option maxHeartbeats 4000000 in
set_option maxRecDepth 100000 in
theorem sm_M_isThere_33 (C : sx_C sr_lay sr_cl D cI cJ ad (sx_A sr_lay ad sz) 3 "StoneRingsModel" prog_7_method_4_code sr_ts p s m args c) (hZ : sx_Z (sx_A sr_lay ad sz) s s.heap) (hr : meth.sig.returnType = (some .boolean)) (hlk : meth.locks = false) (ht : ∀ x ∈ c.exceptionTable.toList, False) (hlf : l.stackTraces = false) {y0 : Int} {μ : sx_M} (h : sw_M_isThere_33 Q y0 μ) : sx_V sr_lay sr_cl D cI cJ ad (sx_A sr_lay ad sz) 3 p l e rm_M_isThere s m args below meth c (vx_MQ below (sx_T (sx_QI sr_lay sr_cl D cI cJ ad Q sz)) (sx_XC sr_lay sr_cl D cI cJ ad (fun _ _ => False) sz) args s 0 0 (sx_A sr_lay ad sz)) 0 0 μ 33 [] [.int (sx_i y0)] := by
  unfold sw_M_isThere_33 at h
  exact sx_zret C hr hlk dd_M_isThere_33 h
set_option maxHeartbeats 4000000 in
set_option maxRecDepth 100000 in
theorem sm_M_isThere_32 (C : sx_C sr_lay sr_cl D cI cJ ad (sx_A sr_lay ad sz) 3 "StoneRingsModel" prog_7_method_4_code sr_ts p s m args c) (hZ : sx_Z (sx_A sr_lay ad sz) s s.heap) (hr : meth.sig.returnType = (some .boolean)) (hlk : meth.locks = false) (ht : ∀ x ∈ c.exceptionTable.toList, False) (hlf : l.stackTraces = false) {μ : sx_M} (h : sw_M_isThere_32 Q μ) : sx_V sr_lay sr_cl D cI cJ ad (sx_A sr_lay ad sz) 3 p l e rm_M_isThere s m args below meth c (vx_MQ below (sx_T (sx_QI sr_lay sr_cl D cI cJ ad Q sz)) (sx_XC sr_lay sr_cl D cI cJ ad (fun _ _ => False) sz) args s 0 0 (sx_A sr_lay ad sz)) 0 0 μ 32 [] [] := by
  unfold sw_M_isThere_32 at h
  refine sx_iconst C dd_M_isThere_32 rfl ?_
  exact sm_M_isThere_33 C hZ hr hlk ht hlf h
set_option maxHeartbeats 4000000 in
set_option maxRecDepth 100000 in
theorem sm_M_isThere {l : Launch} {D : va_G} {cI cJ : ClassId} {ad : Nat → Nat} {Q : Int → sx_M → Prop} (hlf : l.stackTraces = false) {μ : sx_M} {a1 a2 : Int} (h : sw_M_isThere Q μ a1 a2) (sz : Nat) : sx_MI l yy_M_isThere (Cond.code yy_M_isThere prog_7_method_4_code 3 (some .boolean) :: sr_ts) rm_M_isThere sr_lay sr_cl D cI cJ ad [.ref (ad 19), .int (sx_i a1), .int (sx_i a2)] μ Q (fun _ _ => False) 0 0 sz := by
  refine sx_body (plainFor_of_name (by decide +kernel)) rfl (Nat.le_of_ble_eq_true rfl) ?_
  intro p e s m below meth c C hZ hr hlk ht
  unfold sw_M_isThere at h
  show sx_V sr_lay sr_cl D cI cJ ad (sx_A sr_lay ad sz) 3 p l e rm_M_isThere s m _ below meth c (vx_MQ below (sx_T (sx_QI sr_lay sr_cl D cI cJ ad Q sz)) (sx_XC sr_lay sr_cl D cI cJ ad (fun _ _ => False) sz) _ s 0 0 (sx_A sr_lay ad sz)) 0 0 μ 0 [(0, .ref (ad 19)), (1, .int (sx_i a1)), (2, .int (sx_i a2))] []
  refine sx_iload_n C 1 dd_M_isThere_0 rfl rfl ?_
  refine sx_iconst C dd_M_isThere_1 rfl ?_
  refine sx_aload_n C 0 dd_M_isThere_2 rfl rfl ?_
  refine sx_geti (K := 1) (ref := "StoneRingsModel") C 19 1 rfl rfl rfl (rfl : sr_cl[5]? = some ("StoneRingsModel", tt_M, 21)) (by decide) in_M wd_593 rfl dd_M_isThere_3 ?_
  refine sx_iconst C dd_M_isThere_6 rfl ?_
  refine sx_isub C dd_M_isThere_7 ?_
  refine sx_stcI C hZ [.int (sx_i a1), .int (sx_i 0), .int (sx_i ((μ 19 1) - 1))] (fun sz2 => sm_M_isIn hlf h sz2) (sx_cwS (n := 3) C.2.2.2.2.1 wd_670 wd_668 wd_669 wd_8 rfl rfl (by decide +kernel) ⟨by decide, by decide⟩) rfl rfl (Nat.le_of_ble_eq_true rfl) dd_M_isThere_8 ⟨(Nat.le_of_ble_eq_true rfl), (Nat.le_of_ble_eq_true rfl)⟩ sx_noX (fun v1 μ1 h => ?_)
  refine sx_if_eq (tgt := 32) C dd_M_isThere_11 (by decide) h (fun h => ?_) (fun h => ?_)
  · refine sx_less (lu := []) C [] rfl ?_
    exact sm_M_isThere_32 C hZ hr hlk ht hlf h
  · refine sx_iload_n C 2 dd_M_isThere_14 rfl rfl ?_
    refine sx_iconst C dd_M_isThere_15 rfl ?_
    refine sx_aload_n C 0 dd_M_isThere_16 rfl rfl ?_
    refine sx_geti (K := 2) (ref := "StoneRingsModel") C 19 2 rfl rfl rfl (rfl : sr_cl[5]? = some ("StoneRingsModel", tt_M, 21)) (by decide) in_M wd_594 rfl dd_M_isThere_17 ?_
    refine sx_iconst C dd_M_isThere_20 rfl ?_
    refine sx_isub C dd_M_isThere_21 ?_
    refine sx_stcI C hZ [.int (sx_i a2), .int (sx_i 0), .int (sx_i ((μ1 19 2) - 1))] (fun sz2 => sm_M_isIn hlf h sz2) (sx_cwS (n := 3) C.2.2.2.2.1 wd_670 wd_668 wd_669 wd_8 rfl rfl (by decide +kernel) ⟨by decide, by decide⟩) rfl rfl (Nat.le_of_ble_eq_true rfl) dd_M_isThere_22 ⟨(Nat.le_of_ble_eq_true rfl), (Nat.le_of_ble_eq_true rfl)⟩ sx_noX (fun v2 μ2 h => ?_)
    refine sx_if_eq (tgt := 32) C dd_M_isThere_25 (by decide) h (fun h => ?_) (fun h => ?_)
    · refine sx_less (lu := []) C [] rfl ?_
      exact sm_M_isThere_32 C hZ hr hlk ht hlf h
    · refine sx_iconst C dd_M_isThere_28 rfl ?_
      refine sx_goto (tgt := 33) C dd_M_isThere_29 (by decide) ?_
      refine sx_less (lu := []) C [] rfl ?_
      exact sm_M_isThere_33 C hZ hr hlk ht hlf h
def rm_M_pixel : Room := { frames := 2, cells := 0, slots := 0, locals := 44 }
set_option maxHeartbeats 4000000 in
set_option maxRecDepth 100000 in
theorem sm_M_pixel_62 (C : sx_C sr_lay sr_cl D cI cJ ad (sx_A sr_lay ad sz) 5 "StoneRingsModel" prog_7_method_5_code sr_ts p s m args c) (hZ : sx_Z (sx_A sr_lay ad sz) s s.heap) (hr : meth.sig.returnType = (some .boolean)) (hlk : meth.locks = false) (ht : ∀ x ∈ c.exceptionTable.toList, False) (hlf : l.stackTraces = false) {x1 x2 x3 y0 : Int} {μ : sx_M} (h : sw_M_pixel_62 Q x1 x2 x3 y0 μ) : sx_V sr_lay sr_cl D cI cJ ad (sx_A sr_lay ad sz) 5 p l e rm_M_pixel s m args below meth c (vx_MQ below (sx_T (sx_QI sr_lay sr_cl D cI cJ ad Q sz)) (sx_XC sr_lay sr_cl D cI cJ ad (fun _ _ => False) sz) args s 0 0 (sx_A sr_lay ad sz)) 0 0 μ 62 [(0, .ref (ad 19)), (1, .int (sx_i x1)), (2, .int (sx_i x2)), (3, .int (sx_i x3))] [.int (sx_i y0)] := by
  unfold sw_M_pixel_62 at h
  refine sx_istore (lu := [(4, .int (sx_i y0)), (0, .ref (ad 19)), (1, .int (sx_i x1)), (2, .int (sx_i x2)), (3, .int (sx_i x3))]) C dd_M_pixel_62 (by decide) rfl ?_
  refine sx_aload_n C 1 dd_M_pixel_64 rfl rfl ?_
  refine sx_getr (ref := "StoneRingsModel") C 19 3 rfl rfl (rfl : sr_cl[5]? = some ("StoneRingsModel", tt_M, 21)) (by decide) in_M wd_595 rfl dd_M_pixel_65 ?_
  refine sx_bipush (v := 16) C dd_M_pixel_68 (by decide +kernel) ?_
  refine sx_iload_n C 3 dd_M_pixel_70 rfl rfl ?_
  refine sx_imul C dd_M_pixel_71 ?_
  refine sx_iload_n C 2 dd_M_pixel_72 rfl rfl ?_
  refine sx_iadd C dd_M_pixel_73 ?_
  refine sx_iload_n C 4 dd_M_pixel_74 rfl rfl ?_
  refine sx_iast (N := 256) C 20 rfl rfl (by decide) dd_M_pixel_75 h (fun h => ?_)
  refine sx_iload C 0 dd_M_pixel_76 rfl ?_
  exact sx_zret C hr hlk dd_M_pixel_78 h
set_option maxHeartbeats 4000000 in
set_option maxRecDepth 100000 in
theorem sm_M_pixel_30 (C : sx_C sr_lay sr_cl D cI cJ ad (sx_A sr_lay ad sz) 5 "StoneRingsModel" prog_7_method_5_code sr_ts p s m args c) (hZ : sx_Z (sx_A sr_lay ad sz) s s.heap) (hr : meth.sig.returnType = (some .boolean)) (hlk : meth.locks = false) (ht : ∀ x ∈ c.exceptionTable.toList, False) (hlf : l.stackTraces = false) {x1 x2 x3 y1 : Int} {μ : sx_M} (h : sw_M_pixel_30 Q x1 x2 x3 y1 μ) : sx_V sr_lay sr_cl D cI cJ ad (sx_A sr_lay ad sz) 5 p l e rm_M_pixel s m args below meth c (vx_MQ below (sx_T (sx_QI sr_lay sr_cl D cI cJ ad Q sz)) (sx_XC sr_lay sr_cl D cI cJ ad (fun _ _ => False) sz) args s 0 0 (sx_A sr_lay ad sz)) 0 0 μ 30 [(0, .ref (ad 19)), (1, .int (sx_i x1)), (2, .int (sx_i x2)), (3, .int (sx_i x3))] [.int (sx_i y1), .ref (ad 19)] := by
  unfold sw_M_pixel_30 at h
  refine sx_puti (K := 0) (ref := "StoneRingsModel") (ty := .int) C 19 0 rfl rfl rfl (rfl : sr_cl[5]? = some ("StoneRingsModel", tt_M, 21)) (by decide) in_M ty_M tyk_M nm_M wd_592 rfl rfl (by decide +kernel) rfl rfl dd_M_pixel_30 ?_
  refine sx_aload_n C 0 dd_M_pixel_33 rfl rfl ?_
  refine sx_geti (K := 0) (ref := "StoneRingsModel") C 19 0 rfl rfl rfl (rfl : sr_cl[5]? = some ("StoneRingsModel", tt_M, 21)) (by decide) in_M wd_592 rfl dd_M_pixel_34 ?_
  refine sx_if_le (tgt := 42) C dd_M_pixel_37 (by decide) h (fun h => ?_) (fun h => ?_)
  · refine sx_aload_n C 0 dd_M_pixel_42 rfl rfl ?_
    refine sx_getr (ref := "StoneRingsModel") C 19 3 rfl rfl (rfl : sr_cl[5]? = some ("StoneRingsModel", tt_M, 21)) (by decide) in_M wd_595 rfl dd_M_pixel_43 ?_
    refine sx_bipush (v := 16) C dd_M_pixel_46 (by decide +kernel) ?_
    refine sx_iload_n C 2 dd_M_pixel_48 rfl rfl ?_
    refine sx_imul C dd_M_pixel_49 ?_
    refine sx_iload_n C 1 dd_M_pixel_50 rfl rfl ?_
    refine sx_iadd C dd_M_pixel_51 ?_
    refine sx_iald (N := 256) C 20 rfl rfl (by decide) dd_M_pixel_52 h (fun h => ?_)
    refine sx_iload_n C 3 dd_M_pixel_53 rfl rfl ?_
    refine sx_icmp_eq (tgt := 61) C dd_M_pixel_54 (by decide) h (fun h => ?_) (fun h => ?_)
    · refine sx_iconst C dd_M_pixel_61 rfl ?_
      exact sm_M_pixel_62 C hZ hr hlk ht hlf h
    · refine sx_iconst C dd_M_pixel_57 rfl ?_
      refine sx_goto (tgt := 62) C dd_M_pixel_58 (by decide) ?_
      exact sm_M_pixel_62 C hZ hr hlk ht hlf h
  · refine sx_iconst C dd_M_pixel_40 rfl ?_
    exact sx_zret C hr hlk dd_M_pixel_41 h
set_option maxHeartbeats 4000000 in
set_option maxRecDepth 100000 in
theorem sm_M_pixel {l : Launch} {D : va_G} {cI cJ : ClassId} {ad : Nat → Nat} {Q : Int → sx_M → Prop} (hlf : l.stackTraces = false) {μ : sx_M} {a1 a2 a3 : Int} (h : sw_M_pixel Q μ a1 a2 a3) (sz : Nat) : sx_MI l yy_M_pixel (Cond.code yy_M_pixel prog_7_method_5_code 5 (some .boolean) :: sr_ts) rm_M_pixel sr_lay sr_cl D cI cJ ad [.ref (ad 19), .int (sx_i a1), .int (sx_i a2), .int (sx_i a3)] μ Q (fun _ _ => False) 0 0 sz := by
  refine sx_body (plainFor_of_name (by decide +kernel)) rfl (Nat.le_of_ble_eq_true rfl) ?_
  intro p e s m below meth c C hZ hr hlk ht
  unfold sw_M_pixel at h
  show sx_V sr_lay sr_cl D cI cJ ad (sx_A sr_lay ad sz) 5 p l e rm_M_pixel s m _ below meth c (vx_MQ below (sx_T (sx_QI sr_lay sr_cl D cI cJ ad Q sz)) (sx_XC sr_lay sr_cl D cI cJ ad (fun _ _ => False) sz) _ s 0 0 (sx_A sr_lay ad sz)) 0 0 μ 0 [(0, .ref (ad 19)), (1, .int (sx_i a1)), (2, .int (sx_i a2)), (3, .int (sx_i a3))] []
  refine sx_aload_n C 0 dd_M_pixel_0 rfl rfl ?_
  refine sx_aload_n C 0 dd_M_pixel_1 rfl rfl ?_
  refine sx_iload_n C 1 dd_M_pixel_2 rfl rfl ?_
  refine sx_iload_n C 2 dd_M_pixel_3 rfl rfl ?_
  refine sx_invI (c0 := 19) C hZ [.int (sx_i a1), .int (sx_i a2)] (fun sz2 => sm_M_isThere hlf h sz2) (sx_cwV (n := 2) C.2.2.2.2.1 wd_667 wd_664 wd_666 wp_M_isThere wd_8 rfl rfl (by decide +kernel) ⟨by decide, by decide⟩) rfl (rfl : sr_cl[5]? = some ("StoneRingsModel", tt_M, 21)) rfl rfl (Nat.le_of_ble_eq_true rfl) dd_M_pixel_4 ⟨(Nat.le_of_ble_eq_true rfl), (Nat.le_of_ble_eq_true rfl)⟩ sx_noX (fun v1 μ1 h => ?_)
  refine sx_if_ne (tgt := 14) C dd_M_pixel_7 (by decide) h (fun h => ?_) (fun h => ?_)
  · refine sx_iload_n C 3 dd_M_pixel_14 rfl rfl ?_
    refine sx_iconst C dd_M_pixel_15 rfl ?_
    refine sx_sipush (v := 255) C dd_M_pixel_16 (by decide +kernel) ?_
    refine sx_stcI C hZ [.int (sx_i a3), .int (sx_i 0), .int (sx_i 255)] (fun sz2 => sm_M_isIn hlf h sz2) (sx_cwS (n := 3) C.2.2.2.2.1 wd_670 wd_668 wd_669 wd_8 rfl rfl (by decide +kernel) ⟨by decide, by decide⟩) rfl rfl (Nat.le_of_ble_eq_true rfl) dd_M_pixel_19 ⟨(Nat.le_of_ble_eq_true rfl), (Nat.le_of_ble_eq_true rfl)⟩ sx_noX (fun v2 μ2 h => ?_)
    refine sx_if_ne (tgt := 29) C dd_M_pixel_22 (by decide) h (fun h => ?_) (fun h => ?_)
    · refine sx_iconst C dd_M_pixel_29 rfl ?_
      exact sm_M_pixel_30 C hZ hr hlk ht hlf h
    · refine sx_iconst C dd_M_pixel_25 rfl ?_
      refine sx_goto (tgt := 30) C dd_M_pixel_26 (by decide) ?_
      exact sm_M_pixel_30 C hZ hr hlk ht hlf h
  · refine sx_iconst C dd_M_pixel_10 rfl ?_
    refine sx_goto (tgt := 30) C dd_M_pixel_11 (by decide) ?_
    exact sm_M_pixel_30 C hZ hr hlk ht hlf h
def rm_M_sumOf : Room := { frames := 0, cells := 0, slots := 0, locals := 0 }
set_option maxHeartbeats 4000000 in
set_option maxRecDepth 100000 in
theorem sm_M_sumOf_36 (C : sx_C sr_lay sr_cl D cI cJ ad (sx_A sr_lay ad sz) 4 "StoneRingsModel" prog_7_method_6_code sr_ts p s m args c) (hZ : sx_Z (sx_A sr_lay ad sz) s s.heap) (hr : meth.sig.returnType = (some .int)) (hlk : meth.locks = false) (ht : ∀ x ∈ c.exceptionTable.toList, False) (hlf : l.stackTraces = false) {r4 : Int → Int → Int → sx_M → Prop} (hr4 : ∀ (x1 x2 x3 : Int) (μ : sx_M), r4 x1 x2 x3 μ → sx_V sr_lay sr_cl D cI cJ ad (sx_A sr_lay ad sz) 4 p l e rm_M_sumOf s m args below meth c (vx_MQ below (sx_T (sx_QI sr_lay sr_cl D cI cJ ad Q sz)) (sx_XC sr_lay sr_cl D cI cJ ad (fun _ _ => False) sz) args s 0 0 (sx_A sr_lay ad sz)) 0 0 μ 4 [(0, .ref (ad 19)), (1, .int (sx_i x1)), (2, .int (sx_i x2)), (3, .int (sx_i x3))] []) {x1 x3 y0 y1 : Int} {μ : sx_M} (h : sw_M_sumOf_36 Q r4 x1 x3 y0 y1 μ) : sx_V sr_lay sr_cl D cI cJ ad (sx_A sr_lay ad sz) 4 p l e rm_M_sumOf s m args below meth c (vx_MQ below (sx_T (sx_QI sr_lay sr_cl D cI cJ ad Q sz)) (sx_XC sr_lay sr_cl D cI cJ ad (fun _ _ => False) sz) args s 0 0 (sx_A sr_lay ad sz)) 0 0 μ 36 [(0, .ref (ad 19)), (1, .int (sx_i x1)), (3, .int (sx_i x3))] [.int (sx_i y1), .int (sx_i y0)] := by
  unfold sw_M_sumOf_36 at h
  refine sx_aload_n C 0 dd_M_sumOf_36 rfl rfl ?_
  refine sx_getr (ref := "StoneRingsModel") C 19 3 rfl rfl (rfl : sr_cl[5]? = some ("StoneRingsModel", tt_M, 21)) (by decide) in_M wd_595 rfl dd_M_sumOf_37 ?_
  refine sx_iload_n C 2 dd_M_sumOf_40 rfl rfl ?_
  refine sx_iald (N := 256) C 20 rfl rfl (by decide) dd_M_sumOf_41 h (fun h => ?_)
  refine sx_imul C dd_M_sumOf_42 ?_
  refine sx_iadd C dd_M_sumOf_43 ?_
  refine sx_istore_n (lu := [(2, .int (sx_i (y0 + (y1 * (μ 20 x3))))), (0, .ref (ad 19)), (1, .int (sx_i x1)), (3, .int (sx_i x3))]) C dd_M_sumOf_44 rfl (by decide) rfl ?_
  refine sx_iinc (lu := [(3, .int (sx_i (x3 + 1))), (2, .int (sx_i (y0 + (y1 * (μ 20 x3))))), (0, .ref (ad 19)), (1, .int (sx_i x1))]) C 3 dd_M_sumOf_45 rfl (by decide) rfl ?_
  refine sx_goto (tgt := 4) C dd_M_sumOf_48 (by decide) ?_
  refine sx_less (lu := [(0, .ref (ad 19)), (1, .int (sx_i x1)), (2, .int (sx_i (y0 + (y1 * (μ 20 x3))))), (3, .int (sx_i (x3 + 1)))]) C [2, 3, 1, 0] rfl ?_
  exact hr4 _ _ _ _ h
set_option maxHeartbeats 4000000 in
set_option maxRecDepth 100000 in
theorem sm_M_sumOf_4 (C : sx_C sr_lay sr_cl D cI cJ ad (sx_A sr_lay ad sz) 4 "StoneRingsModel" prog_7_method_6_code sr_ts p s m args c) (hZ : sx_Z (sx_A sr_lay ad sz) s s.heap) (hr : meth.sig.returnType = (some .int)) (hlk : meth.locks = false) (ht : ∀ x ∈ c.exceptionTable.toList, False) (hlf : l.stackTraces = false) : ∀ (n : Nat) (x1 x2 x3 : Int) (μ : sx_M), sw_M_sumOf_4 Q n x1 x2 x3 μ → sx_V sr_lay sr_cl D cI cJ ad (sx_A sr_lay ad sz) 4 p l e rm_M_sumOf s m args below meth c (vx_MQ below (sx_T (sx_QI sr_lay sr_cl D cI cJ ad Q sz)) (sx_XC sr_lay sr_cl D cI cJ ad (fun _ _ => False) sz) args s 0 0 (sx_A sr_lay ad sz)) 0 0 μ 4 [(0, .ref (ad 19)), (1, .int (sx_i x1)), (2, .int (sx_i x2)), (3, .int (sx_i x3))] [] := by
  intro n
  induction n with
  | zero =>
    intro x1 x2 x3 μ h
    exact h.elim
  | succ n ih =>
    intro x1 x2 x3 μ h
    have hr4 := ih
    unfold sw_M_sumOf_4 at h
    refine sx_iload_n C 3 dd_M_sumOf_4 rfl rfl ?_
    refine sx_sipush (v := 256) C dd_M_sumOf_5 (by decide +kernel) ?_
    refine sx_icmp_ge (tgt := 51) C dd_M_sumOf_8 (by decide) h (fun h => ?_) (fun h => ?_)
    · refine sx_iload_n C 2 dd_M_sumOf_51 rfl rfl ?_
      exact sx_iret C hr hlk dd_M_sumOf_52 h
    · refine sx_iload_n C 2 dd_M_sumOf_11 rfl rfl ?_
      refine sx_iload_n C 1 dd_M_sumOf_12 rfl rfl ?_
      refine sx_if_ne (tgt := 23) C dd_M_sumOf_13 (by decide) h (fun h => ?_) (fun h => ?_)
      · refine sx_iload_n C 1 dd_M_sumOf_23 rfl rfl ?_
        refine sx_iconst C dd_M_sumOf_24 rfl ?_
        refine sx_icmp_ne (tgt := 35) C dd_M_sumOf_25 (by decide) h (fun h => ?_) (fun h => ?_)
        · refine sx_iconst C dd_M_sumOf_35 rfl ?_
          refine sx_less (lu := [(0, .ref (ad 19)), (1, .int (sx_i x1)), (3, .int (sx_i x3))]) C [0, 1, 3] rfl ?_
          exact sm_M_sumOf_36 C hZ hr hlk ht hlf hr4 h
        · refine sx_iload_n C 3 dd_M_sumOf_28 rfl rfl ?_
          refine sx_bipush (v := 16) C dd_M_sumOf_29 (by decide +kernel) ?_
          refine sx_idiv C dd_M_sumOf_31 h (fun h => ?_)
          refine sx_goto (tgt := 36) C dd_M_sumOf_32 (by decide) ?_
          refine sx_less (lu := [(0, .ref (ad 19)), (1, .int (sx_i x1)), (3, .int (sx_i x3))]) C [0, 1, 3] rfl ?_
          exact sm_M_sumOf_36 C hZ hr hlk ht hlf hr4 h
      · refine sx_iload_n C 3 dd_M_sumOf_16 rfl rfl ?_
        refine sx_bipush (v := 16) C dd_M_sumOf_17 (by decide +kernel) ?_
        refine sx_irem C dd_M_sumOf_19 h (fun h => ?_)
        refine sx_goto (tgt := 36) C dd_M_sumOf_20 (by decide) ?_
        refine sx_less (lu := [(0, .ref (ad 19)), (1, .int (sx_i x1)), (3, .int (sx_i x3))]) C [0, 1, 3] rfl ?_
        exact sm_M_sumOf_36 C hZ hr hlk ht hlf hr4 h
set_option maxHeartbeats 4000000 in
set_option maxRecDepth 100000 in
theorem sm_M_sumOf {l : Launch} {D : va_G} {cI cJ : ClassId} {ad : Nat → Nat} {Q : Int → sx_M → Prop} (hlf : l.stackTraces = false) {μ : sx_M} {a1 : Int} (h : sw_M_sumOf Q μ a1) (sz : Nat) : sx_MI l yy_M_sumOf (Cond.code yy_M_sumOf prog_7_method_6_code 4 (some .int) :: sr_ts) rm_M_sumOf sr_lay sr_cl D cI cJ ad [.ref (ad 19), .int (sx_i a1)] μ Q (fun _ _ => False) 0 0 sz := by
  refine sx_body (plainFor_of_name (by decide +kernel)) rfl (Nat.le_of_ble_eq_true rfl) ?_
  intro p e s m below meth c C hZ hr hlk ht
  unfold sw_M_sumOf at h
  show sx_V sr_lay sr_cl D cI cJ ad (sx_A sr_lay ad sz) 4 p l e rm_M_sumOf s m _ below meth c (vx_MQ below (sx_T (sx_QI sr_lay sr_cl D cI cJ ad Q sz)) (sx_XC sr_lay sr_cl D cI cJ ad (fun _ _ => False) sz) _ s 0 0 (sx_A sr_lay ad sz)) 0 0 μ 0 [(0, .ref (ad 19)), (1, .int (sx_i a1))] []
  refine sx_iconst C dd_M_sumOf_0 rfl ?_
  refine sx_istore_n (lu := [(2, .int (sx_i 0)), (0, .ref (ad 19)), (1, .int (sx_i a1))]) C dd_M_sumOf_1 rfl (by decide) rfl ?_
  refine sx_iconst C dd_M_sumOf_2 rfl ?_
  refine sx_istore_n (lu := [(3, .int (sx_i 0)), (2, .int (sx_i 0)), (0, .ref (ad 19)), (1, .int (sx_i a1))]) C dd_M_sumOf_3 rfl (by decide) rfl ?_
  refine sx_less (lu := [(0, .ref (ad 19)), (1, .int (sx_i a1)), (2, .int (sx_i 0)), (3, .int (sx_i 0))]) C [2, 3, 1, 0] rfl ?_
  exact sm_M_sumOf_4 C hZ hr hlk ht hlf 600 _ _ _ _ h
def rm_M_middleOf : Room := { frames := 1, cells := 0, slots := 0, locals := 23 }
set_option maxHeartbeats 4000000 in
set_option maxRecDepth 100000 in
theorem sm_M_middleOf_21 (C : sx_C sr_lay sr_cl D cI cJ ad (sx_A sr_lay ad sz) 3 "StoneRingsModel" prog_7_method_7_code sr_ts p s m args c) (hZ : sx_Z (sx_A sr_lay ad sz) s s.heap) (hr : meth.sig.returnType = (some .int)) (hlk : meth.locks = false) (ht : ∀ x ∈ c.exceptionTable.toList, False) (hlf : l.stackTraces = false) {y0 : Int} {μ : sx_M} (h : sw_M_middleOf_21 Q y0 μ) : sx_V sr_lay sr_cl D cI cJ ad (sx_A sr_lay ad sz) 3 p l e rm_M_middleOf s m args below meth c (vx_MQ below (sx_T (sx_QI sr_lay sr_cl D cI cJ ad Q sz)) (sx_XC sr_lay sr_cl D cI cJ ad (fun _ _ => False) sz) args s 0 0 (sx_A sr_lay ad sz)) 0 0 μ 21 [] [.int (sx_i y0)] := by
  unfold sw_M_middleOf_21 at h
  exact sx_iret C hr hlk dd_M_middleOf_21 h
set_option maxHeartbeats 4000000 in
set_option maxRecDepth 100000 in
theorem sm_M_middleOf {l : Launch} {D : va_G} {cI cJ : ClassId} {ad : Nat → Nat} {Q : Int → sx_M → Prop} (hlf : l.stackTraces = false) {μ : sx_M} {a1 : Int} (h : sw_M_middleOf Q μ a1) (sz : Nat) : sx_MI l yy_M_middleOf (Cond.code yy_M_middleOf prog_7_method_7_code 3 (some .int) :: sr_ts) rm_M_middleOf sr_lay sr_cl D cI cJ ad [.ref (ad 19), .int (sx_i a1)] μ Q (fun _ _ => False) 0 0 sz := by
  refine sx_body (plainFor_of_name (by decide +kernel)) rfl (Nat.le_of_ble_eq_true rfl) ?_
  intro p e s m below meth c C hZ hr hlk ht
  unfold sw_M_middleOf at h
  show sx_V sr_lay sr_cl D cI cJ ad (sx_A sr_lay ad sz) 3 p l e rm_M_middleOf s m _ below meth c (vx_MQ below (sx_T (sx_QI sr_lay sr_cl D cI cJ ad Q sz)) (sx_XC sr_lay sr_cl D cI cJ ad (fun _ _ => False) sz) _ s 0 0 (sx_A sr_lay ad sz)) 0 0 μ 0 [(0, .ref (ad 19)), (1, .int (sx_i a1))] []
  refine sx_aload_n C 0 dd_M_middleOf_0 rfl rfl ?_
  refine sx_iconst C dd_M_middleOf_1 rfl ?_
  refine sx_invI (c0 := 19) C hZ [.int (sx_i 2)] (fun sz2 => sm_M_sumOf hlf h sz2) (sx_cwV (n := 1) C.2.2.2.2.1 wd_682 wd_679 wd_681 wp_M_sumOf wd_8 rfl rfl (by decide +kernel) ⟨by decide, by decide⟩) rfl (rfl : sr_cl[5]? = some ("StoneRingsModel", tt_M, 21)) rfl rfl (Nat.le_of_ble_eq_true rfl) dd_M_middleOf_2 ⟨(Nat.le_of_ble_eq_true rfl), (Nat.le_of_ble_eq_true rfl)⟩ sx_noX (fun v1 μ1 h => ?_)
  refine sx_istore_n (lu := [(2, .int (sx_i v1)), (0, .ref (ad 19)), (1, .int (sx_i a1))]) C dd_M_middleOf_5 rfl (by decide) rfl ?_
  refine sx_iload_n C 0 dd_M_middleOf_6 rfl rfl ?_
  refine sx_if_ne (tgt := 14) C dd_M_middleOf_7 (by decide) h (fun h => ?_) (fun h => ?_)
  · refine sx_aload_n C 1 dd_M_middleOf_14 rfl rfl ?_
    refine sx_iload_n C 2 dd_M_middleOf_15 rfl rfl ?_
    refine sx_invI (c0 := 19) C hZ [.int (sx_i a1)] (fun sz2 => sm_M_sumOf hlf h sz2) (sx_cwV (n := 1) C.2.2.2.2.1 wd_682 wd_679 wd_681 wp_M_sumOf wd_8 rfl rfl (by decide +kernel) ⟨by decide, by decide⟩) rfl (rfl : sr_cl[5]? = some ("StoneRingsModel", tt_M, 21)) rfl rfl (Nat.le_of_ble_eq_true rfl) dd_M_middleOf_16 ⟨(Nat.le_of_ble_eq_true rfl), (Nat.le_of_ble_eq_true rfl)⟩ sx_noX (fun v2 μ2 h => ?_)
    refine sx_iload_n C 0 dd_M_middleOf_19 rfl rfl ?_
    refine sx_idiv C dd_M_middleOf_20 h (fun h => ?_)
    refine sx_less (lu := []) C [] rfl ?_
    exact sm_M_middleOf_21 C hZ hr hlk ht hlf h
  · refine sx_iconst C dd_M_middleOf_10 rfl ?_
    refine sx_goto (tgt := 21) C dd_M_middleOf_11 (by decide) ?_
    refine sx_less (lu := []) C [] rfl ?_
    exact sm_M_middleOf_21 C hZ hr hlk ht hlf h
def rm_M_middle : Room := { frames := 2, cells := 0, slots := 0, locals := 45 }
set_option maxHeartbeats 4000000 in
set_option maxRecDepth 100000 in
theorem sm_M_middle_34 (C : sx_C sr_lay sr_cl D cI cJ ad (sx_A sr_lay ad sz) 2 "StoneRingsModel" prog_7_method_8_code sr_ts p s m args c) (hZ : sx_Z (sx_A sr_lay ad sz) s s.heap) (hr : meth.sig.returnType = (some .int)) (hlk : meth.locks = false) (ht : ∀ x ∈ c.exceptionTable.toList, False) (hlf : l.stackTraces = false) {y0 : Int} {μ : sx_M} (h : sw_M_middle_34 Q y0 μ) : sx_V sr_lay sr_cl D cI cJ ad (sx_A sr_lay ad sz) 2 p l e rm_M_middle s m args below meth c (vx_MQ below (sx_T (sx_QI sr_lay sr_cl D cI cJ ad Q sz)) (sx_XC sr_lay sr_cl D cI cJ ad (fun _ _ => False) sz) args s 0 0 (sx_A sr_lay ad sz)) 0 0 μ 34 [] [.int (sx_i y0)] := by
  unfold sw_M_middle_34 at h
  exact sx_iret C hr hlk dd_M_middle_34 h
set_option maxHeartbeats 4000000 in
set_option maxRecDepth 100000 in
theorem sm_M_middle_15 (C : sx_C sr_lay sr_cl D cI cJ ad (sx_A sr_lay ad sz) 2 "StoneRingsModel" prog_7_method_8_code sr_ts p s m args c) (hZ : sx_Z (sx_A sr_lay ad sz) s s.heap) (hr : meth.sig.returnType = (some .int)) (hlk : meth.locks = false) (ht : ∀ x ∈ c.exceptionTable.toList, False) (hlf : l.stackTraces = false) {x1 y1 : Int} {μ : sx_M} (h : sw_M_middle_15 Q x1 y1 μ) : sx_V sr_lay sr_cl D cI cJ ad (sx_A sr_lay ad sz) 2 p l e rm_M_middle s m args below meth c (vx_MQ below (sx_T (sx_QI sr_lay sr_cl D cI cJ ad Q sz)) (sx_XC sr_lay sr_cl D cI cJ ad (fun _ _ => False) sz) args s 0 0 (sx_A sr_lay ad sz)) 0 0 μ 15 [(0, .ref (ad 19)), (1, .int (sx_i x1))] [.int (sx_i y1), .ref (ad 19)] := by
  unfold sw_M_middle_15 at h
  refine sx_puti (K := 0) (ref := "StoneRingsModel") (ty := .int) C 19 0 rfl rfl rfl (rfl : sr_cl[5]? = some ("StoneRingsModel", tt_M, 21)) (by decide) in_M ty_M tyk_M nm_M wd_592 rfl rfl (by decide +kernel) rfl rfl dd_M_middle_15 ?_
  refine sx_aload_n C 0 dd_M_middle_18 rfl rfl ?_
  refine sx_geti (K := 0) (ref := "StoneRingsModel") C 19 0 rfl rfl rfl (rfl : sr_cl[5]? = some ("StoneRingsModel", tt_M, 21)) (by decide) in_M wd_592 rfl dd_M_middle_19 ?_
  refine sx_if_le (tgt := 29) C dd_M_middle_22 (by decide) h (fun h => ?_) (fun h => ?_)
  · refine sx_aload_n C 0 dd_M_middle_29 rfl rfl ?_
    refine sx_iload_n C 1 dd_M_middle_30 rfl rfl ?_
    refine sx_invI (c0 := 19) C hZ [.int (sx_i x1)] (fun sz2 => sm_M_middleOf hlf h sz2) (sx_cwV (n := 1) C.2.2.2.2.1 wd_678 wd_675 wd_677 wp_M_middleOf wd_8 rfl rfl (by decide +kernel) ⟨by decide, by decide⟩) rfl (rfl : sr_cl[5]? = some ("StoneRingsModel", tt_M, 21)) rfl rfl (Nat.le_of_ble_eq_true rfl) dd_M_middle_31 ⟨(Nat.le_of_ble_eq_true rfl), (Nat.le_of_ble_eq_true rfl)⟩ sx_noX (fun v1 μ1 h => ?_)
    refine sx_less (lu := []) C [] rfl ?_
    exact sm_M_middle_34 C hZ hr hlk ht hlf h
  · refine sx_iconst C dd_M_middle_25 rfl ?_
    refine sx_goto (tgt := 34) C dd_M_middle_26 (by decide) ?_
    refine sx_less (lu := []) C [] rfl ?_
    exact sm_M_middle_34 C hZ hr hlk ht hlf h
set_option maxHeartbeats 4000000 in
set_option maxRecDepth 100000 in
theorem sm_M_middle {l : Launch} {D : va_G} {cI cJ : ClassId} {ad : Nat → Nat} {Q : Int → sx_M → Prop} (hlf : l.stackTraces = false) {μ : sx_M} {a1 : Int} (h : sw_M_middle Q μ a1) (sz : Nat) : sx_MI l yy_M_middle (Cond.code yy_M_middle prog_7_method_8_code 2 (some .int) :: sr_ts) rm_M_middle sr_lay sr_cl D cI cJ ad [.ref (ad 19), .int (sx_i a1)] μ Q (fun _ _ => False) 0 0 sz := by
  refine sx_body (plainFor_of_name (by decide +kernel)) rfl (Nat.le_of_ble_eq_true rfl) ?_
  intro p e s m below meth c C hZ hr hlk ht
  unfold sw_M_middle at h
  show sx_V sr_lay sr_cl D cI cJ ad (sx_A sr_lay ad sz) 2 p l e rm_M_middle s m _ below meth c (vx_MQ below (sx_T (sx_QI sr_lay sr_cl D cI cJ ad Q sz)) (sx_XC sr_lay sr_cl D cI cJ ad (fun _ _ => False) sz) _ s 0 0 (sx_A sr_lay ad sz)) 0 0 μ 0 [(0, .ref (ad 19)), (1, .int (sx_i a1))] []
  refine sx_aload_n C 0 dd_M_middle_0 rfl rfl ?_
  refine sx_iload_n C 1 dd_M_middle_1 rfl rfl ?_
  refine sx_iconst C dd_M_middle_2 rfl ?_
  refine sx_iconst C dd_M_middle_3 rfl ?_
  refine sx_stcI C hZ [.int (sx_i a1), .int (sx_i 0), .int (sx_i 1)] (fun sz2 => sm_M_isIn hlf h sz2) (sx_cwS (n := 3) C.2.2.2.2.1 wd_670 wd_668 wd_669 wd_8 rfl rfl (by decide +kernel) ⟨by decide, by decide⟩) rfl rfl (Nat.le_of_ble_eq_true rfl) dd_M_middle_4 ⟨(Nat.le_of_ble_eq_true rfl), (Nat.le_of_ble_eq_true rfl)⟩ sx_noX (fun v1 μ1 h => ?_)
  refine sx_if_ne (tgt := 14) C dd_M_middle_7 (by decide) h (fun h => ?_) (fun h => ?_)
  · refine sx_iconst C dd_M_middle_14 rfl ?_
    exact sm_M_middle_15 C hZ hr hlk ht hlf h
  · refine sx_iconst C dd_M_middle_10 rfl ?_
    refine sx_goto (tgt := 15) C dd_M_middle_11 (by decide) ?_
    exact sm_M_middle_15 C hZ hr hlk ht hlf h
def rm_M_ray : Room := { frames := 1, cells := 0, slots := 0, locals := 22 }
set_option maxHeartbeats 4000000 in
set_option maxRecDepth 100000 in
theorem sm_M_ray_47 (C : sx_C sr_lay sr_cl D cI cJ ad (sx_A sr_lay ad sz) 3 "StoneRingsModel" prog_7_method_9_code sr_ts p s m args c) (hZ : sx_Z (sx_A sr_lay ad sz) s s.heap) (hr : meth.sig.returnType = (some .int)) (hlk : meth.locks = false) (ht : ∀ x ∈ c.exceptionTable.toList, False) (hlf : l.stackTraces = false) {x1 x2 y1 : Int} {μ : sx_M} (h : sw_M_ray_47 Q x1 x2 y1 μ) : sx_V sr_lay sr_cl D cI cJ ad (sx_A sr_lay ad sz) 3 p l e rm_M_ray s m args below meth c (vx_MQ below (sx_T (sx_QI sr_lay sr_cl D cI cJ ad Q sz)) (sx_XC sr_lay sr_cl D cI cJ ad (fun _ _ => False) sz) args s 0 0 (sx_A sr_lay ad sz)) 0 0 μ 47 [(0, .ref (ad 19)), (1, .int (sx_i x1)), (2, .int (sx_i x2))] [.int (sx_i y1), .ref (ad 19)] := by
  unfold sw_M_ray_47 at h
  refine sx_puti (K := 0) (ref := "StoneRingsModel") (ty := .int) C 19 0 rfl rfl rfl (rfl : sr_cl[5]? = some ("StoneRingsModel", tt_M, 21)) (by decide) in_M ty_M tyk_M nm_M wd_592 rfl rfl (by decide +kernel) rfl rfl dd_M_ray_47 ?_
  refine sx_aload_n C 0 dd_M_ray_50 rfl rfl ?_
  refine sx_geti (K := 0) (ref := "StoneRingsModel") C 19 0 rfl rfl rfl (rfl : sr_cl[5]? = some ("StoneRingsModel", tt_M, 21)) (by decide) in_M wd_592 rfl dd_M_ray_51 ?_
  refine sx_if_le (tgt := 59) C dd_M_ray_54 (by decide) h (fun h => ?_) (fun h => ?_)
  · refine sx_aload_n C 0 dd_M_ray_59 rfl rfl ?_
    refine sx_getr (ref := "StoneRingsModel") C 19 5 rfl rfl (rfl : sr_cl[5]? = some ("StoneRingsModel", tt_M, 21)) (by decide) in_M wd_597 rfl dd_M_ray_60 ?_
    refine sx_aload_n C 0 dd_M_ray_63 rfl rfl ?_
    refine sx_geti (K := 4) (ref := "StoneRingsModel") C 19 4 rfl rfl rfl (rfl : sr_cl[5]? = some ("StoneRingsModel", tt_M, 21)) (by decide) in_M wd_596 rfl dd_M_ray_64 ?_
    refine sx_iload_n C 1 dd_M_ray_67 rfl rfl ?_
    refine sx_iast (N := 8) C 21 rfl rfl (by decide) dd_M_ray_68 h (fun h => ?_)
    refine sx_aload_n C 0 dd_M_ray_69 rfl rfl ?_
    refine sx_getr (ref := "StoneRingsModel") C 19 6 rfl rfl (rfl : sr_cl[5]? = some ("StoneRingsModel", tt_M, 21)) (by decide) in_M wd_598 rfl dd_M_ray_70 ?_
    refine sx_aload_n C 0 dd_M_ray_73 rfl rfl ?_
    refine sx_geti (K := 4) (ref := "StoneRingsModel") C 19 4 rfl rfl rfl (rfl : sr_cl[5]? = some ("StoneRingsModel", tt_M, 21)) (by decide) in_M wd_596 rfl dd_M_ray_74 ?_
    refine sx_iload_n C 2 dd_M_ray_77 rfl rfl ?_
    refine sx_iast (N := 8) C 22 rfl rfl (by decide) dd_M_ray_78 h (fun h => ?_)
    refine sx_aload_n C 0 dd_M_ray_79 rfl rfl ?_
    refine sx_dup C dd_M_ray_80 rfl ?_
    refine sx_geti (K := 4) (ref := "StoneRingsModel") C 19 4 rfl rfl rfl (rfl : sr_cl[5]? = some ("StoneRingsModel", tt_M, 21)) (by decide) in_M wd_596 rfl dd_M_ray_81 ?_
    refine sx_iconst C dd_M_ray_84 rfl ?_
    refine sx_iadd C dd_M_ray_85 ?_
    refine sx_puti (K := 4) (ref := "StoneRingsModel") (ty := .int) C 19 4 rfl rfl rfl (rfl : sr_cl[5]? = some ("StoneRingsModel", tt_M, 21)) (by decide) in_M ty_M tyk_M nm_M wd_596 rfl rfl (by decide +kernel) rfl rfl dd_M_ray_86 ?_
    refine sx_aload_n C 0 dd_M_ray_89 rfl rfl ?_
    refine sx_geti (K := 4) (ref := "StoneRingsModel") C 19 4 rfl rfl rfl (rfl : sr_cl[5]? = some ("StoneRingsModel", tt_M, 21)) (by decide) in_M wd_596 rfl dd_M_ray_90 ?_
    refine sx_iconst C dd_M_ray_93 rfl ?_
    refine sx_isub C dd_M_ray_94 ?_
    exact sx_iret C hr hlk dd_M_ray_95 h
  · refine sx_iconst C dd_M_ray_57 rfl ?_
    exact sx_iret C hr hlk dd_M_ray_58 h
set_option maxHeartbeats 4000000 in
set_option maxRecDepth 100000 in
theorem sm_M_ray_29 (C : sx_C sr_lay sr_cl D cI cJ ad (sx_A sr_lay ad sz) 3 "StoneRingsModel" prog_7_method_9_code sr_ts p s m args c) (hZ : sx_Z (sx_A sr_lay ad sz) s s.heap) (hr : meth.sig.returnType = (some .int)) (hlk : meth.locks = false) (ht : ∀ x ∈ c.exceptionTable.toList, False) (hlf : l.stackTraces = false) {x1 x2 : Int} {μ : sx_M} (h : sw_M_ray_29 Q x1 x2 μ) : sx_V sr_lay sr_cl D cI cJ ad (sx_A sr_lay ad sz) 3 p l e rm_M_ray s m args below meth c (vx_MQ below (sx_T (sx_QI sr_lay sr_cl D cI cJ ad Q sz)) (sx_XC sr_lay sr_cl D cI cJ ad (fun _ _ => False) sz) args s 0 0 (sx_A sr_lay ad sz)) 0 0 μ 29 [(0, .ref (ad 19)), (1, .int (sx_i x1)), (2, .int (sx_i x2))] [.ref (ad 19)] := by
  unfold sw_M_ray_29 at h
  refine sx_iconst C dd_M_ray_29 rfl ?_
  refine sx_goto (tgt := 47) C dd_M_ray_30 (by decide) ?_
  exact sm_M_ray_47 C hZ hr hlk ht hlf h
set_option maxHeartbeats 4000000 in
set_option maxRecDepth 100000 in
theorem sm_M_ray_33 (C : sx_C sr_lay sr_cl D cI cJ ad (sx_A sr_lay ad sz) 3 "StoneRingsModel" prog_7_method_9_code sr_ts p s m args c) (hZ : sx_Z (sx_A sr_lay ad sz) s s.heap) (hr : meth.sig.returnType = (some .int)) (hlk : meth.locks = false) (ht : ∀ x ∈ c.exceptionTable.toList, False) (hlf : l.stackTraces = false) {x1 x2 : Int} {μ : sx_M} (h : sw_M_ray_33 Q x1 x2 μ) : sx_V sr_lay sr_cl D cI cJ ad (sx_A sr_lay ad sz) 3 p l e rm_M_ray s m args below meth c (vx_MQ below (sx_T (sx_QI sr_lay sr_cl D cI cJ ad Q sz)) (sx_XC sr_lay sr_cl D cI cJ ad (fun _ _ => False) sz) args s 0 0 (sx_A sr_lay ad sz)) 0 0 μ 33 [(0, .ref (ad 19)), (1, .int (sx_i x1)), (2, .int (sx_i x2))] [.ref (ad 19)] := by
  unfold sw_M_ray_33 at h
  refine sx_aload_n C 0 dd_M_ray_33 rfl rfl ?_
  refine sx_geti (K := 4) (ref := "StoneRingsModel") C 19 4 rfl rfl rfl (rfl : sr_cl[5]? = some ("StoneRingsModel", tt_M, 21)) (by decide) in_M wd_596 rfl dd_M_ray_34 ?_
  refine sx_bipush (v := 8) C dd_M_ray_37 (by decide +kernel) ?_
  refine sx_icmp_ne (tgt := 46) C dd_M_ray_39 (by decide) h (fun h => ?_) (fun h => ?_)
  · refine sx_iconst C dd_M_ray_46 rfl ?_
    exact sm_M_ray_47 C hZ hr hlk ht hlf h
  · refine sx_iconst C dd_M_ray_42 rfl ?_
    refine sx_goto (tgt := 47) C dd_M_ray_43 (by decide) ?_
    exact sm_M_ray_47 C hZ hr hlk ht hlf h
set_option maxHeartbeats 4000000 in
set_option maxRecDepth 100000 in
theorem sm_M_ray {l : Launch} {D : va_G} {cI cJ : ClassId} {ad : Nat → Nat} {Q : Int → sx_M → Prop} (hlf : l.stackTraces = false) {μ : sx_M} {a1 a2 : Int} (h : sw_M_ray Q μ a1 a2) (sz : Nat) : sx_MI l yy_M_ray (Cond.code yy_M_ray prog_7_method_9_code 3 (some .int) :: sr_ts) rm_M_ray sr_lay sr_cl D cI cJ ad [.ref (ad 19), .int (sx_i a1), .int (sx_i a2)] μ Q (fun _ _ => False) 0 0 sz := by
  refine sx_body (plainFor_of_name (by decide +kernel)) rfl (Nat.le_of_ble_eq_true rfl) ?_
  intro p e s m below meth c C hZ hr hlk ht
  unfold sw_M_ray at h
  show sx_V sr_lay sr_cl D cI cJ ad (sx_A sr_lay ad sz) 3 p l e rm_M_ray s m _ below meth c (vx_MQ below (sx_T (sx_QI sr_lay sr_cl D cI cJ ad Q sz)) (sx_XC sr_lay sr_cl D cI cJ ad (fun _ _ => False) sz) _ s 0 0 (sx_A sr_lay ad sz)) 0 0 μ 0 [(0, .ref (ad 19)), (1, .int (sx_i a1)), (2, .int (sx_i a2))] []
  refine sx_aload_n C 0 dd_M_ray_0 rfl rfl ?_
  refine sx_iload_n C 1 dd_M_ray_1 rfl rfl ?_
  refine sx_bipush (v := (-5)) C dd_M_ray_2 (by decide +kernel) ?_
  refine sx_iconst C dd_M_ray_4 rfl ?_
  refine sx_stcI C hZ [.int (sx_i a1), .int (sx_i (-5)), .int (sx_i 5)] (fun sz2 => sm_M_isIn hlf h sz2) (sx_cwS (n := 3) C.2.2.2.2.1 wd_670 wd_668 wd_669 wd_8 rfl rfl (by decide +kernel) ⟨by decide, by decide⟩) rfl rfl (Nat.le_of_ble_eq_true rfl) dd_M_ray_5 ⟨(Nat.le_of_ble_eq_true rfl), (Nat.le_of_ble_eq_true rfl)⟩ sx_noX (fun v1 μ1 h => ?_)
  refine sx_if_eq (tgt := 29) C dd_M_ray_8 (by decide) h (fun h => ?_) (fun h => ?_)
  · exact sm_M_ray_29 C hZ hr hlk ht hlf h
  · refine sx_iload_n C 2 dd_M_ray_11 rfl rfl ?_
    refine sx_bipush (v := (-5)) C dd_M_ray_12 (by decide +kernel) ?_
    refine sx_iconst C dd_M_ray_14 rfl ?_
    refine sx_stcI C hZ [.int (sx_i a2), .int (sx_i (-5)), .int (sx_i 5)] (fun sz2 => sm_M_isIn hlf h sz2) (sx_cwS (n := 3) C.2.2.2.2.1 wd_670 wd_668 wd_669 wd_8 rfl rfl (by decide +kernel) ⟨by decide, by decide⟩) rfl rfl (Nat.le_of_ble_eq_true rfl) dd_M_ray_15 ⟨(Nat.le_of_ble_eq_true rfl), (Nat.le_of_ble_eq_true rfl)⟩ sx_noX (fun v2 μ2 h => ?_)
    refine sx_if_eq (tgt := 29) C dd_M_ray_18 (by decide) h (fun h => ?_) (fun h => ?_)
    · exact sm_M_ray_29 C hZ hr hlk ht hlf h
    · refine sx_iload_n C 1 dd_M_ray_21 rfl rfl ?_
      refine sx_if_ne (tgt := 33) C dd_M_ray_22 (by decide) h (fun h => ?_) (fun h => ?_)
      · exact sm_M_ray_33 C hZ hr hlk ht hlf h
      · refine sx_iload_n C 2 dd_M_ray_25 rfl rfl ?_
        refine sx_if_ne (tgt := 33) C dd_M_ray_26 (by decide) h (fun h => ?_) (fun h => ?_)
        · exact sm_M_ray_33 C hZ hr hlk ht hlf h
        · exact sm_M_ray_29 C hZ hr hlk ht hlf h
end SXG
