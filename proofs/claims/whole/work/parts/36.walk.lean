section SXG
variable {D : va_G} {cI cJ : ClassId} {ad : Nat → Nat} {sz : Nat} {p : Program} {l : Launch} {e : Env} {s : State} {m : MethodId} {args : Array Value} {below : List Frame} {meth : Method} {c : Code} {Q : Int → sx_M → Prop} {X : String → sx_M → Prop}
def rm_M_noRay : Room := { frames := 1, cells := 0, slots := 0, locals := 22 }
set_option maxHeartbeats 4000000 in
set_option maxRecDepth 100000 in
theorem sm_M_noRay_19 (C : sx_C sr_lay sr_cl D cI cJ ad (sx_A sr_lay ad sz) 2 "StoneRingsModel" prog_7_method_13_code sr_ts p s m args c) (hZ : sx_Z (sx_A sr_lay ad sz) s s.heap) (hr : meth.sig.returnType = (some .boolean)) (hlk : meth.locks = false) (ht : ∀ x ∈ c.exceptionTable.toList, False) (hlf : l.stackTraces = false) {y0 : Int} {μ : sx_M} (h : sw_M_noRay_19 Q y0 μ) : sx_V sr_lay sr_cl D cI cJ ad (sx_A sr_lay ad sz) 2 p l e rm_M_noRay s m args below meth c (vx_MQ below (sx_T (sx_QI sr_lay sr_cl D cI cJ ad Q sz)) (sx_XC sr_lay sr_cl D cI cJ ad (fun _ _ => False) sz) args s 0 0 (sx_A sr_lay ad sz)) 0 0 μ 19 [] [.int (sx_i y0)] := by
  unfold sw_M_noRay_19 at h
  exact sx_zret C hr hlk dd_M_noRay_19 h
set_option maxHeartbeats 4000000 in
set_option maxRecDepth 100000 in
theorem sm_M_noRay {l : Launch} {D : va_G} {cI cJ : ClassId} {ad : Nat → Nat} {Q : Int → sx_M → Prop} (hlf : l.stackTraces = false) {μ : sx_M} {a1 : Int} (h : sw_M_noRay Q μ a1) (sz : Nat) : sx_MI l yy_M_noRay (Cond.code yy_M_noRay prog_7_method_13_code 2 (some .boolean) :: sr_ts) rm_M_noRay sr_lay sr_cl D cI cJ ad [.ref (ad 19), .int (sx_i a1)] μ Q (fun _ _ => False) 0 0 sz := by
  refine sx_body (plainFor_of_name (by decide +kernel)) rfl (Nat.le_of_ble_eq_true rfl) ?_
  intro p e s m below meth c C hZ hr hlk ht
  unfold sw_M_noRay at h
  show sx_V sr_lay sr_cl D cI cJ ad (sx_A sr_lay ad sz) 2 p l e rm_M_noRay s m _ below meth c (vx_MQ below (sx_T (sx_QI sr_lay sr_cl D cI cJ ad Q sz)) (sx_XC sr_lay sr_cl D cI cJ ad (fun _ _ => False) sz) _ s 0 0 (sx_A sr_lay ad sz)) 0 0 μ 0 [(0, .ref (ad 19)), (1, .int (sx_i a1))] []
  refine sx_iload_n C 1 dd_M_noRay_0 rfl rfl ?_
  refine sx_iconst C dd_M_noRay_1 rfl ?_
  refine sx_aload_n C 0 dd_M_noRay_2 rfl rfl ?_
  refine sx_geti (K := 4) (ref := "StoneRingsModel") C 19 4 rfl rfl rfl (rfl : sr_cl[5]? = some ("StoneRingsModel", tt_M, 21)) (by decide) in_M wd_596 rfl dd_M_noRay_3 ?_
  refine sx_iconst C dd_M_noRay_6 rfl ?_
  refine sx_isub C dd_M_noRay_7 ?_
  refine sx_stcI C hZ [.int (sx_i a1), .int (sx_i 0), .int (sx_i ((μ 19 4) - 1))] (fun sz2 => sm_M_isIn hlf h sz2) (sx_cwS (n := 3) C.2.2.2.2.1 wd_670 wd_668 wd_669 wd_8 rfl rfl (by decide +kernel) ⟨by decide, by decide⟩) rfl rfl (Nat.le_of_ble_eq_true rfl) dd_M_noRay_8 ⟨(Nat.le_of_ble_eq_true rfl), (Nat.le_of_ble_eq_true rfl)⟩ sx_noX (fun v1 μ1 h => ?_)
  refine sx_if_ne (tgt := 18) C dd_M_noRay_11 (by decide) h (fun h => ?_) (fun h => ?_)
  · refine sx_iconst C dd_M_noRay_18 rfl ?_
    refine sx_less (lu := []) C [] rfl ?_
    exact sm_M_noRay_19 C hZ hr hlk ht hlf h
  · refine sx_iconst C dd_M_noRay_14 rfl ?_
    refine sx_goto (tgt := 19) C dd_M_noRay_15 (by decide) ?_
    refine sx_less (lu := []) C [] rfl ?_
    exact sm_M_noRay_19 C hZ hr hlk ht hlf h
def rm_M_size : Room := { frames := 0, cells := 0, slots := 0, locals := 0 }
set_option maxHeartbeats 4000000 in
set_option maxRecDepth 100000 in
theorem sm_M_size_10 (C : sx_C sr_lay sr_cl D cI cJ ad (sx_A sr_lay ad sz) 1 "StoneRingsModel" prog_7_method_10_code sr_ts p s m args c) (hZ : sx_Z (sx_A sr_lay ad sz) s s.heap) (hr : meth.sig.returnType = (some .int)) (hlk : meth.locks = false) (ht : ∀ x ∈ c.exceptionTable.toList, False) (hlf : l.stackTraces = false) {y0 : Int} {μ : sx_M} (h : sw_M_size_10 Q y0 μ) : sx_V sr_lay sr_cl D cI cJ ad (sx_A sr_lay ad sz) 1 p l e rm_M_size s m args below meth c (vx_MQ below (sx_T (sx_QI sr_lay sr_cl D cI cJ ad Q sz)) (sx_XC sr_lay sr_cl D cI cJ ad (fun _ _ => False) sz) args s 0 0 (sx_A sr_lay ad sz)) 0 0 μ 10 [] [.int (sx_i y0)] := by
  unfold sw_M_size_10 at h
  exact sx_iret C hr hlk dd_M_size_10 h
set_option maxHeartbeats 4000000 in
set_option maxRecDepth 100000 in
theorem sm_M_size {l : Launch} {D : va_G} {cI cJ : ClassId} {ad : Nat → Nat} {Q : Int → sx_M → Prop} (hlf : l.stackTraces = false) {μ : sx_M} {a0 : Int} (h : sw_M_size Q μ a0) (sz : Nat) : sx_MI l yy_M_size (Cond.code yy_M_size prog_7_method_10_code 1 (some .int) :: sr_ts) rm_M_size sr_lay sr_cl D cI cJ ad [.int (sx_i a0)] μ Q (fun _ _ => False) 0 0 sz := by
  refine sx_body (plainFor_of_name (by decide +kernel)) rfl (Nat.le_of_ble_eq_true rfl) ?_
  intro p e s m below meth c C hZ hr hlk ht
  unfold sw_M_size at h
  show sx_V sr_lay sr_cl D cI cJ ad (sx_A sr_lay ad sz) 1 p l e rm_M_size s m _ below meth c (vx_MQ below (sx_T (sx_QI sr_lay sr_cl D cI cJ ad Q sz)) (sx_XC sr_lay sr_cl D cI cJ ad (fun _ _ => False) sz) _ s 0 0 (sx_A sr_lay ad sz)) 0 0 μ 0 [(0, .int (sx_i a0))] []
  refine sx_iload_n C 0 dd_M_size_0 rfl rfl ?_
  refine sx_if_ge (tgt := 9) C dd_M_size_1 (by decide) h (fun h => ?_) (fun h => ?_)
  · refine sx_iload_n C 0 dd_M_size_9 rfl rfl ?_
    refine sx_less (lu := []) C [] rfl ?_
    exact sm_M_size_10 C hZ hr hlk ht hlf h
  · refine sx_iload_n C 0 dd_M_size_4 rfl rfl ?_
    refine sx_ineg C dd_M_size_5 ?_
    refine sx_goto (tgt := 10) C dd_M_size_6 (by decide) ?_
    refine sx_less (lu := []) C [] rfl ?_
    exact sm_M_size_10 C hZ hr hlk ht hlf h
def rm_M_down : Room := { frames := 0, cells := 0, slots := 0, locals := 0 }
set_option maxHeartbeats 4000000 in
set_option maxRecDepth 100000 in
theorem sm_M_down_18 (C : sx_C sr_lay sr_cl D cI cJ ad (sx_A sr_lay ad sz) 3 "StoneRingsModel" prog_7_method_11_code sr_ts p s m args c) (hZ : sx_Z (sx_A sr_lay ad sz) s s.heap) (hr : meth.sig.returnType = (some .int)) (hlk : meth.locks = false) (ht : ∀ x ∈ c.exceptionTable.toList, False) (hlf : l.stackTraces = false) {y0 : Int} {μ : sx_M} (h : sw_M_down_18 Q y0 μ) : sx_V sr_lay sr_cl D cI cJ ad (sx_A sr_lay ad sz) 3 p l e rm_M_down s m args below meth c (vx_MQ below (sx_T (sx_QI sr_lay sr_cl D cI cJ ad Q sz)) (sx_XC sr_lay sr_cl D cI cJ ad (fun _ _ => False) sz) args s 0 0 (sx_A sr_lay ad sz)) 0 0 μ 18 [] [.int (sx_i y0)] := by
  unfold sw_M_down_18 at h
  exact sx_iret C hr hlk dd_M_down_18 h
set_option maxHeartbeats 4000000 in
set_option maxRecDepth 100000 in
theorem sm_M_down {l : Launch} {D : va_G} {cI cJ : ClassId} {ad : Nat → Nat} {Q : Int → sx_M → Prop} (hlf : l.stackTraces = false) {μ : sx_M} {a0 a1 : Int} (h : sw_M_down Q μ a0 a1) (sz : Nat) : sx_MI l yy_M_down (Cond.code yy_M_down prog_7_method_11_code 3 (some .int) :: sr_ts) rm_M_down sr_lay sr_cl D cI cJ ad [.int (sx_i a0), .int (sx_i a1)] μ Q (fun _ _ => False) 0 0 sz := by
  refine sx_body (plainFor_of_name (by decide +kernel)) rfl (Nat.le_of_ble_eq_true rfl) ?_
  intro p e s m below meth c C hZ hr hlk ht
  unfold sw_M_down at h
  show sx_V sr_lay sr_cl D cI cJ ad (sx_A sr_lay ad sz) 3 p l e rm_M_down s m _ below meth c (vx_MQ below (sx_T (sx_QI sr_lay sr_cl D cI cJ ad Q sz)) (sx_XC sr_lay sr_cl D cI cJ ad (fun _ _ => False) sz) _ s 0 0 (sx_A sr_lay ad sz)) 0 0 μ 0 [(0, .int (sx_i a0)), (1, .int (sx_i a1))] []
  refine sx_iload_n C 0 dd_M_down_0 rfl rfl ?_
  refine sx_iload_n C 1 dd_M_down_1 rfl rfl ?_
  refine sx_idiv C dd_M_down_2 h (fun h => ?_)
  refine sx_istore_n (lu := [(2, .int (sx_i (a0.tdiv a1))), (0, .int (sx_i a0)), (1, .int (sx_i a1))]) C dd_M_down_3 rfl (by decide) rfl ?_
  refine sx_iload_n C 0 dd_M_down_4 rfl rfl ?_
  refine sx_iload_n C 2 dd_M_down_5 rfl rfl ?_
  refine sx_imul C dd_M_down_6 ?_
  refine sx_iload_n C 1 dd_M_down_7 rfl rfl ?_
  refine sx_icmp_le (tgt := 17) C dd_M_down_8 (by decide) h (fun h => ?_) (fun h => ?_)
  · refine sx_iload_n C 0 dd_M_down_17 rfl rfl ?_
    refine sx_less (lu := []) C [] rfl ?_
    exact sm_M_down_18 C hZ hr hlk ht hlf h
  · refine sx_iload_n C 0 dd_M_down_11 rfl rfl ?_
    refine sx_iconst C dd_M_down_12 rfl ?_
    refine sx_isub C dd_M_down_13 ?_
    refine sx_goto (tgt := 18) C dd_M_down_14 (by decide) ?_
    refine sx_less (lu := []) C [] rfl ?_
    exact sm_M_down_18 C hZ hr hlk ht hlf h
def rm_M_lay : Room := { frames := 2, cells := 0, slots := 0, locals := 45 }
set_option maxHeartbeats 4000000 in
set_option maxRecDepth 100000 in
theorem sm_M_lay_176 (C : sx_C sr_lay sr_cl D cI cJ ad (sx_A sr_lay ad sz) 9 "StoneRingsModel" prog_7_method_12_code sr_ts p s m args c) (hZ : sx_Z (sx_A sr_lay ad sz) s s.heap) (hr : meth.sig.returnType = none) (hlk : meth.locks = false) (ht : ∀ x ∈ c.exceptionTable.toList, False) (hlf : l.stackTraces = false) {r73 : Int → Int → Int → Int → Int → sx_M → Prop} (hr73 : ∀ (x1 x2 x3 x4 x5 : Int) (μ : sx_M), r73 x1 x2 x3 x4 x5 μ → sx_V sr_lay sr_cl D cI cJ ad (sx_A sr_lay ad sz) 9 p l e rm_M_lay s m args below meth c (vx_MQ below (sx_T (sx_QV sr_lay sr_cl D cI cJ ad Q sz)) (sx_XC sr_lay sr_cl D cI cJ ad (fun _ _ => False) sz) args s 0 0 (sx_A sr_lay ad sz)) 0 0 μ 73 [(0, .ref (ad 19)), (1, .int (sx_i x1)), (2, .int (sx_i x2)), (3, .int (sx_i x3)), (4, .int (sx_i x4)), (5, .int (sx_i x5))] []) {x1 x2 x3 x4 x5 : Int} {μ : sx_M} (h : sw_M_lay_176 Q r73 x1 x2 x3 x4 x5 μ) : sx_V sr_lay sr_cl D cI cJ ad (sx_A sr_lay ad sz) 9 p l e rm_M_lay s m args below meth c (vx_MQ below (sx_T (sx_QV sr_lay sr_cl D cI cJ ad Q sz)) (sx_XC sr_lay sr_cl D cI cJ ad (fun _ _ => False) sz) args s 0 0 (sx_A sr_lay ad sz)) 0 0 μ 176 [(0, .ref (ad 19)), (1, .int (sx_i x1)), (2, .int (sx_i x2)), (3, .int (sx_i x3)), (4, .int (sx_i x4)), (5, .int (sx_i x5))] [] := by
  unfold sw_M_lay_176 at h
  refine sx_goto (tgt := 73) C dd_M_lay_176 (by decide) ?_
  exact hr73 _ _ _ _ _ _ h
set_option maxHeartbeats 4000000 in
set_option maxRecDepth 100000 in
theorem sm_M_lay_247 (C : sx_C sr_lay sr_cl D cI cJ ad (sx_A sr_lay ad sz) 9 "StoneRingsModel" prog_7_method_12_code sr_ts p s m args c) (hZ : sx_Z (sx_A sr_lay ad sz) s s.heap) (hr : meth.sig.returnType = none) (hlk : meth.locks = false) (ht : ∀ x ∈ c.exceptionTable.toList, False) (hlf : l.stackTraces = false) {r182 : Int → sx_M → Prop} (hr182 : ∀ (x6 : Int) (μ : sx_M), r182 x6 μ → sx_V sr_lay sr_cl D cI cJ ad (sx_A sr_lay ad sz) 9 p l e rm_M_lay s m args below meth c (vx_MQ below (sx_T (sx_QV sr_lay sr_cl D cI cJ ad Q sz)) (sx_XC sr_lay sr_cl D cI cJ ad (fun _ _ => False) sz) args s 0 0 (sx_A sr_lay ad sz)) 0 0 μ 182 [(0, .ref (ad 19)), (6, .int (sx_i x6))] []) {x6 x7 y0 : Int} {μ : sx_M} (h : sw_M_lay_247 Q r182 x6 x7 y0 μ) : sx_V sr_lay sr_cl D cI cJ ad (sx_A sr_lay ad sz) 9 p l e rm_M_lay s m args below meth c (vx_MQ below (sx_T (sx_QV sr_lay sr_cl D cI cJ ad Q sz)) (sx_XC sr_lay sr_cl D cI cJ ad (fun _ _ => False) sz) args s 0 0 (sx_A sr_lay ad sz)) 0 0 μ 247 [(0, .ref (ad 19)), (6, .int (sx_i x6)), (7, .int (sx_i x7))] [.int (sx_i y0)] := by
  unfold sw_M_lay_247 at h
  refine sx_istore (lu := [(8, .int (sx_i y0)), (0, .ref (ad 19)), (6, .int (sx_i x6)), (7, .int (sx_i x7))]) C dd_M_lay_247 (by decide) rfl ?_
  refine sx_aload_n C 1 dd_M_lay_249 rfl rfl ?_
  refine sx_getr (ref := "StoneRingsModel") C 19 11 rfl rfl (rfl : sr_cl[5]? = some ("StoneRingsModel", tt_M, 21)) (by decide) in_M wd_603 rfl dd_M_lay_250 ?_
  refine sx_iload C 2 dd_M_lay_253 rfl ?_
  refine sx_iload C 3 dd_M_lay_255 rfl ?_
  refine sx_iconst C dd_M_lay_257 rfl ?_
  refine sx_aload_n C 1 dd_M_lay_258 rfl rfl ?_
  refine sx_getr (ref := "StoneRingsModel") C 19 10 rfl rfl (rfl : sr_cl[5]? = some ("StoneRingsModel", tt_M, 21)) (by decide) in_M wd_602 rfl dd_M_lay_259 ?_
  refine sx_iload C 2 dd_M_lay_262 rfl ?_
  refine sx_iald (N := 16) C 23 rfl rfl (by decide) dd_M_lay_264 h (fun h => ?_)
  refine sx_imul C dd_M_lay_265 ?_
  refine sx_iadd C dd_M_lay_266 ?_
  refine sx_iload C 0 dd_M_lay_267 rfl ?_
  refine sx_iadd C dd_M_lay_269 ?_
  refine sx_iconst C dd_M_lay_270 rfl ?_
  refine sx_iadd C dd_M_lay_271 ?_
  refine sx_iconst C dd_M_lay_272 rfl ?_
  refine sx_idiv C dd_M_lay_273 h (fun h => ?_)
  refine sx_iast (N := 16) C 24 rfl rfl (by decide) dd_M_lay_274 h (fun h => ?_)
  refine sx_iinc (lu := [(6, .int (sx_i (x6 + 1))), (8, .int (sx_i y0)), (0, .ref (ad 19)), (7, .int (sx_i x7))]) C 2 dd_M_lay_275 rfl (by decide) rfl ?_
  refine sx_goto (tgt := 182) C dd_M_lay_278 (by decide) ?_
  refine sx_less (lu := [(0, .ref (ad 19)), (6, .int (sx_i (x6 + 1)))]) C [2, 0] rfl ?_
  exact hr182 _ _ h
set_option maxHeartbeats 4000000 in
set_option maxRecDepth 100000 in
theorem sm_M_lay_215 (C : sx_C sr_lay sr_cl D cI cJ ad (sx_A sr_lay ad sz) 9 "StoneRingsModel" prog_7_method_12_code sr_ts p s m args c) (hZ : sx_Z (sx_A sr_lay ad sz) s s.heap) (hr : meth.sig.returnType = none) (hlk : meth.locks = false) (ht : ∀ x ∈ c.exceptionTable.toList, False) (hlf : l.stackTraces = false) {r182 : Int → sx_M → Prop} (hr182 : ∀ (x6 : Int) (μ : sx_M), r182 x6 μ → sx_V sr_lay sr_cl D cI cJ ad (sx_A sr_lay ad sz) 9 p l e rm_M_lay s m args below meth c (vx_MQ below (sx_T (sx_QV sr_lay sr_cl D cI cJ ad Q sz)) (sx_XC sr_lay sr_cl D cI cJ ad (fun _ _ => False) sz) args s 0 0 (sx_A sr_lay ad sz)) 0 0 μ 182 [(0, .ref (ad 19)), (6, .int (sx_i x6))] []) {x6 y0 : Int} {μ : sx_M} (h : sw_M_lay_215 Q r182 x6 y0 μ) : sx_V sr_lay sr_cl D cI cJ ad (sx_A sr_lay ad sz) 9 p l e rm_M_lay s m args below meth c (vx_MQ below (sx_T (sx_QV sr_lay sr_cl D cI cJ ad Q sz)) (sx_XC sr_lay sr_cl D cI cJ ad (fun _ _ => False) sz) args s 0 0 (sx_A sr_lay ad sz)) 0 0 μ 215 [(0, .ref (ad 19)), (6, .int (sx_i x6))] [.int (sx_i y0)] := by
  unfold sw_M_lay_215 at h
  refine sx_istore (lu := [(7, .int (sx_i y0)), (0, .ref (ad 19)), (6, .int (sx_i x6))]) C dd_M_lay_215 (by decide) rfl ?_
  refine sx_iload C 2 dd_M_lay_217 rfl ?_
  refine sx_aload_n C 1 dd_M_lay_219 rfl rfl ?_
  refine sx_geti (K := 9) (ref := "StoneRingsModel") C 19 9 rfl rfl rfl (rfl : sr_cl[5]? = some ("StoneRingsModel", tt_M, 21)) (by decide) in_M wd_601 rfl dd_M_lay_220 ?_
  refine sx_iconst C dd_M_lay_223 rfl ?_
  refine sx_isub C dd_M_lay_224 ?_
  refine sx_icmp_ne (tgt := 238) C dd_M_lay_225 (by decide) h (fun h => ?_) (fun h => ?_)
  · refine sx_aload_n C 1 dd_M_lay_238 rfl rfl ?_
    refine sx_getr (ref := "StoneRingsModel") C 19 10 rfl rfl (rfl : sr_cl[5]? = some ("StoneRingsModel", tt_M, 21)) (by decide) in_M wd_602 rfl dd_M_lay_239 ?_
    refine sx_iload C 2 dd_M_lay_242 rfl ?_
    refine sx_iconst C dd_M_lay_244 rfl ?_
    refine sx_iadd C dd_M_lay_245 ?_
    refine sx_iald (N := 16) C 23 rfl rfl (by decide) dd_M_lay_246 h (fun h => ?_)
    refine sx_less (lu := [(0, .ref (ad 19)), (6, .int (sx_i x6)), (7, .int (sx_i y0))]) C [1, 2, 0] rfl ?_
    exact sm_M_lay_247 C hZ hr hlk ht hlf hr182 h
  · refine sx_aload_n C 1 dd_M_lay_228 rfl rfl ?_
    refine sx_getr (ref := "StoneRingsModel") C 19 10 rfl rfl (rfl : sr_cl[5]? = some ("StoneRingsModel", tt_M, 21)) (by decide) in_M wd_602 rfl dd_M_lay_229 ?_
    refine sx_iload C 2 dd_M_lay_232 rfl ?_
    refine sx_iald (N := 16) C 23 rfl rfl (by decide) dd_M_lay_234 h (fun h => ?_)
    refine sx_goto (tgt := 247) C dd_M_lay_235 (by decide) ?_
    refine sx_less (lu := [(0, .ref (ad 19)), (6, .int (sx_i x6)), (7, .int (sx_i y0))]) C [1, 2, 0] rfl ?_
    exact sm_M_lay_247 C hZ hr hlk ht hlf hr182 h
set_option maxHeartbeats 4000000 in
set_option maxRecDepth 100000 in
theorem sm_M_lay_449 (C : sx_C sr_lay sr_cl D cI cJ ad (sx_A sr_lay ad sz) 9 "StoneRingsModel" prog_7_method_12_code sr_ts p s m args c) (hZ : sx_Z (sx_A sr_lay ad sz) s s.heap) (hr : meth.sig.returnType = none) (hlk : meth.locks = false) (ht : ∀ x ∈ c.exceptionTable.toList, False) (hlf : l.stackTraces = false) {r311 : Int → Int → Int → sx_M → Prop} (hr311 : ∀ (x6 x7 x8 : Int) (μ : sx_M), r311 x6 x7 x8 μ → sx_V sr_lay sr_cl D cI cJ ad (sx_A sr_lay ad sz) 9 p l e rm_M_lay s m args below meth c (vx_MQ below (sx_T (sx_QV sr_lay sr_cl D cI cJ ad Q sz)) (sx_XC sr_lay sr_cl D cI cJ ad (fun _ _ => False) sz) args s 0 0 (sx_A sr_lay ad sz)) 0 0 μ 311 [(0, .ref (ad 19)), (6, .int (sx_i x6)), (7, .int (sx_i x7)), (8, .int (sx_i x8))] []) {x6 x7 x8 : Int} {μ : sx_M} (h : sw_M_lay_449 Q r311 x6 x7 x8 μ) : sx_V sr_lay sr_cl D cI cJ ad (sx_A sr_lay ad sz) 9 p l e rm_M_lay s m args below meth c (vx_MQ below (sx_T (sx_QV sr_lay sr_cl D cI cJ ad Q sz)) (sx_XC sr_lay sr_cl D cI cJ ad (fun _ _ => False) sz) args s 0 0 (sx_A sr_lay ad sz)) 0 0 μ 449 [(0, .ref (ad 19)), (6, .int (sx_i x6)), (7, .int (sx_i x7)), (8, .int (sx_i x8))] [] := by
  unfold sw_M_lay_449 at h
  refine sx_iinc (lu := [(8, .int (sx_i (x8 + 1))), (0, .ref (ad 19)), (6, .int (sx_i x6)), (7, .int (sx_i x7))]) C 3 dd_M_lay_449 rfl (by decide) rfl ?_
  refine sx_goto (tgt := 311) C dd_M_lay_452 (by decide) ?_
  refine sx_less (lu := [(0, .ref (ad 19)), (6, .int (sx_i x6)), (7, .int (sx_i x7)), (8, .int (sx_i (x8 + 1)))]) C [1, 2, 3, 0] rfl ?_
  exact hr311 _ _ _ _ h
set_option maxHeartbeats 4000000 in
set_option maxRecDepth 100000 in
theorem sm_M_lay_346 (C : sx_C sr_lay sr_cl D cI cJ ad (sx_A sr_lay ad sz) 9 "StoneRingsModel" prog_7_method_12_code sr_ts p s m args c) (hZ : sx_Z (sx_A sr_lay ad sz) s s.heap) (hr : meth.sig.returnType = none) (hlk : meth.locks = false) (ht : ∀ x ∈ c.exceptionTable.toList, False) (hlf : l.stackTraces = false) {r311 : Int → Int → Int → sx_M → Prop} (hr311 : ∀ (x6 x7 x8 : Int) (μ : sx_M), r311 x6 x7 x8 μ → sx_V sr_lay sr_cl D cI cJ ad (sx_A sr_lay ad sz) 9 p l e rm_M_lay s m args below meth c (vx_MQ below (sx_T (sx_QV sr_lay sr_cl D cI cJ ad Q sz)) (sx_XC sr_lay sr_cl D cI cJ ad (fun _ _ => False) sz) args s 0 0 (sx_A sr_lay ad sz)) 0 0 μ 311 [(0, .ref (ad 19)), (6, .int (sx_i x6)), (7, .int (sx_i x7)), (8, .int (sx_i x8))] []) {x6 x8 y0 : Int} {μ : sx_M} (h : sw_M_lay_346 Q r311 x6 x8 y0 μ) : sx_V sr_lay sr_cl D cI cJ ad (sx_A sr_lay ad sz) 9 p l e rm_M_lay s m args below meth c (vx_MQ below (sx_T (sx_QV sr_lay sr_cl D cI cJ ad Q sz)) (sx_XC sr_lay sr_cl D cI cJ ad (fun _ _ => False) sz) args s 0 0 (sx_A sr_lay ad sz)) 0 0 μ 346 [(0, .ref (ad 19)), (6, .int (sx_i x6)), (8, .int (sx_i x8))] [.int (sx_i y0)] := by
  unfold sw_M_lay_346 at h
  refine sx_istore (lu := [(7, .int (sx_i y0)), (0, .ref (ad 19)), (6, .int (sx_i x6)), (8, .int (sx_i x8))]) C dd_M_lay_346 (by decide) rfl ?_
  refine sx_aload_n C 1 dd_M_lay_348 rfl rfl ?_
  refine sx_getr (ref := "StoneRingsModel") C 19 11 rfl rfl (rfl : sr_cl[5]? = some ("StoneRingsModel", tt_M, 21)) (by decide) in_M wd_603 rfl dd_M_lay_349 ?_
  refine sx_iload C 3 dd_M_lay_352 rfl ?_
  refine sx_iald (N := 16) C 24 rfl rfl (by decide) dd_M_lay_354 h (fun h => ?_)
  refine sx_aload_n C 1 dd_M_lay_355 rfl rfl ?_
  refine sx_getr (ref := "StoneRingsModel") C 19 11 rfl rfl (rfl : sr_cl[5]? = some ("StoneRingsModel", tt_M, 21)) (by decide) in_M wd_603 rfl dd_M_lay_356 ?_
  refine sx_iload C 3 dd_M_lay_359 rfl ?_
  refine sx_iconst C dd_M_lay_361 rfl ?_
  refine sx_isub C dd_M_lay_362 ?_
  refine sx_iald (N := 16) C 24 rfl rfl (by decide) dd_M_lay_363 h (fun h => ?_)
  refine sx_icmp_le (tgt := 449) C dd_M_lay_364 (by decide) h (fun h => ?_) (fun h => ?_)
  · refine sx_less (lu := [(0, .ref (ad 19)), (6, .int (sx_i x6)), (7, .int (sx_i y0)), (8, .int (sx_i x8))]) C [1, 2, 0, 3] rfl ?_
    exact sm_M_lay_449 C hZ hr hlk ht hlf hr311 h
  · refine sx_aload_n C 1 dd_M_lay_367 rfl rfl ?_
    refine sx_getr (ref := "StoneRingsModel") C 19 11 rfl rfl (rfl : sr_cl[5]? = some ("StoneRingsModel", tt_M, 21)) (by decide) in_M wd_603 rfl dd_M_lay_368 ?_
    refine sx_iload C 3 dd_M_lay_371 rfl ?_
    refine sx_iald (N := 16) C 24 rfl rfl (by decide) dd_M_lay_373 h (fun h => ?_)
    refine sx_aload_n C 1 dd_M_lay_374 rfl rfl ?_
    refine sx_getr (ref := "StoneRingsModel") C 19 11 rfl rfl (rfl : sr_cl[5]? = some ("StoneRingsModel", tt_M, 21)) (by decide) in_M wd_603 rfl dd_M_lay_375 ?_
    refine sx_iload C 3 dd_M_lay_378 rfl ?_
    refine sx_iconst C dd_M_lay_380 rfl ?_
    refine sx_iadd C dd_M_lay_381 ?_
    refine sx_iald (N := 16) C 24 rfl rfl (by decide) dd_M_lay_382 h (fun h => ?_)
    refine sx_icmp_lt (tgt := 449) C dd_M_lay_383 (by decide) h (fun h => ?_) (fun h => ?_)
    · refine sx_less (lu := [(0, .ref (ad 19)), (6, .int (sx_i x6)), (7, .int (sx_i y0)), (8, .int (sx_i x8))]) C [1, 2, 0, 3] rfl ?_
      exact sm_M_lay_449 C hZ hr hlk ht hlf hr311 h
    · refine sx_iload C 3 dd_M_lay_386 rfl ?_
      refine sx_iload C 2 dd_M_lay_388 rfl ?_
      refine sx_isub C dd_M_lay_390 ?_
      refine sx_aload_n C 1 dd_M_lay_391 rfl rfl ?_
      refine sx_geti (K := 7) (ref := "StoneRingsModel") C 19 7 rfl rfl rfl (rfl : sr_cl[5]? = some ("StoneRingsModel", tt_M, 21)) (by decide) in_M wd_599 rfl dd_M_lay_392 ?_
      refine sx_icmp_lt (tgt := 449) C dd_M_lay_395 (by decide) h (fun h => ?_) (fun h => ?_)
      · refine sx_less (lu := [(0, .ref (ad 19)), (6, .int (sx_i x6)), (7, .int (sx_i y0)), (8, .int (sx_i x8))]) C [1, 2, 0, 3] rfl ?_
        exact sm_M_lay_449 C hZ hr hlk ht hlf hr311 h
      · refine sx_aload_n C 1 dd_M_lay_398 rfl rfl ?_
        refine sx_getr (ref := "StoneRingsModel") C 19 11 rfl rfl (rfl : sr_cl[5]? = some ("StoneRingsModel", tt_M, 21)) (by decide) in_M wd_603 rfl dd_M_lay_399 ?_
        refine sx_iload C 3 dd_M_lay_402 rfl ?_
        refine sx_iald (N := 16) C 24 rfl rfl (by decide) dd_M_lay_404 h (fun h => ?_)
        refine sx_iload C 0 dd_M_lay_405 rfl ?_
        refine sx_aload_n C 1 dd_M_lay_407 rfl rfl ?_
        refine sx_geti (K := 8) (ref := "StoneRingsModel") C 19 8 rfl rfl rfl (rfl : sr_cl[5]? = some ("StoneRingsModel", tt_M, 21)) (by decide) in_M wd_600 rfl dd_M_lay_408 ?_
        refine sx_iadd C dd_M_lay_411 ?_
        refine sx_icmp_lt (tgt := 449) C dd_M_lay_412 (by decide) h (fun h => ?_) (fun h => ?_)
        · refine sx_less (lu := [(0, .ref (ad 19)), (6, .int (sx_i x6)), (7, .int (sx_i y0)), (8, .int (sx_i x8))]) C [1, 2, 0, 3] rfl ?_
          exact sm_M_lay_449 C hZ hr hlk ht hlf hr311 h
        · refine sx_aload_n C 1 dd_M_lay_415 rfl rfl ?_
          refine sx_getr (ref := "StoneRingsModel") C 19 13 rfl rfl (rfl : sr_cl[5]? = some ("StoneRingsModel", tt_M, 21)) (by decide) in_M wd_605 rfl dd_M_lay_416 ?_
          refine sx_aload_n C 1 dd_M_lay_419 rfl rfl ?_
          refine sx_geti (K := 12) (ref := "StoneRingsModel") C 19 12 rfl rfl rfl (rfl : sr_cl[5]? = some ("StoneRingsModel", tt_M, 21)) (by decide) in_M wd_604 rfl dd_M_lay_420 ?_
          refine sx_iload C 3 dd_M_lay_423 rfl ?_
          refine sx_iast (N := 16) C 25 rfl rfl (by decide) dd_M_lay_425 h (fun h => ?_)
          refine sx_aload_n C 1 dd_M_lay_426 rfl rfl ?_
          refine sx_dup C dd_M_lay_427 rfl ?_
          refine sx_geti (K := 12) (ref := "StoneRingsModel") C 19 12 rfl rfl rfl (rfl : sr_cl[5]? = some ("StoneRingsModel", tt_M, 21)) (by decide) in_M wd_604 rfl dd_M_lay_428 ?_
          refine sx_iconst C dd_M_lay_431 rfl ?_
          refine sx_iadd C dd_M_lay_432 ?_
          refine sx_puti (K := 12) (ref := "StoneRingsModel") (ty := .int) C 19 12 rfl rfl rfl (rfl : sr_cl[5]? = some ("StoneRingsModel", tt_M, 21)) (by decide) in_M ty_M tyk_M nm_M wd_604 rfl rfl (by decide +kernel) rfl rfl dd_M_lay_433 ?_
          refine sx_iload C 3 dd_M_lay_436 rfl ?_
          refine sx_istore (lu := [(6, .int (sx_i x8)), (7, .int (sx_i y0)), (0, .ref (ad 19)), (8, .int (sx_i x8))]) C dd_M_lay_438 (by decide) rfl ?_
          refine sx_aload_n C 2 dd_M_lay_440 rfl rfl ?_
          refine sx_getr (ref := "StoneRingsModel") C 19 11 rfl rfl (rfl : sr_cl[5]? = some ("StoneRingsModel", tt_M, 21)) (by decide) in_M wd_603 rfl dd_M_lay_441 ?_
          refine sx_iload C 3 dd_M_lay_444 rfl ?_
          refine sx_iald (N := 16) C 24 rfl rfl (by decide) dd_M_lay_446 h (fun h => ?_)
          refine sx_istore (lu := [(7, .int (sx_i ((sx_up (sx_up μ 25 (μ 19 12) x8) 19 12 (((sx_up μ 25 (μ 19 12) x8) 19 12) + 1)) 24 x8))), (6, .int (sx_i x8)), (0, .ref (ad 19)), (8, .int (sx_i x8))]) C dd_M_lay_447 (by decide) rfl ?_
          refine sx_less (lu := [(0, .ref (ad 19)), (6, .int (sx_i x8)), (7, .int (sx_i ((sx_up (sx_up μ 25 (μ 19 12) x8) 19 12 (((sx_up μ 25 (μ 19 12) x8) 19 12) + 1)) 24 x8))), (8, .int (sx_i x8))]) C [2, 1, 0, 3] rfl ?_
          exact sm_M_lay_449 C hZ hr hlk ht hlf hr311 h
set_option maxHeartbeats 4000000 in
set_option maxRecDepth 100000 in
theorem sm_M_lay_311 (C : sx_C sr_lay sr_cl D cI cJ ad (sx_A sr_lay ad sz) 9 "StoneRingsModel" prog_7_method_12_code sr_ts p s m args c) (hZ : sx_Z (sx_A sr_lay ad sz) s s.heap) (hr : meth.sig.returnType = none) (hlk : meth.locks = false) (ht : ∀ x ∈ c.exceptionTable.toList, False) (hlf : l.stackTraces = false) : ∀ (n : Nat) (x6 x7 x8 : Int) (μ : sx_M), sw_M_lay_311 Q n x6 x7 x8 μ → sx_V sr_lay sr_cl D cI cJ ad (sx_A sr_lay ad sz) 9 p l e rm_M_lay s m args below meth c (vx_MQ below (sx_T (sx_QV sr_lay sr_cl D cI cJ ad Q sz)) (sx_XC sr_lay sr_cl D cI cJ ad (fun _ _ => False) sz) args s 0 0 (sx_A sr_lay ad sz)) 0 0 μ 311 [(0, .ref (ad 19)), (6, .int (sx_i x6)), (7, .int (sx_i x7)), (8, .int (sx_i x8))] [] := by
  intro n
  induction n with
  | zero =>
    intro x6 x7 x8 μ h
    exact h.elim
  | succ n ih =>
    intro x6 x7 x8 μ h
    have hr311 := ih
    unfold sw_M_lay_311 at h
    refine sx_iload C 3 dd_M_lay_311 rfl ?_
    refine sx_aload_n C 0 dd_M_lay_313 rfl rfl ?_
    refine sx_geti (K := 9) (ref := "StoneRingsModel") C 19 9 rfl rfl rfl (rfl : sr_cl[5]? = some ("StoneRingsModel", tt_M, 21)) (by decide) in_M wd_601 rfl dd_M_lay_314 ?_
    refine sx_iconst C dd_M_lay_317 rfl ?_
    refine sx_isub C dd_M_lay_318 ?_
    refine sx_icmp_ge (tgt := 455) C dd_M_lay_319 (by decide) h (fun h => ?_) (fun h => ?_)
    · exact sx_vret C hr hlk dd_M_lay_455 h
    · refine sx_aload_n C 0 dd_M_lay_322 rfl rfl ?_
      refine sx_getr (ref := "StoneRingsModel") C 19 11 rfl rfl (rfl : sr_cl[5]? = some ("StoneRingsModel", tt_M, 21)) (by decide) in_M wd_603 rfl dd_M_lay_323 ?_
      refine sx_iload C 3 dd_M_lay_326 rfl ?_
      refine sx_iald (N := 16) C 24 rfl rfl (by decide) dd_M_lay_328 h (fun h => ?_)
      refine sx_iload C 2 dd_M_lay_329 rfl ?_
      refine sx_icmp_ge (tgt := 344) C dd_M_lay_331 (by decide) h (fun h => ?_) (fun h => ?_)
      · refine sx_iload C 2 dd_M_lay_344 rfl ?_
        refine sx_less (lu := [(0, .ref (ad 19)), (6, .int (sx_i x6)), (8, .int (sx_i x8))]) C [0, 1, 3] rfl ?_
        exact sm_M_lay_346 C hZ hr hlk ht hlf hr311 h
      · refine sx_aload_n C 0 dd_M_lay_334 rfl rfl ?_
        refine sx_getr (ref := "StoneRingsModel") C 19 11 rfl rfl (rfl : sr_cl[5]? = some ("StoneRingsModel", tt_M, 21)) (by decide) in_M wd_603 rfl dd_M_lay_335 ?_
        refine sx_iload C 3 dd_M_lay_338 rfl ?_
        refine sx_iald (N := 16) C 24 rfl rfl (by decide) dd_M_lay_340 h (fun h => ?_)
        refine sx_goto (tgt := 346) C dd_M_lay_341 (by decide) ?_
        refine sx_less (lu := [(0, .ref (ad 19)), (6, .int (sx_i x6)), (8, .int (sx_i x8))]) C [0, 1, 3] rfl ?_
        exact sm_M_lay_346 C hZ hr hlk ht hlf hr311 h
set_option maxHeartbeats 4000000 in
set_option maxRecDepth 100000 in
theorem sm_M_lay_306 (C : sx_C sr_lay sr_cl D cI cJ ad (sx_A sr_lay ad sz) 9 "StoneRingsModel" prog_7_method_12_code sr_ts p s m args c) (hZ : sx_Z (sx_A sr_lay ad sz) s s.heap) (hr : meth.sig.returnType = none) (hlk : meth.locks = false) (ht : ∀ x ∈ c.exceptionTable.toList, False) (hlf : l.stackTraces = false) {x6 y0 : Int} {μ : sx_M} (h : sw_M_lay_306 Q x6 y0 μ) : sx_V sr_lay sr_cl D cI cJ ad (sx_A sr_lay ad sz) 9 p l e rm_M_lay s m args below meth c (vx_MQ below (sx_T (sx_QV sr_lay sr_cl D cI cJ ad Q sz)) (sx_XC sr_lay sr_cl D cI cJ ad (fun _ _ => False) sz) args s 0 0 (sx_A sr_lay ad sz)) 0 0 μ 306 [(0, .ref (ad 19)), (6, .int (sx_i x6))] [.int (sx_i y0)] := by
  unfold sw_M_lay_306 at h
  refine sx_istore (lu := [(7, .int (sx_i y0)), (0, .ref (ad 19)), (6, .int (sx_i x6))]) C dd_M_lay_306 (by decide) rfl ?_
  refine sx_iconst C dd_M_lay_308 rfl ?_
  refine sx_istore (lu := [(8, .int (sx_i 1)), (7, .int (sx_i y0)), (0, .ref (ad 19)), (6, .int (sx_i x6))]) C dd_M_lay_309 (by decide) rfl ?_
  refine sx_less (lu := [(0, .ref (ad 19)), (6, .int (sx_i x6)), (7, .int (sx_i y0)), (8, .int (sx_i 1))]) C [2, 3, 1, 0] rfl ?_
  exact sm_M_lay_311 C hZ hr hlk ht hlf 600 _ _ _ _ h
set_option maxHeartbeats 4000000 in
set_option maxRecDepth 100000 in
theorem sm_M_lay_182 (C : sx_C sr_lay sr_cl D cI cJ ad (sx_A sr_lay ad sz) 9 "StoneRingsModel" prog_7_method_12_code sr_ts p s m args c) (hZ : sx_Z (sx_A sr_lay ad sz) s s.heap) (hr : meth.sig.returnType = none) (hlk : meth.locks = false) (ht : ∀ x ∈ c.exceptionTable.toList, False) (hlf : l.stackTraces = false) : ∀ (n : Nat) (x6 : Int) (μ : sx_M), sw_M_lay_182 Q n x6 μ → sx_V sr_lay sr_cl D cI cJ ad (sx_A sr_lay ad sz) 9 p l e rm_M_lay s m args below meth c (vx_MQ below (sx_T (sx_QV sr_lay sr_cl D cI cJ ad Q sz)) (sx_XC sr_lay sr_cl D cI cJ ad (fun _ _ => False) sz) args s 0 0 (sx_A sr_lay ad sz)) 0 0 μ 182 [(0, .ref (ad 19)), (6, .int (sx_i x6))] [] := by
  intro n
  induction n with
  | zero =>
    intro x6 μ h
    exact h.elim
  | succ n ih =>
    intro x6 μ h
    have hr182 := ih
    unfold sw_M_lay_182 at h
    refine sx_iload C 1 dd_M_lay_182 rfl ?_
    refine sx_aload_n C 0 dd_M_lay_184 rfl rfl ?_
    refine sx_geti (K := 9) (ref := "StoneRingsModel") C 19 9 rfl rfl rfl (rfl : sr_cl[5]? = some ("StoneRingsModel", tt_M, 21)) (by decide) in_M wd_601 rfl dd_M_lay_185 ?_
    refine sx_icmp_ge (tgt := 281) C dd_M_lay_188 (by decide) h (fun h => ?_) (fun h => ?_)
    · refine sx_aload_n C 0 dd_M_lay_281 rfl rfl ?_
      refine sx_iconst C dd_M_lay_282 rfl ?_
      refine sx_puti (K := 12) (ref := "StoneRingsModel") (ty := .int) C 19 12 rfl rfl rfl (rfl : sr_cl[5]? = some ("StoneRingsModel", tt_M, 21)) (by decide) in_M ty_M tyk_M nm_M wd_604 rfl rfl (by decide +kernel) rfl rfl dd_M_lay_283 ?_
      refine sx_iconst C dd_M_lay_286 rfl ?_
      refine sx_istore (lu := [(6, .int (sx_i 0)), (0, .ref (ad 19))]) C dd_M_lay_287 (by decide) rfl ?_
      refine sx_aload_n C 1 dd_M_lay_289 rfl rfl ?_
      refine sx_geti (K := 9) (ref := "StoneRingsModel") C 19 9 rfl rfl rfl (rfl : sr_cl[5]? = some ("StoneRingsModel", tt_M, 21)) (by decide) in_M wd_601 rfl dd_M_lay_290 ?_
      refine sx_if_le (tgt := 305) C dd_M_lay_293 (by decide) h (fun h => ?_) (fun h => ?_)
      · refine sx_iconst C dd_M_lay_305 rfl ?_
        refine sx_less (lu := [(0, .ref (ad 19)), (6, .int (sx_i 0))]) C [1, 0] rfl ?_
        exact sm_M_lay_306 C hZ hr hlk ht hlf h
      · refine sx_aload_n C 1 dd_M_lay_296 rfl rfl ?_
        refine sx_getr (ref := "StoneRingsModel") C 19 11 rfl rfl (rfl : sr_cl[5]? = some ("StoneRingsModel", tt_M, 21)) (by decide) in_M wd_603 rfl dd_M_lay_297 ?_
        refine sx_iconst C dd_M_lay_300 rfl ?_
        refine sx_iald (N := 16) C 24 rfl rfl (by decide) dd_M_lay_301 h (fun h => ?_)
        refine sx_goto (tgt := 306) C dd_M_lay_302 (by decide) ?_
        refine sx_less (lu := [(0, .ref (ad 19)), (6, .int (sx_i 0))]) C [1, 0] rfl ?_
        exact sm_M_lay_306 C hZ hr hlk ht hlf h
    · refine sx_iload C 1 dd_M_lay_191 rfl ?_
      refine sx_if_ne (tgt := 206) C dd_M_lay_193 (by decide) h (fun h => ?_) (fun h => ?_)
      · refine sx_aload_n C 0 dd_M_lay_206 rfl rfl ?_
        refine sx_getr (ref := "StoneRingsModel") C 19 10 rfl rfl (rfl : sr_cl[5]? = some ("StoneRingsModel", tt_M, 21)) (by decide) in_M wd_602 rfl dd_M_lay_207 ?_
        refine sx_iload C 1 dd_M_lay_210 rfl ?_
        refine sx_iconst C dd_M_lay_212 rfl ?_
        refine sx_isub C dd_M_lay_213 ?_
        refine sx_iald (N := 16) C 23 rfl rfl (by decide) dd_M_lay_214 h (fun h => ?_)
        exact sm_M_lay_215 C hZ hr hlk ht hlf hr182 h
      · refine sx_aload_n C 0 dd_M_lay_196 rfl rfl ?_
        refine sx_getr (ref := "StoneRingsModel") C 19 10 rfl rfl (rfl : sr_cl[5]? = some ("StoneRingsModel", tt_M, 21)) (by decide) in_M wd_602 rfl dd_M_lay_197 ?_
        refine sx_iload C 1 dd_M_lay_200 rfl ?_
        refine sx_iald (N := 16) C 23 rfl rfl (by decide) dd_M_lay_202 h (fun h => ?_)
        refine sx_goto (tgt := 215) C dd_M_lay_203 (by decide) ?_
        exact sm_M_lay_215 C hZ hr hlk ht hlf hr182 h
set_option maxHeartbeats 4000000 in
set_option maxRecDepth 100000 in
theorem sm_M_lay_73 (C : sx_C sr_lay sr_cl D cI cJ ad (sx_A sr_lay ad sz) 9 "StoneRingsModel" prog_7_method_12_code sr_ts p s m args c) (hZ : sx_Z (sx_A sr_lay ad sz) s s.heap) (hr : meth.sig.returnType = none) (hlk : meth.locks = false) (ht : ∀ x ∈ c.exceptionTable.toList, False) (hlf : l.stackTraces = false) : ∀ (n : Nat) (x1 x2 x3 x4 x5 : Int) (μ : sx_M), sw_M_lay_73 Q n x1 x2 x3 x4 x5 μ → sx_V sr_lay sr_cl D cI cJ ad (sx_A sr_lay ad sz) 9 p l e rm_M_lay s m args below meth c (vx_MQ below (sx_T (sx_QV sr_lay sr_cl D cI cJ ad Q sz)) (sx_XC sr_lay sr_cl D cI cJ ad (fun _ _ => False) sz) args s 0 0 (sx_A sr_lay ad sz)) 0 0 μ 73 [(0, .ref (ad 19)), (1, .int (sx_i x1)), (2, .int (sx_i x2)), (3, .int (sx_i x3)), (4, .int (sx_i x4)), (5, .int (sx_i x5))] [] := by
  intro n
  induction n with
  | zero =>
    intro x1 x2 x3 x4 x5 μ h
    exact h.elim
  | succ n ih =>
    intro x1 x2 x3 x4 x5 μ h
    have hr73 := ih
    unfold sw_M_lay_73 at h
    refine sx_iload C 5 dd_M_lay_73 rfl ?_
    refine sx_if_eq (tgt := 179) C dd_M_lay_75 (by decide) h (fun h => ?_) (fun h => ?_)
    · refine sx_iconst C dd_M_lay_179 rfl ?_
      refine sx_istore (lu := [(6, .int (sx_i 0)), (0, .ref (ad 19)), (1, .int (sx_i x1)), (2, .int (sx_i x2)), (3, .int (sx_i x3)), (4, .int (sx_i x4)), (5, .int (sx_i x5))]) C dd_M_lay_180 (by decide) rfl ?_
      refine sx_less (lu := [(0, .ref (ad 19)), (6, .int (sx_i 0))]) C [1, 0] rfl ?_
      exact sm_M_lay_182 C hZ hr hlk ht hlf 600 _ _ h
    · refine sx_iload_n C 3 dd_M_lay_78 rfl rfl ?_
      refine sx_iconst C dd_M_lay_79 rfl ?_
      refine sx_aload_n C 0 dd_M_lay_80 rfl rfl ?_
      refine sx_getr (ref := "StoneRingsModel") C 19 5 rfl rfl (rfl : sr_cl[5]? = some ("StoneRingsModel", tt_M, 21)) (by decide) in_M wd_597 rfl dd_M_lay_81 ?_
      refine sx_iload_n C 1 dd_M_lay_84 rfl rfl ?_
      refine sx_iald (N := 8) C 21 rfl rfl (by decide) dd_M_lay_85 h (fun h => ?_)
      refine sx_imul C dd_M_lay_86 ?_
      refine sx_aload_n C 0 dd_M_lay_87 rfl rfl ?_
      refine sx_geti (K := 9) (ref := "StoneRingsModel") C 19 9 rfl rfl rfl (rfl : sr_cl[5]? = some ("StoneRingsModel", tt_M, 21)) (by decide) in_M wd_601 rfl dd_M_lay_88 ?_
      refine sx_imul C dd_M_lay_91 ?_
      refine sx_iload_n C 2 dd_M_lay_92 rfl rfl ?_
      refine sx_iadd C dd_M_lay_93 ?_
      refine sx_iconst C dd_M_lay_94 rfl ?_
      refine sx_iload_n C 2 dd_M_lay_95 rfl rfl ?_
      refine sx_imul C dd_M_lay_96 ?_
      refine sx_stcI C hZ [.int (sx_i (((2 * (μ 21 x1)) * (μ 19 9)) + x2)), .int (sx_i (2 * x2))] (fun sz2 => sm_M_down hlf h sz2) (sx_cwS (n := 2) C.2.2.2.2.1 wd_704 wd_702 wd_703 wd_8 rfl rfl (by decide +kernel) ⟨by decide, by decide⟩) rfl rfl (Nat.le_of_ble_eq_true rfl) dd_M_lay_97 ⟨(Nat.le_of_ble_eq_true rfl), (Nat.le_of_ble_eq_true rfl)⟩ sx_noX (fun v1 μ1 h => ?_)
      refine sx_iadd C dd_M_lay_100 ?_
      refine sx_istore (lu := [(6, .int (sx_i (x3 + v1))), (0, .ref (ad 19)), (1, .int (sx_i x1)), (2, .int (sx_i x2)), (3, .int (sx_i x3)), (4, .int (sx_i x4)), (5, .int (sx_i x5))]) C dd_M_lay_101 (by decide) rfl ?_
      refine sx_iload C 5 dd_M_lay_103 rfl ?_
      refine sx_iconst C dd_M_lay_105 rfl ?_
      refine sx_aload_n C 1 dd_M_lay_106 rfl rfl ?_
      refine sx_getr (ref := "StoneRingsModel") C 19 6 rfl rfl (rfl : sr_cl[5]? = some ("StoneRingsModel", tt_M, 21)) (by decide) in_M wd_598 rfl dd_M_lay_107 ?_
      refine sx_iload_n C 2 dd_M_lay_110 rfl rfl ?_
      refine sx_iald (N := 8) C 22 rfl rfl (by decide) dd_M_lay_111 h (fun h => ?_)
      refine sx_imul C dd_M_lay_112 ?_
      refine sx_aload_n C 1 dd_M_lay_113 rfl rfl ?_
      refine sx_geti (K := 9) (ref := "StoneRingsModel") C 19 9 rfl rfl rfl (rfl : sr_cl[5]? = some ("StoneRingsModel", tt_M, 21)) (by decide) in_M wd_601 rfl dd_M_lay_114 ?_
      refine sx_imul C dd_M_lay_117 ?_
      refine sx_iload_n C 3 dd_M_lay_118 rfl rfl ?_
      refine sx_iadd C dd_M_lay_119 ?_
      refine sx_iconst C dd_M_lay_120 rfl ?_
      refine sx_iload_n C 3 dd_M_lay_121 rfl rfl ?_
      refine sx_imul C dd_M_lay_122 ?_
      refine sx_stcI C hZ [.int (sx_i (((2 * (μ1 22 x1)) * (μ1 19 9)) + x2)), .int (sx_i (2 * x2))] (fun sz2 => sm_M_down hlf h sz2) (sx_cwS (n := 2) C.2.2.2.2.1 wd_704 wd_702 wd_703 wd_8 rfl rfl (by decide +kernel) ⟨by decide, by decide⟩) rfl rfl (Nat.le_of_ble_eq_true rfl) dd_M_lay_123 ⟨(Nat.le_of_ble_eq_true rfl), (Nat.le_of_ble_eq_true rfl)⟩ sx_noX (fun v2 μ2 h => ?_)
      refine sx_iadd C dd_M_lay_126 ?_
      refine sx_istore (lu := [(7, .int (sx_i (x4 + v2))), (6, .int (sx_i (x3 + v1))), (0, .ref (ad 19)), (1, .int (sx_i x1)), (2, .int (sx_i x2)), (3, .int (sx_i x3)), (4, .int (sx_i x4)), (5, .int (sx_i x5))]) C dd_M_lay_127 (by decide) rfl ?_
      refine sx_aload_n C 2 dd_M_lay_129 rfl rfl ?_
      refine sx_iload C 1 dd_M_lay_130 rfl ?_
      refine sx_iload C 0 dd_M_lay_132 rfl ?_
      refine sx_invI (c0 := 19) C hZ [.int (sx_i (x3 + v1)), .int (sx_i (x4 + v2))] (fun sz2 => sm_M_isThere hlf h sz2) (sx_cwV (n := 2) C.2.2.2.2.1 wd_667 wd_664 wd_666 wp_M_isThere wd_8 rfl rfl (by decide +kernel) ⟨by decide, by decide⟩) rfl (rfl : sr_cl[5]? = some ("StoneRingsModel", tt_M, 21)) rfl rfl (Nat.le_of_ble_eq_true rfl) dd_M_lay_134 ⟨(Nat.le_of_ble_eq_true rfl), (Nat.le_of_ble_eq_true rfl)⟩ sx_noX (fun v3 μ3 h => ?_)
      refine sx_istore (lu := [(5, .int (sx_i v3)), (7, .int (sx_i (x4 + v2))), (6, .int (sx_i (x3 + v1))), (0, .ref (ad 19)), (1, .int (sx_i x1)), (2, .int (sx_i x2)), (3, .int (sx_i x3)), (4, .int (sx_i x4))]) C dd_M_lay_137 (by decide) rfl ?_
      refine sx_iload C 0 dd_M_lay_139 rfl ?_
      refine sx_if_eq (tgt := 176) C dd_M_lay_141 (by decide) h (fun h => ?_) (fun h => ?_)
      · refine sx_less (lu := [(0, .ref (ad 19)), (1, .int (sx_i x1)), (2, .int (sx_i x2)), (3, .int (sx_i x3)), (4, .int (sx_i x4)), (5, .int (sx_i v3))]) C [3, 4, 5, 6, 7, 0] rfl ?_
        exact sm_M_lay_176 C hZ hr hlk ht hlf hr73 h
      · refine sx_aload_n C 3 dd_M_lay_144 rfl rfl ?_
        refine sx_getr (ref := "StoneRingsModel") C 19 10 rfl rfl (rfl : sr_cl[5]? = some ("StoneRingsModel", tt_M, 21)) (by decide) in_M wd_602 rfl dd_M_lay_145 ?_
        refine sx_aload_n C 3 dd_M_lay_148 rfl rfl ?_
        refine sx_geti (K := 9) (ref := "StoneRingsModel") C 19 9 rfl rfl rfl (rfl : sr_cl[5]? = some ("StoneRingsModel", tt_M, 21)) (by decide) in_M wd_601 rfl dd_M_lay_149 ?_
        refine sx_aload_n C 3 dd_M_lay_152 rfl rfl ?_
        refine sx_getr (ref := "StoneRingsModel") C 19 3 rfl rfl (rfl : sr_cl[5]? = some ("StoneRingsModel", tt_M, 21)) (by decide) in_M wd_595 rfl dd_M_lay_153 ?_
        refine sx_bipush (v := 16) C dd_M_lay_156 (by decide +kernel) ?_
        refine sx_iload C 1 dd_M_lay_158 rfl ?_
        refine sx_imul C dd_M_lay_160 ?_
        refine sx_iload C 2 dd_M_lay_161 rfl ?_
        refine sx_iadd C dd_M_lay_163 ?_
        refine sx_iald (N := 256) C 20 rfl rfl (by decide) dd_M_lay_164 h (fun h => ?_)
        refine sx_iast (N := 16) C 23 rfl rfl (by decide) dd_M_lay_165 h (fun h => ?_)
        refine sx_aload_n C 3 dd_M_lay_166 rfl rfl ?_
        refine sx_dup C dd_M_lay_167 rfl ?_
        refine sx_geti (K := 9) (ref := "StoneRingsModel") C 19 9 rfl rfl rfl (rfl : sr_cl[5]? = some ("StoneRingsModel", tt_M, 21)) (by decide) in_M wd_601 rfl dd_M_lay_168 ?_
        refine sx_iconst C dd_M_lay_171 rfl ?_
        refine sx_iadd C dd_M_lay_172 ?_
        refine sx_puti (K := 9) (ref := "StoneRingsModel") (ty := .int) C 19 9 rfl rfl rfl (rfl : sr_cl[5]? = some ("StoneRingsModel", tt_M, 21)) (by decide) in_M ty_M tyk_M nm_M wd_601 rfl rfl (by decide +kernel) rfl rfl dd_M_lay_173 ?_
        refine sx_less (lu := [(0, .ref (ad 19)), (1, .int (sx_i x1)), (2, .int (sx_i x2)), (3, .int (sx_i x3)), (4, .int (sx_i x4)), (5, .int (sx_i v3))]) C [3, 4, 5, 6, 7, 0] rfl ?_
        exact sm_M_lay_176 C hZ hr hlk ht hlf hr73 h
set_option maxHeartbeats 4000000 in
set_option maxRecDepth 100000 in
theorem sm_M_lay_71 (C : sx_C sr_lay sr_cl D cI cJ ad (sx_A sr_lay ad sz) 9 "StoneRingsModel" prog_7_method_12_code sr_ts p s m args c) (hZ : sx_Z (sx_A sr_lay ad sz) s s.heap) (hr : meth.sig.returnType = none) (hlk : meth.locks = false) (ht : ∀ x ∈ c.exceptionTable.toList, False) (hlf : l.stackTraces = false) {x1 x2 x3 x4 y0 : Int} {μ : sx_M} (h : sw_M_lay_71 Q x1 x2 x3 x4 y0 μ) : sx_V sr_lay sr_cl D cI cJ ad (sx_A sr_lay ad sz) 9 p l e rm_M_lay s m args below meth c (vx_MQ below (sx_T (sx_QV sr_lay sr_cl D cI cJ ad Q sz)) (sx_XC sr_lay sr_cl D cI cJ ad (fun _ _ => False) sz) args s 0 0 (sx_A sr_lay ad sz)) 0 0 μ 71 [(0, .ref (ad 19)), (1, .int (sx_i x1)), (2, .int (sx_i x2)), (3, .int (sx_i x3)), (4, .int (sx_i x4))] [.int (sx_i y0)] := by
  unfold sw_M_lay_71 at h
  refine sx_istore (lu := [(5, .int (sx_i y0)), (0, .ref (ad 19)), (1, .int (sx_i x1)), (2, .int (sx_i x2)), (3, .int (sx_i x3)), (4, .int (sx_i x4))]) C dd_M_lay_71 (by decide) rfl ?_
  refine sx_less (lu := [(0, .ref (ad 19)), (1, .int (sx_i x1)), (2, .int (sx_i x2)), (3, .int (sx_i x3)), (4, .int (sx_i x4)), (5, .int (sx_i y0))]) C [1, 2, 3, 4, 5, 0] rfl ?_
  exact sm_M_lay_73 C hZ hr hlk ht hlf 600 _ _ _ _ _ _ h
set_option maxHeartbeats 4000000 in
set_option maxRecDepth 100000 in
theorem sm_M_lay_42 (C : sx_C sr_lay sr_cl D cI cJ ad (sx_A sr_lay ad sz) 9 "StoneRingsModel" prog_7_method_12_code sr_ts p s m args c) (hZ : sx_Z (sx_A sr_lay ad sz) s s.heap) (hr : meth.sig.returnType = none) (hlk : meth.locks = false) (ht : ∀ x ∈ c.exceptionTable.toList, False) (hlf : l.stackTraces = false) {x1 y0 : Int} {μ : sx_M} (h : sw_M_lay_42 Q x1 y0 μ) : sx_V sr_lay sr_cl D cI cJ ad (sx_A sr_lay ad sz) 9 p l e rm_M_lay s m args below meth c (vx_MQ below (sx_T (sx_QV sr_lay sr_cl D cI cJ ad Q sz)) (sx_XC sr_lay sr_cl D cI cJ ad (fun _ _ => False) sz) args s 0 0 (sx_A sr_lay ad sz)) 0 0 μ 42 [(0, .ref (ad 19)), (1, .int (sx_i x1))] [.int (sx_i y0)] := by
  unfold sw_M_lay_42 at h
  refine sx_istore_n (lu := [(2, .int (sx_i y0)), (0, .ref (ad 19)), (1, .int (sx_i x1))]) C dd_M_lay_42 rfl (by decide) rfl ?_
  refine sx_aload_n C 1 dd_M_lay_43 rfl rfl ?_
  refine sx_iconst C dd_M_lay_44 rfl ?_
  refine sx_invI (c0 := 19) C hZ [.int (sx_i 0)] (fun sz2 => sm_M_middleOf hlf h sz2) (sx_cwV (n := 1) C.2.2.2.2.1 wd_678 wd_675 wd_677 wp_M_middleOf wd_8 rfl rfl (by decide +kernel) ⟨by decide, by decide⟩) rfl (rfl : sr_cl[5]? = some ("StoneRingsModel", tt_M, 21)) rfl rfl (Nat.le_of_ble_eq_true rfl) dd_M_lay_45 ⟨(Nat.le_of_ble_eq_true rfl), (Nat.le_of_ble_eq_true rfl)⟩ sx_noX (fun v1 μ1 h => ?_)
  refine sx_istore_n (lu := [(3, .int (sx_i v1)), (2, .int (sx_i y0)), (0, .ref (ad 19)), (1, .int (sx_i x1))]) C dd_M_lay_48 rfl (by decide) rfl ?_
  refine sx_aload_n C 2 dd_M_lay_49 rfl rfl ?_
  refine sx_iconst C dd_M_lay_50 rfl ?_
  refine sx_invI (c0 := 19) C hZ [.int (sx_i 1)] (fun sz2 => sm_M_middleOf hlf h sz2) (sx_cwV (n := 1) C.2.2.2.2.1 wd_678 wd_675 wd_677 wp_M_middleOf wd_8 rfl rfl (by decide +kernel) ⟨by decide, by decide⟩) rfl (rfl : sr_cl[5]? = some ("StoneRingsModel", tt_M, 21)) rfl rfl (Nat.le_of_ble_eq_true rfl) dd_M_lay_51 ⟨(Nat.le_of_ble_eq_true rfl), (Nat.le_of_ble_eq_true rfl)⟩ sx_noX (fun v2 μ2 h => ?_)
  refine sx_istore (lu := [(4, .int (sx_i v2)), (3, .int (sx_i v1)), (2, .int (sx_i y0)), (0, .ref (ad 19)), (1, .int (sx_i x1))]) C dd_M_lay_54 (by decide) rfl ?_
  refine sx_aload_n C 3 dd_M_lay_56 rfl rfl ?_
  refine sx_iconst C dd_M_lay_57 rfl ?_
  refine sx_puti (K := 9) (ref := "StoneRingsModel") (ty := .int) C 19 9 rfl rfl rfl (rfl : sr_cl[5]? = some ("StoneRingsModel", tt_M, 21)) (by decide) in_M ty_M tyk_M nm_M wd_601 rfl rfl (by decide +kernel) rfl rfl dd_M_lay_58 ?_
  refine sx_iload_n C 1 dd_M_lay_61 rfl rfl ?_
  refine sx_iconst C dd_M_lay_62 rfl ?_
  refine sx_icmp_eq (tgt := 70) C dd_M_lay_63 (by decide) h (fun h => ?_) (fun h => ?_)
  · refine sx_iconst C dd_M_lay_70 rfl ?_
    refine sx_less (lu := [(0, .ref (ad 19)), (1, .int (sx_i x1)), (2, .int (sx_i y0)), (3, .int (sx_i v1)), (4, .int (sx_i v2))]) C [3, 4, 2, 1, 0] rfl ?_
    exact sm_M_lay_71 C hZ hr hlk ht hlf h
  · refine sx_iconst C dd_M_lay_66 rfl ?_
    refine sx_goto (tgt := 71) C dd_M_lay_67 (by decide) ?_
    refine sx_less (lu := [(0, .ref (ad 19)), (1, .int (sx_i x1)), (2, .int (sx_i y0)), (3, .int (sx_i v1)), (4, .int (sx_i v2))]) C [3, 4, 2, 1, 0] rfl ?_
    exact sm_M_lay_71 C hZ hr hlk ht hlf h
set_option maxHeartbeats 4000000 in
set_option maxRecDepth 100000 in
theorem sm_M_lay {l : Launch} {D : va_G} {cI cJ : ClassId} {ad : Nat → Nat} {Q : Int → sx_M → Prop} (hlf : l.stackTraces = false) {μ : sx_M} {a1 : Int} (h : sw_M_lay Q μ a1) (sz : Nat) : sx_MV l yy_M_lay (Cond.code yy_M_lay prog_7_method_12_code 9 none :: sr_ts) rm_M_lay sr_lay sr_cl D cI cJ ad [.ref (ad 19), .int (sx_i a1)] μ Q (fun _ _ => False) 0 0 sz := by
  refine sx_body (plainFor_of_name (by decide +kernel)) rfl (Nat.le_of_ble_eq_true rfl) ?_
  intro p e s m below meth c C hZ hr hlk ht
  unfold sw_M_lay at h
  show sx_V sr_lay sr_cl D cI cJ ad (sx_A sr_lay ad sz) 9 p l e rm_M_lay s m _ below meth c (vx_MQ below (sx_T (sx_QV sr_lay sr_cl D cI cJ ad Q sz)) (sx_XC sr_lay sr_cl D cI cJ ad (fun _ _ => False) sz) _ s 0 0 (sx_A sr_lay ad sz)) 0 0 μ 0 [(0, .ref (ad 19)), (1, .int (sx_i a1))] []
  refine sx_aload_n C 0 dd_M_lay_0 rfl rfl ?_
  refine sx_getr (ref := "StoneRingsModel") C 19 5 rfl rfl (rfl : sr_cl[5]? = some ("StoneRingsModel", tt_M, 21)) (by decide) in_M wd_597 rfl dd_M_lay_1 ?_
  refine sx_iload_n C 1 dd_M_lay_4 rfl rfl ?_
  refine sx_iald (N := 8) C 21 rfl rfl (by decide) dd_M_lay_5 h (fun h => ?_)
  refine sx_stcI C hZ [.int (sx_i (μ 21 a1))] (fun sz2 => sm_M_size hlf h sz2) (sx_cwS (n := 1) C.2.2.2.2.1 wd_701 wd_699 wd_700 wd_8 rfl rfl (by decide +kernel) ⟨by decide, by decide⟩) rfl rfl (Nat.le_of_ble_eq_true rfl) dd_M_lay_6 ⟨(Nat.le_of_ble_eq_true rfl), (Nat.le_of_ble_eq_true rfl)⟩ sx_noX (fun v1 μ1 h => ?_)
  refine sx_aload_n C 0 dd_M_lay_9 rfl rfl ?_
  refine sx_getr (ref := "StoneRingsModel") C 19 6 rfl rfl (rfl : sr_cl[5]? = some ("StoneRingsModel", tt_M, 21)) (by decide) in_M wd_598 rfl dd_M_lay_10 ?_
  refine sx_iload_n C 1 dd_M_lay_13 rfl rfl ?_
  refine sx_iald (N := 8) C 22 rfl rfl (by decide) dd_M_lay_14 h (fun h => ?_)
  refine sx_stcI C hZ [.int (sx_i (μ1 22 a1))] (fun sz2 => sm_M_size hlf h sz2) (sx_cwS (n := 1) C.2.2.2.2.1 wd_701 wd_699 wd_700 wd_8 rfl rfl (by decide +kernel) ⟨by decide, by decide⟩) rfl rfl (Nat.le_of_ble_eq_true rfl) dd_M_lay_15 ⟨(Nat.le_of_ble_eq_true rfl), (Nat.le_of_ble_eq_true rfl)⟩ sx_noX (fun v2 μ2 h => ?_)
  refine sx_icmp_le (tgt := 33) C dd_M_lay_18 (by decide) h (fun h => ?_) (fun h => ?_)
  · refine sx_aload_n C 0 dd_M_lay_33 rfl rfl ?_
    refine sx_getr (ref := "StoneRingsModel") C 19 6 rfl rfl (rfl : sr_cl[5]? = some ("StoneRingsModel", tt_M, 21)) (by decide) in_M wd_598 rfl dd_M_lay_34 ?_
    refine sx_iload_n C 1 dd_M_lay_37 rfl rfl ?_
    refine sx_iald (N := 8) C 22 rfl rfl (by decide) dd_M_lay_38 h (fun h => ?_)
    refine sx_stcI C hZ [.int (sx_i (μ2 22 a1))] (fun sz2 => sm_M_size hlf h sz2) (sx_cwS (n := 1) C.2.2.2.2.1 wd_701 wd_699 wd_700 wd_8 rfl rfl (by decide +kernel) ⟨by decide, by decide⟩) rfl rfl (Nat.le_of_ble_eq_true rfl) dd_M_lay_39 ⟨(Nat.le_of_ble_eq_true rfl), (Nat.le_of_ble_eq_true rfl)⟩ sx_noX (fun v3 μ3 h => ?_)
    exact sm_M_lay_42 C hZ hr hlk ht hlf h
  · refine sx_aload_n C 0 dd_M_lay_21 rfl rfl ?_
    refine sx_getr (ref := "StoneRingsModel") C 19 5 rfl rfl (rfl : sr_cl[5]? = some ("StoneRingsModel", tt_M, 21)) (by decide) in_M wd_597 rfl dd_M_lay_22 ?_
    refine sx_iload_n C 1 dd_M_lay_25 rfl rfl ?_
    refine sx_iald (N := 8) C 21 rfl rfl (by decide) dd_M_lay_26 h (fun h => ?_)
    refine sx_stcI C hZ [.int (sx_i (μ2 21 a1))] (fun sz2 => sm_M_size hlf h sz2) (sx_cwS (n := 1) C.2.2.2.2.1 wd_701 wd_699 wd_700 wd_8 rfl rfl (by decide +kernel) ⟨by decide, by decide⟩) rfl rfl (Nat.le_of_ble_eq_true rfl) dd_M_lay_27 ⟨(Nat.le_of_ble_eq_true rfl), (Nat.le_of_ble_eq_true rfl)⟩ sx_noX (fun v4 μ4 h => ?_)
    refine sx_goto (tgt := 42) C dd_M_lay_30 (by decide) ?_
    exact sm_M_lay_42 C hZ hr hlk ht hlf h
end SXG
