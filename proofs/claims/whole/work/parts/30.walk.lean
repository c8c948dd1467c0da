section SXG
variable {D : va_G} {cI cJ : ClassId} {ad : Nat → Nat} {sz : Nat} {p : Program} {l : Launch} {e : Env} {s : State} {m : MethodId} {args : Array Value} {below : List Frame} {meth : Method} {c : Code} {Q : Int → sx_M → Prop} {X : String → sx_M → Prop}
def rm_D_of : Room := { frames := 0, cells := 0, slots := 0, locals := 0 }
set_option maxHeartbeats 4000000 in
set_option maxRecDepth 100000 in
theorem sm_D_of {l : Launch} {D : va_G} {cI cJ : ClassId} {ad : Nat → Nat} {Q : Int → sx_M → Prop} (hlf : l.stackTraces = false) {μ : sx_M} {a1 a2 : Int} (h : sw_D_of Q μ a1 a2) (sz : Nat) : sx_MI l yy_D_of (Cond.code yy_D_of prog_4_method_2_code 3 (some .int) :: sr_ts) rm_D_of sr_lay sr_cl D cI cJ ad [.ref (ad 16), .int (sx_i a1), .int (sx_i a2)] μ Q (fun _ _ => False) 0 0 sz := by
  refine sx_body (plainFor_of_name (by decide +kernel)) rfl (Nat.le_of_ble_eq_true rfl) ?_
  intro p e s m below meth c C hZ hr hlk ht
  unfold sw_D_of at h
  show sx_V sr_lay sr_cl D cI cJ ad (sx_A sr_lay ad sz) 3 p l e rm_D_of s m _ below meth c (vx_MQ below (sx_T (sx_QI sr_lay sr_cl D cI cJ ad Q sz)) (sx_XC sr_lay sr_cl D cI cJ ad (fun _ _ => False) sz) _ s 0 0 (sx_A sr_lay ad sz)) 0 0 μ 0 [(0, .ref (ad 16)), (1, .int (sx_i a1)), (2, .int (sx_i a2))] []
  refine sx_aload_n C 0 dd_D_of_0 rfl rfl ?_
  refine sx_getr (ref := "StoneRings$Readings") C 16 0 rfl rfl (rfl : sr_cl[2]? = some ("StoneRings$Readings", tt_D, 3)) (by decide) in_D wd_84 rfl dd_D_of_1 ?_
  refine sx_iload_n C 1 dd_D_of_4 rfl rfl ?_
  refine sx_bipush (v := 20) C dd_D_of_5 (by decide +kernel) ?_
  refine sx_imul C dd_D_of_7 ?_
  refine sx_iload_n C 2 dd_D_of_8 rfl rfl ?_
  refine sx_iadd C dd_D_of_9 ?_
  refine sx_iald (N := 80) C 17 rfl rfl (by decide) dd_D_of_10 h (fun h => ?_)
  exact sx_iret C hr hlk dd_D_of_11 h
def rm_D_votesFor : Room := { frames := 1, cells := 0, slots := 0, locals := 22 }
set_option maxHeartbeats 4000000 in
set_option maxRecDepth 100000 in
theorem sm_D_votesFor_25 (C : sx_C sr_lay sr_cl D cI cJ ad (sx_A sr_lay ad sz) 5 "StoneRings$Readings" prog_4_method_10_code sr_ts p s m args c) (hZ : sx_Z (sx_A sr_lay ad sz) s s.heap) (hr : meth.sig.returnType = (some .int)) (hlk : meth.locks = false) (ht : ∀ x ∈ c.exceptionTable.toList, False) (hlf : l.stackTraces = false) {r5 : Int → Int → Int → Int → sx_M → Prop} (hr5 : ∀ (x1 x2 x3 x4 : Int) (μ : sx_M), r5 x1 x2 x3 x4 μ → sx_V sr_lay sr_cl D cI cJ ad (sx_A sr_lay ad sz) 5 p l e rm_D_votesFor s m args below meth c (vx_MQ below (sx_T (sx_QI sr_lay sr_cl D cI cJ ad Q sz)) (sx_XC sr_lay sr_cl D cI cJ ad (fun _ _ => False) sz) args s 0 0 (sx_A sr_lay ad sz)) 0 0 μ 5 [(0, .ref (ad 16)), (1, .int (sx_i x1)), (2, .int (sx_i x2)), (3, .int (sx_i x3)), (4, .int (sx_i x4))] []) {x1 x2 x3 x4 : Int} {μ : sx_M} (h : sw_D_votesFor_25 Q r5 x1 x2 x3 x4 μ) : sx_V sr_lay sr_cl D cI cJ ad (sx_A sr_lay ad sz) 5 p l e rm_D_votesFor s m args below meth c (vx_MQ below (sx_T (sx_QI sr_lay sr_cl D cI cJ ad Q sz)) (sx_XC sr_lay sr_cl D cI cJ ad (fun _ _ => False) sz) args s 0 0 (sx_A sr_lay ad sz)) 0 0 μ 25 [(0, .ref (ad 16)), (1, .int (sx_i x1)), (2, .int (sx_i x2)), (3, .int (sx_i x3)), (4, .int (sx_i x4))] [] := by
  unfold sw_D_votesFor_25 at h
  refine sx_iinc (lu := [(4, .int (sx_i (x4 + 1))), (0, .ref (ad 16)), (1, .int (sx_i x1)), (2, .int (sx_i x2)), (3, .int (sx_i x3))]) C 4 dd_D_votesFor_25 rfl (by decide) rfl ?_
  refine sx_goto (tgt := 5) C dd_D_votesFor_28 (by decide) ?_
  refine sx_less (lu := [(0, .ref (ad 16)), (1, .int (sx_i x1)), (2, .int (sx_i x2)), (3, .int (sx_i x3)), (4, .int (sx_i (x4 + 1)))]) C [1, 2, 3, 4, 0] rfl ?_
  exact hr5 _ _ _ _ _ h
set_option maxHeartbeats 4000000 in
set_option maxRecDepth 100000 in
theorem sm_D_votesFor_5 (C : sx_C sr_lay sr_cl D cI cJ ad (sx_A sr_lay ad sz) 5 "StoneRings$Readings" prog_4_method_10_code sr_ts p s m args c) (hZ : sx_Z (sx_A sr_lay ad sz) s s.heap) (hr : meth.sig.returnType = (some .int)) (hlk : meth.locks = false) (ht : ∀ x ∈ c.exceptionTable.toList, False) (hlf : l.stackTraces = false) : ∀ (n : Nat) (x1 x2 x3 x4 : Int) (μ : sx_M), sw_D_votesFor_5 Q n x1 x2 x3 x4 μ → sx_V sr_lay sr_cl D cI cJ ad (sx_A sr_lay ad sz) 5 p l e rm_D_votesFor s m args below meth c (vx_MQ below (sx_T (sx_QI sr_lay sr_cl D cI cJ ad Q sz)) (sx_XC sr_lay sr_cl D cI cJ ad (fun _ _ => False) sz) args s 0 0 (sx_A sr_lay ad sz)) 0 0 μ 5 [(0, .ref (ad 16)), (1, .int (sx_i x1)), (2, .int (sx_i x2)), (3, .int (sx_i x3)), (4, .int (sx_i x4))] [] := by
  intro n
  induction n with
  | zero =>
    intro x1 x2 x3 x4 μ h
    exact h.elim
  | succ n ih =>
    intro x1 x2 x3 x4 μ h
    have hr5 := ih
    unfold sw_D_votesFor_5 at h
    refine sx_iload C 4 dd_D_votesFor_5 rfl ?_
    refine sx_iconst C dd_D_votesFor_7 rfl ?_
    refine sx_icmp_ge (tgt := 31) C dd_D_votesFor_8 (by decide) h (fun h => ?_) (fun h => ?_)
    · refine sx_iload_n C 3 dd_D_votesFor_31 rfl rfl ?_
      exact sx_iret C hr hlk dd_D_votesFor_32 h
    · refine sx_aload_n C 0 dd_D_votesFor_11 rfl rfl ?_
      refine sx_iload C 4 dd_D_votesFor_12 rfl ?_
      refine sx_iload_n C 1 dd_D_votesFor_14 rfl rfl ?_
      refine sx_invI (c0 := 16) C hZ [.int (sx_i x4), .int (sx_i x1)] (fun sz2 => sm_D_of hlf h sz2) (sx_cwV (n := 2) C.2.2.2.2.1 wd_177 wd_174 wd_175 wd_176 wd_4 rfl rfl (by decide +kernel) ⟨by decide, by decide⟩) rfl (rfl : sr_cl[2]? = some ("StoneRings$Readings", tt_D, 3)) rfl rfl (Nat.le_of_ble_eq_true rfl) dd_D_votesFor_15 ⟨(Nat.le_of_ble_eq_true rfl), (Nat.le_of_ble_eq_true rfl)⟩ sx_noX (fun v1 μ1 h => ?_)
      refine sx_iload_n C 2 dd_D_votesFor_18 rfl rfl ?_
      refine sx_icmp_ne (tgt := 25) C dd_D_votesFor_19 (by decide) h (fun h => ?_) (fun h => ?_)
      · exact sm_D_votesFor_25 C hZ hr hlk ht hlf hr5 h
      · refine sx_iinc (lu := [(3, .int (sx_i (x3 + 1))), (0, .ref (ad 16)), (1, .int (sx_i x1)), (2, .int (sx_i x2)), (4, .int (sx_i x4))]) C 3 dd_D_votesFor_22 rfl (by decide) rfl ?_
        refine sx_less (lu := [(0, .ref (ad 16)), (1, .int (sx_i x1)), (2, .int (sx_i x2)), (3, .int (sx_i (x3 + 1))), (4, .int (sx_i x4))]) C [1, 2, 3, 0, 4] rfl ?_
        exact sm_D_votesFor_25 C hZ hr hlk ht hlf hr5 h
set_option maxHeartbeats 4000000 in
set_option maxRecDepth 100000 in
theorem sm_D_votesFor {l : Launch} {D : va_G} {cI cJ : ClassId} {ad : Nat → Nat} {Q : Int → sx_M → Prop} (hlf : l.stackTraces = false) {μ : sx_M} {a1 a2 : Int} (h : sw_D_votesFor Q μ a1 a2) (sz : Nat) : sx_MI l yy_D_votesFor (Cond.code yy_D_votesFor prog_4_method_10_code 5 (some .int) :: sr_ts) rm_D_votesFor sr_lay sr_cl D cI cJ ad [.ref (ad 16), .int (sx_i a1), .int (sx_i a2)] μ Q (fun _ _ => False) 0 0 sz := by
  refine sx_body (plainFor_of_name (by decide +kernel)) rfl (Nat.le_of_ble_eq_true rfl) ?_
  intro p e s m below meth c C hZ hr hlk ht
  unfold sw_D_votesFor at h
  show sx_V sr_lay sr_cl D cI cJ ad (sx_A sr_lay ad sz) 5 p l e rm_D_votesFor s m _ below meth c (vx_MQ below (sx_T (sx_QI sr_lay sr_cl D cI cJ ad Q sz)) (sx_XC sr_lay sr_cl D cI cJ ad (fun _ _ => False) sz) _ s 0 0 (sx_A sr_lay ad sz)) 0 0 μ 0 [(0, .ref (ad 16)), (1, .int (sx_i a1)), (2, .int (sx_i a2))] []
  refine sx_iconst C dd_D_votesFor_0 rfl ?_
  refine sx_istore_n (lu := [(3, .int (sx_i 0)), (0, .ref (ad 16)), (1, .int (sx_i a1)), (2, .int (sx_i a2))]) C dd_D_votesFor_1 rfl (by decide) rfl ?_
  refine sx_iconst C dd_D_votesFor_2 rfl ?_
  refine sx_istore (lu := [(4, .int (sx_i 0)), (3, .int (sx_i 0)), (0, .ref (ad 16)), (1, .int (sx_i a1)), (2, .int (sx_i a2))]) C dd_D_votesFor_3 (by decide) rfl ?_
  refine sx_less (lu := [(0, .ref (ad 16)), (1, .int (sx_i a1)), (2, .int (sx_i a2)), (3, .int (sx_i 0)), (4, .int (sx_i 0))]) C [2, 3, 4, 1, 0] rfl ?_
  exact sm_D_votesFor_5 C hZ hr hlk ht hlf 600 _ _ _ _ _ h
def rm_D_mostTold : Room := { frames := 2, cells := 0, slots := 0, locals := 46 }
set_option maxHeartbeats 4000000 in
set_option maxRecDepth 100000 in
theorem sm_D_mostTold_70 (C : sx_C sr_lay sr_cl D cI cJ ad (sx_A sr_lay ad sz) 7 "StoneRings$Readings" prog_4_method_9_code sr_ts p s m args c) (hZ : sx_Z (sx_A sr_lay ad sz) s s.heap) (hr : meth.sig.returnType = (some .int)) (hlk : meth.locks = false) (ht : ∀ x ∈ c.exceptionTable.toList, False) (hlf : l.stackTraces = false) {r7 : Int → Int → Int → Int → sx_M → Prop} (hr7 : ∀ (x1 x2 x3 x4 : Int) (μ : sx_M), r7 x1 x2 x3 x4 μ → sx_V sr_lay sr_cl D cI cJ ad (sx_A sr_lay ad sz) 7 p l e rm_D_mostTold s m args below meth c (vx_MQ below (sx_T (sx_QI sr_lay sr_cl D cI cJ ad Q sz)) (sx_XC sr_lay sr_cl D cI cJ ad (fun _ _ => False) sz) args s 0 0 (sx_A sr_lay ad sz)) 0 0 μ 7 [(0, .ref (ad 16)), (1, .int (sx_i x1)), (2, .int (sx_i x2)), (3, .int (sx_i x3)), (4, .int (sx_i x4))] []) {x1 x2 x3 x4 : Int} {μ : sx_M} (h : sw_D_mostTold_70 Q r7 x1 x2 x3 x4 μ) : sx_V sr_lay sr_cl D cI cJ ad (sx_A sr_lay ad sz) 7 p l e rm_D_mostTold s m args below meth c (vx_MQ below (sx_T (sx_QI sr_lay sr_cl D cI cJ ad Q sz)) (sx_XC sr_lay sr_cl D cI cJ ad (fun _ _ => False) sz) args s 0 0 (sx_A sr_lay ad sz)) 0 0 μ 70 [(0, .ref (ad 16)), (1, .int (sx_i x1)), (2, .int (sx_i x2)), (3, .int (sx_i x3)), (4, .int (sx_i x4))] [] := by
  unfold sw_D_mostTold_70 at h
  refine sx_iinc (lu := [(4, .int (sx_i (x4 + 1))), (0, .ref (ad 16)), (1, .int (sx_i x1)), (2, .int (sx_i x2)), (3, .int (sx_i x3))]) C 4 dd_D_mostTold_70 rfl (by decide) rfl ?_
  refine sx_goto (tgt := 7) C dd_D_mostTold_73 (by decide) ?_
  refine sx_less (lu := [(0, .ref (ad 16)), (1, .int (sx_i x1)), (2, .int (sx_i x2)), (3, .int (sx_i x3)), (4, .int (sx_i (x4 + 1)))]) C [1, 2, 3, 4, 0] rfl ?_
  exact hr7 _ _ _ _ _ h
set_option maxHeartbeats 4000000 in
set_option maxRecDepth 100000 in
theorem sm_D_mostTold_64 (C : sx_C sr_lay sr_cl D cI cJ ad (sx_A sr_lay ad sz) 7 "StoneRings$Readings" prog_4_method_9_code sr_ts p s m args c) (hZ : sx_Z (sx_A sr_lay ad sz) s s.heap) (hr : meth.sig.returnType = (some .int)) (hlk : meth.locks = false) (ht : ∀ x ∈ c.exceptionTable.toList, False) (hlf : l.stackTraces = false) {r7 : Int → Int → Int → Int → sx_M → Prop} (hr7 : ∀ (x1 x2 x3 x4 : Int) (μ : sx_M), r7 x1 x2 x3 x4 μ → sx_V sr_lay sr_cl D cI cJ ad (sx_A sr_lay ad sz) 7 p l e rm_D_mostTold s m args below meth c (vx_MQ below (sx_T (sx_QI sr_lay sr_cl D cI cJ ad Q sz)) (sx_XC sr_lay sr_cl D cI cJ ad (fun _ _ => False) sz) args s 0 0 (sx_A sr_lay ad sz)) 0 0 μ 7 [(0, .ref (ad 16)), (1, .int (sx_i x1)), (2, .int (sx_i x2)), (3, .int (sx_i x3)), (4, .int (sx_i x4))] []) {x1 x4 x5 x6 : Int} {μ : sx_M} (h : sw_D_mostTold_64 Q r7 x1 x4 x5 x6 μ) : sx_V sr_lay sr_cl D cI cJ ad (sx_A sr_lay ad sz) 7 p l e rm_D_mostTold s m args below meth c (vx_MQ below (sx_T (sx_QI sr_lay sr_cl D cI cJ ad Q sz)) (sx_XC sr_lay sr_cl D cI cJ ad (fun _ _ => False) sz) args s 0 0 (sx_A sr_lay ad sz)) 0 0 μ 64 [(0, .ref (ad 16)), (1, .int (sx_i x1)), (4, .int (sx_i x4)), (5, .int (sx_i x5)), (6, .int (sx_i x6))] [] := by
  unfold sw_D_mostTold_64 at h
  refine sx_iload C 3 dd_D_mostTold_64 rfl ?_
  refine sx_istore_n (lu := [(2, .int (sx_i x5)), (0, .ref (ad 16)), (1, .int (sx_i x1)), (4, .int (sx_i x4)), (5, .int (sx_i x5)), (6, .int (sx_i x6))]) C dd_D_mostTold_66 rfl (by decide) rfl ?_
  refine sx_iload C 5 dd_D_mostTold_67 rfl ?_
  refine sx_istore_n (lu := [(3, .int (sx_i x6)), (2, .int (sx_i x5)), (0, .ref (ad 16)), (1, .int (sx_i x1)), (4, .int (sx_i x4)), (5, .int (sx_i x5)), (6, .int (sx_i x6))]) C dd_D_mostTold_69 rfl (by decide) rfl ?_
  refine sx_less (lu := [(0, .ref (ad 16)), (1, .int (sx_i x1)), (2, .int (sx_i x5)), (3, .int (sx_i x6)), (4, .int (sx_i x4))]) C [2, 3, 1, 0, 4] rfl ?_
  exact sm_D_mostTold_70 C hZ hr hlk ht hlf hr7 h
set_option maxHeartbeats 4000000 in
set_option maxRecDepth 100000 in
theorem sm_D_mostTold_39 (C : sx_C sr_lay sr_cl D cI cJ ad (sx_A sr_lay ad sz) 7 "StoneRings$Readings" prog_4_method_9_code sr_ts p s m args c) (hZ : sx_Z (sx_A sr_lay ad sz) s s.heap) (hr : meth.sig.returnType = (some .int)) (hlk : meth.locks = false) (ht : ∀ x ∈ c.exceptionTable.toList, False) (hlf : l.stackTraces = false) {r7 : Int → Int → Int → Int → sx_M → Prop} (hr7 : ∀ (x1 x2 x3 x4 : Int) (μ : sx_M), r7 x1 x2 x3 x4 μ → sx_V sr_lay sr_cl D cI cJ ad (sx_A sr_lay ad sz) 7 p l e rm_D_mostTold s m args below meth c (vx_MQ below (sx_T (sx_QI sr_lay sr_cl D cI cJ ad Q sz)) (sx_XC sr_lay sr_cl D cI cJ ad (fun _ _ => False) sz) args s 0 0 (sx_A sr_lay ad sz)) 0 0 μ 7 [(0, .ref (ad 16)), (1, .int (sx_i x1)), (2, .int (sx_i x2)), (3, .int (sx_i x3)), (4, .int (sx_i x4))] []) {x1 x2 x3 x4 x5 y0 : Int} {μ : sx_M} (h : sw_D_mostTold_39 Q r7 x1 x2 x3 x4 x5 y0 μ) : sx_V sr_lay sr_cl D cI cJ ad (sx_A sr_lay ad sz) 7 p l e rm_D_mostTold s m args below meth c (vx_MQ below (sx_T (sx_QI sr_lay sr_cl D cI cJ ad Q sz)) (sx_XC sr_lay sr_cl D cI cJ ad (fun _ _ => False) sz) args s 0 0 (sx_A sr_lay ad sz)) 0 0 μ 39 [(0, .ref (ad 16)), (1, .int (sx_i x1)), (2, .int (sx_i x2)), (3, .int (sx_i x3)), (4, .int (sx_i x4)), (5, .int (sx_i x5))] [.int (sx_i y0)] := by
  unfold sw_D_mostTold_39 at h
  refine sx_istore (lu := [(6, .int (sx_i y0)), (0, .ref (ad 16)), (1, .int (sx_i x1)), (2, .int (sx_i x2)), (3, .int (sx_i x3)), (4, .int (sx_i x4)), (5, .int (sx_i x5))]) C dd_D_mostTold_39 (by decide) rfl ?_
  refine sx_iload C 0 dd_D_mostTold_41 rfl ?_
  refine sx_iload_n C 4 dd_D_mostTold_43 rfl rfl ?_
  refine sx_icmp_gt (tgt := 64) C dd_D_mostTold_44 (by decide) h (fun h => ?_) (fun h => ?_)
  · refine sx_less (lu := [(0, .ref (ad 16)), (1, .int (sx_i x1)), (4, .int (sx_i x4)), (5, .int (sx_i x5)), (6, .int (sx_i y0))]) C [1, 2, 5, 6, 0] rfl ?_
    exact sm_D_mostTold_64 C hZ hr hlk ht hlf hr7 h
  · refine sx_iload C 0 dd_D_mostTold_47 rfl ?_
    refine sx_if_le (tgt := 70) C dd_D_mostTold_49 (by decide) h (fun h => ?_) (fun h => ?_)
    · refine sx_less (lu := [(0, .ref (ad 16)), (1, .int (sx_i x1)), (2, .int (sx_i x2)), (3, .int (sx_i x3)), (4, .int (sx_i x4))]) C [1, 2, 3, 4, 5] rfl ?_
      exact sm_D_mostTold_70 C hZ hr hlk ht hlf hr7 h
    · refine sx_iload C 0 dd_D_mostTold_52 rfl ?_
      refine sx_iload_n C 4 dd_D_mostTold_54 rfl rfl ?_
      refine sx_icmp_ne (tgt := 70) C dd_D_mostTold_55 (by decide) h (fun h => ?_) (fun h => ?_)
      · refine sx_less (lu := [(0, .ref (ad 16)), (1, .int (sx_i x1)), (2, .int (sx_i x2)), (3, .int (sx_i x3)), (4, .int (sx_i x4))]) C [1, 2, 3, 4, 5] rfl ?_
        exact sm_D_mostTold_70 C hZ hr hlk ht hlf hr7 h
      · refine sx_iload C 6 dd_D_mostTold_58 rfl ?_
        refine sx_iload_n C 3 dd_D_mostTold_60 rfl rfl ?_
        refine sx_icmp_ge (tgt := 70) C dd_D_mostTold_61 (by decide) h (fun h => ?_) (fun h => ?_)
        · refine sx_less (lu := [(0, .ref (ad 16)), (1, .int (sx_i x1)), (2, .int (sx_i x2)), (3, .int (sx_i x3)), (4, .int (sx_i x4))]) C [1, 2, 3, 4, 5] rfl ?_
          exact sm_D_mostTold_70 C hZ hr hlk ht hlf hr7 h
        · refine sx_less (lu := [(0, .ref (ad 16)), (1, .int (sx_i x1)), (4, .int (sx_i x4)), (5, .int (sx_i x5)), (6, .int (sx_i y0))]) C [1, 2, 5, 6, 0] rfl ?_
          exact sm_D_mostTold_64 C hZ hr hlk ht hlf hr7 h
set_option maxHeartbeats 4000000 in
set_option maxRecDepth 100000 in
theorem sm_D_mostTold_7 (C : sx_C sr_lay sr_cl D cI cJ ad (sx_A sr_lay ad sz) 7 "StoneRings$Readings" prog_4_method_9_code sr_ts p s m args c) (hZ : sx_Z (sx_A sr_lay ad sz) s s.heap) (hr : meth.sig.returnType = (some .int)) (hlk : meth.locks = false) (ht : ∀ x ∈ c.exceptionTable.toList, False) (hlf : l.stackTraces = false) : ∀ (n : Nat) (x1 x2 x3 x4 : Int) (μ : sx_M), sw_D_mostTold_7 Q n x1 x2 x3 x4 μ → sx_V sr_lay sr_cl D cI cJ ad (sx_A sr_lay ad sz) 7 p l e rm_D_mostTold s m args below meth c (vx_MQ below (sx_T (sx_QI sr_lay sr_cl D cI cJ ad Q sz)) (sx_XC sr_lay sr_cl D cI cJ ad (fun _ _ => False) sz) args s 0 0 (sx_A sr_lay ad sz)) 0 0 μ 7 [(0, .ref (ad 16)), (1, .int (sx_i x1)), (2, .int (sx_i x2)), (3, .int (sx_i x3)), (4, .int (sx_i x4))] [] := by
  intro n
  induction n with
  | zero =>
    intro x1 x2 x3 x4 μ h
    exact h.elim
  | succ n ih =>
    intro x1 x2 x3 x4 μ h
    have hr7 := ih
    unfold sw_D_mostTold_7 at h
    refine sx_iload C 4 dd_D_mostTold_7 rfl ?_
    refine sx_iconst C dd_D_mostTold_9 rfl ?_
    refine sx_icmp_ge (tgt := 76) C dd_D_mostTold_10 (by decide) h (fun h => ?_) (fun h => ?_)
    · refine sx_iload_n C 2 dd_D_mostTold_76 rfl rfl ?_
      exact sx_iret C hr hlk dd_D_mostTold_77 h
    · refine sx_aload_n C 0 dd_D_mostTold_13 rfl rfl ?_
      refine sx_iload C 4 dd_D_mostTold_14 rfl ?_
      refine sx_iload_n C 1 dd_D_mostTold_16 rfl rfl ?_
      refine sx_invI (c0 := 16) C hZ [.int (sx_i x4), .int (sx_i x1)] (fun sz2 => sm_D_of hlf h sz2) (sx_cwV (n := 2) C.2.2.2.2.1 wd_177 wd_174 wd_175 wd_176 wd_4 rfl rfl (by decide +kernel) ⟨by decide, by decide⟩) rfl (rfl : sr_cl[2]? = some ("StoneRings$Readings", tt_D, 3)) rfl rfl (Nat.le_of_ble_eq_true rfl) dd_D_mostTold_17 ⟨(Nat.le_of_ble_eq_true rfl), (Nat.le_of_ble_eq_true rfl)⟩ sx_noX (fun v1 μ1 h => ?_)
      refine sx_istore (lu := [(5, .int (sx_i v1)), (0, .ref (ad 16)), (1, .int (sx_i x1)), (2, .int (sx_i x2)), (3, .int (sx_i x3)), (4, .int (sx_i x4))]) C dd_D_mostTold_20 (by decide) rfl ?_
      refine sx_iload C 0 dd_D_mostTold_22 rfl ?_
      refine sx_iconst C dd_D_mostTold_24 rfl ?_
      refine sx_icmp_ne (tgt := 32) C dd_D_mostTold_25 (by decide) h (fun h => ?_) (fun h => ?_)
      · refine sx_aload_n C 1 dd_D_mostTold_32 rfl rfl ?_
        refine sx_iload_n C 2 dd_D_mostTold_33 rfl rfl ?_
        refine sx_iload C 0 dd_D_mostTold_34 rfl ?_
        refine sx_invI (c0 := 16) C hZ [.int (sx_i x1), .int (sx_i v1)] (fun sz2 => sm_D_votesFor hlf h sz2) (sx_cwV (n := 2) C.2.2.2.2.1 wd_181 wd_178 wd_179 wd_180 wd_4 rfl rfl (by decide +kernel) ⟨by decide, by decide⟩) rfl (rfl : sr_cl[2]? = some ("StoneRings$Readings", tt_D, 3)) rfl rfl (Nat.le_of_ble_eq_true rfl) dd_D_mostTold_36 ⟨(Nat.le_of_ble_eq_true rfl), (Nat.le_of_ble_eq_true rfl)⟩ sx_noX (fun v2 μ2 h => ?_)
        refine sx_less (lu := [(0, .ref (ad 16)), (1, .int (sx_i x1)), (2, .int (sx_i x2)), (3, .int (sx_i x3)), (4, .int (sx_i x4)), (5, .int (sx_i v1))]) C [1, 2, 3, 4, 5, 0] rfl ?_
        exact sm_D_mostTold_39 C hZ hr hlk ht hlf hr7 h
      · refine sx_iconst C dd_D_mostTold_28 rfl ?_
        refine sx_goto (tgt := 39) C dd_D_mostTold_29 (by decide) ?_
        refine sx_less (lu := [(0, .ref (ad 16)), (1, .int (sx_i x1)), (2, .int (sx_i x2)), (3, .int (sx_i x3)), (4, .int (sx_i x4)), (5, .int (sx_i v1))]) C [1, 2, 3, 4, 5, 0] rfl ?_
        exact sm_D_mostTold_39 C hZ hr hlk ht hlf hr7 h
set_option maxHeartbeats 4000000 in
set_option maxRecDepth 100000 in
theorem sm_D_mostTold {l : Launch} {D : va_G} {cI cJ : ClassId} {ad : Nat → Nat} {Q : Int → sx_M → Prop} (hlf : l.stackTraces = false) {μ : sx_M} {a1 : Int} (h : sw_D_mostTold Q μ a1) (sz : Nat) : sx_MI l yy_D_mostTold (Cond.code yy_D_mostTold prog_4_method_9_code 7 (some .int) :: sr_ts) rm_D_mostTold sr_lay sr_cl D cI cJ ad [.ref (ad 16), .int (sx_i a1)] μ Q (fun _ _ => False) 0 0 sz := by
  refine sx_body (plainFor_of_name (by decide +kernel)) rfl (Nat.le_of_ble_eq_true rfl) ?_
  intro p e s m below meth c C hZ hr hlk ht
  unfold sw_D_mostTold at h
  show sx_V sr_lay sr_cl D cI cJ ad (sx_A sr_lay ad sz) 7 p l e rm_D_mostTold s m _ below meth c (vx_MQ below (sx_T (sx_QI sr_lay sr_cl D cI cJ ad Q sz)) (sx_XC sr_lay sr_cl D cI cJ ad (fun _ _ => False) sz) _ s 0 0 (sx_A sr_lay ad sz)) 0 0 μ 0 [(0, .ref (ad 16)), (1, .int (sx_i a1))] []
  refine sx_iconst C dd_D_mostTold_0 rfl ?_
  refine sx_istore_n (lu := [(2, .int (sx_i (-1))), (0, .ref (ad 16)), (1, .int (sx_i a1))]) C dd_D_mostTold_1 rfl (by decide) rfl ?_
  refine sx_iconst C dd_D_mostTold_2 rfl ?_
  refine sx_istore_n (lu := [(3, .int (sx_i 0)), (2, .int (sx_i (-1))), (0, .ref (ad 16)), (1, .int (sx_i a1))]) C dd_D_mostTold_3 rfl (by decide) rfl ?_
  refine sx_iconst C dd_D_mostTold_4 rfl ?_
  refine sx_istore (lu := [(4, .int (sx_i 0)), (3, .int (sx_i 0)), (2, .int (sx_i (-1))), (0, .ref (ad 16)), (1, .int (sx_i a1))]) C dd_D_mostTold_5 (by decide) rfl ?_
  refine sx_less (lu := [(0, .ref (ad 16)), (1, .int (sx_i a1)), (2, .int (sx_i (-1))), (3, .int (sx_i 0)), (4, .int (sx_i 0))]) C [3, 4, 2, 1, 0] rfl ?_
  exact sm_D_mostTold_7 C hZ hr hlk ht hlf 600 _ _ _ _ _ h
def rm_D_stonesWithCounts : Room := { frames := 3, cells := 0, slots := 0, locals := 72 }
set_option maxHeartbeats 4000000 in
set_option maxRecDepth 100000 in
theorem sm_D_stonesWithCounts_22 (C : sx_C sr_lay sr_cl D cI cJ ad (sx_A sr_lay ad sz) 3 "StoneRings$Readings" prog_4_method_14_code sr_ts p s m args c) (hZ : sx_Z (sx_A sr_lay ad sz) s s.heap) (hr : meth.sig.returnType = (some .int)) (hlk : meth.locks = false) (ht : ∀ x ∈ c.exceptionTable.toList, False) (hlf : l.stackTraces = false) {r4 : Int → Int → sx_M → Prop} (hr4 : ∀ (x1 x2 : Int) (μ : sx_M), r4 x1 x2 μ → sx_V sr_lay sr_cl D cI cJ ad (sx_A sr_lay ad sz) 3 p l e rm_D_stonesWithCounts s m args below meth c (vx_MQ below (sx_T (sx_QI sr_lay sr_cl D cI cJ ad Q sz)) (sx_XC sr_lay sr_cl D cI cJ ad (fun _ _ => False) sz) args s 0 0 (sx_A sr_lay ad sz)) 0 0 μ 4 [(0, .ref (ad 16)), (1, .int (sx_i x1)), (2, .int (sx_i x2))] []) {x1 x2 : Int} {μ : sx_M} (h : sw_D_stonesWithCounts_22 Q r4 x1 x2 μ) : sx_V sr_lay sr_cl D cI cJ ad (sx_A sr_lay ad sz) 3 p l e rm_D_stonesWithCounts s m args below meth c (vx_MQ below (sx_T (sx_QI sr_lay sr_cl D cI cJ ad Q sz)) (sx_XC sr_lay sr_cl D cI cJ ad (fun _ _ => False) sz) args s 0 0 (sx_A sr_lay ad sz)) 0 0 μ 22 [(0, .ref (ad 16)), (1, .int (sx_i x1)), (2, .int (sx_i x2))] [] := by
  unfold sw_D_stonesWithCounts_22 at h
  refine sx_iinc (lu := [(2, .int (sx_i (x2 + 1))), (0, .ref (ad 16)), (1, .int (sx_i x1))]) C 2 dd_D_stonesWithCounts_22 rfl (by decide) rfl ?_
  refine sx_goto (tgt := 4) C dd_D_stonesWithCounts_25 (by decide) ?_
  refine sx_less (lu := [(0, .ref (ad 16)), (1, .int (sx_i x1)), (2, .int (sx_i (x2 + 1)))]) C [1, 2, 0] rfl ?_
  exact hr4 _ _ _ h
set_option maxHeartbeats 4000000 in
set_option maxRecDepth 100000 in
theorem sm_D_stonesWithCounts_4 (C : sx_C sr_lay sr_cl D cI cJ ad (sx_A sr_lay ad sz) 3 "StoneRings$Readings" prog_4_method_14_code sr_ts p s m args c) (hZ : sx_Z (sx_A sr_lay ad sz) s s.heap) (hr : meth.sig.returnType = (some .int)) (hlk : meth.locks = false) (ht : ∀ x ∈ c.exceptionTable.toList, False) (hlf : l.stackTraces = false) : ∀ (n : Nat) (x1 x2 : Int) (μ : sx_M), sw_D_stonesWithCounts_4 Q n x1 x2 μ → sx_V sr_lay sr_cl D cI cJ ad (sx_A sr_lay ad sz) 3 p l e rm_D_stonesWithCounts s m args below meth c (vx_MQ below (sx_T (sx_QI sr_lay sr_cl D cI cJ ad Q sz)) (sx_XC sr_lay sr_cl D cI cJ ad (fun _ _ => False) sz) args s 0 0 (sx_A sr_lay ad sz)) 0 0 μ 4 [(0, .ref (ad 16)), (1, .int (sx_i x1)), (2, .int (sx_i x2))] [] := by
  intro n
  induction n with
  | zero =>
    intro x1 x2 μ h
    exact h.elim
  | succ n ih =>
    intro x1 x2 μ h
    have hr4 := ih
    unfold sw_D_stonesWithCounts_4 at h
    refine sx_iload_n C 2 dd_D_stonesWithCounts_4 rfl rfl ?_
    refine sx_bipush (v := 20) C dd_D_stonesWithCounts_5 (by decide +kernel) ?_
    refine sx_icmp_ge (tgt := 28) C dd_D_stonesWithCounts_7 (by decide) h (fun h => ?_) (fun h => ?_)
    · refine sx_iload_n C 1 dd_D_stonesWithCounts_28 rfl rfl ?_
      exact sx_iret C hr hlk dd_D_stonesWithCounts_29 h
    · refine sx_aload_n C 0 dd_D_stonesWithCounts_10 rfl rfl ?_
      refine sx_iload_n C 2 dd_D_stonesWithCounts_11 rfl rfl ?_
      refine sx_invI (c0 := 16) C hZ [.int (sx_i x2)] (fun sz2 => sm_D_mostTold hlf h sz2) (sx_cwV (n := 1) C.2.2.2.2.1 wd_173 wd_170 wd_171 wd_172 wd_4 rfl rfl (by decide +kernel) ⟨by decide, by decide⟩) rfl (rfl : sr_cl[2]? = some ("StoneRings$Readings", tt_D, 3)) rfl rfl (Nat.le_of_ble_eq_true rfl) dd_D_stonesWithCounts_12 ⟨(Nat.le_of_ble_eq_true rfl), (Nat.le_of_ble_eq_true rfl)⟩ sx_noX (fun v1 μ1 h => ?_)
      refine sx_iconst C dd_D_stonesWithCounts_15 rfl ?_
      refine sx_icmp_eq (tgt := 22) C dd_D_stonesWithCounts_16 (by decide) h (fun h => ?_) (fun h => ?_)
      · exact sm_D_stonesWithCounts_22 C hZ hr hlk ht hlf hr4 h
      · refine sx_iinc (lu := [(1, .int (sx_i (x1 + 1))), (0, .ref (ad 16)), (2, .int (sx_i x2))]) C 1 dd_D_stonesWithCounts_19 rfl (by decide) rfl ?_
        refine sx_less (lu := [(0, .ref (ad 16)), (1, .int (sx_i (x1 + 1))), (2, .int (sx_i x2))]) C [1, 0, 2] rfl ?_
        exact sm_D_stonesWithCounts_22 C hZ hr hlk ht hlf hr4 h
set_option maxHeartbeats 4000000 in
set_option maxRecDepth 100000 in
theorem sm_D_stonesWithCounts {l : Launch} {D : va_G} {cI cJ : ClassId} {ad : Nat → Nat} {Q : Int → sx_M → Prop} (hlf : l.stackTraces = false) {μ : sx_M} (h : sw_D_stonesWithCounts Q μ ) (sz : Nat) : sx_MI l yy_D_stonesWithCounts (Cond.code yy_D_stonesWithCounts prog_4_method_14_code 3 (some .int) :: sr_ts) rm_D_stonesWithCounts sr_lay sr_cl D cI cJ ad [.ref (ad 16)] μ Q (fun _ _ => False) 0 0 sz := by
  refine sx_body (plainFor_of_name (by decide +kernel)) rfl (Nat.le_of_ble_eq_true rfl) ?_
  intro p e s m below meth c C hZ hr hlk ht
  unfold sw_D_stonesWithCounts at h
  show sx_V sr_lay sr_cl D cI cJ ad (sx_A sr_lay ad sz) 3 p l e rm_D_stonesWithCounts s m _ below meth c (vx_MQ below (sx_T (sx_QI sr_lay sr_cl D cI cJ ad Q sz)) (sx_XC sr_lay sr_cl D cI cJ ad (fun _ _ => False) sz) _ s 0 0 (sx_A sr_lay ad sz)) 0 0 μ 0 [(0, .ref (ad 16))] []
  refine sx_iconst C dd_D_stonesWithCounts_0 rfl ?_
  refine sx_istore_n (lu := [(1, .int (sx_i 0)), (0, .ref (ad 16))]) C dd_D_stonesWithCounts_1 rfl (by decide) rfl ?_
  refine sx_iconst C dd_D_stonesWithCounts_2 rfl ?_
  refine sx_istore_n (lu := [(2, .int (sx_i 0)), (1, .int (sx_i 0)), (0, .ref (ad 16))]) C dd_D_stonesWithCounts_3 rfl (by decide) rfl ?_
  refine sx_less (lu := [(0, .ref (ad 16)), (1, .int (sx_i 0)), (2, .int (sx_i 0))]) C [2, 1, 0] rfl ?_
  exact sm_D_stonesWithCounts_4 C hZ hr hlk ht hlf 600 _ _ _ h
def rm_S_count : Room := { frames := 4, cells := 0, slots := 0, locals := 94 }
set_option maxHeartbeats 4000000 in
set_option maxRecDepth 100000 in
theorem sm_S_count {l : Launch} {D : va_G} {cI cJ : ClassId} {ad : Nat → Nat} {Q : Int → sx_M → Prop} (hlf : l.stackTraces = false) {μ : sx_M} {a1 : Int} (h : sw_S_count Q μ a1) (sz : Nat) : sx_MI l yy_S_count (Cond.code yy_S_count prog_1_method_23_code 2 (some .int) :: sr_ts) rm_S_count sr_lay sr_cl D cI cJ ad [.ref (ad 0), .int (sx_i a1)] μ Q (fun _ _ => False) 0 0 sz := by
  refine sx_body (plainFor_of_name (by decide +kernel)) rfl (Nat.le_of_ble_eq_true rfl) ?_
  intro p e s m below meth c C hZ hr hlk ht
  unfold sw_S_count at h
  show sx_V sr_lay sr_cl D cI cJ ad (sx_A sr_lay ad sz) 2 p l e rm_S_count s m _ below meth c (vx_MQ below (sx_T (sx_QI sr_lay sr_cl D cI cJ ad Q sz)) (sx_XC sr_lay sr_cl D cI cJ ad (fun _ _ => False) sz) _ s 0 0 (sx_A sr_lay ad sz)) 0 0 μ 0 [(0, .ref (ad 0)), (1, .int (sx_i a1))] []
  refine sx_iload_n C 1 dd_S_count_0 rfl rfl ?_
  obtain ⟨hR9, h_0, h_1, h_2, h_3, h_d⟩ := h
  rcases (show a1 = 0 ∨ a1 = 1 ∨ a1 = 2 ∨ a1 = 3 ∨ (a1 < 0 ∨ 3 < a1) by omega) with q9 | q9 | q9 | q9 | q9
  · have h := h_0 q9
    refine sx_tableIn (tgt := 32) C dd_S_count_1 hR9 (by omega) (by omega) (by rw [q9]; rfl) (by decide) ?_
    refine sx_aload_n C 0 dd_S_count_32 rfl rfl ?_
    refine sx_geti (K := 7) (ref := "StoneRings") C 0 7 rfl rfl rfl (rfl : sr_cl[4]? = some ("StoneRings", tt_S, 10)) (by decide) in_S wd_138 rfl dd_S_count_33 ?_
    exact sx_iret C hr hlk dd_S_count_36 h
  · have h := h_1 q9
    refine sx_tableIn (tgt := 37) C dd_S_count_1 hR9 (by omega) (by omega) (by rw [q9]; rfl) (by decide) ?_
    refine sx_aload_n C 0 dd_S_count_37 rfl rfl ?_
    refine sx_getr (ref := "StoneRings") C 0 6 rfl rfl (rfl : sr_cl[4]? = some ("StoneRings", tt_S, 10)) (by decide) in_S wd_137 rfl dd_S_count_38 ?_
    refine sx_invI (c0 := 16) C hZ [] (fun sz2 => sm_D_stonesWithCounts hlf h sz2) (sx_cwV (n := 0) C.2.2.2.2.1 wd_169 wd_166 wd_167 wd_168 wd_4 rfl rfl (by decide +kernel) ⟨by decide, by decide⟩) rfl (rfl : sr_cl[2]? = some ("StoneRings$Readings", tt_D, 3)) rfl rfl (Nat.le_of_ble_eq_true rfl) dd_S_count_41 ⟨(Nat.le_of_ble_eq_true rfl), (Nat.le_of_ble_eq_true rfl)⟩ sx_noX (fun v1 μ1 h => ?_)
    exact sx_iret C hr hlk dd_S_count_44 h
  · have h := h_2 q9
    refine sx_tableIn (tgt := 45) C dd_S_count_1 hR9 (by omega) (by omega) (by rw [q9]; rfl) (by decide) ?_
    refine sx_aload_n C 0 dd_S_count_45 rfl rfl ?_
    refine sx_getr (ref := "StoneRings") C 0 6 rfl rfl (rfl : sr_cl[4]? = some ("StoneRings", tt_S, 10)) (by decide) in_S wd_137 rfl dd_S_count_46 ?_
    refine sx_geti (K := 2) (ref := "StoneRings$Readings") C 16 2 rfl rfl rfl (rfl : sr_cl[2]? = some ("StoneRings$Readings", tt_D, 3)) (by decide) in_D wd_87 rfl dd_S_count_49 ?_
    exact sx_iret C hr hlk dd_S_count_52 h
  · have h := h_3 q9
    refine sx_tableIn (tgt := 53) C dd_S_count_1 hR9 (by omega) (by omega) (by rw [q9]; rfl) (by decide) ?_
    refine sx_aload_n C 0 dd_S_count_53 rfl rfl ?_
    refine sx_getr (ref := "StoneRings") C 0 0 rfl rfl (rfl : sr_cl[4]? = some ("StoneRings", tt_S, 10)) (by decide) in_S wd_131 rfl dd_S_count_54 ?_
    refine sx_geti (K := 3) (ref := "StoneRings$Picture") C 3 3 rfl rfl rfl (rfl : sr_cl[1]? = some ("StoneRings$Picture", tt_P, 6)) (by decide) in_P wd_115 rfl dd_S_count_57 ?_
    exact sx_iret C hr hlk dd_S_count_60 h
  · have h := h_d q9
    refine sx_tableOut (tgt := 61) C dd_S_count_1 hR9 q9 (by decide) ?_
    refine sx_iconst C dd_S_count_61 rfl ?_
    exact sx_iret C hr hlk dd_S_count_62 h
def rm_P_holds : Room := { frames := 0, cells := 0, slots := 0, locals := 0 }
set_option maxHeartbeats 4000000 in
set_option maxRecDepth 100000 in
theorem sm_P_holds_29 (C : sx_C sr_lay sr_cl D cI cJ ad (sx_A sr_lay ad sz) 3 "StoneRings$Picture" prog_3_method_2_code sr_ts p s m args c) (hZ : sx_Z (sx_A sr_lay ad sz) s s.heap) (hr : meth.sig.returnType = (some .boolean)) (hlk : meth.locks = false) (ht : ∀ x ∈ c.exceptionTable.toList, False) (hlf : l.stackTraces = false) {y0 : Int} {μ : sx_M} (h : sw_P_holds_29 Q y0 μ) : sx_V sr_lay sr_cl D cI cJ ad (sx_A sr_lay ad sz) 3 p l e rm_P_holds s m args below meth c (vx_MQ below (sx_T (sx_QI sr_lay sr_cl D cI cJ ad Q sz)) (sx_XC sr_lay sr_cl D cI cJ ad (fun _ _ => False) sz) args s 0 0 (sx_A sr_lay ad sz)) 0 0 μ 29 [] [.int (sx_i y0)] := by
  unfold sw_P_holds_29 at h
  exact sx_zret C hr hlk dd_P_holds_29 h
set_option maxHeartbeats 4000000 in
set_option maxRecDepth 100000 in
theorem sm_P_holds_28 (C : sx_C sr_lay sr_cl D cI cJ ad (sx_A sr_lay ad sz) 3 "StoneRings$Picture" prog_3_method_2_code sr_ts p s m args c) (hZ : sx_Z (sx_A sr_lay ad sz) s s.heap) (hr : meth.sig.returnType = (some .boolean)) (hlk : meth.locks = false) (ht : ∀ x ∈ c.exceptionTable.toList, False) (hlf : l.stackTraces = false) {μ : sx_M} (h : sw_P_holds_28 Q μ) : sx_V sr_lay sr_cl D cI cJ ad (sx_A sr_lay ad sz) 3 p l e rm_P_holds s m args below meth c (vx_MQ below (sx_T (sx_QI sr_lay sr_cl D cI cJ ad Q sz)) (sx_XC sr_lay sr_cl D cI cJ ad (fun _ _ => False) sz) args s 0 0 (sx_A sr_lay ad sz)) 0 0 μ 28 [] [] := by
  unfold sw_P_holds_28 at h
  refine sx_iconst C dd_P_holds_28 rfl ?_
  exact sm_P_holds_29 C hZ hr hlk ht hlf h
set_option maxHeartbeats 4000000 in
set_option maxRecDepth 100000 in
theorem sm_P_holds {l : Launch} {D : va_G} {cI cJ : ClassId} {ad : Nat → Nat} {Q : Int → sx_M → Prop} (hlf : l.stackTraces = false) {μ : sx_M} {a1 a2 : Int} (h : sw_P_holds Q μ a1 a2) (sz : Nat) : sx_MI l yy_P_holds (Cond.code yy_P_holds prog_3_method_2_code 3 (some .boolean) :: sr_ts) rm_P_holds sr_lay sr_cl D cI cJ ad [.ref (ad 3), .int (sx_i a1), .int (sx_i a2)] μ Q (fun _ _ => False) 0 0 sz := by
  refine sx_body (plainFor_of_name (by decide +kernel)) rfl (Nat.le_of_ble_eq_true rfl) ?_
  intro p e s m below meth c C hZ hr hlk ht
  unfold sw_P_holds at h
  show sx_V sr_lay sr_cl D cI cJ ad (sx_A sr_lay ad sz) 3 p l e rm_P_holds s m _ below meth c (vx_MQ below (sx_T (sx_QI sr_lay sr_cl D cI cJ ad Q sz)) (sx_XC sr_lay sr_cl D cI cJ ad (fun _ _ => False) sz) _ s 0 0 (sx_A sr_lay ad sz)) 0 0 μ 0 [(0, .ref (ad 3)), (1, .int (sx_i a1)), (2, .int (sx_i a2))] []
  refine sx_iload_n C 1 dd_P_holds_0 rfl rfl ?_
  refine sx_if_lt (tgt := 28) C dd_P_holds_1 (by decide) h (fun h => ?_) (fun h => ?_)
  · refine sx_less (lu := []) C [] rfl ?_
    exact sm_P_holds_28 C hZ hr hlk ht hlf h
  · refine sx_iload_n C 1 dd_P_holds_4 rfl rfl ?_
    refine sx_aload_n C 0 dd_P_holds_5 rfl rfl ?_
    refine sx_geti (K := 0) (ref := "StoneRings$Picture") C 3 0 rfl rfl rfl (rfl : sr_cl[1]? = some ("StoneRings$Picture", tt_P, 6)) (by decide) in_P wd_110 rfl dd_P_holds_6 ?_
    refine sx_icmp_ge (tgt := 28) C dd_P_holds_9 (by decide) h (fun h => ?_) (fun h => ?_)
    · refine sx_less (lu := []) C [] rfl ?_
      exact sm_P_holds_28 C hZ hr hlk ht hlf h
    · refine sx_iload_n C 2 dd_P_holds_12 rfl rfl ?_
      refine sx_if_lt (tgt := 28) C dd_P_holds_13 (by decide) h (fun h => ?_) (fun h => ?_)
      · refine sx_less (lu := []) C [] rfl ?_
        exact sm_P_holds_28 C hZ hr hlk ht hlf h
      · refine sx_iload_n C 2 dd_P_holds_16 rfl rfl ?_
        refine sx_aload_n C 0 dd_P_holds_17 rfl rfl ?_
        refine sx_geti (K := 1) (ref := "StoneRings$Picture") C 3 1 rfl rfl rfl (rfl : sr_cl[1]? = some ("StoneRings$Picture", tt_P, 6)) (by decide) in_P wd_111 rfl dd_P_holds_18 ?_
        refine sx_icmp_ge (tgt := 28) C dd_P_holds_21 (by decide) h (fun h => ?_) (fun h => ?_)
        · refine sx_less (lu := []) C [] rfl ?_
          exact sm_P_holds_28 C hZ hr hlk ht hlf h
        · refine sx_iconst C dd_P_holds_24 rfl ?_
          refine sx_goto (tgt := 29) C dd_P_holds_25 (by decide) ?_
          refine sx_less (lu := []) C [] rfl ?_
          exact sm_P_holds_29 C hZ hr hlk ht hlf h
def rm_S_needNumber : Room := { frames := 6, cells := 1, slots := 6, locals := 82 }
set_option maxHeartbeats 4000000 in
set_option maxRecDepth 100000 in
theorem sm_S_needNumber_10 (C : sx_C sr_lay sr_cl D cI cJ ad (sx_A sr_lay ad sz) 3 "StoneRings" prog_1_method_26_code sr_ts p s m args c) (hZ : sx_Z (sx_A sr_lay ad sz) s s.heap) (hr : meth.sig.returnType = none) (hlk : meth.locks = false) (ht : ∀ x ∈ c.exceptionTable.toList, False) (hlf : l.stackTraces = false) {μ : sx_M} (h : sw_S_needNumber_10 Q X μ) : sx_V sr_lay sr_cl D cI cJ ad (sx_A sr_lay ad sz) 3 p l e rm_S_needNumber s m args below meth c (vx_MQ below (sx_T (sx_QV sr_lay sr_cl D cI cJ ad Q sz)) (sx_XC sr_lay sr_cl D cI cJ ad X sz) args s 1 6 (sx_A sr_lay ad sz)) 0 0 μ 10 [] [] := by
  unfold sw_S_needNumber_10 at h
  exact sx_throw (cls := "java/lang/IllegalArgumentException") (text := "a number outside its bounds") (names := ["java/lang/RuntimeException", "java/lang/Exception"]) C hlf hZ hlk ht (by decide +kernel) (by decide +kernel) wd_269 wd_13 (List.mem_of_getElem? (i := 1) rfl) at_S_96 gd_S_92_96 dd_S_needNumber_10 dd_S_needNumber_13 dd_S_needNumber_14 dd_S_needNumber_16 dd_S_needNumber_19 (by decide) (Nat.le_of_ble_eq_true rfl) (by decide) (by decide) (by decide) (by decide) h
set_option maxHeartbeats 4000000 in
set_option maxRecDepth 100000 in
theorem sm_S_needNumber {l : Launch} {D : va_G} {cI cJ : ClassId} {ad : Nat → Nat} {Q : Int → sx_M → Prop} {X : String → sx_M → Prop} (hlf : l.stackTraces = false) {μ : sx_M} {a0 a1 a2 : Int} (h : sw_S_needNumber Q X μ a0 a1 a2) (sz : Nat) : sx_MV l yy_S_needNumber (Cond.code yy_S_needNumber prog_1_method_26_code 3 none :: sr_ts) rm_S_needNumber sr_lay sr_cl D cI cJ ad [.int (sx_i a0), .int (sx_i a1), .int (sx_i a2)] μ Q X 1 6 sz := by
  refine sx_body (plainFor_of_name (by decide +kernel)) rfl (Nat.le_of_ble_eq_true rfl) ?_
  intro p e s m below meth c C hZ hr hlk ht
  unfold sw_S_needNumber at h
  show sx_V sr_lay sr_cl D cI cJ ad (sx_A sr_lay ad sz) 3 p l e rm_S_needNumber s m _ below meth c (vx_MQ below (sx_T (sx_QV sr_lay sr_cl D cI cJ ad Q sz)) (sx_XC sr_lay sr_cl D cI cJ ad X sz) _ s 1 6 (sx_A sr_lay ad sz)) 0 0 μ 0 [(0, .int (sx_i a0)), (1, .int (sx_i a1)), (2, .int (sx_i a2))] []
  refine sx_iload_n C 0 dd_S_needNumber_0 rfl rfl ?_
  refine sx_iload_n C 1 dd_S_needNumber_1 rfl rfl ?_
  refine sx_icmp_lt (tgt := 10) C dd_S_needNumber_2 (by decide) h (fun h => ?_) (fun h => ?_)
  · refine sx_less (lu := []) C [] rfl ?_
    exact sm_S_needNumber_10 C hZ hr hlk ht hlf h
  · refine sx_iload_n C 0 dd_S_needNumber_5 rfl rfl ?_
    refine sx_iload_n C 2 dd_S_needNumber_6 rfl rfl ?_
    refine sx_icmp_le (tgt := 20) C dd_S_needNumber_7 (by decide) h (fun h => ?_) (fun h => ?_)
    · exact sx_vret C hr hlk dd_S_needNumber_20 h
    · refine sx_less (lu := []) C [] rfl ?_
      exact sm_S_needNumber_10 C hZ hr hlk ht hlf h
def rm_P_at : Room := { frames := 1, cells := 0, slots := 0, locals := 22 }
set_option maxHeartbeats 4000000 in
set_option maxRecDepth 100000 in
theorem sm_P_at_24 (C : sx_C sr_lay sr_cl D cI cJ ad (sx_A sr_lay ad sz) 3 "StoneRings$Picture" prog_3_method_3_code sr_ts p s m args c) (hZ : sx_Z (sx_A sr_lay ad sz) s s.heap) (hr : meth.sig.returnType = (some .int)) (hlk : meth.locks = false) (ht : ∀ x ∈ c.exceptionTable.toList, False) (hlf : l.stackTraces = false) {y0 : Int} {μ : sx_M} (h : sw_P_at_24 Q y0 μ) : sx_V sr_lay sr_cl D cI cJ ad (sx_A sr_lay ad sz) 3 p l e rm_P_at s m args below meth c (vx_MQ below (sx_T (sx_QI sr_lay sr_cl D cI cJ ad Q sz)) (sx_XC sr_lay sr_cl D cI cJ ad (fun _ _ => False) sz) args s 0 0 (sx_A sr_lay ad sz)) 0 0 μ 24 [] [.int (sx_i y0)] := by
  unfold sw_P_at_24 at h
  exact sx_iret C hr hlk dd_P_at_24 h
set_option maxHeartbeats 4000000 in
set_option maxRecDepth 100000 in
theorem sm_P_at {l : Launch} {D : va_G} {cI cJ : ClassId} {ad : Nat → Nat} {Q : Int → sx_M → Prop} (hlf : l.stackTraces = false) {μ : sx_M} {a1 a2 : Int} (h : sw_P_at Q μ a1 a2) (sz : Nat) : sx_MI l yy_P_at (Cond.code yy_P_at prog_3_method_3_code 3 (some .int) :: sr_ts) rm_P_at sr_lay sr_cl D cI cJ ad [.ref (ad 3), .int (sx_i a1), .int (sx_i a2)] μ Q (fun _ _ => False) 0 0 sz := by
  refine sx_body (plainFor_of_name (by decide +kernel)) rfl (Nat.le_of_ble_eq_true rfl) ?_
  intro p e s m below meth c C hZ hr hlk ht
  unfold sw_P_at at h
  show sx_V sr_lay sr_cl D cI cJ ad (sx_A sr_lay ad sz) 3 p l e rm_P_at s m _ below meth c (vx_MQ below (sx_T (sx_QI sr_lay sr_cl D cI cJ ad Q sz)) (sx_XC sr_lay sr_cl D cI cJ ad (fun _ _ => False) sz) _ s 0 0 (sx_A sr_lay ad sz)) 0 0 μ 0 [(0, .ref (ad 3)), (1, .int (sx_i a1)), (2, .int (sx_i a2))] []
  refine sx_aload_n C 0 dd_P_at_0 rfl rfl ?_
  refine sx_iload_n C 1 dd_P_at_1 rfl rfl ?_
  refine sx_iload_n C 2 dd_P_at_2 rfl rfl ?_
  refine sx_invI (c0 := 3) C hZ [.int (sx_i a1), .int (sx_i a2)] (fun sz2 => sm_P_holds hlf h sz2) (sx_cwV (n := 2) C.2.2.2.2.1 wd_197 wd_293 wd_195 wd_196 wd_6 rfl rfl (by decide +kernel) ⟨by decide, by decide⟩) rfl (rfl : sr_cl[1]? = some ("StoneRings$Picture", tt_P, 6)) rfl rfl (Nat.le_of_ble_eq_true rfl) dd_P_at_3 ⟨(Nat.le_of_ble_eq_true rfl), (Nat.le_of_ble_eq_true rfl)⟩ sx_noX (fun v1 μ1 h => ?_)
  refine sx_if_eq (tgt := 23) C dd_P_at_6 (by decide) h (fun h => ?_) (fun h => ?_)
  · refine sx_iconst C dd_P_at_23 rfl ?_
    refine sx_less (lu := []) C [] rfl ?_
    exact sm_P_at_24 C hZ hr hlk ht hlf h
  · refine sx_aload_n C 0 dd_P_at_9 rfl rfl ?_
    refine sx_getr (ref := "StoneRings$Picture") C 3 2 rfl rfl (rfl : sr_cl[1]? = some ("StoneRings$Picture", tt_P, 6)) (by decide) in_P wd_112 rfl dd_P_at_10 ?_
    refine sx_iload_n C 2 dd_P_at_13 rfl rfl ?_
    refine sx_bipush (v := 16) C dd_P_at_14 (by decide +kernel) ?_
    refine sx_imul C dd_P_at_16 ?_
    refine sx_iload_n C 1 dd_P_at_17 rfl rfl ?_
    refine sx_iadd C dd_P_at_18 ?_
    refine sx_iald (N := 256) C 4 rfl rfl (by decide) dd_P_at_19 h (fun h => ?_)
    refine sx_goto (tgt := 24) C dd_P_at_20 (by decide) ?_
    refine sx_less (lu := []) C [] rfl ?_
    exact sm_P_at_24 C hZ hr hlk ht hlf h
def rm_P_put : Room := { frames := 2, cells := 0, slots := 0, locals := 44 }
set_option maxHeartbeats 4000000 in
set_option maxRecDepth 100000 in
theorem sm_P_put_24 (C : sx_C sr_lay sr_cl D cI cJ ad (sx_A sr_lay ad sz) 5 "StoneRings$Picture" prog_3_method_4_code sr_ts p s m args c) (hZ : sx_Z (sx_A sr_lay ad sz) s s.heap) (hr : meth.sig.returnType = (some .boolean)) (hlk : meth.locks = false) (ht : ∀ x ∈ c.exceptionTable.toList, False) (hlf : l.stackTraces = false) {μ : sx_M} (h : sw_P_put_24 Q μ) : sx_V sr_lay sr_cl D cI cJ ad (sx_A sr_lay ad sz) 5 p l e rm_P_put s m args below meth c (vx_MQ below (sx_T (sx_QI sr_lay sr_cl D cI cJ ad Q sz)) (sx_XC sr_lay sr_cl D cI cJ ad (fun _ _ => False) sz) args s 0 0 (sx_A sr_lay ad sz)) 0 0 μ 24 [] [] := by
  unfold sw_P_put_24 at h
  refine sx_iconst C dd_P_put_24 rfl ?_
  exact sx_zret C hr hlk dd_P_put_25 h
set_option maxHeartbeats 4000000 in
set_option maxRecDepth 100000 in
theorem sm_P_put {l : Launch} {D : va_G} {cI cJ : ClassId} {ad : Nat → Nat} {Q : Int → sx_M → Prop} (hlf : l.stackTraces = false) {μ : sx_M} {a1 a2 a3 : Int} (h : sw_P_put Q μ a1 a2 a3) (sz : Nat) : sx_MI l yy_P_put (Cond.code yy_P_put prog_3_method_4_code 5 (some .boolean) :: sr_ts) rm_P_put sr_lay sr_cl D cI cJ ad [.ref (ad 3), .int (sx_i a1), .int (sx_i a2), .int (sx_i a3)] μ Q (fun _ _ => False) 0 0 sz := by
  refine sx_body (plainFor_of_name (by decide +kernel)) rfl (Nat.le_of_ble_eq_true rfl) ?_
  intro p e s m below meth c C hZ hr hlk ht
  unfold sw_P_put at h
  show sx_V sr_lay sr_cl D cI cJ ad (sx_A sr_lay ad sz) 5 p l e rm_P_put s m _ below meth c (vx_MQ below (sx_T (sx_QI sr_lay sr_cl D cI cJ ad Q sz)) (sx_XC sr_lay sr_cl D cI cJ ad (fun _ _ => False) sz) _ s 0 0 (sx_A sr_lay ad sz)) 0 0 μ 0 [(0, .ref (ad 3)), (1, .int (sx_i a1)), (2, .int (sx_i a2)), (3, .int (sx_i a3))] []
  refine sx_iload_n C 3 dd_P_put_0 rfl rfl ?_
  refine sx_aload_n C 0 dd_P_put_1 rfl rfl ?_
  refine sx_iload_n C 1 dd_P_put_2 rfl rfl ?_
  refine sx_iload_n C 2 dd_P_put_3 rfl rfl ?_
  refine sx_invI (c0 := 3) C hZ [.int (sx_i a1), .int (sx_i a2)] (fun sz2 => sm_P_at hlf h sz2) (sx_cwV (n := 2) C.2.2.2.2.1 wd_292 wd_289 wd_290 wd_291 wd_6 rfl rfl (by decide +kernel) ⟨by decide, by decide⟩) rfl (rfl : sr_cl[1]? = some ("StoneRings$Picture", tt_P, 6)) rfl rfl (Nat.le_of_ble_eq_true rfl) dd_P_put_4 ⟨(Nat.le_of_ble_eq_true rfl), (Nat.le_of_ble_eq_true rfl)⟩ sx_noX (fun v1 μ1 h => ?_)
  refine sx_isub C dd_P_put_7 ?_
  refine sx_istore (lu := [(4, .int (sx_i (a3 - v1))), (0, .ref (ad 3)), (1, .int (sx_i a1)), (2, .int (sx_i a2)), (3, .int (sx_i a3))]) C dd_P_put_8 (by decide) rfl ?_
  refine sx_iload C 0 dd_P_put_10 rfl ?_
  refine sx_if_eq (tgt := 24) C dd_P_put_12 (by decide) h (fun h => ?_) (fun h => ?_)
  · refine sx_less (lu := []) C [] rfl ?_
    exact sm_P_put_24 C hZ hr hlk ht hlf h
  · refine sx_aload_n C 1 dd_P_put_15 rfl rfl ?_
    refine sx_iload_n C 2 dd_P_put_16 rfl rfl ?_
    refine sx_iload_n C 3 dd_P_put_17 rfl rfl ?_
    refine sx_invI (c0 := 3) C hZ [.int (sx_i a1), .int (sx_i a2)] (fun sz2 => sm_P_holds hlf h sz2) (sx_cwV (n := 2) C.2.2.2.2.1 wd_197 wd_293 wd_195 wd_196 wd_6 rfl rfl (by decide +kernel) ⟨by decide, by decide⟩) rfl (rfl : sr_cl[1]? = some ("StoneRings$Picture", tt_P, 6)) rfl rfl (Nat.le_of_ble_eq_true rfl) dd_P_put_18 ⟨(Nat.le_of_ble_eq_true rfl), (Nat.le_of_ble_eq_true rfl)⟩ sx_noX (fun v2 μ2 h => ?_)
    refine sx_if_ne (tgt := 26) C dd_P_put_21 (by decide) h (fun h => ?_) (fun h => ?_)
    · refine sx_aload_n C 1 dd_P_put_26 rfl rfl ?_
      refine sx_getr (ref := "StoneRings$Picture") C 3 2 rfl rfl (rfl : sr_cl[1]? = some ("StoneRings$Picture", tt_P, 6)) (by decide) in_P wd_112 rfl dd_P_put_27 ?_
      refine sx_iload_n C 3 dd_P_put_30 rfl rfl ?_
      refine sx_bipush (v := 16) C dd_P_put_31 (by decide +kernel) ?_
      refine sx_imul C dd_P_put_33 ?_
      refine sx_iload_n C 2 dd_P_put_34 rfl rfl ?_
      refine sx_iadd C dd_P_put_35 ?_
      refine sx_iload_n C 4 dd_P_put_36 rfl rfl ?_
      refine sx_iast (N := 256) C 4 rfl rfl (by decide) dd_P_put_37 h (fun h => ?_)
      refine sx_aload_n C 1 dd_P_put_38 rfl rfl ?_
      refine sx_dup C dd_P_put_39 rfl ?_
      refine sx_geti (K := 3) (ref := "StoneRings$Picture") C 3 3 rfl rfl rfl (rfl : sr_cl[1]? = some ("StoneRings$Picture", tt_P, 6)) (by decide) in_P wd_113 rfl dd_P_put_40 ?_
      refine sx_iload C 0 dd_P_put_43 rfl ?_
      refine sx_iadd C dd_P_put_45 ?_
      refine sx_puti (K := 3) (ref := "StoneRings$Picture") (ty := .int) C 3 3 rfl rfl rfl (rfl : sr_cl[1]? = some ("StoneRings$Picture", tt_P, 6)) (by decide) in_P ty_P tyk_P nm_P wd_113 rfl rfl (by decide +kernel) rfl rfl dd_P_put_46 ?_
      refine sx_aload_n C 1 dd_P_put_49 rfl rfl ?_
      refine sx_dup C dd_P_put_50 rfl ?_
      refine sx_geti (K := 4) (ref := "StoneRings$Picture") C 3 4 rfl rfl rfl (rfl : sr_cl[1]? = some ("StoneRings$Picture", tt_P, 6)) (by decide) in_P wd_116 rfl dd_P_put_51 ?_
      refine sx_iload_n C 2 dd_P_put_54 rfl rfl ?_
      refine sx_iload C 0 dd_P_put_55 rfl ?_
      refine sx_imul C dd_P_put_57 ?_
      refine sx_iadd C dd_P_put_58 ?_
      refine sx_puti (K := 4) (ref := "StoneRings$Picture") (ty := .int) C 3 4 rfl rfl rfl (rfl : sr_cl[1]? = some ("StoneRings$Picture", tt_P, 6)) (by decide) in_P ty_P tyk_P nm_P wd_116 rfl rfl (by decide +kernel) rfl rfl dd_P_put_59 ?_
      refine sx_aload_n C 1 dd_P_put_62 rfl rfl ?_
      refine sx_dup C dd_P_put_63 rfl ?_
      refine sx_geti (K := 5) (ref := "StoneRings$Picture") C 3 5 rfl rfl rfl (rfl : sr_cl[1]? = some ("StoneRings$Picture", tt_P, 6)) (by decide) in_P wd_117 rfl dd_P_put_64 ?_
      refine sx_iload_n C 3 dd_P_put_67 rfl rfl ?_
      refine sx_iload C 0 dd_P_put_68 rfl ?_
      refine sx_imul C dd_P_put_70 ?_
      refine sx_iadd C dd_P_put_71 ?_
      refine sx_puti (K := 5) (ref := "StoneRings$Picture") (ty := .int) C 3 5 rfl rfl rfl (rfl : sr_cl[1]? = some ("StoneRings$Picture", tt_P, 6)) (by decide) in_P ty_P tyk_P nm_P wd_117 rfl rfl (by decide +kernel) rfl rfl dd_P_put_72 ?_
      refine sx_iconst C dd_P_put_75 rfl ?_
      exact sx_zret C hr hlk dd_P_put_76 h
    · refine sx_less (lu := []) C [] rfl ?_
      exact sm_P_put_24 C hZ hr hlk ht hlf h
def rm_S_pixel : Room := { frames := 7, cells := 1, slots := 6, locals := 104 }
set_option maxHeartbeats 4000000 in
set_option maxRecDepth 100000 in
theorem sm_S_pixel {l : Launch} {D : va_G} {cI cJ : ClassId} {ad : Nat → Nat} {Q : Int → sx_M → Prop} {X : String → sx_M → Prop} (hlf : l.stackTraces = false) {μ : sx_M} {a1 a2 a3 : Int} (h : sw_S_pixel Q X μ a1 a2 a3) (sz : Nat) : sx_MI l yy_S_pixel (Cond.code yy_S_pixel prog_1_method_2_code 4 (some .boolean) :: sr_ts) rm_S_pixel sr_lay sr_cl D cI cJ ad [.ref (ad 0), .int (sx_i a1), .int (sx_i a2), .int (sx_i a3)] μ Q X 1 6 sz := by
  refine sx_body (plainFor_of_name (by decide +kernel)) rfl (Nat.le_of_ble_eq_true rfl) ?_
  intro p e s m below meth c C hZ hr hlk ht
  unfold sw_S_pixel at h
  show sx_V sr_lay sr_cl D cI cJ ad (sx_A sr_lay ad sz) 4 p l e rm_S_pixel s m _ below meth c (vx_MQ below (sx_T (sx_QI sr_lay sr_cl D cI cJ ad Q sz)) (sx_XC sr_lay sr_cl D cI cJ ad X sz) _ s 1 6 (sx_A sr_lay ad sz)) 0 0 μ 0 [(0, .ref (ad 0)), (1, .int (sx_i a1)), (2, .int (sx_i a2)), (3, .int (sx_i a3))] []
  refine sx_aload_n C 0 dd_S_pixel_0 rfl rfl ?_
  refine sx_getr (ref := "StoneRings") C 0 0 rfl rfl (rfl : sr_cl[4]? = some ("StoneRings", tt_S, 10)) (by decide) in_S wd_131 rfl dd_S_pixel_1 ?_
  refine sx_iload_n C 1 dd_S_pixel_4 rfl rfl ?_
  refine sx_iload_n C 2 dd_S_pixel_5 rfl rfl ?_
  refine sx_invI (c0 := 3) C hZ [.int (sx_i a1), .int (sx_i a2)] (fun sz2 => sm_P_holds hlf h sz2) (sx_cwV (n := 2) C.2.2.2.2.1 wd_197 wd_194 wd_195 wd_196 wd_6 rfl rfl (by decide +kernel) ⟨by decide, by decide⟩) rfl (rfl : sr_cl[1]? = some ("StoneRings$Picture", tt_P, 6)) rfl rfl (Nat.le_of_ble_eq_true rfl) dd_S_pixel_6 ⟨(Nat.le_of_ble_eq_true rfl), (Nat.le_of_ble_eq_true rfl)⟩ sx_noX (fun v1 μ1 h => ?_)
  refine sx_if_ne (tgt := 22) C dd_S_pixel_9 (by decide) h (fun h => ?_) (fun h => ?_)
  · refine sx_iload_n C 3 dd_S_pixel_22 rfl rfl ?_
    refine sx_iconst C dd_S_pixel_23 rfl ?_
    refine sx_sipush (v := 255) C dd_S_pixel_24 (by decide +kernel) ?_
    refine sx_stcV C hZ [.int (sx_i a3), .int (sx_i 0), .int (sx_i 255)] (fun sz2 => sm_S_needNumber hlf h sz2) (sx_cwS (n := 3) C.2.2.2.2.1 wd_268 wd_266 wd_267 wd_1 rfl rfl (by decide +kernel) ⟨by decide, by decide⟩) rfl rfl (Nat.le_of_ble_eq_true rfl) dd_S_pixel_27 ⟨(Nat.le_of_ble_eq_true rfl), (Nat.le_of_ble_eq_true rfl)⟩ (sx_prop hlk ht (Nat.le_of_ble_eq_true rfl) (Nat.le_of_ble_eq_true rfl)) (fun v2 μ2 h => ?_)
    refine sx_aload_n C 0 dd_S_pixel_30 rfl rfl ?_
    refine sx_getr (ref := "StoneRings") C 0 0 rfl rfl (rfl : sr_cl[4]? = some ("StoneRings", tt_S, 10)) (by decide) in_S wd_131 rfl dd_S_pixel_31 ?_
    refine sx_iload_n C 1 dd_S_pixel_34 rfl rfl ?_
    refine sx_iload_n C 2 dd_S_pixel_35 rfl rfl ?_
    refine sx_iload_n C 3 dd_S_pixel_36 rfl rfl ?_
    refine sx_invI (c0 := 3) C hZ [.int (sx_i a1), .int (sx_i a2), .int (sx_i a3)] (fun sz2 => sm_P_put hlf h sz2) (sx_cwV (n := 3) C.2.2.2.2.1 wd_288 wd_285 wd_286 wd_287 wd_6 rfl rfl (by decide +kernel) ⟨by decide, by decide⟩) rfl (rfl : sr_cl[1]? = some ("StoneRings$Picture", tt_P, 6)) rfl rfl (Nat.le_of_ble_eq_true rfl) dd_S_pixel_37 ⟨(Nat.le_of_ble_eq_true rfl), (Nat.le_of_ble_eq_true rfl)⟩ sx_noX (fun v3 μ3 h => ?_)
    exact sx_zret C hr hlk dd_S_pixel_40 h
  · exact sx_throw (cls := "java/lang/IndexOutOfBoundsException") (text := "no such pixel") (names := ["java/lang/RuntimeException", "java/lang/Exception"]) C hlf hZ hlk ht (by decide +kernel) (by decide +kernel) wd_198 wd_12 (List.mem_of_getElem? (i := 0) rfl) at_S_71 gd_S_67_71 dd_S_pixel_12 dd_S_pixel_15 dd_S_pixel_16 dd_S_pixel_18 dd_S_pixel_21 (by decide) (Nat.le_of_ble_eq_true rfl) (by decide) (by decide) (by decide) (by decide) h
def rm_S_needPlace : Room := { frames := 6, cells := 1, slots := 6, locals := 82 }
set_option maxHeartbeats 4000000 in
set_option maxRecDepth 100000 in
theorem sm_S_needPlace_9 (C : sx_C sr_lay sr_cl D cI cJ ad (sx_A sr_lay ad sz) 2 "StoneRings" prog_1_method_25_code sr_ts p s m args c) (hZ : sx_Z (sx_A sr_lay ad sz) s s.heap) (hr : meth.sig.returnType = none) (hlk : meth.locks = false) (ht : ∀ x ∈ c.exceptionTable.toList, False) (hlf : l.stackTraces = false) {μ : sx_M} (h : sw_S_needPlace_9 Q X μ) : sx_V sr_lay sr_cl D cI cJ ad (sx_A sr_lay ad sz) 2 p l e rm_S_needPlace s m args below meth c (vx_MQ below (sx_T (sx_QV sr_lay sr_cl D cI cJ ad Q sz)) (sx_XC sr_lay sr_cl D cI cJ ad X sz) args s 1 6 (sx_A sr_lay ad sz)) 0 0 μ 9 [] [] := by
  unfold sw_S_needPlace_9 at h
  exact sx_throw (cls := "java/lang/IndexOutOfBoundsException") (text := "no such place") (names := ["java/lang/RuntimeException", "java/lang/Exception"]) C hlf hZ hlk ht (by decide +kernel) (by decide +kernel) wd_198 wd_12 (List.mem_of_getElem? (i := 2) rfl) at_S_71 gd_S_67_71 dd_S_needPlace_9 dd_S_needPlace_12 dd_S_needPlace_13 dd_S_needPlace_15 dd_S_needPlace_18 (by decide) (Nat.le_of_ble_eq_true rfl) (by decide) (by decide) (by decide) (by decide) h
set_option maxHeartbeats 4000000 in
set_option maxRecDepth 100000 in
theorem sm_S_needPlace {l : Launch} {D : va_G} {cI cJ : ClassId} {ad : Nat → Nat} {Q : Int → sx_M → Prop} {X : String → sx_M → Prop} (hlf : l.stackTraces = false) {μ : sx_M} {a0 a1 : Int} (h : sw_S_needPlace Q X μ a0 a1) (sz : Nat) : sx_MV l yy_S_needPlace (Cond.code yy_S_needPlace prog_1_method_25_code 2 none :: sr_ts) rm_S_needPlace sr_lay sr_cl D cI cJ ad [.int (sx_i a0), .int (sx_i a1)] μ Q X 1 6 sz := by
  refine sx_body (plainFor_of_name (by decide +kernel)) rfl (Nat.le_of_ble_eq_true rfl) ?_
  intro p e s m below meth c C hZ hr hlk ht
  unfold sw_S_needPlace at h
  show sx_V sr_lay sr_cl D cI cJ ad (sx_A sr_lay ad sz) 2 p l e rm_S_needPlace s m _ below meth c (vx_MQ below (sx_T (sx_QV sr_lay sr_cl D cI cJ ad Q sz)) (sx_XC sr_lay sr_cl D cI cJ ad X sz) _ s 1 6 (sx_A sr_lay ad sz)) 0 0 μ 0 [(0, .int (sx_i a0)), (1, .int (sx_i a1))] []
  refine sx_iload_n C 0 dd_S_needPlace_0 rfl rfl ?_
  refine sx_if_lt (tgt := 9) C dd_S_needPlace_1 (by decide) h (fun h => ?_) (fun h => ?_)
  · refine sx_less (lu := []) C [] rfl ?_
    exact sm_S_needPlace_9 C hZ hr hlk ht hlf h
  · refine sx_iload_n C 0 dd_S_needPlace_4 rfl rfl ?_
    refine sx_iload_n C 1 dd_S_needPlace_5 rfl rfl ?_
    refine sx_icmp_lt (tgt := 19) C dd_S_needPlace_6 (by decide) h (fun h => ?_) (fun h => ?_)
    · exact sx_vret C hr hlk dd_S_needPlace_19 h
    · refine sx_less (lu := []) C [] rfl ?_
      exact sm_S_needPlace_9 C hZ hr hlk ht hlf h
end SXG
