section SXG
variable {D : va_G} {cI cJ : ClassId} {ad : Nat → Nat} {sz : Nat} {p : Program} {l : Launch} {e : Env} {s : State} {m : MethodId} {args : Array Value} {below : List Frame} {meth : Method} {c : Code} {Q : Int → sx_M → Prop} {X : String → sx_M → Prop}
def rm_L_pixel : Room := { frames := 8, cells := 1, slots := 6, locals := 127 }
set_option maxHeartbeats 4000000 in
set_option maxRecDepth 100000 in
theorem sm_L_pixel_18 (C : sx_C sr_lay sr_cl D cI cJ ad (sx_A sr_lay ad sz) 6 "StoneRingsLaw" method_3_code sr_ts p s m args c) (hZ : sx_Z (sx_A sr_lay ad sz) s s.heap) (hr : meth.sig.returnType = some .int) (hlk : meth.locks = false) {y1 y2 : Int} {μ : sx_M} (h : sw_L_pixel_18 Q y1 y2 μ) : sx_V sr_lay sr_cl D cI cJ ad (sx_A sr_lay ad sz) 6 p l e rm_L_pixel s m args below meth c (MQ below (sx_QI sr_lay sr_cl D cI cJ ad Q sz) args s 1 6 (sx_A sr_lay ad sz)) 0 0 μ 18 [] [.long (sx_j y2), .int (sx_i y1), .ref (ad 30)] := by
  unfold sw_L_pixel_18 at h
  refine sx_last (N := 1) C 30 rfl rfl (by decide) dd_L_pixel_18 h (fun h => ?_)
  refine sx_goto (tgt := 30) C dd_L_pixel_19 (by decide) ?_
  refine sx_iconst C dd_L_pixel_30 rfl ?_
  exact sx_iretL C hr hlk (Nat.le_of_ble_eq_true rfl) (Nat.le_of_ble_eq_true rfl) dd_L_pixel_31 h
set_option maxHeartbeats 4000000 in
set_option maxRecDepth 100000 in
theorem sm_L_pixel {l : Launch} {D : va_G} {cI cJ : ClassId} {ad : Nat → Nat} {Q : Int → sx_M → Prop} (hlf : l.stackTraces = false) {μ : sx_M} {a1 a2 a3 : Int} (h : sw_L_pixel Q μ a1 a2 a3) (sz : Nat) : sx_ML l yy_L_pixel (Cond.codeWith yy_L_pixel method_3_code 6 (some .int) [(0, 19, 22, 13), (0, 19, 26, 15)] :: sr_ts) rm_L_pixel sr_lay sr_cl D cI cJ ad [.ref (ad 0), .int (sx_i a1), .int (sx_i a2), .int (sx_i a3), .ref (ad 30)] μ Q 1 6 sz := by
  refine sx_bodyH (by decide +kernel) rfl (Nat.le_of_ble_eq_true rfl) ?_
  intro p e s m below meth c C hZ hr hlk htb
  unfold sw_L_pixel at h
  show sx_V sr_lay sr_cl D cI cJ ad (sx_A sr_lay ad sz) 6 p l e rm_L_pixel s m _ below meth c (MQ below (sx_QI sr_lay sr_cl D cI cJ ad Q sz) _ s 1 6 (sx_A sr_lay ad sz)) 0 0 μ 0 [(0, .ref (ad 0)), (1, .int (sx_i a1)), (2, .int (sx_i a2)), (3, .int (sx_i a3)), (4, .ref (ad 30))] []
  refine sx_aload C 4 dd_L_pixel_0 rfl ?_
  refine sx_iconst C dd_L_pixel_2 rfl ?_
  refine sx_aload_n C 0 dd_L_pixel_3 rfl rfl ?_
  refine sx_iload_n C 1 dd_L_pixel_4 rfl rfl ?_
  refine sx_iload_n C 2 dd_L_pixel_5 rfl rfl ?_
  refine sx_iload_n C 3 dd_L_pixel_6 rfl rfl ?_
  refine sx_invI (c0 := 0) C hZ [.int (sx_i a1), .int (sx_i a2), .int (sx_i a3)] (fun sz2 => sm_S_pixel hlf h sz2) (sx_cwV (n := 3) C.2.2.2.2.1 wd_193 wd_190 wd_191 wd_192 wd_1 rfl rfl (by decide +kernel) ⟨by decide, by decide⟩) rfl (rfl : sr_cl[4]? = some ("StoneRings", tt_S, 10)) rfl rfl (Nat.le_of_ble_eq_true rfl) dd_L_pixel_7 ⟨(Nat.le_of_ble_eq_true rfl), (Nat.le_of_ble_eq_true rfl)⟩ (fun E μ9 H locs ls ce q h hP hS hl h1 h2 h3 => by
      obtain ⟨hE, hA0, hA1⟩ := h
      rcases hE with rfl | rfl
      · exact sx_catch C hZ [] ⟨0, 19, 22, 13⟩ [⟨0, 19, 26, 15⟩] htb (fun z hz => by cases hz) (by decide) (by decide) wd_188 (List.mem_of_getElem? (i := 2) rfl) (fun q => sx_hand C hr hlk (Nat.le_of_ble_eq_true rfl) (Nat.le_of_ble_eq_true rfl) (by decide) dd_L_pixel_22 dd_L_pixel_24 dd_L_pixel_25 (hA0 rfl)) hP hS hl h1 h2 h3
      · exact sx_catch C hZ [⟨0, 19, 22, 13⟩] ⟨0, 19, 26, 15⟩ [] htb (by intro z hz; simp only [List.mem_cons, List.not_mem_nil, or_false] at hz; rcases hz with rfl <;> first | exact ⟨by decide, _, wd_188, by decide +kernel⟩) (by decide) (by decide) wd_189 (List.mem_of_getElem? (i := 9) rfl) (fun q => sx_hand C hr hlk (Nat.le_of_ble_eq_true rfl) (Nat.le_of_ble_eq_true rfl) (by decide) dd_L_pixel_26 dd_L_pixel_28 dd_L_pixel_29 (hA1 rfl)) hP hS hl h1 h2 h3) (fun v1 μ1 h => ?_)
  refine sx_if_eq (tgt := 17) C dd_L_pixel_10 (by decide) h (fun h => ?_) (fun h => ?_)
  · refine sx_lconst (v := 0) C dd_L_pixel_17 (by decide +kernel) ?_
    refine sx_less (lu := []) C [] rfl ?_
    exact sm_L_pixel_18 C hZ hr hlk h
  · refine sx_lconst (v := 1) C dd_L_pixel_13 (by decide +kernel) ?_
    refine sx_goto (tgt := 18) C dd_L_pixel_14 (by decide) ?_
    refine sx_less (lu := []) C [] rfl ?_
    exact sm_L_pixel_18 C hZ hr hlk h
def rm_L_middle : Room := { frames := 8, cells := 1, slots := 6, locals := 124 }
set_option maxHeartbeats 4000000 in
set_option maxRecDepth 100000 in
theorem sm_L_middle {l : Launch} {D : va_G} {cI cJ : ClassId} {ad : Nat → Nat} {Q : Int → sx_M → Prop} (hlf : l.stackTraces = false) {μ : sx_M} {a1 : Int} (h : sw_L_middle Q μ a1) (sz : Nat) : sx_ML l yy_L_middle (Cond.codeWith yy_L_middle method_4_code 4 (some .int) [(0, 9, 12, 13)] :: sr_ts) rm_L_middle sr_lay sr_cl D cI cJ ad [.ref (ad 0), .int (sx_i a1), .ref (ad 30)] μ Q 1 6 sz := by
  refine sx_bodyH (by decide +kernel) rfl (Nat.le_of_ble_eq_true rfl) ?_
  intro p e s m below meth c C hZ hr hlk htb
  unfold sw_L_middle at h
  show sx_V sr_lay sr_cl D cI cJ ad (sx_A sr_lay ad sz) 4 p l e rm_L_middle s m _ below meth c (MQ below (sx_QI sr_lay sr_cl D cI cJ ad Q sz) _ s 1 6 (sx_A sr_lay ad sz)) 0 0 μ 0 [(0, .ref (ad 0)), (1, .int (sx_i a1)), (2, .ref (ad 30))] []
  refine sx_aload_n C 2 dd_L_middle_0 rfl rfl ?_
  refine sx_iconst C dd_L_middle_1 rfl ?_
  refine sx_aload_n C 0 dd_L_middle_2 rfl rfl ?_
  refine sx_iload_n C 1 dd_L_middle_3 rfl rfl ?_
  refine sx_invI (c0 := 0) C hZ [.int (sx_i a1)] (fun sz2 => sm_S_middle hlf h sz2) (sx_cwV (n := 1) C.2.2.2.2.1 wd_300 wd_297 wd_298 wd_299 wd_1 rfl rfl (by decide +kernel) ⟨by decide, by decide⟩) rfl (rfl : sr_cl[4]? = some ("StoneRings", tt_S, 10)) rfl rfl (Nat.le_of_ble_eq_true rfl) dd_L_middle_4 ⟨(Nat.le_of_ble_eq_true rfl), (Nat.le_of_ble_eq_true rfl)⟩ (fun E μ9 H locs ls ce q h hP hS hl h1 h2 h3 => by
      obtain ⟨hE, hA0⟩ := h
      subst hE
      exact sx_catch C hZ [] ⟨0, 9, 12, 13⟩ [] htb (fun z hz => by cases hz) (by decide) (by decide) wd_188 (List.mem_of_getElem? (i := 2) rfl) (fun q => sx_handN C hr hlk (Nat.le_of_ble_eq_true rfl) (Nat.le_of_ble_eq_true rfl) (by decide) dd_L_middle_12 dd_L_middle_13 dd_L_middle_14 (hA0 rfl)) hP hS hl h1 h2 h3) (fun v1 μ1 h => ?_)
  refine sx_toL C dd_L_middle_7 h (fun h => ?_)
  refine sx_last (N := 1) C 30 rfl rfl (by decide) dd_L_middle_8 h (fun h => ?_)
  refine sx_goto (tgt := 15) C dd_L_middle_9 (by decide) ?_
  refine sx_iconst C dd_L_middle_15 rfl ?_
  exact sx_iretL C hr hlk (Nat.le_of_ble_eq_true rfl) (Nat.le_of_ble_eq_true rfl) dd_L_middle_16 h
def rm_L_ray : Room := { frames := 8, cells := 1, slots := 6, locals := 126 }
set_option maxHeartbeats 4000000 in
set_option maxRecDepth 100000 in
theorem sm_L_ray {l : Launch} {D : va_G} {cI cJ : ClassId} {ad : Nat → Nat} {Q : Int → sx_M → Prop} (hlf : l.stackTraces = false) {μ : sx_M} {a1 a2 : Int} (h : sw_L_ray Q μ a1 a2) (sz : Nat) : sx_ML l yy_L_ray (Cond.codeWith yy_L_ray method_5_code 5 (some .int) [(0, 10, 13, 15), (0, 10, 17, 25)] :: sr_ts) rm_L_ray sr_lay sr_cl D cI cJ ad [.ref (ad 0), .int (sx_i a1), .int (sx_i a2), .ref (ad 30)] μ Q 1 6 sz := by
  refine sx_bodyH (by decide +kernel) rfl (Nat.le_of_ble_eq_true rfl) ?_
  intro p e s m below meth c C hZ hr hlk htb
  unfold sw_L_ray at h
  show sx_V sr_lay sr_cl D cI cJ ad (sx_A sr_lay ad sz) 5 p l e rm_L_ray s m _ below meth c (MQ below (sx_QI sr_lay sr_cl D cI cJ ad Q sz) _ s 1 6 (sx_A sr_lay ad sz)) 0 0 μ 0 [(0, .ref (ad 0)), (1, .int (sx_i a1)), (2, .int (sx_i a2)), (3, .ref (ad 30))] []
  refine sx_aload_n C 3 dd_L_ray_0 rfl rfl ?_
  refine sx_iconst C dd_L_ray_1 rfl ?_
  refine sx_aload_n C 0 dd_L_ray_2 rfl rfl ?_
  refine sx_iload_n C 1 dd_L_ray_3 rfl rfl ?_
  refine sx_iload_n C 2 dd_L_ray_4 rfl rfl ?_
  refine sx_invI (c0 := 0) C hZ [.int (sx_i a1), .int (sx_i a2)] (fun sz2 => sm_S_ray hlf h sz2) (sx_cwV (n := 2) C.2.2.2.2.1 wd_326 wd_323 wd_324 wd_325 wd_1 rfl rfl (by decide +kernel) ⟨by decide, by decide⟩) rfl (rfl : sr_cl[4]? = some ("StoneRings", tt_S, 10)) rfl rfl (Nat.le_of_ble_eq_true rfl) dd_L_ray_5 ⟨(Nat.le_of_ble_eq_true rfl), (Nat.le_of_ble_eq_true rfl)⟩ (fun E μ9 H locs ls ce q h hP hS hl h1 h2 h3 => by
      obtain ⟨hE, hA0, hA1⟩ := h
      rcases hE with rfl | rfl
      · exact sx_catch C hZ [] ⟨0, 10, 13, 15⟩ [⟨0, 10, 17, 25⟩] htb (fun z hz => by cases hz) (by decide) (by decide) wd_189 (List.mem_of_getElem? (i := 9) rfl) (fun q => sx_hand C hr hlk (Nat.le_of_ble_eq_true rfl) (Nat.le_of_ble_eq_true rfl) (by decide) dd_L_ray_13 dd_L_ray_15 dd_L_ray_16 (hA0 rfl)) hP hS hl h1 h2 h3
      · exact sx_catch C hZ [⟨0, 10, 13, 15⟩] ⟨0, 10, 17, 25⟩ [] htb (by intro z hz; simp only [List.mem_cons, List.not_mem_nil, or_false] at hz; rcases hz with rfl <;> first | exact ⟨by decide, _, wd_189, by decide +kernel⟩) (by decide) (by decide) wd_322 (List.mem_of_getElem? (i := 11) rfl) (fun q => sx_hand C hr hlk (Nat.le_of_ble_eq_true rfl) (Nat.le_of_ble_eq_true rfl) (by decide) dd_L_ray_17 dd_L_ray_19 dd_L_ray_20 (hA1 rfl)) hP hS hl h1 h2 h3) (fun v1 μ1 h => ?_)
  refine sx_toL C dd_L_ray_8 h (fun h => ?_)
  refine sx_last (N := 1) C 30 rfl rfl (by decide) dd_L_ray_9 h (fun h => ?_)
  refine sx_goto (tgt := 21) C dd_L_ray_10 (by decide) ?_
  refine sx_iconst C dd_L_ray_21 rfl ?_
  exact sx_iretL C hr hlk (Nat.le_of_ble_eq_true rfl) (Nat.le_of_ble_eq_true rfl) dd_L_ray_22 h
def rm_L_samples : Room := { frames := 9, cells := 1, slots := 6, locals := 146 }
set_option maxHeartbeats 4000000 in
set_option maxRecDepth 100000 in
theorem sm_L_samples {l : Launch} {D : va_G} {cI cJ : ClassId} {ad : Nat → Nat} {Q : Int → sx_M → Prop} (hlf : l.stackTraces = false) {μ : sx_M} {a1 : Int} (h : sw_L_samples Q μ a1) (sz : Nat) : sx_ML l yy_L_samples (Cond.codeWith yy_L_samples method_6_code 4 (some .int) [(0, 9, 12, 13)] :: sr_ts) rm_L_samples sr_lay sr_cl D cI cJ ad [.ref (ad 0), .int (sx_i a1), .ref (ad 30)] μ Q 1 6 sz := by
  refine sx_bodyH (by decide +kernel) rfl (Nat.le_of_ble_eq_true rfl) ?_
  intro p e s m below meth c C hZ hr hlk htb
  unfold sw_L_samples at h
  show sx_V sr_lay sr_cl D cI cJ ad (sx_A sr_lay ad sz) 4 p l e rm_L_samples s m _ below meth c (MQ below (sx_QI sr_lay sr_cl D cI cJ ad Q sz) _ s 1 6 (sx_A sr_lay ad sz)) 0 0 μ 0 [(0, .ref (ad 0)), (1, .int (sx_i a1)), (2, .ref (ad 30))] []
  refine sx_aload_n C 2 dd_L_samples_0 rfl rfl ?_
  refine sx_iconst C dd_L_samples_1 rfl ?_
  refine sx_aload_n C 0 dd_L_samples_2 rfl rfl ?_
  refine sx_iload_n C 1 dd_L_samples_3 rfl rfl ?_
  refine sx_invI (c0 := 0) C hZ [.int (sx_i a1)] (fun sz2 => sm_S_samples hlf h sz2) (sx_cwV (n := 1) C.2.2.2.2.1 wd_350 wd_347 wd_348 wd_349 wd_1 rfl rfl (by decide +kernel) ⟨by decide, by decide⟩) rfl (rfl : sr_cl[4]? = some ("StoneRings", tt_S, 10)) rfl rfl (Nat.le_of_ble_eq_true rfl) dd_L_samples_4 ⟨(Nat.le_of_ble_eq_true rfl), (Nat.le_of_ble_eq_true rfl)⟩ (fun E μ9 H locs ls ce q h hP hS hl h1 h2 h3 => by
      obtain ⟨hE, hA0⟩ := h
      subst hE
      exact sx_catch C hZ [] ⟨0, 9, 12, 13⟩ [] htb (fun z hz => by cases hz) (by decide) (by decide) wd_188 (List.mem_of_getElem? (i := 2) rfl) (fun q => sx_handN C hr hlk (Nat.le_of_ble_eq_true rfl) (Nat.le_of_ble_eq_true rfl) (by decide) dd_L_samples_12 dd_L_samples_13 dd_L_samples_14 (hA0 rfl)) hP hS hl h1 h2 h3) (fun v1 μ1 h => ?_)
  refine sx_toL C dd_L_samples_7 h (fun h => ?_)
  refine sx_last (N := 1) C 30 rfl rfl (by decide) dd_L_samples_8 h (fun h => ?_)
  refine sx_goto (tgt := 15) C dd_L_samples_9 (by decide) ?_
  refine sx_iconst C dd_L_samples_15 rfl ?_
  exact sx_iretL C hr hlk (Nat.le_of_ble_eq_true rfl) (Nat.le_of_ble_eq_true rfl) dd_L_samples_16 h
def rm_L_sample : Room := { frames := 9, cells := 1, slots := 6, locals := 148 }
set_option maxHeartbeats 4000000 in
set_option maxRecDepth 100000 in
theorem sm_L_sample {l : Launch} {D : va_G} {cI cJ : ClassId} {ad : Nat → Nat} {Q : Int → sx_M → Prop} (hlf : l.stackTraces = false) {μ : sx_M} {a1 a2 a3 : Int} (h : sw_L_sample Q μ a1 a2 a3) (sz : Nat) : sx_ML l yy_L_sample (Cond.codeWith yy_L_sample method_7_code 6 (some .int) [(0, 12, 15, 13)] :: sr_ts) rm_L_sample sr_lay sr_cl D cI cJ ad [.ref (ad 0), .int (sx_i a1), .int (sx_i a2), .int (sx_i a3), .ref (ad 30)] μ Q 1 6 sz := by
  refine sx_bodyH (by decide +kernel) rfl (Nat.le_of_ble_eq_true rfl) ?_
  intro p e s m below meth c C hZ hr hlk htb
  unfold sw_L_sample at h
  show sx_V sr_lay sr_cl D cI cJ ad (sx_A sr_lay ad sz) 6 p l e rm_L_sample s m _ below meth c (MQ below (sx_QI sr_lay sr_cl D cI cJ ad Q sz) _ s 1 6 (sx_A sr_lay ad sz)) 0 0 μ 0 [(0, .ref (ad 0)), (1, .int (sx_i a1)), (2, .int (sx_i a2)), (3, .int (sx_i a3)), (4, .ref (ad 30))] []
  refine sx_aload C 4 dd_L_sample_0 rfl ?_
  refine sx_iconst C dd_L_sample_2 rfl ?_
  refine sx_aload_n C 0 dd_L_sample_3 rfl rfl ?_
  refine sx_iload_n C 1 dd_L_sample_4 rfl rfl ?_
  refine sx_iload_n C 2 dd_L_sample_5 rfl rfl ?_
  refine sx_iload_n C 3 dd_L_sample_6 rfl rfl ?_
  refine sx_invI (c0 := 0) C hZ [.int (sx_i a1), .int (sx_i a2), .int (sx_i a3)] (fun sz2 => sm_S_sample hlf h sz2) (sx_cwV (n := 3) C.2.2.2.2.1 wd_383 wd_380 wd_381 wd_382 wd_1 rfl rfl (by decide +kernel) ⟨by decide, by decide⟩) rfl (rfl : sr_cl[4]? = some ("StoneRings", tt_S, 10)) rfl rfl (Nat.le_of_ble_eq_true rfl) dd_L_sample_7 ⟨(Nat.le_of_ble_eq_true rfl), (Nat.le_of_ble_eq_true rfl)⟩ (fun E μ9 H locs ls ce q h hP hS hl h1 h2 h3 => by
      obtain ⟨hE, hA0⟩ := h
      subst hE
      exact sx_catch C hZ [] ⟨0, 12, 15, 13⟩ [] htb (fun z hz => by cases hz) (by decide) (by decide) wd_188 (List.mem_of_getElem? (i := 2) rfl) (fun q => sx_hand C hr hlk (Nat.le_of_ble_eq_true rfl) (Nat.le_of_ble_eq_true rfl) (by decide) dd_L_sample_15 dd_L_sample_17 dd_L_sample_18 (hA0 rfl)) hP hS hl h1 h2 h3) (fun v1 μ1 h => ?_)
  refine sx_toL C dd_L_sample_10 h (fun h => ?_)
  refine sx_last (N := 1) C 30 rfl rfl (by decide) dd_L_sample_11 h (fun h => ?_)
  refine sx_goto (tgt := 19) C dd_L_sample_12 (by decide) ?_
  refine sx_iconst C dd_L_sample_19 rfl ?_
  exact sx_iretL C hr hlk (Nat.le_of_ble_eq_true rfl) (Nat.le_of_ble_eq_true rfl) dd_L_sample_20 h
def rm_L_rule : Room := { frames := 8, cells := 1, slots := 6, locals := 126 }
set_option maxHeartbeats 4000000 in
set_option maxRecDepth 100000 in
theorem sm_L_rule {l : Launch} {D : va_G} {cI cJ : ClassId} {ad : Nat → Nat} {Q : Int → sx_M → Prop} (hlf : l.stackTraces = false) {μ : sx_M} {a1 a2 : Int} (h : sw_L_rule Q μ a1 a2) (sz : Nat) : sx_ML l yy_L_rule (Cond.codeWith yy_L_rule method_8_code 4 (some .int) [(0, 6, 9, 15)] :: sr_ts) rm_L_rule sr_lay sr_cl D cI cJ ad [.ref (ad 0), .int (sx_i a1), .int (sx_i a2)] μ Q 1 6 sz := by
  refine sx_bodyH (by decide +kernel) rfl (Nat.le_of_ble_eq_true rfl) ?_
  intro p e s m below meth c C hZ hr hlk htb
  unfold sw_L_rule at h
  show sx_V sr_lay sr_cl D cI cJ ad (sx_A sr_lay ad sz) 4 p l e rm_L_rule s m _ below meth c (MQ below (sx_QI sr_lay sr_cl D cI cJ ad Q sz) _ s 1 6 (sx_A sr_lay ad sz)) 0 0 μ 0 [(0, .ref (ad 0)), (1, .int (sx_i a1)), (2, .int (sx_i a2))] []
  refine sx_aload_n C 0 dd_L_rule_0 rfl rfl ?_
  refine sx_iload_n C 1 dd_L_rule_1 rfl rfl ?_
  refine sx_iload_n C 2 dd_L_rule_2 rfl rfl ?_
  refine sx_invV (c0 := 0) C hZ [.int (sx_i a1), .int (sx_i a2)] (fun sz2 => sm_S_rule hlf h sz2) (sx_cwV (n := 2) C.2.2.2.2.1 wd_390 wd_387 wd_388 wd_389 wd_1 rfl rfl (by decide +kernel) ⟨by decide, by decide⟩) rfl (rfl : sr_cl[4]? = some ("StoneRings", tt_S, 10)) rfl rfl (Nat.le_of_ble_eq_true rfl) dd_L_rule_3 ⟨(Nat.le_of_ble_eq_true rfl), (Nat.le_of_ble_eq_true rfl)⟩ (fun E μ9 H locs ls ce q h hP hS hl h1 h2 h3 => by
      obtain ⟨hE, hA0⟩ := h
      subst hE
      exact sx_catch C hZ [] ⟨0, 6, 9, 15⟩ [] htb (fun z hz => by cases hz) (by decide) (by decide) wd_189 (List.mem_of_getElem? (i := 9) rfl) (fun q => sx_handN C hr hlk (Nat.le_of_ble_eq_true rfl) (Nat.le_of_ble_eq_true rfl) (by decide) dd_L_rule_9 dd_L_rule_10 dd_L_rule_11 (hA0 rfl)) hP hS hl h1 h2 h3) (fun v1 μ1 h => ?_)
  refine sx_goto (tgt := 12) C dd_L_rule_6 (by decide) ?_
  refine sx_iconst C dd_L_rule_12 rfl ?_
  exact sx_iretL C hr hlk (Nat.le_of_ble_eq_true rfl) (Nat.le_of_ble_eq_true rfl) dd_L_rule_13 h
def rm_L_rings : Room := { frames := 9, cells := 1, slots := 6, locals := 146 }
set_option maxHeartbeats 4000000 in
set_option maxRecDepth 100000 in
theorem sm_L_rings {l : Launch} {D : va_G} {cI cJ : ClassId} {ad : Nat → Nat} {Q : Int → sx_M → Prop} (hlf : l.stackTraces = false) {μ : sx_M} {a1 : Int} (h : sw_L_rings Q μ a1) (sz : Nat) : sx_ML l yy_L_rings (Cond.codeWith yy_L_rings method_9_code 4 (some .int) [(0, 9, 12, 13)] :: sr_ts) rm_L_rings sr_lay sr_cl D cI cJ ad [.ref (ad 0), .int (sx_i a1), .ref (ad 30)] μ Q 1 6 sz := by
  refine sx_bodyH (by decide +kernel) rfl (Nat.le_of_ble_eq_true rfl) ?_
  intro p e s m below meth c C hZ hr hlk htb
  unfold sw_L_rings at h
  show sx_V sr_lay sr_cl D cI cJ ad (sx_A sr_lay ad sz) 4 p l e rm_L_rings s m _ below meth c (MQ below (sx_QI sr_lay sr_cl D cI cJ ad Q sz) _ s 1 6 (sx_A sr_lay ad sz)) 0 0 μ 0 [(0, .ref (ad 0)), (1, .int (sx_i a1)), (2, .ref (ad 30))] []
  refine sx_aload_n C 2 dd_L_rings_0 rfl rfl ?_
  refine sx_iconst C dd_L_rings_1 rfl ?_
  refine sx_aload_n C 0 dd_L_rings_2 rfl rfl ?_
  refine sx_iload_n C 1 dd_L_rings_3 rfl rfl ?_
  refine sx_invI (c0 := 0) C hZ [.int (sx_i a1)] (fun sz2 => sm_S_rings hlf h sz2) (sx_cwV (n := 1) C.2.2.2.2.1 wd_397 wd_394 wd_395 wd_396 wd_1 rfl rfl (by decide +kernel) ⟨by decide, by decide⟩) rfl (rfl : sr_cl[4]? = some ("StoneRings", tt_S, 10)) rfl rfl (Nat.le_of_ble_eq_true rfl) dd_L_rings_4 ⟨(Nat.le_of_ble_eq_true rfl), (Nat.le_of_ble_eq_true rfl)⟩ (fun E μ9 H locs ls ce q h hP hS hl h1 h2 h3 => by
      obtain ⟨hE, hA0⟩ := h
      subst hE
      exact sx_catch C hZ [] ⟨0, 9, 12, 13⟩ [] htb (fun z hz => by cases hz) (by decide) (by decide) wd_188 (List.mem_of_getElem? (i := 2) rfl) (fun q => sx_handN C hr hlk (Nat.le_of_ble_eq_true rfl) (Nat.le_of_ble_eq_true rfl) (by decide) dd_L_rings_12 dd_L_rings_13 dd_L_rings_14 (hA0 rfl)) hP hS hl h1 h2 h3) (fun v1 μ1 h => ?_)
  refine sx_toL C dd_L_rings_7 h (fun h => ?_)
  refine sx_last (N := 1) C 30 rfl rfl (by decide) dd_L_rings_8 h (fun h => ?_)
  refine sx_goto (tgt := 15) C dd_L_rings_9 (by decide) ?_
  refine sx_iconst C dd_L_rings_15 rfl ?_
  exact sx_iretL C hr hlk (Nat.le_of_ble_eq_true rfl) (Nat.le_of_ble_eq_true rfl) dd_L_rings_16 h
def rm_L_ring : Room := { frames := 9, cells := 1, slots := 6, locals := 148 }
set_option maxHeartbeats 4000000 in
set_option maxRecDepth 100000 in
theorem sm_L_ring {l : Launch} {D : va_G} {cI cJ : ClassId} {ad : Nat → Nat} {Q : Int → sx_M → Prop} (hlf : l.stackTraces = false) {μ : sx_M} {a1 a2 a3 : Int} (h : sw_L_ring Q μ a1 a2 a3) (sz : Nat) : sx_ML l yy_L_ring (Cond.codeWith yy_L_ring method_10_code 6 (some .int) [(0, 12, 15, 13)] :: sr_ts) rm_L_ring sr_lay sr_cl D cI cJ ad [.ref (ad 0), .int (sx_i a1), .int (sx_i a2), .int (sx_i a3), .ref (ad 30)] μ Q 1 6 sz := by
  refine sx_bodyH (by decide +kernel) rfl (Nat.le_of_ble_eq_true rfl) ?_
  intro p e s m below meth c C hZ hr hlk htb
  unfold sw_L_ring at h
  show sx_V sr_lay sr_cl D cI cJ ad (sx_A sr_lay ad sz) 6 p l e rm_L_ring s m _ below meth c (MQ below (sx_QI sr_lay sr_cl D cI cJ ad Q sz) _ s 1 6 (sx_A sr_lay ad sz)) 0 0 μ 0 [(0, .ref (ad 0)), (1, .int (sx_i a1)), (2, .int (sx_i a2)), (3, .int (sx_i a3)), (4, .ref (ad 30))] []
  refine sx_aload C 4 dd_L_ring_0 rfl ?_
  refine sx_iconst C dd_L_ring_2 rfl ?_
  refine sx_aload_n C 0 dd_L_ring_3 rfl rfl ?_
  refine sx_iload_n C 1 dd_L_ring_4 rfl rfl ?_
  refine sx_iload_n C 2 dd_L_ring_5 rfl rfl ?_
  refine sx_iload_n C 3 dd_L_ring_6 rfl rfl ?_
  refine sx_invI (c0 := 0) C hZ [.int (sx_i a1), .int (sx_i a2), .int (sx_i a3)] (fun sz2 => sm_S_ring hlf h sz2) (sx_cwV (n := 3) C.2.2.2.2.1 wd_404 wd_401 wd_402 wd_403 wd_1 rfl rfl (by decide +kernel) ⟨by decide, by decide⟩) rfl (rfl : sr_cl[4]? = some ("StoneRings", tt_S, 10)) rfl rfl (Nat.le_of_ble_eq_true rfl) dd_L_ring_7 ⟨(Nat.le_of_ble_eq_true rfl), (Nat.le_of_ble_eq_true rfl)⟩ (fun E μ9 H locs ls ce q h hP hS hl h1 h2 h3 => by
      obtain ⟨hE, hA0⟩ := h
      subst hE
      exact sx_catch C hZ [] ⟨0, 12, 15, 13⟩ [] htb (fun z hz => by cases hz) (by decide) (by decide) wd_188 (List.mem_of_getElem? (i := 2) rfl) (fun q => sx_hand C hr hlk (Nat.le_of_ble_eq_true rfl) (Nat.le_of_ble_eq_true rfl) (by decide) dd_L_ring_15 dd_L_ring_17 dd_L_ring_18 (hA0 rfl)) hP hS hl h1 h2 h3) (fun v1 μ1 h => ?_)
  refine sx_toL C dd_L_ring_10 h (fun h => ?_)
  refine sx_last (N := 1) C 30 rfl rfl (by decide) dd_L_ring_11 h (fun h => ?_)
  refine sx_goto (tgt := 19) C dd_L_ring_12 (by decide) ?_
  refine sx_iconst C dd_L_ring_19 rfl ?_
  exact sx_iretL C hr hlk (Nat.le_of_ble_eq_true rfl) (Nat.le_of_ble_eq_true rfl) dd_L_ring_20 h
def rm_L_join : Room := { frames := 9, cells := 1, slots := 6, locals := 148 }
set_option maxHeartbeats 4000000 in
set_option maxRecDepth 100000 in
theorem sm_L_join {l : Launch} {D : va_G} {cI cJ : ClassId} {ad : Nat → Nat} {Q : Int → sx_M → Prop} (hlf : l.stackTraces = false) {μ : sx_M} {a1 a2 a3 : Int} (h : sw_L_join Q μ a1 a2 a3) (sz : Nat) : sx_ML l yy_L_join (Cond.codeWith yy_L_join method_11_code 6 (some .int) [(0, 12, 15, 13), (0, 12, 19, 15)] :: sr_ts) rm_L_join sr_lay sr_cl D cI cJ ad [.ref (ad 0), .int (sx_i a1), .int (sx_i a2), .int (sx_i a3), .ref (ad 30)] μ Q 1 6 sz := by
  refine sx_bodyH (by decide +kernel) rfl (Nat.le_of_ble_eq_true rfl) ?_
  intro p e s m below meth c C hZ hr hlk htb
  unfold sw_L_join at h
  show sx_V sr_lay sr_cl D cI cJ ad (sx_A sr_lay ad sz) 6 p l e rm_L_join s m _ below meth c (MQ below (sx_QI sr_lay sr_cl D cI cJ ad Q sz) _ s 1 6 (sx_A sr_lay ad sz)) 0 0 μ 0 [(0, .ref (ad 0)), (1, .int (sx_i a1)), (2, .int (sx_i a2)), (3, .int (sx_i a3)), (4, .ref (ad 30))] []
  refine sx_aload C 4 dd_L_join_0 rfl ?_
  refine sx_iconst C dd_L_join_2 rfl ?_
  refine sx_aload_n C 0 dd_L_join_3 rfl rfl ?_
  refine sx_iload_n C 1 dd_L_join_4 rfl rfl ?_
  refine sx_iload_n C 2 dd_L_join_5 rfl rfl ?_
  refine sx_iload_n C 3 dd_L_join_6 rfl rfl ?_
  refine sx_invI (c0 := 0) C hZ [.int (sx_i a1), .int (sx_i a2), .int (sx_i a3)] (fun sz2 => sm_S_join hlf h sz2) (sx_cwV (n := 3) C.2.2.2.2.1 wd_420 wd_417 wd_418 wd_419 wd_1 rfl rfl (by decide +kernel) ⟨by decide, by decide⟩) rfl (rfl : sr_cl[4]? = some ("StoneRings", tt_S, 10)) rfl rfl (Nat.le_of_ble_eq_true rfl) dd_L_join_7 ⟨(Nat.le_of_ble_eq_true rfl), (Nat.le_of_ble_eq_true rfl)⟩ (fun E μ9 H locs ls ce q h hP hS hl h1 h2 h3 => by
      obtain ⟨hE, hA0, hA1⟩ := h
      rcases hE with rfl | rfl
      · exact sx_catch C hZ [] ⟨0, 12, 15, 13⟩ [⟨0, 12, 19, 15⟩] htb (fun z hz => by cases hz) (by decide) (by decide) wd_188 (List.mem_of_getElem? (i := 2) rfl) (fun q => sx_hand C hr hlk (Nat.le_of_ble_eq_true rfl) (Nat.le_of_ble_eq_true rfl) (by decide) dd_L_join_15 dd_L_join_17 dd_L_join_18 (hA0 rfl)) hP hS hl h1 h2 h3
      · exact sx_catch C hZ [⟨0, 12, 15, 13⟩] ⟨0, 12, 19, 15⟩ [] htb (by intro z hz; simp only [List.mem_cons, List.not_mem_nil, or_false] at hz; rcases hz with rfl <;> first | exact ⟨by decide, _, wd_188, by decide +kernel⟩) (by decide) (by decide) wd_189 (List.mem_of_getElem? (i := 9) rfl) (fun q => sx_hand C hr hlk (Nat.le_of_ble_eq_true rfl) (Nat.le_of_ble_eq_true rfl) (by decide) dd_L_join_19 dd_L_join_21 dd_L_join_22 (hA1 rfl)) hP hS hl h1 h2 h3) (fun v1 μ1 h => ?_)
  refine sx_toL C dd_L_join_10 h (fun h => ?_)
  refine sx_last (N := 1) C 30 rfl rfl (by decide) dd_L_join_11 h (fun h => ?_)
  refine sx_goto (tgt := 23) C dd_L_join_12 (by decide) ?_
  refine sx_iconst C dd_L_join_23 rfl ?_
  exact sx_iretL C hr hlk (Nat.le_of_ble_eq_true rfl) (Nat.le_of_ble_eq_true rfl) dd_L_join_24 h
def rm_L_joined : Room := { frames := 8, cells := 1, slots := 6, locals := 124 }
set_option maxHeartbeats 4000000 in
set_option maxRecDepth 100000 in
theorem sm_L_joined {l : Launch} {D : va_G} {cI cJ : ClassId} {ad : Nat → Nat} {Q : Int → sx_M → Prop} (hlf : l.stackTraces = false) {μ : sx_M} {a1 : Int} (h : sw_L_joined Q μ a1) (sz : Nat) : sx_ML l yy_L_joined (Cond.codeWith yy_L_joined method_12_code 4 (some .int) [(0, 9, 12, 25), (0, 9, 15, 13)] :: sr_ts) rm_L_joined sr_lay sr_cl D cI cJ ad [.ref (ad 0), .int (sx_i a1), .ref (ad 30)] μ Q 1 6 sz := by
  refine sx_bodyH (by decide +kernel) rfl (Nat.le_of_ble_eq_true rfl) ?_
  intro p e s m below meth c C hZ hr hlk htb
  unfold sw_L_joined at h
  show sx_V sr_lay sr_cl D cI cJ ad (sx_A sr_lay ad sz) 4 p l e rm_L_joined s m _ below meth c (MQ below (sx_QI sr_lay sr_cl D cI cJ ad Q sz) _ s 1 6 (sx_A sr_lay ad sz)) 0 0 μ 0 [(0, .ref (ad 0)), (1, .int (sx_i a1)), (2, .ref (ad 30))] []
  refine sx_aload_n C 2 dd_L_joined_0 rfl rfl ?_
  refine sx_iconst C dd_L_joined_1 rfl ?_
  refine sx_aload_n C 0 dd_L_joined_2 rfl rfl ?_
  refine sx_iload_n C 1 dd_L_joined_3 rfl rfl ?_
  refine sx_invI (c0 := 0) C hZ [.int (sx_i a1)] (fun sz2 => sm_S_joined hlf h sz2) (sx_cwV (n := 1) C.2.2.2.2.1 wd_449 wd_446 wd_447 wd_448 wd_1 rfl rfl (by decide +kernel) ⟨by decide, by decide⟩) rfl (rfl : sr_cl[4]? = some ("StoneRings", tt_S, 10)) rfl rfl (Nat.le_of_ble_eq_true rfl) dd_L_joined_4 ⟨(Nat.le_of_ble_eq_true rfl), (Nat.le_of_ble_eq_true rfl)⟩ (fun E μ9 H locs ls ce q h hP hS hl h1 h2 h3 => by
      obtain ⟨hE, hA0, hA1⟩ := h
      rcases hE with rfl | rfl
      · exact sx_catch C hZ [] ⟨0, 9, 12, 25⟩ [⟨0, 9, 15, 13⟩] htb (fun z hz => by cases hz) (by decide) (by decide) wd_322 (List.mem_of_getElem? (i := 11) rfl) (fun q => sx_handN C hr hlk (Nat.le_of_ble_eq_true rfl) (Nat.le_of_ble_eq_true rfl) (by decide) dd_L_joined_12 dd_L_joined_13 dd_L_joined_14 (hA0 rfl)) hP hS hl h1 h2 h3
      · exact sx_catch C hZ [⟨0, 9, 12, 25⟩] ⟨0, 9, 15, 13⟩ [] htb (by intro z hz; simp only [List.mem_cons, List.not_mem_nil, or_false] at hz; rcases hz with rfl <;> first | exact ⟨by decide, _, wd_322, by decide +kernel⟩) (by decide) (by decide) wd_188 (List.mem_of_getElem? (i := 2) rfl) (fun q => sx_handN C hr hlk (Nat.le_of_ble_eq_true rfl) (Nat.le_of_ble_eq_true rfl) (by decide) dd_L_joined_15 dd_L_joined_16 dd_L_joined_17 (hA1 rfl)) hP hS hl h1 h2 h3) (fun v1 μ1 h => ?_)
  refine sx_toL C dd_L_joined_7 h (fun h => ?_)
  refine sx_last (N := 1) C 30 rfl rfl (by decide) dd_L_joined_8 h (fun h => ?_)
  refine sx_goto (tgt := 18) C dd_L_joined_9 (by decide) ?_
  refine sx_iconst C dd_L_joined_18 rfl ?_
  exact sx_iretL C hr hlk (Nat.le_of_ble_eq_true rfl) (Nat.le_of_ble_eq_true rfl) dd_L_joined_19 h
def rm_L_back : Room := { frames := 9, cells := 1, slots := 6, locals := 148 }
set_option maxHeartbeats 4000000 in
set_option maxRecDepth 100000 in
theorem sm_L_back {l : Launch} {D : va_G} {cI cJ : ClassId} {ad : Nat → Nat} {Q : Int → sx_M → Prop} (hlf : l.stackTraces = false) {μ : sx_M} {a1 a2 a3 : Int} (h : sw_L_back Q μ a1 a2 a3) (sz : Nat) : sx_ML l yy_L_back (Cond.codeWith yy_L_back method_13_code 6 (some .int) [(0, 12, 15, 13), (0, 12, 19, 15)] :: sr_ts) rm_L_back sr_lay sr_cl D cI cJ ad [.ref (ad 0), .int (sx_i a1), .int (sx_i a2), .int (sx_i a3), .ref (ad 30)] μ Q 1 6 sz := by
  refine sx_bodyH (by decide +kernel) rfl (Nat.le_of_ble_eq_true rfl) ?_
  intro p e s m below meth c C hZ hr hlk htb
  unfold sw_L_back at h
  show sx_V sr_lay sr_cl D cI cJ ad (sx_A sr_lay ad sz) 6 p l e rm_L_back s m _ below meth c (MQ below (sx_QI sr_lay sr_cl D cI cJ ad Q sz) _ s 1 6 (sx_A sr_lay ad sz)) 0 0 μ 0 [(0, .ref (ad 0)), (1, .int (sx_i a1)), (2, .int (sx_i a2)), (3, .int (sx_i a3)), (4, .ref (ad 30))] []
  refine sx_aload C 4 dd_L_back_0 rfl ?_
  refine sx_iconst C dd_L_back_2 rfl ?_
  refine sx_aload_n C 0 dd_L_back_3 rfl rfl ?_
  refine sx_iload_n C 1 dd_L_back_4 rfl rfl ?_
  refine sx_iload_n C 2 dd_L_back_5 rfl rfl ?_
  refine sx_iload_n C 3 dd_L_back_6 rfl rfl ?_
  refine sx_invI (c0 := 0) C hZ [.int (sx_i a1), .int (sx_i a2), .int (sx_i a3)] (fun sz2 => sm_S_back hlf h sz2) (sx_cwV (n := 3) C.2.2.2.2.1 wd_457 wd_454 wd_455 wd_456 wd_1 rfl rfl (by decide +kernel) ⟨by decide, by decide⟩) rfl (rfl : sr_cl[4]? = some ("StoneRings", tt_S, 10)) rfl rfl (Nat.le_of_ble_eq_true rfl) dd_L_back_7 ⟨(Nat.le_of_ble_eq_true rfl), (Nat.le_of_ble_eq_true rfl)⟩ (fun E μ9 H locs ls ce q h hP hS hl h1 h2 h3 => by
      obtain ⟨hE, hA0, hA1⟩ := h
      rcases hE with rfl | rfl
      · exact sx_catch C hZ [] ⟨0, 12, 15, 13⟩ [⟨0, 12, 19, 15⟩] htb (fun z hz => by cases hz) (by decide) (by decide) wd_188 (List.mem_of_getElem? (i := 2) rfl) (fun q => sx_hand C hr hlk (Nat.le_of_ble_eq_true rfl) (Nat.le_of_ble_eq_true rfl) (by decide) dd_L_back_15 dd_L_back_17 dd_L_back_18 (hA0 rfl)) hP hS hl h1 h2 h3
      · exact sx_catch C hZ [⟨0, 12, 15, 13⟩] ⟨0, 12, 19, 15⟩ [] htb (by intro z hz; simp only [List.mem_cons, List.not_mem_nil, or_false] at hz; rcases hz with rfl <;> first | exact ⟨by decide, _, wd_188, by decide +kernel⟩) (by decide) (by decide) wd_189 (List.mem_of_getElem? (i := 9) rfl) (fun q => sx_hand C hr hlk (Nat.le_of_ble_eq_true rfl) (Nat.le_of_ble_eq_true rfl) (by decide) dd_L_back_19 dd_L_back_21 dd_L_back_22 (hA1 rfl)) hP hS hl h1 h2 h3) (fun v1 μ1 h => ?_)
  refine sx_toL C dd_L_back_10 h (fun h => ?_)
  refine sx_last (N := 1) C 30 rfl rfl (by decide) dd_L_back_11 h (fun h => ?_)
  refine sx_goto (tgt := 23) C dd_L_back_12 (by decide) ?_
  refine sx_iconst C dd_L_back_23 rfl ?_
  exact sx_iretL C hr hlk (Nat.le_of_ble_eq_true rfl) (Nat.le_of_ble_eq_true rfl) dd_L_back_24 h
def rm_L_tell : Room := { frames := 8, cells := 1, slots := 6, locals := 127 }
set_option maxHeartbeats 4000000 in
set_option maxRecDepth 100000 in
theorem sm_L_tell {l : Launch} {D : va_G} {cI cJ : ClassId} {ad : Nat → Nat} {Q : Int → sx_M → Prop} (hlf : l.stackTraces = false) {μ : sx_M} {a1 a2 a3 : Int} (h : sw_L_tell Q μ a1 a2 a3) (sz : Nat) : sx_ML l yy_L_tell (Cond.codeWith yy_L_tell method_14_code 5 (some .int) [(0, 7, 10, 13), (0, 7, 14, 15), (0, 7, 18, 25)] :: sr_ts) rm_L_tell sr_lay sr_cl D cI cJ ad [.ref (ad 0), .int (sx_i a1), .int (sx_i a2), .int (sx_i a3)] μ Q 1 6 sz := by
  refine sx_bodyH (by decide +kernel) rfl (Nat.le_of_ble_eq_true rfl) ?_
  intro p e s m below meth c C hZ hr hlk htb
  unfold sw_L_tell at h
  show sx_V sr_lay sr_cl D cI cJ ad (sx_A sr_lay ad sz) 5 p l e rm_L_tell s m _ below meth c (MQ below (sx_QI sr_lay sr_cl D cI cJ ad Q sz) _ s 1 6 (sx_A sr_lay ad sz)) 0 0 μ 0 [(0, .ref (ad 0)), (1, .int (sx_i a1)), (2, .int (sx_i a2)), (3, .int (sx_i a3))] []
  refine sx_aload_n C 0 dd_L_tell_0 rfl rfl ?_
  refine sx_iload_n C 1 dd_L_tell_1 rfl rfl ?_
  refine sx_iload_n C 2 dd_L_tell_2 rfl rfl ?_
  refine sx_iload_n C 3 dd_L_tell_3 rfl rfl ?_
  refine sx_invV (c0 := 0) C hZ [.int (sx_i a1), .int (sx_i a2), .int (sx_i a3)] (fun sz2 => sm_S_tell hlf h sz2) (sx_cwV (n := 3) C.2.2.2.2.1 wd_466 wd_463 wd_464 wd_465 wd_1 rfl rfl (by decide +kernel) ⟨by decide, by decide⟩) rfl (rfl : sr_cl[4]? = some ("StoneRings", tt_S, 10)) rfl rfl (Nat.le_of_ble_eq_true rfl) dd_L_tell_4 ⟨(Nat.le_of_ble_eq_true rfl), (Nat.le_of_ble_eq_true rfl)⟩ (fun E μ9 H locs ls ce q h hP hS hl h1 h2 h3 => by
      obtain ⟨hE, hA0, hA1, hA2⟩ := h
      rcases hE with rfl | rfl | rfl
      · exact sx_catch C hZ [] ⟨0, 7, 10, 13⟩ [⟨0, 7, 14, 15⟩, ⟨0, 7, 18, 25⟩] htb (fun z hz => by cases hz) (by decide) (by decide) wd_188 (List.mem_of_getElem? (i := 2) rfl) (fun q => sx_hand C hr hlk (Nat.le_of_ble_eq_true rfl) (Nat.le_of_ble_eq_true rfl) (by decide) dd_L_tell_10 dd_L_tell_12 dd_L_tell_13 (hA0 rfl)) hP hS hl h1 h2 h3
      · exact sx_catch C hZ [⟨0, 7, 10, 13⟩] ⟨0, 7, 14, 15⟩ [⟨0, 7, 18, 25⟩] htb (by intro z hz; simp only [List.mem_cons, List.not_mem_nil, or_false] at hz; rcases hz with rfl <;> first | exact ⟨by decide, _, wd_188, by decide +kernel⟩) (by decide) (by decide) wd_189 (List.mem_of_getElem? (i := 9) rfl) (fun q => sx_hand C hr hlk (Nat.le_of_ble_eq_true rfl) (Nat.le_of_ble_eq_true rfl) (by decide) dd_L_tell_14 dd_L_tell_16 dd_L_tell_17 (hA1 rfl)) hP hS hl h1 h2 h3
      · exact sx_catch C hZ [⟨0, 7, 10, 13⟩, ⟨0, 7, 14, 15⟩] ⟨0, 7, 18, 25⟩ [] htb (by intro z hz; simp only [List.mem_cons, List.not_mem_nil, or_false] at hz; rcases hz with rfl | rfl <;> first | exact ⟨by decide, _, wd_188, by decide +kernel⟩ | exact ⟨by decide, _, wd_189, by decide +kernel⟩) (by decide) (by decide) wd_322 (List.mem_of_getElem? (i := 11) rfl) (fun q => sx_hand C hr hlk (Nat.le_of_ble_eq_true rfl) (Nat.le_of_ble_eq_true rfl) (by decide) dd_L_tell_18 dd_L_tell_20 dd_L_tell_21 (hA2 rfl)) hP hS hl h1 h2 h3) (fun v1 μ1 h => ?_)
  refine sx_goto (tgt := 22) C dd_L_tell_7 (by decide) ?_
  refine sx_iconst C dd_L_tell_22 rfl ?_
  exact sx_iretL C hr hlk (Nat.le_of_ble_eq_true rfl) (Nat.le_of_ble_eq_true rfl) dd_L_tell_23 h
def rm_L_may : Room := { frames := 8, cells := 1, slots := 6, locals := 125 }
set_option maxHeartbeats 4000000 in
set_option maxRecDepth 100000 in
theorem sm_L_may_16 (C : sx_C sr_lay sr_cl D cI cJ ad (sx_A sr_lay ad sz) 5 "StoneRingsLaw" method_15_code sr_ts p s m args c) (hZ : sx_Z (sx_A sr_lay ad sz) s s.heap) (hr : meth.sig.returnType = some .int) (hlk : meth.locks = false) {y1 y2 : Int} {μ : sx_M} (h : sw_L_may_16 Q y1 y2 μ) : sx_V sr_lay sr_cl D cI cJ ad (sx_A sr_lay ad sz) 5 p l e rm_L_may s m args below meth c (MQ below (sx_QI sr_lay sr_cl D cI cJ ad Q sz) args s 1 6 (sx_A sr_lay ad sz)) 0 0 μ 16 [] [.long (sx_j y2), .int (sx_i y1), .ref (ad 30)] := by
  unfold sw_L_may_16 at h
  refine sx_last (N := 1) C 30 rfl rfl (by decide) dd_L_may_16 h (fun h => ?_)
  refine sx_goto (tgt := 24) C dd_L_may_17 (by decide) ?_
  refine sx_iconst C dd_L_may_24 rfl ?_
  exact sx_iretL C hr hlk (Nat.le_of_ble_eq_true rfl) (Nat.le_of_ble_eq_true rfl) dd_L_may_25 h
set_option maxHeartbeats 4000000 in
set_option maxRecDepth 100000 in
theorem sm_L_may {l : Launch} {D : va_G} {cI cJ : ClassId} {ad : Nat → Nat} {Q : Int → sx_M → Prop} (hlf : l.stackTraces = false) {μ : sx_M} {a1 a2 : Int} (h : sw_L_may Q μ a1 a2) (sz : Nat) : sx_ML l yy_L_may (Cond.codeWith yy_L_may method_15_code 5 (some .int) [(0, 17, 20, 13)] :: sr_ts) rm_L_may sr_lay sr_cl D cI cJ ad [.ref (ad 0), .int (sx_i a1), .int (sx_i a2), .ref (ad 30)] μ Q 1 6 sz := by
  refine sx_bodyH (by decide +kernel) rfl (Nat.le_of_ble_eq_true rfl) ?_
  intro p e s m below meth c C hZ hr hlk htb
  unfold sw_L_may at h
  show sx_V sr_lay sr_cl D cI cJ ad (sx_A sr_lay ad sz) 5 p l e rm_L_may s m _ below meth c (MQ below (sx_QI sr_lay sr_cl D cI cJ ad Q sz) _ s 1 6 (sx_A sr_lay ad sz)) 0 0 μ 0 [(0, .ref (ad 0)), (1, .int (sx_i a1)), (2, .int (sx_i a2)), (3, .ref (ad 30))] []
  refine sx_aload_n C 3 dd_L_may_0 rfl rfl ?_
  refine sx_iconst C dd_L_may_1 rfl ?_
  refine sx_aload_n C 0 dd_L_may_2 rfl rfl ?_
  refine sx_iload_n C 1 dd_L_may_3 rfl rfl ?_
  refine sx_iload_n C 2 dd_L_may_4 rfl rfl ?_
  refine sx_invI (c0 := 0) C hZ [.int (sx_i a1), .int (sx_i a2)] (fun sz2 => sm_S_may hlf h sz2) (sx_cwV (n := 2) C.2.2.2.2.1 wd_482 wd_479 wd_480 wd_481 wd_1 rfl rfl (by decide +kernel) ⟨by decide, by decide⟩) rfl (rfl : sr_cl[4]? = some ("StoneRings", tt_S, 10)) rfl rfl (Nat.le_of_ble_eq_true rfl) dd_L_may_5 ⟨(Nat.le_of_ble_eq_true rfl), (Nat.le_of_ble_eq_true rfl)⟩ (fun E μ9 H locs ls ce q h hP hS hl h1 h2 h3 => by
      obtain ⟨hE, hA0⟩ := h
      subst hE
      exact sx_catch C hZ [] ⟨0, 17, 20, 13⟩ [] htb (fun z hz => by cases hz) (by decide) (by decide) wd_188 (List.mem_of_getElem? (i := 2) rfl) (fun q => sx_hand C hr hlk (Nat.le_of_ble_eq_true rfl) (Nat.le_of_ble_eq_true rfl) (by decide) dd_L_may_20 dd_L_may_22 dd_L_may_23 (hA0 rfl)) hP hS hl h1 h2 h3) (fun v1 μ1 h => ?_)
  refine sx_if_eq (tgt := 15) C dd_L_may_8 (by decide) h (fun h => ?_) (fun h => ?_)
  · refine sx_lconst (v := 0) C dd_L_may_15 (by decide +kernel) ?_
    refine sx_less (lu := []) C [] rfl ?_
    exact sm_L_may_16 C hZ hr hlk h
  · refine sx_lconst (v := 1) C dd_L_may_11 (by decide +kernel) ?_
    refine sx_goto (tgt := 16) C dd_L_may_12 (by decide) ?_
    refine sx_less (lu := []) C [] rfl ?_
    exact sm_L_may_16 C hZ hr hlk h
def rm_L_seen : Room := { frames := 8, cells := 1, slots := 6, locals := 126 }
set_option maxHeartbeats 4000000 in
set_option maxRecDepth 100000 in
theorem sm_L_seen {l : Launch} {D : va_G} {cI cJ : ClassId} {ad : Nat → Nat} {Q : Int → sx_M → Prop} (hlf : l.stackTraces = false) {μ : sx_M} {a1 a2 a3 : Int} (h : sw_L_seen Q μ a1 a2 a3) (sz : Nat) : sx_ML l yy_L_seen (Cond.codeWith yy_L_seen method_16_code 6 (some .int) [(0, 12, 15, 13), (0, 12, 19, 25)] :: sr_ts) rm_L_seen sr_lay sr_cl D cI cJ ad [.ref (ad 0), .int (sx_i a1), .int (sx_i a2), .int (sx_i a3), .ref (ad 30)] μ Q 1 6 sz := by
  refine sx_bodyH (by decide +kernel) rfl (Nat.le_of_ble_eq_true rfl) ?_
  intro p e s m below meth c C hZ hr hlk htb
  unfold sw_L_seen at h
  show sx_V sr_lay sr_cl D cI cJ ad (sx_A sr_lay ad sz) 6 p l e rm_L_seen s m _ below meth c (MQ below (sx_QI sr_lay sr_cl D cI cJ ad Q sz) _ s 1 6 (sx_A sr_lay ad sz)) 0 0 μ 0 [(0, .ref (ad 0)), (1, .int (sx_i a1)), (2, .int (sx_i a2)), (3, .int (sx_i a3)), (4, .ref (ad 30))] []
  refine sx_aload C 4 dd_L_seen_0 rfl ?_
  refine sx_iconst C dd_L_seen_2 rfl ?_
  refine sx_aload_n C 0 dd_L_seen_3 rfl rfl ?_
  refine sx_iload_n C 1 dd_L_seen_4 rfl rfl ?_
  refine sx_iload_n C 2 dd_L_seen_5 rfl rfl ?_
  refine sx_iload_n C 3 dd_L_seen_6 rfl rfl ?_
  refine sx_invI (c0 := 0) C hZ [.int (sx_i a1), .int (sx_i a2), .int (sx_i a3)] (fun sz2 => sm_S_seen hlf h sz2) (sx_cwV (n := 3) C.2.2.2.2.1 wd_489 wd_486 wd_487 wd_488 wd_1 rfl rfl (by decide +kernel) ⟨by decide, by decide⟩) rfl (rfl : sr_cl[4]? = some ("StoneRings", tt_S, 10)) rfl rfl (Nat.le_of_ble_eq_true rfl) dd_L_seen_7 ⟨(Nat.le_of_ble_eq_true rfl), (Nat.le_of_ble_eq_true rfl)⟩ (fun E μ9 H locs ls ce q h hP hS hl h1 h2 h3 => by
      obtain ⟨hE, hA0, hA1⟩ := h
      rcases hE with rfl | rfl
      · exact sx_catch C hZ [] ⟨0, 12, 15, 13⟩ [⟨0, 12, 19, 25⟩] htb (fun z hz => by cases hz) (by decide) (by decide) wd_188 (List.mem_of_getElem? (i := 2) rfl) (fun q => sx_hand C hr hlk (Nat.le_of_ble_eq_true rfl) (Nat.le_of_ble_eq_true rfl) (by decide) dd_L_seen_15 dd_L_seen_17 dd_L_seen_18 (hA0 rfl)) hP hS hl h1 h2 h3
      · exact sx_catch C hZ [⟨0, 12, 15, 13⟩] ⟨0, 12, 19, 25⟩ [] htb (by intro z hz; simp only [List.mem_cons, List.not_mem_nil, or_false] at hz; rcases hz with rfl <;> first | exact ⟨by decide, _, wd_188, by decide +kernel⟩) (by decide) (by decide) wd_322 (List.mem_of_getElem? (i := 11) rfl) (fun q => sx_hand C hr hlk (Nat.le_of_ble_eq_true rfl) (Nat.le_of_ble_eq_true rfl) (by decide) dd_L_seen_19 dd_L_seen_21 dd_L_seen_22 (hA1 rfl)) hP hS hl h1 h2 h3) (fun v1 μ1 h => ?_)
  refine sx_toL C dd_L_seen_10 h (fun h => ?_)
  refine sx_last (N := 1) C 30 rfl rfl (by decide) dd_L_seen_11 h (fun h => ?_)
  refine sx_goto (tgt := 23) C dd_L_seen_12 (by decide) ?_
  refine sx_iconst C dd_L_seen_23 rfl ?_
  exact sx_iretL C hr hlk (Nat.le_of_ble_eq_true rfl) (Nat.le_of_ble_eq_true rfl) dd_L_seen_24 h
def rm_L_agree : Room := { frames := 9, cells := 1, slots := 6, locals := 148 }
set_option maxHeartbeats 4000000 in
set_option maxRecDepth 100000 in
theorem sm_L_agree {l : Launch} {D : va_G} {cI cJ : ClassId} {ad : Nat → Nat} {Q : Int → sx_M → Prop} (hlf : l.stackTraces = false) {μ : sx_M} {a1 a2 a3 : Int} (h : sw_L_agree Q μ a1 a2 a3) (sz : Nat) : sx_ML l yy_L_agree (Cond.codeWith yy_L_agree method_17_code 6 (some .int) [(0, 12, 15, 13)] :: sr_ts) rm_L_agree sr_lay sr_cl D cI cJ ad [.ref (ad 0), .int (sx_i a1), .int (sx_i a2), .int (sx_i a3), .ref (ad 30)] μ Q 1 6 sz := by
  refine sx_bodyH (by decide +kernel) rfl (Nat.le_of_ble_eq_true rfl) ?_
  intro p e s m below meth c C hZ hr hlk htb
  unfold sw_L_agree at h
  show sx_V sr_lay sr_cl D cI cJ ad (sx_A sr_lay ad sz) 6 p l e rm_L_agree s m _ below meth c (MQ below (sx_QI sr_lay sr_cl D cI cJ ad Q sz) _ s 1 6 (sx_A sr_lay ad sz)) 0 0 μ 0 [(0, .ref (ad 0)), (1, .int (sx_i a1)), (2, .int (sx_i a2)), (3, .int (sx_i a3)), (4, .ref (ad 30))] []
  refine sx_aload C 4 dd_L_agree_0 rfl ?_
  refine sx_iconst C dd_L_agree_2 rfl ?_
  refine sx_aload_n C 0 dd_L_agree_3 rfl rfl ?_
  refine sx_iload_n C 1 dd_L_agree_4 rfl rfl ?_
  refine sx_iload_n C 2 dd_L_agree_5 rfl rfl ?_
  refine sx_iload_n C 3 dd_L_agree_6 rfl rfl ?_
  refine sx_invI (c0 := 0) C hZ [.int (sx_i a1), .int (sx_i a2), .int (sx_i a3)] (fun sz2 => sm_S_agree hlf h sz2) (sx_cwV (n := 3) C.2.2.2.2.1 wd_498 wd_495 wd_496 wd_497 wd_1 rfl rfl (by decide +kernel) ⟨by decide, by decide⟩) rfl (rfl : sr_cl[4]? = some ("StoneRings", tt_S, 10)) rfl rfl (Nat.le_of_ble_eq_true rfl) dd_L_agree_7 ⟨(Nat.le_of_ble_eq_true rfl), (Nat.le_of_ble_eq_true rfl)⟩ (fun E μ9 H locs ls ce q h hP hS hl h1 h2 h3 => by
      obtain ⟨hE, hA0⟩ := h
      subst hE
      exact sx_catch C hZ [] ⟨0, 12, 15, 13⟩ [] htb (fun z hz => by cases hz) (by decide) (by decide) wd_188 (List.mem_of_getElem? (i := 2) rfl) (fun q => sx_hand C hr hlk (Nat.le_of_ble_eq_true rfl) (Nat.le_of_ble_eq_true rfl) (by decide) dd_L_agree_15 dd_L_agree_17 dd_L_agree_18 (hA0 rfl)) hP hS hl h1 h2 h3) (fun v1 μ1 h => ?_)
  refine sx_toL C dd_L_agree_10 h (fun h => ?_)
  refine sx_last (N := 1) C 30 rfl rfl (by decide) dd_L_agree_11 h (fun h => ?_)
  refine sx_goto (tgt := 19) C dd_L_agree_12 (by decide) ?_
  refine sx_iconst C dd_L_agree_19 rfl ?_
  exact sx_iretL C hr hlk (Nat.le_of_ble_eq_true rfl) (Nat.le_of_ble_eq_true rfl) dd_L_agree_20 h
def rm_L_bias : Room := { frames := 9, cells := 1, slots := 6, locals := 148 }
set_option maxHeartbeats 4000000 in
set_option maxRecDepth 100000 in
theorem sm_L_bias {l : Launch} {D : va_G} {cI cJ : ClassId} {ad : Nat → Nat} {Q : Int → sx_M → Prop} (hlf : l.stackTraces = false) {μ : sx_M} {a1 a2 a3 : Int} (h : sw_L_bias Q μ a1 a2 a3) (sz : Nat) : sx_ML l yy_L_bias (Cond.codeWith yy_L_bias method_18_code 6 (some .int) [(0, 12, 15, 13)] :: sr_ts) rm_L_bias sr_lay sr_cl D cI cJ ad [.ref (ad 0), .int (sx_i a1), .int (sx_i a2), .int (sx_i a3), .ref (ad 30)] μ Q 1 6 sz := by
  refine sx_bodyH (by decide +kernel) rfl (Nat.le_of_ble_eq_true rfl) ?_
  intro p e s m below meth c C hZ hr hlk htb
  unfold sw_L_bias at h
  show sx_V sr_lay sr_cl D cI cJ ad (sx_A sr_lay ad sz) 6 p l e rm_L_bias s m _ below meth c (MQ below (sx_QI sr_lay sr_cl D cI cJ ad Q sz) _ s 1 6 (sx_A sr_lay ad sz)) 0 0 μ 0 [(0, .ref (ad 0)), (1, .int (sx_i a1)), (2, .int (sx_i a2)), (3, .int (sx_i a3)), (4, .ref (ad 30))] []
  refine sx_aload C 4 dd_L_bias_0 rfl ?_
  refine sx_iconst C dd_L_bias_2 rfl ?_
  refine sx_aload_n C 0 dd_L_bias_3 rfl rfl ?_
  refine sx_iload_n C 1 dd_L_bias_4 rfl rfl ?_
  refine sx_iload_n C 2 dd_L_bias_5 rfl rfl ?_
  refine sx_iload_n C 3 dd_L_bias_6 rfl rfl ?_
  refine sx_invI (c0 := 0) C hZ [.int (sx_i a1), .int (sx_i a2), .int (sx_i a3)] (fun sz2 => sm_S_bias hlf h sz2) (sx_cwV (n := 3) C.2.2.2.2.1 wd_528 wd_525 wd_526 wd_527 wd_1 rfl rfl (by decide +kernel) ⟨by decide, by decide⟩) rfl (rfl : sr_cl[4]? = some ("StoneRings", tt_S, 10)) rfl rfl (Nat.le_of_ble_eq_true rfl) dd_L_bias_7 ⟨(Nat.le_of_ble_eq_true rfl), (Nat.le_of_ble_eq_true rfl)⟩ (fun E μ9 H locs ls ce q h hP hS hl h1 h2 h3 => by
      obtain ⟨hE, hA0⟩ := h
      subst hE
      exact sx_catch C hZ [] ⟨0, 12, 15, 13⟩ [] htb (fun z hz => by cases hz) (by decide) (by decide) wd_188 (List.mem_of_getElem? (i := 2) rfl) (fun q => sx_hand C hr hlk (Nat.le_of_ble_eq_true rfl) (Nat.le_of_ble_eq_true rfl) (by decide) dd_L_bias_15 dd_L_bias_17 dd_L_bias_18 (hA0 rfl)) hP hS hl h1 h2 h3) (fun v1 μ1 h => ?_)
  refine sx_toL C dd_L_bias_10 h (fun h => ?_)
  refine sx_last (N := 1) C 30 rfl rfl (by decide) dd_L_bias_11 h (fun h => ?_)
  refine sx_goto (tgt := 19) C dd_L_bias_12 (by decide) ?_
  refine sx_iconst C dd_L_bias_19 rfl ?_
  exact sx_iretL C hr hlk (Nat.le_of_ble_eq_true rfl) (Nat.le_of_ble_eq_true rfl) dd_L_bias_20 h
def rm_L_told : Room := { frames := 8, cells := 1, slots := 6, locals := 124 }
set_option maxHeartbeats 4000000 in
set_option maxRecDepth 100000 in
theorem sm_L_told {l : Launch} {D : va_G} {cI cJ : ClassId} {ad : Nat → Nat} {Q : Int → sx_M → Prop} (hlf : l.stackTraces = false) {μ : sx_M} {a1 : Int} (h : sw_L_told Q μ a1) (sz : Nat) : sx_ML l yy_L_told (Cond.codeWith yy_L_told method_19_code 4 (some .int) [(0, 9, 12, 13)] :: sr_ts) rm_L_told sr_lay sr_cl D cI cJ ad [.ref (ad 0), .int (sx_i a1), .ref (ad 30)] μ Q 1 6 sz := by
  refine sx_bodyH (by decide +kernel) rfl (Nat.le_of_ble_eq_true rfl) ?_
  intro p e s m below meth c C hZ hr hlk htb
  unfold sw_L_told at h
  show sx_V sr_lay sr_cl D cI cJ ad (sx_A sr_lay ad sz) 4 p l e rm_L_told s m _ below meth c (MQ below (sx_QI sr_lay sr_cl D cI cJ ad Q sz) _ s 1 6 (sx_A sr_lay ad sz)) 0 0 μ 0 [(0, .ref (ad 0)), (1, .int (sx_i a1)), (2, .ref (ad 30))] []
  refine sx_aload_n C 2 dd_L_told_0 rfl rfl ?_
  refine sx_iconst C dd_L_told_1 rfl ?_
  refine sx_aload_n C 0 dd_L_told_2 rfl rfl ?_
  refine sx_iload_n C 1 dd_L_told_3 rfl rfl ?_
  refine sx_invI (c0 := 0) C hZ [.int (sx_i a1)] (fun sz2 => sm_S_told hlf h sz2) (sx_cwV (n := 1) C.2.2.2.2.1 wd_539 wd_536 wd_537 wd_538 wd_1 rfl rfl (by decide +kernel) ⟨by decide, by decide⟩) rfl (rfl : sr_cl[4]? = some ("StoneRings", tt_S, 10)) rfl rfl (Nat.le_of_ble_eq_true rfl) dd_L_told_4 ⟨(Nat.le_of_ble_eq_true rfl), (Nat.le_of_ble_eq_true rfl)⟩ (fun E μ9 H locs ls ce q h hP hS hl h1 h2 h3 => by
      obtain ⟨hE, hA0⟩ := h
      subst hE
      exact sx_catch C hZ [] ⟨0, 9, 12, 13⟩ [] htb (fun z hz => by cases hz) (by decide) (by decide) wd_188 (List.mem_of_getElem? (i := 2) rfl) (fun q => sx_handN C hr hlk (Nat.le_of_ble_eq_true rfl) (Nat.le_of_ble_eq_true rfl) (by decide) dd_L_told_12 dd_L_told_13 dd_L_told_14 (hA0 rfl)) hP hS hl h1 h2 h3) (fun v1 μ1 h => ?_)
  refine sx_toL C dd_L_told_7 h (fun h => ?_)
  refine sx_last (N := 1) C 30 rfl rfl (by decide) dd_L_told_8 h (fun h => ?_)
  refine sx_goto (tgt := 15) C dd_L_told_9 (by decide) ?_
  refine sx_iconst C dd_L_told_15 rfl ?_
  exact sx_iretL C hr hlk (Nat.le_of_ble_eq_true rfl) (Nat.le_of_ble_eq_true rfl) dd_L_told_16 h
def rm_L_right : Room := { frames := 8, cells := 1, slots := 6, locals := 124 }
set_option maxHeartbeats 4000000 in
set_option maxRecDepth 100000 in
theorem sm_L_right {l : Launch} {D : va_G} {cI cJ : ClassId} {ad : Nat → Nat} {Q : Int → sx_M → Prop} (hlf : l.stackTraces = false) {μ : sx_M} {a1 : Int} (h : sw_L_right Q μ a1) (sz : Nat) : sx_ML l yy_L_right (Cond.codeWith yy_L_right method_20_code 4 (some .int) [(0, 9, 12, 13)] :: sr_ts) rm_L_right sr_lay sr_cl D cI cJ ad [.ref (ad 0), .int (sx_i a1), .ref (ad 30)] μ Q 1 6 sz := by
  refine sx_bodyH (by decide +kernel) rfl (Nat.le_of_ble_eq_true rfl) ?_
  intro p e s m below meth c C hZ hr hlk htb
  unfold sw_L_right at h
  show sx_V sr_lay sr_cl D cI cJ ad (sx_A sr_lay ad sz) 4 p l e rm_L_right s m _ below meth c (MQ below (sx_QI sr_lay sr_cl D cI cJ ad Q sz) _ s 1 6 (sx_A sr_lay ad sz)) 0 0 μ 0 [(0, .ref (ad 0)), (1, .int (sx_i a1)), (2, .ref (ad 30))] []
  refine sx_aload_n C 2 dd_L_right_0 rfl rfl ?_
  refine sx_iconst C dd_L_right_1 rfl ?_
  refine sx_aload_n C 0 dd_L_right_2 rfl rfl ?_
  refine sx_iload_n C 1 dd_L_right_3 rfl rfl ?_
  refine sx_invI (c0 := 0) C hZ [.int (sx_i a1)] (fun sz2 => sm_S_right hlf h sz2) (sx_cwV (n := 1) C.2.2.2.2.1 wd_547 wd_544 wd_545 wd_546 wd_1 rfl rfl (by decide +kernel) ⟨by decide, by decide⟩) rfl (rfl : sr_cl[4]? = some ("StoneRings", tt_S, 10)) rfl rfl (Nat.le_of_ble_eq_true rfl) dd_L_right_4 ⟨(Nat.le_of_ble_eq_true rfl), (Nat.le_of_ble_eq_true rfl)⟩ (fun E μ9 H locs ls ce q h hP hS hl h1 h2 h3 => by
      obtain ⟨hE, hA0⟩ := h
      subst hE
      exact sx_catch C hZ [] ⟨0, 9, 12, 13⟩ [] htb (fun z hz => by cases hz) (by decide) (by decide) wd_188 (List.mem_of_getElem? (i := 2) rfl) (fun q => sx_handN C hr hlk (Nat.le_of_ble_eq_true rfl) (Nat.le_of_ble_eq_true rfl) (by decide) dd_L_right_12 dd_L_right_13 dd_L_right_14 (hA0 rfl)) hP hS hl h1 h2 h3) (fun v1 μ1 h => ?_)
  refine sx_toL C dd_L_right_7 h (fun h => ?_)
  refine sx_last (N := 1) C 30 rfl rfl (by decide) dd_L_right_8 h (fun h => ?_)
  refine sx_goto (tgt := 15) C dd_L_right_9 (by decide) ?_
  refine sx_iconst C dd_L_right_15 rfl ?_
  exact sx_iretL C hr hlk (Nat.le_of_ble_eq_true rfl) (Nat.le_of_ble_eq_true rfl) dd_L_right_16 h
def rm_L_best : Room := { frames := 8, cells := 1, slots := 6, locals := 138 }
set_option maxHeartbeats 4000000 in
set_option maxRecDepth 100000 in
theorem sm_L_best {l : Launch} {D : va_G} {cI cJ : ClassId} {ad : Nat → Nat} {Q : Int → sx_M → Prop} (hlf : l.stackTraces = false) {μ : sx_M} {a1 : Int} (h : sw_L_best Q μ a1) (sz : Nat) : sx_ML l yy_L_best (Cond.codeWith yy_L_best method_21_code 4 (some .int) [(0, 9, 12, 13)] :: sr_ts) rm_L_best sr_lay sr_cl D cI cJ ad [.ref (ad 0), .int (sx_i a1), .ref (ad 30)] μ Q 1 6 sz := by
  refine sx_bodyH (by decide +kernel) rfl (Nat.le_of_ble_eq_true rfl) ?_
  intro p e s m below meth c C hZ hr hlk htb
  unfold sw_L_best at h
  show sx_V sr_lay sr_cl D cI cJ ad (sx_A sr_lay ad sz) 4 p l e rm_L_best s m _ below meth c (MQ below (sx_QI sr_lay sr_cl D cI cJ ad Q sz) _ s 1 6 (sx_A sr_lay ad sz)) 0 0 μ 0 [(0, .ref (ad 0)), (1, .int (sx_i a1)), (2, .ref (ad 30))] []
  refine sx_aload_n C 2 dd_L_best_0 rfl rfl ?_
  refine sx_iconst C dd_L_best_1 rfl ?_
  refine sx_aload_n C 0 dd_L_best_2 rfl rfl ?_
  refine sx_iload_n C 1 dd_L_best_3 rfl rfl ?_
  refine sx_invI (c0 := 0) C hZ [.int (sx_i a1)] (fun sz2 => sm_S_best hlf h sz2) (sx_cwV (n := 1) C.2.2.2.2.1 wd_558 wd_555 wd_556 wd_557 wd_1 rfl rfl (by decide +kernel) ⟨by decide, by decide⟩) rfl (rfl : sr_cl[4]? = some ("StoneRings", tt_S, 10)) rfl rfl (Nat.le_of_ble_eq_true rfl) dd_L_best_4 ⟨(Nat.le_of_ble_eq_true rfl), (Nat.le_of_ble_eq_true rfl)⟩ (fun E μ9 H locs ls ce q h hP hS hl h1 h2 h3 => by
      obtain ⟨hE, hA0⟩ := h
      subst hE
      exact sx_catch C hZ [] ⟨0, 9, 12, 13⟩ [] htb (fun z hz => by cases hz) (by decide) (by decide) wd_188 (List.mem_of_getElem? (i := 2) rfl) (fun q => sx_handN C hr hlk (Nat.le_of_ble_eq_true rfl) (Nat.le_of_ble_eq_true rfl) (by decide) dd_L_best_12 dd_L_best_13 dd_L_best_14 (hA0 rfl)) hP hS hl h1 h2 h3) (fun v1 μ1 h => ?_)
  refine sx_toL C dd_L_best_7 h (fun h => ?_)
  refine sx_last (N := 1) C 30 rfl rfl (by decide) dd_L_best_8 h (fun h => ?_)
  refine sx_goto (tgt := 15) C dd_L_best_9 (by decide) ?_
  refine sx_iconst C dd_L_best_15 rfl ?_
  exact sx_iretL C hr hlk (Nat.le_of_ble_eq_true rfl) (Nat.le_of_ble_eq_true rfl) dd_L_best_16 h
def rm_L_age : Room := { frames := 8, cells := 1, slots := 6, locals := 128 }
set_option maxHeartbeats 4000000 in
set_option maxRecDepth 100000 in
theorem sm_L_age {l : Launch} {D : va_G} {cI cJ : ClassId} {ad : Nat → Nat} {Q : Int → sx_M → Prop} (hlf : l.stackTraces = false) {μ : sx_M} {a1 a2 a3 : Int} (h : sw_L_age Q μ a1 a2 a3) (sz : Nat) : sx_ML l yy_L_age (Cond.codeWith yy_L_age method_22_code 6 (some .int) [(0, 12, 15, 13), (0, 12, 19, 15)] :: sr_ts) rm_L_age sr_lay sr_cl D cI cJ ad [.ref (ad 0), .int (sx_i a1), .int (sx_i a2), .int (sx_i a3), .ref (ad 30)] μ Q 1 6 sz := by
  refine sx_bodyH (by decide +kernel) rfl (Nat.le_of_ble_eq_true rfl) ?_
  intro p e s m below meth c C hZ hr hlk htb
  unfold sw_L_age at h
  show sx_V sr_lay sr_cl D cI cJ ad (sx_A sr_lay ad sz) 6 p l e rm_L_age s m _ below meth c (MQ below (sx_QI sr_lay sr_cl D cI cJ ad Q sz) _ s 1 6 (sx_A sr_lay ad sz)) 0 0 μ 0 [(0, .ref (ad 0)), (1, .int (sx_i a1)), (2, .int (sx_i a2)), (3, .int (sx_i a3)), (4, .ref (ad 30))] []
  refine sx_aload C 4 dd_L_age_0 rfl ?_
  refine sx_iconst C dd_L_age_2 rfl ?_
  refine sx_aload_n C 0 dd_L_age_3 rfl rfl ?_
  refine sx_iload_n C 1 dd_L_age_4 rfl rfl ?_
  refine sx_iload_n C 2 dd_L_age_5 rfl rfl ?_
  refine sx_iload_n C 3 dd_L_age_6 rfl rfl ?_
  refine sx_invI (c0 := 0) C hZ [.int (sx_i a1), .int (sx_i a2), .int (sx_i a3)] (fun sz2 => sm_S_age hlf h sz2) (sx_cwV (n := 3) C.2.2.2.2.1 wd_574 wd_571 wd_572 wd_573 wd_1 rfl rfl (by decide +kernel) ⟨by decide, by decide⟩) rfl (rfl : sr_cl[4]? = some ("StoneRings", tt_S, 10)) rfl rfl (Nat.le_of_ble_eq_true rfl) dd_L_age_7 ⟨(Nat.le_of_ble_eq_true rfl), (Nat.le_of_ble_eq_true rfl)⟩ (fun E μ9 H locs ls ce q h hP hS hl h1 h2 h3 => by
      obtain ⟨hE, hA0, hA1⟩ := h
      rcases hE with rfl | rfl
      · exact sx_catch C hZ [] ⟨0, 12, 15, 13⟩ [⟨0, 12, 19, 15⟩] htb (fun z hz => by cases hz) (by decide) (by decide) wd_188 (List.mem_of_getElem? (i := 2) rfl) (fun q => sx_hand C hr hlk (Nat.le_of_ble_eq_true rfl) (Nat.le_of_ble_eq_true rfl) (by decide) dd_L_age_15 dd_L_age_17 dd_L_age_18 (hA0 rfl)) hP hS hl h1 h2 h3
      · exact sx_catch C hZ [⟨0, 12, 15, 13⟩] ⟨0, 12, 19, 15⟩ [] htb (by intro z hz; simp only [List.mem_cons, List.not_mem_nil, or_false] at hz; rcases hz with rfl <;> first | exact ⟨by decide, _, wd_188, by decide +kernel⟩) (by decide) (by decide) wd_189 (List.mem_of_getElem? (i := 9) rfl) (fun q => sx_hand C hr hlk (Nat.le_of_ble_eq_true rfl) (Nat.le_of_ble_eq_true rfl) (by decide) dd_L_age_19 dd_L_age_21 dd_L_age_22 (hA1 rfl)) hP hS hl h1 h2 h3) (fun v1 μ1 h => ?_)
  refine sx_toL C dd_L_age_10 h (fun h => ?_)
  refine sx_last (N := 1) C 30 rfl rfl (by decide) dd_L_age_11 h (fun h => ?_)
  refine sx_goto (tgt := 23) C dd_L_age_12 (by decide) ?_
  refine sx_iconst C dd_L_age_23 rfl ?_
  exact sx_iretL C hr hlk (Nat.le_of_ble_eq_true rfl) (Nat.le_of_ble_eq_true rfl) dd_L_age_24 h
def rm_L_twin : Room := { frames := 9, cells := 1, slots := 6, locals := 147 }
set_option maxHeartbeats 4000000 in
set_option maxRecDepth 100000 in
theorem sm_L_twin_16 (C : sx_C sr_lay sr_cl D cI cJ ad (sx_A sr_lay ad sz) 5 "StoneRingsLaw" method_23_code sr_ts p s m args c) (hZ : sx_Z (sx_A sr_lay ad sz) s s.heap) (hr : meth.sig.returnType = some .int) (hlk : meth.locks = false) {y1 y2 : Int} {μ : sx_M} (h : sw_L_twin_16 Q y1 y2 μ) : sx_V sr_lay sr_cl D cI cJ ad (sx_A sr_lay ad sz) 5 p l e rm_L_twin s m args below meth c (MQ below (sx_QI sr_lay sr_cl D cI cJ ad Q sz) args s 1 6 (sx_A sr_lay ad sz)) 0 0 μ 16 [] [.long (sx_j y2), .int (sx_i y1), .ref (ad 30)] := by
  unfold sw_L_twin_16 at h
  refine sx_last (N := 1) C 30 rfl rfl (by decide) dd_L_twin_16 h (fun h => ?_)
  refine sx_goto (tgt := 24) C dd_L_twin_17 (by decide) ?_
  refine sx_iconst C dd_L_twin_24 rfl ?_
  exact sx_iretL C hr hlk (Nat.le_of_ble_eq_true rfl) (Nat.le_of_ble_eq_true rfl) dd_L_twin_25 h
set_option maxHeartbeats 4000000 in
set_option maxRecDepth 100000 in
theorem sm_L_twin {l : Launch} {D : va_G} {cI cJ : ClassId} {ad : Nat → Nat} {Q : Int → sx_M → Prop} (hlf : l.stackTraces = false) {μ : sx_M} {a1 a2 : Int} (h : sw_L_twin Q μ a1 a2) (sz : Nat) : sx_ML l yy_L_twin (Cond.codeWith yy_L_twin method_23_code 5 (some .int) [(0, 17, 20, 13)] :: sr_ts) rm_L_twin sr_lay sr_cl D cI cJ ad [.ref (ad 0), .int (sx_i a1), .int (sx_i a2), .ref (ad 30)] μ Q 1 6 sz := by
  refine sx_bodyH (by decide +kernel) rfl (Nat.le_of_ble_eq_true rfl) ?_
  intro p e s m below meth c C hZ hr hlk htb
  unfold sw_L_twin at h
  show sx_V sr_lay sr_cl D cI cJ ad (sx_A sr_lay ad sz) 5 p l e rm_L_twin s m _ below meth c (MQ below (sx_QI sr_lay sr_cl D cI cJ ad Q sz) _ s 1 6 (sx_A sr_lay ad sz)) 0 0 μ 0 [(0, .ref (ad 0)), (1, .int (sx_i a1)), (2, .int (sx_i a2)), (3, .ref (ad 30))] []
  refine sx_aload_n C 3 dd_L_twin_0 rfl rfl ?_
  refine sx_iconst C dd_L_twin_1 rfl ?_
  refine sx_aload_n C 0 dd_L_twin_2 rfl rfl ?_
  refine sx_iload_n C 1 dd_L_twin_3 rfl rfl ?_
  refine sx_iload_n C 2 dd_L_twin_4 rfl rfl ?_
  refine sx_invI (c0 := 0) C hZ [.int (sx_i a1), .int (sx_i a2)] (fun sz2 => sm_S_twin hlf h sz2) (sx_cwV (n := 2) C.2.2.2.2.1 wd_581 wd_578 wd_579 wd_580 wd_1 rfl rfl (by decide +kernel) ⟨by decide, by decide⟩) rfl (rfl : sr_cl[4]? = some ("StoneRings", tt_S, 10)) rfl rfl (Nat.le_of_ble_eq_true rfl) dd_L_twin_5 ⟨(Nat.le_of_ble_eq_true rfl), (Nat.le_of_ble_eq_true rfl)⟩ (fun E μ9 H locs ls ce q h hP hS hl h1 h2 h3 => by
      obtain ⟨hE, hA0⟩ := h
      subst hE
      exact sx_catch C hZ [] ⟨0, 17, 20, 13⟩ [] htb (fun z hz => by cases hz) (by decide) (by decide) wd_188 (List.mem_of_getElem? (i := 2) rfl) (fun q => sx_hand C hr hlk (Nat.le_of_ble_eq_true rfl) (Nat.le_of_ble_eq_true rfl) (by decide) dd_L_twin_20 dd_L_twin_22 dd_L_twin_23 (hA0 rfl)) hP hS hl h1 h2 h3) (fun v1 μ1 h => ?_)
  refine sx_if_eq (tgt := 15) C dd_L_twin_8 (by decide) h (fun h => ?_) (fun h => ?_)
  · refine sx_lconst (v := 0) C dd_L_twin_15 (by decide +kernel) ?_
    refine sx_less (lu := []) C [] rfl ?_
    exact sm_L_twin_16 C hZ hr hlk h
  · refine sx_lconst (v := 1) C dd_L_twin_11 (by decide +kernel) ?_
    refine sx_goto (tgt := 16) C dd_L_twin_12 (by decide) ?_
    refine sx_less (lu := []) C [] rfl ?_
    exact sm_L_twin_16 C hZ hr hlk h
end SXG
