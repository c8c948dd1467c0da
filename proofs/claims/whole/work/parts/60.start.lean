/-! The law, from its entry to its loop. -/
def sr_mu0 (w h : Int) : sx_M := fun c k => if c = 0 then (if k = 8 then 2 else if k = 9 then 5 else 0) else if c = 3 then (if k = 0 then w else if k = 1 then h else 0) else if c = 17 then (if k < 80 then -1 else 0) else if c = 19 then (if k = 1 then w else if k = 2 then h else if k = 7 then 2 else if k = 8 then 5 else 0) else 0
def sr_cell (L : Nat) (xs : Nat → Int32) (k : Int) : Int := if k < (L : Int) then sx_sc xs k else 0
theorem sr_cellR (L : Nat) (xs : Nat → Int32) (k : Int) : sx_R (sr_cell L xs k) := by
  unfold sr_cell
  split
  · exact sx_rg _
  · exact ⟨by omega, by omega⟩
def rm_cell : Room := { frames := 0, cells := 0, slots := 0, locals := 0 }
set_option maxHeartbeats 4000000 in
set_option maxRecDepth 100000 in
theorem sc_cell {l : Launch} {b L : Nat} {xs : Nat → Int32} {k : Int} (hk : 0 ≤ k ∧ k ≤ 1) (hL : L ≤ 2050) : Met l yy_L_cell (Cond.code yy_L_cell method_2_code 2 (some .int) :: sr_ts) rm_cell (va_Pc [.ref b, .int (sx_i k)] (fun U => va_X b L xs U U.heap ∧ b < U.heap.size)) (va_Qi (fun (r : Int32) (_ : Unit) => r = sx_i (sr_cell L xs k)) (fun _ _ => True) (fun _ => False)) 0 0 (fun _ => False) := by
  refine Met.ofW (cc := method_2_code) (maxL := 2) (ret := some .int) (by decide +kernel) rfl ?_
  intro p e s m args below meth c s₁ B hml hv
  obtain ⟨rfl, hX, hbl⟩ := hv
  have hx := B.exec
  have hb := B.bytes
  have hr := B.returns
  have hlocks := B.notSynchronized
  have hS : va_S (fun _ : Nat => False) s.heap s.heap [] := va_S.rf
  have hl := lv_entry ([.ref b, .int (sx_i k)]) (n := 2) (Nat.le_of_ble_eq_true rfl)
  rw [lg_entry_eq]
  generalize (lg_sl ([.ref b, .int (sx_i k)]) ++ List.replicate (2 - (lg_sl ([.ref b, .int (sx_i k)])).length) Slot.unset).toArray = ls at hl ⊢
  have hl : lv_has ls 2 [(0, .ref b), (1, .int (sx_i k))] := hl
  have hkR : sx_R k := ⟨by omega, by omega⟩
  have hLR : sx_R (L : Int) := ⟨by omega, by omega⟩
  refine lv_iload_n hx hb dd_L_cell_0 rfl (lv_at hl 1 rfl) ?_
  refine lv_aload_n hx hb dd_L_cell_1 rfl (lv_at hl 0 rfl) ?_
  refine va_slen hx hb hX hbl (fun h => h) hS dd_L_cell_2 ?_
  rw [← Int32.ofInt_eq_ofNat]
  refine lv_icmp_ge (tgt := 12) (x := sx_i k) (y := sx_i (L : Int)) hx hb dd_L_cell_3 (by decide) (fun c1 => ?_) (fun c1 => ?_)
  · have h9 : (L : Int) ≤ k := (sx_le hLR hkR).mp c1
    refine lv_iconst (v := sx_i 0) hx hb dd_L_cell_12 rfl ?_
    exact W.iret hx hb hr (fun t ht hW => ⟨⟨_, (), rfl, by unfold sr_cell; rw [if_neg (by omega)], trivial⟩, by rw [ht]; exact Nat.le_refl _, fun q _ _ => by rw [ht]⟩) (fun _ h => nomatch h) dd_L_cell_13
  · have h9 : k < (L : Int) := by
      have z := (not_congr (sx_le hLR hkR)).mp c1
      omega
    obtain ⟨q1, q2, q3⟩ := sx_in (n := L) (by omega) ⟨hk.1, h9⟩
    refine lv_aload_n hx hb dd_L_cell_6 rfl (lv_at hl 0 rfl) ?_
    refine lv_iload_n hx hb dd_L_cell_7 rfl (lv_at hl 1 rfl) ?_
    refine va_sld hx hb hX hbl (fun h => h) hS q1 dd_L_cell_8 ?_
    refine lv_goto (tgt := 13) hx hb dd_L_cell_9 (by decide) ?_
    exact W.iret hx hb hr (fun t ht hW => ⟨⟨_, (), rfl, by unfold sr_cell sx_sc; rw [if_pos h9, sx_of, q2], trivial⟩, by rw [ht]; exact Nat.le_refl _, fun q _ _ => by rw [ht]⟩) (fun _ h => nomatch h) dd_L_cell_13
theorem sx_arr {args : Array Value} {s : State} {ty : FieldType} (hty : ∀ C, ty ≠ .object C) (h : (Cond.arrayClass ty).before args s = true) : ∃ cA : ClassId, ArrOfT s cA ty ∧ va_RA s cA ty := by
  obtain ⟨c, k, comp, h1, h2, h3⟩ := Cond.arrayClass_spec h
  refine ⟨c, fun n z => ⟨fun k h => (by cases h), k, h2, comp, h3⟩, ?_⟩
  cases ty with
  | object C => exact absurd rfl (hty C)
  | _ => exact h1
theorem sx_J_of {lay : List sx_L} {cI cJ : ClassId} {ad : Nat → Nat} {μ : sx_M} {A : Nat → Prop} (h : va_D A (sx_W lay cI cJ ad μ)) : sx_J lay ad ∧ ∀ i, i < lay.length → A (ad i) := by
  have at9 : ∀ i, i < lay.length → ∃ e, (sx_W lay cI cJ ad μ)[i]? = some (ad i, e) := fun i hi => ⟨_, sx_at (List.getElem?_eq_getElem hi)⟩
  refine ⟨fun i j hi hj hij => ?_, fun i hi => ?_⟩
  · obtain ⟨e1, h1⟩ := at9 i hi
    obtain ⟨e2, h2⟩ := at9 j hj
    exact h.1 i j _ _ h1 h2 hij
  · obtain ⟨e1, h1⟩ := at9 i hi
    exact h.2 i _ h1
set_option maxHeartbeats 4000000 in
set_option maxRecDepth 100000 in
theorem sr_Z {s : State} {b : Nat} (hts0 : ∀ w ∈ lw_tbl, w.before #[Value.ref b] s = true) (hgv : (Jvm.Cond.and given_1 narrow_1).before #[Value.ref b] s = true) : sx_Z (fun q : Nat => s.heap.size ≤ q) s s.heap := by
  have hs := flat_of_before _ hgv
  have hw : ∀ (i : Nat) (w : Cond), lw_tbl[i]? = some w → w.before #[Value.ref b] s = true := fun i w h => hts0 w (List.mem_of_getElem? h)
  have str9 : ∀ (own : String) (k : Nat) (tx : String), (Cond.stringRef own k tx).before #[Value.ref b] s = true → ∃ sa, vk_R own k tx sa s := by
    intro own k tx h
    cases hc : s.vm.findClass own with
    | none => simp [Cond.before, Cond.holds, Cond.value, hc] at h
    | some cur =>
      obtain ⟨_, _, _, a, -, -, -, -, -, hev⟩ := Cond.stringRef_spec hc h
      exact ⟨a, vk_R.of h hev⟩
  refine ⟨?_, ?_, ?_, fun w h => va_Nw.of (sr_bad_tab w h) (hts0 w (sr_bad_in w h)), ?_⟩
  · exact vx_Zqof (hw 238 _ (by decide +kernel)) (hw 22 _ (by decide +kernel)) (hs _ (by decide +kernel)) (fun a h => Nat.not_le.mpr h)
  · exact vx_Zqof (hw 240 _ (by decide +kernel)) (hw 22 _ (by decide +kernel)) (hs _ (by decide +kernel)) (fun a h => Nat.not_le.mpr h)
  · intro q hq
    simp only [sr_strs, List.mem_cons, List.not_mem_nil, or_false] at hq
    rcases hq with rfl | rfl | rfl | rfl | rfl | rfl | rfl | rfl
    · exact str9 _ _ _ (hw 252 _ (by decide +kernel))
    · exact str9 _ _ _ (hw 291 _ (by decide +kernel))
    · exact str9 _ _ _ (hw 317 _ (by decide +kernel))
    · exact str9 _ _ _ (hw 340 _ (by decide +kernel))
    · exact str9 _ _ _ (hw 350 _ (by decide +kernel))
    · exact str9 _ _ _ (hw 463 _ (by decide +kernel))
    · exact str9 _ _ _ (hw 484 _ (by decide +kernel))
    · exact str9 _ _ _ (hw 503 _ (by decide +kernel))
  · intro q hq
    simp only [sr_ncs, List.mem_cons, List.not_mem_nil, or_false] at hq
    rcases hq with rfl | rfl | rfl | rfl | rfl | rfl <;> exact va_Nc.of (hs _ (by decide +kernel))
set_option maxHeartbeats 8000000 in
set_option maxRecDepth 100000 in
theorem sr_world {cI cJ : ClassId} {L : Nat} {xs : Nat → Int32} (qx x0 x1 x16 x17 x2 x3 x4 x5 x6 x7 x8 x9 x10 x11 x12 x13 x15 x14 qm y0 y1 y2 y3 y4 y5 y6 y7 y8 y9 qo : Nat) : [(qx, .inr (4, [.ref x16, .ref x0, .ref x1, .ref x2, .ref x6, .ref x10, .ref x13, .int (sx_i 0), .int (sx_i 2), .int (sx_i 5)])), (x0, .inl (cI, 8, .inl (fun _ => sx_i 0))), (x1, .inl (cI, 8, .inl (fun _ => sx_i 0))), (x16, .inr (1, [.int (sx_i (sr_near (sr_cell L xs 0))), .int (sx_i (sr_near (sr_cell L xs 1))), .ref x17, .int (sx_i 0), .int (sx_i 0), .int (sx_i 0)])), (x17, .inl (cI, 256, .inl (fun _ => sx_i 0))), (x2, .inr (3, [.ref x3, .ref x4, .ref x5, .int (sx_i 0), .int (sx_i 0)])), (x3, .inl (cI, 16, .inl (fun _ => sx_i 0))), (x4, .inl (cI, 16, .inl (fun _ => sx_i 0))), (x5, .inl (cI, 8, .inl (fun _ => sx_i 0))), (x6, .inr (3, [.ref x7, .ref x8, .ref x9, .int (sx_i 0), .int (sx_i 0)])), (x7, .inl (cI, 16, .inl (fun _ => sx_i 0))), (x8, .inl (cI, 16, .inl (fun _ => sx_i 0))), (x9, .inl (cI, 8, .inl (fun _ => sx_i 0))), (x10, .inr (0, [.ref x11, .ref x12, .int (sx_i 0), .int (sx_i 0)])), (x11, .inl (cI, 81, .inl (fun _ => sx_i 0))), (x12, .inl (cI, 8, .inl (fun _ => sx_i 0))), (x13, .inr (2, [.ref x15, .ref x14, .int (sx_i 0)])), (x15, .inl (cI, 80, .inl (fun j => sx_i (if (j : Int) < 80 then -1 else 0)))), (x14, .inl (cI, 4, .inl (fun _ => sx_i 0))), (qm, .inr (5, [.int (sx_i 0), .int (sx_i (sr_near (sr_cell L xs 0))), .int (sx_i (sr_near (sr_cell L xs 1))), .ref y0, .int (sx_i 0), .ref y1, .ref y2, .int (sx_i 2), .int (sx_i 5), .int (sx_i 0), .ref y3, .ref y4, .int (sx_i 0), .ref y5, .int (sx_i 0), .ref y6, .ref y7, .int (sx_i 0), .int (sx_i 0), .ref y8, .ref y9])), (y0, .inl (cI, 256, .inl (fun _ => sx_i 0))), (y1, .inl (cI, 8, .inl (fun _ => sx_i 0))), (y2, .inl (cI, 8, .inl (fun _ => sx_i 0))), (y3, .inl (cI, 16, .inl (fun _ => sx_i 0))), (y4, .inl (cI, 16, .inl (fun _ => sx_i 0))), (y5, .inl (cI, 16, .inl (fun _ => sx_i 0))), (y6, .inl (cI, 16, .inl (fun _ => sx_i 0))), (y7, .inl (cI, 289, .inl (fun _ => sx_i 0))), (y8, .inl (cI, 16, .inl (fun _ => sx_i 0))), (y9, .inl (cI, 80, .inl (fun _ => sx_i 0))), (qo, .inl (cJ, 1, .inr (.inl (fun _ => sx_j 0))))] = sx_W sr_lay cI cJ (fun i => [qx, x0, x1, x16, x17, x2, x3, x4, x5, x6, x7, x8, x9, x10, x11, x12, x13, x15, x14, qm, y0, y1, y2, y3, y4, y5, y6, y7, y8, y9, qo].getD i 0) (sr_mu0 (sr_near (sr_cell L xs 0)) (sr_near (sr_cell L xs 1))) := by
  rfl
set_option maxHeartbeats 8000000 in
set_option maxRecDepth 100000 in
theorem whole_open {p : Program} {e : Env} {s : State} {m : MethodId} {below : List Frame} {meth : Method} {c : Code} (l : Launch) (hlf : l.stackTraces = false) {b L : Nat} {xs : Nat → Int32} (hL : L ≤ 2050) (C0 : lw_At p s m meth c b L xs) (hpure : sw_L_law_43 (sx_sc xs) (L : Int) 514 2 (sr_mu0 (sr_near (sr_cell L xs 0)) (sr_near (sr_cell L xs 1)))) : W p l e room_1 s m #[Value.ref b] below meth c s.heap [] 0 0 (lw_Z below #[Value.ref b] s) (entryFrame m ([Value.ref b] : List Value).toArray 7) := by
  obtain ⟨hx, hb, hr, hml, hown, hts0, hX, hbl, hlocks, hgv⟩ := id C0
  have hts : ∀ w ∈ sr_ts, w.before #[Value.ref b] s = true := fun w h => hts0 w (List.mem_filter.mp h).1
  have hZ := sr_Z hts0 hgv
  obtain ⟨c0, iS0, hKn0⟩ := u_known (C := "StoneRings$Pairing") (T := tt_G) (N := 4) (n := 4) hts in_G (hts _ wd_54)
  obtain ⟨c1, iS1, hKn1⟩ := u_known (C := "StoneRings$Picture") (T := tt_P) (N := 6) (n := 6) hts in_P (hts _ wd_96)
  obtain ⟨c2, iS2, hKn2⟩ := u_known (C := "StoneRings$Readings") (T := tt_D) (N := 3) (n := 3) hts in_D (hts _ wd_76)
  obtain ⟨c3, iS3, hKn3⟩ := u_known (C := "StoneRings$Trace") (T := tt_T) (N := 5) (n := 5) hts in_T (hts _ wd_24)
  obtain ⟨c4, iS4, hKn4⟩ := u_known (C := "StoneRings") (T := tt_S) (N := 10) (n := 10) hts in_S (hts _ wd_16)
  obtain ⟨c5, iS5, hKn5⟩ := u_known (C := "StoneRingsModel") (T := tt_M) (N := 21) (n := 21) hts in_M (hts _ wd_587)
  obtain ⟨dC, dI, hKc⟩ : ∃ (dC : Nat → ClassId) (dI : Nat → Nat → Nat), ∀ (k : Nat) (q : vw_C), sr_cl[k]? = some q → u_Kn s q.1 q.2.1 q.2.2 (dC k) (dI k) := by
    refine ⟨fun k => if k = 0 then c0 else if k = 1 then c1 else if k = 2 then c2 else if k = 3 then c3 else if k = 4 then c4 else c5, fun k => if k = 0 then iS0 else if k = 1 then iS1 else if k = 2 then iS2 else if k = 3 then iS3 else if k = 4 then iS4 else iS5, ?_⟩
    intro k q hq
    match k, hq with
    | 0, hq => cases hq; exact hKn0
    | 1, hq => cases hq; exact hKn1
    | 2, hq => cases hq; exact hKn2
    | 3, hq => cases hq; exact hKn3
    | 4, hq => cases hq; exact hKn4
    | 5, hq => cases hq; exact hKn5
    | k + 6, hq => simp [sr_cl] at hq
  obtain ⟨cI, hI1, hI2⟩ := sx_arr (by intro C h; cases h) (hts _ w_arrI)
  obtain ⟨cJ, hJ1, hJ2⟩ := sx_arr (by intro C h; cases h) (hts _ w_arrJ)
  have hK : va_K (dC, dI) sr_cl [(cI, .int), (cJ, .long)] s := ⟨hKc, fun k q h => by
    match k, h with
    | 0, h => cases h; exact ⟨hI1, hI2⟩
    | 1, h => cases h; exact ⟨hJ1, hJ2⟩
    | k + 2, h => simp at h⟩
  have C : sx_CU sr_cl (dC, dI) cI cJ (fun q : Nat => s.heap.size ≤ q) 7 "StoneRingsLaw" code p s m #[Value.ref b] c := ⟨hx, hb, hml, hown, hts, hK, fun _ h => h, hZ.2.2.2.1⟩
  suffices key : sx_U sr_cl (dC, dI) (fun q : Nat => s.heap.size ≤ q) 7 p l e room_1 s m #[Value.ref b] below meth c (lw_Z below #[Value.ref b] s) 0 0 [] 0 [(0, .ref b)] [] by
    rw [lg_entry_eq]
    exact key s.heap [] _ (fun k q h => by simp at h) ⟨fun i j p q h => by simp at h, fun k q h => by simp at h⟩ va_S.rf (lv_entry ([.ref b]) (n := 7) (Nat.le_of_ble_eq_true rfl))
  refine su_new (fs := [.null, .null, .null, .null, .null, .null, .null, .int (sx_i 0), .int (sx_i 0), .int (sx_i 0)]) C (rfl : sr_cl[4]? = some ("StoneRings", tt_S, 10)) in_S ty_S tyk_S wd_15 wd_16 wd_1 (by intro j hj; rcases (show j = 0 ∨ j = 1 ∨ j = 2 ∨ j = 3 ∨ j = 4 ∨ j = 5 ∨ j = 6 ∨ j = 7 ∨ j = 8 ∨ j = 9 by omega) with rfl | rfl | rfl | rfl | rfl | rfl | rfl | rfl | rfl | rfl <;> rfl) (Nat.le_of_ble_eq_true rfl) (Nat.le_of_ble_eq_true rfl) dd_L_law_0 (fun qx => ?_)
  show sx_U sr_cl (dC, dI) (fun q : Nat => s.heap.size ≤ q) 7 p l e room_1 s m #[Value.ref b] below meth c (lw_Z below #[Value.ref b] s) 1 10 [(qx, .inr (4, [.null, .null, .null, .null, .null, .null, .null, .int (sx_i 0), .int (sx_i 0), .int (sx_i 0)]))] 3 [(0, .ref b)] [.ref qx]
  refine su_dup C dd_L_law_3 rfl ?_
  refine su_aload_n C 0 dd_L_law_4 rfl rfl ?_
  refine su_iconst C dd_L_law_5 rfl ?_
  refine su_stat (As := [.ref b, .int (sx_i 0)]) (rest := [.ref qx, .ref qx]) C (sc_cell (k := 0) ⟨by decide, by decide⟩ hL) (sx_cwS (n := 2) C.2.2.2.2.1 wd_184 wd_182 wd_183 wd_0 rfl rfl (by decide +kernel) ⟨by decide, by decide⟩) (fun H locs hS => ⟨fun a U g mk q => ⟨q.1, q.2.1.moved (Vm.Alike.refl U.vm), q.2.2⟩, fun U hU hW => ⟨rfl, by rw [hU]; exact (hX.kept (hS.2.1 b hbl (Nat.not_le.mpr hbl))).moved hW.alike, by rw [hU]; exact Nat.lt_of_lt_of_le hbl hS.1⟩⟩) rfl rfl (Nat.le_of_ble_eq_true rfl) dd_L_law_6 ⟨(Nat.le_of_ble_eq_true rfl), (Nat.le_of_ble_eq_true rfl)⟩ ?_
  refine su_aload_n C 0 dd_L_law_9 rfl rfl ?_
  refine su_iconst C dd_L_law_10 rfl ?_
  refine su_stat (As := [.ref b, .int (sx_i 1)]) (rest := [.int (sx_i (sr_cell L xs 0)), .ref qx, .ref qx]) C (sc_cell (k := 1) ⟨by decide, by decide⟩ hL) (sx_cwS (n := 2) C.2.2.2.2.1 wd_184 wd_182 wd_183 wd_0 rfl rfl (by decide +kernel) ⟨by decide, by decide⟩) (fun H locs hS => ⟨fun a U g mk q => ⟨q.1, q.2.1.moved (Vm.Alike.refl U.vm), q.2.2⟩, fun U hU hW => ⟨rfl, by rw [hU]; exact (hX.kept (hS.2.1 b hbl (Nat.not_le.mpr hbl))).moved hW.alike, by rw [hU]; exact Nat.lt_of_lt_of_le hbl hS.1⟩⟩) rfl rfl (Nat.le_of_ble_eq_true rfl) dd_L_law_11 ⟨(Nat.le_of_ble_eq_true rfl), (Nat.le_of_ble_eq_true rfl)⟩ ?_
  refine su_call (wr := []) C 0 [] rfl rfl (by decide) (by decide) (fun sz2 => sc_S_init (sr_cellR L xs 0) (sr_cellR L xs 1) sz2) (fun H locs ls hl hp => va_runI (As := [.int (sx_i (sr_cell L xs 0)), .int (sx_i (sr_cell L xs 1))]) (rest := [.ref qx]) ⟨C.1, C.2.1, C.2.2.1, C.2.2.2.1, C.2.2.2.2.1⟩ (sc_S_init (sr_cellR L xs 0) (sr_cellR L xs 1) _) (cwI 2 C.2.2.2.2.1 (fun w h => sx_good (w := w) wd_19 w h) rfl rfl rfl (C.2.2.2.2.1 _ wd_1) (C.2.2.2.2.1 _ wd_17) (C.2.2.2.2.1 _ wd_18) rfl (by decide +kernel) ⟨by decide, by decide⟩) hp rfl rfl hl.1 rfl (lv_room (Nat.le_of_ble_eq_true rfl)) dd_L_law_14 ⟨(Nat.le_of_ble_eq_true rfl), (Nat.le_of_ble_eq_true rfl)⟩) (fun w hw => ?_)
  obtain ⟨x0, x1, x2, x3, x4, x5, x6, x7, x8, x9, x10, x11, x12, x13, x14, x15, x16, x17, rfl⟩ := hw
  show sx_U sr_cl (dC, dI) (fun q : Nat => s.heap.size ≤ q) 7 p l e room_1 s m #[Value.ref b] below meth c (lw_Z below #[Value.ref b] s) 19 558 [(qx, .inr (4, [.ref x16, .ref x0, .ref x1, .ref x2, .ref x6, .ref x10, .ref x13, .int (sx_i 0), .int (sx_i 2), .int (sx_i 5)])), (x0, .inl (cI, 8, .inl (fun _ => sx_i 0))), (x1, .inl (cI, 8, .inl (fun _ => sx_i 0))), (x2, .inr (3, [.ref x3, .ref x4, .ref x5, .int (sx_i 0), .int (sx_i 0)])), (x3, .inl (cI, 16, .inl (fun _ => sx_i 0))), (x4, .inl (cI, 16, .inl (fun _ => sx_i 0))), (x5, .inl (cI, 8, .inl (fun _ => sx_i 0))), (x6, .inr (3, [.ref x7, .ref x8, .ref x9, .int (sx_i 0), .int (sx_i 0)])), (x7, .inl (cI, 16, .inl (fun _ => sx_i 0))), (x8, .inl (cI, 16, .inl (fun _ => sx_i 0))), (x9, .inl (cI, 8, .inl (fun _ => sx_i 0))), (x10, .inr (0, [.ref x11, .ref x12, .int (sx_i 0), .int (sx_i 0)])), (x11, .inl (cI, 81, .inl (fun _ => sx_i 0))), (x12, .inl (cI, 8, .inl (fun _ => sx_i 0))), (x13, .inr (2, [.ref x15, .ref x14, .int (sx_i 0)])), (x14, .inl (cI, 4, .inl (fun _ => sx_i 0))), (x15, .inl (cI, 80, .inl (fun j => sx_i (if (j : Int) < 80 then -1 else 0)))), (x16, .inr (1, [.int (sx_i (sr_near (sr_cell L xs 0))), .int (sx_i (sr_near (sr_cell L xs 1))), .ref x17, .int (sx_i 0), .int (sx_i 0), .int (sx_i 0)])), (x17, .inl (cI, 256, .inl (fun _ => sx_i 0)))] 17 [(0, .ref b)] [.ref qx]
  refine su_astore_n (lu := [(1, .ref qx), (0, .ref b)]) C dd_L_law_17 rfl (by decide) rfl ?_
  refine su_new (fs := [.int (sx_i 0), .int (sx_i 0), .int (sx_i 0), .null, .int (sx_i 0), .null, .null, .int (sx_i 0), .int (sx_i 0), .int (sx_i 0), .null, .null, .int (sx_i 0), .null, .int (sx_i 0), .null, .null, .int (sx_i 0), .int (sx_i 0), .null, .null]) C (rfl : sr_cl[5]? = some ("StoneRingsModel", tt_M, 21)) in_M ty_M tyk_M wd_586 wd_587 wd_8 (by intro j hj; rcases (show j = 0 ∨ j = 1 ∨ j = 2 ∨ j = 3 ∨ j = 4 ∨ j = 5 ∨ j = 6 ∨ j = 7 ∨ j = 8 ∨ j = 9 ∨ j = 10 ∨ j = 11 ∨ j = 12 ∨ j = 13 ∨ j = 14 ∨ j = 15 ∨ j = 16 ∨ j = 17 ∨ j = 18 ∨ j = 19 ∨ j = 20 by omega) with rfl | rfl | rfl | rfl | rfl | rfl | rfl | rfl | rfl | rfl | rfl | rfl | rfl | rfl | rfl | rfl | rfl | rfl | rfl | rfl | rfl <;> rfl) (Nat.le_of_ble_eq_true rfl) (Nat.le_of_ble_eq_true rfl) dd_L_law_18 (fun qm => ?_)
  show sx_U sr_cl (dC, dI) (fun q : Nat => s.heap.size ≤ q) 7 p l e room_1 s m #[Value.ref b] below meth c (lw_Z below #[Value.ref b] s) 20 579 [(qx, .inr (4, [.ref x16, .ref x0, .ref x1, .ref x2, .ref x6, .ref x10, .ref x13, .int (sx_i 0), .int (sx_i 2), .int (sx_i 5)])), (x0, .inl (cI, 8, .inl (fun _ => sx_i 0))), (x1, .inl (cI, 8, .inl (fun _ => sx_i 0))), (x2, .inr (3, [.ref x3, .ref x4, .ref x5, .int (sx_i 0), .int (sx_i 0)])), (x3, .inl (cI, 16, .inl (fun _ => sx_i 0))), (x4, .inl (cI, 16, .inl (fun _ => sx_i 0))), (x5, .inl (cI, 8, .inl (fun _ => sx_i 0))), (x6, .inr (3, [.ref x7, .ref x8, .ref x9, .int (sx_i 0), .int (sx_i 0)])), (x7, .inl (cI, 16, .inl (fun _ => sx_i 0))), (x8, .inl (cI, 16, .inl (fun _ => sx_i 0))), (x9, .inl (cI, 8, .inl (fun _ => sx_i 0))), (x10, .inr (0, [.ref x11, .ref x12, .int (sx_i 0), .int (sx_i 0)])), (x11, .inl (cI, 81, .inl (fun _ => sx_i 0))), (x12, .inl (cI, 8, .inl (fun _ => sx_i 0))), (x13, .inr (2, [.ref x15, .ref x14, .int (sx_i 0)])), (x14, .inl (cI, 4, .inl (fun _ => sx_i 0))), (x15, .inl (cI, 80, .inl (fun j => sx_i (if (j : Int) < 80 then -1 else 0)))), (x16, .inr (1, [.int (sx_i (sr_near (sr_cell L xs 0))), .int (sx_i (sr_near (sr_cell L xs 1))), .ref x17, .int (sx_i 0), .int (sx_i 0), .int (sx_i 0)])), (x17, .inl (cI, 256, .inl (fun _ => sx_i 0))), (qm, .inr (5, [.int (sx_i 0), .int (sx_i 0), .int (sx_i 0), .null, .int (sx_i 0), .null, .null, .int (sx_i 0), .int (sx_i 0), .int (sx_i 0), .null, .null, .int (sx_i 0), .null, .int (sx_i 0), .null, .null, .int (sx_i 0), .int (sx_i 0), .null, .null]))] 21 [(1, .ref qx), (0, .ref b)] [.ref qm]
  refine su_dup C dd_L_law_21 rfl ?_
  refine su_aload_n C 1 dd_L_law_22 rfl rfl ?_
  refine su_iconst C dd_L_law_23 rfl ?_
  refine su_stat (As := [.ref b, .int (sx_i 0)]) (rest := [.ref qm, .ref qm]) C (sc_cell (k := 0) ⟨by decide, by decide⟩ hL) (sx_cwS (n := 2) C.2.2.2.2.1 wd_184 wd_182 wd_183 wd_0 rfl rfl (by decide +kernel) ⟨by decide, by decide⟩) (fun H locs hS => ⟨fun a U g mk q => ⟨q.1, q.2.1.moved (Vm.Alike.refl U.vm), q.2.2⟩, fun U hU hW => ⟨rfl, by rw [hU]; exact (hX.kept (hS.2.1 b hbl (Nat.not_le.mpr hbl))).moved hW.alike, by rw [hU]; exact Nat.lt_of_lt_of_le hbl hS.1⟩⟩) rfl rfl (Nat.le_of_ble_eq_true rfl) dd_L_law_24 ⟨(Nat.le_of_ble_eq_true rfl), (Nat.le_of_ble_eq_true rfl)⟩ ?_
  refine su_aload_n C 1 dd_L_law_27 rfl rfl ?_
  refine su_iconst C dd_L_law_28 rfl ?_
  refine su_stat (As := [.ref b, .int (sx_i 1)]) (rest := [.int (sx_i (sr_cell L xs 0)), .ref qm, .ref qm]) C (sc_cell (k := 1) ⟨by decide, by decide⟩ hL) (sx_cwS (n := 2) C.2.2.2.2.1 wd_184 wd_182 wd_183 wd_0 rfl rfl (by decide +kernel) ⟨by decide, by decide⟩) (fun H locs hS => ⟨fun a U g mk q => ⟨q.1, q.2.1.moved (Vm.Alike.refl U.vm), q.2.2⟩, fun U hU hW => ⟨rfl, by rw [hU]; exact (hX.kept (hS.2.1 b hbl (Nat.not_le.mpr hbl))).moved hW.alike, by rw [hU]; exact Nat.lt_of_lt_of_le hbl hS.1⟩⟩) rfl rfl (Nat.le_of_ble_eq_true rfl) dd_L_law_29 ⟨(Nat.le_of_ble_eq_true rfl), (Nat.le_of_ble_eq_true rfl)⟩ ?_
  refine su_call (wr := [(qx, .inr (4, [.ref x16, .ref x0, .ref x1, .ref x2, .ref x6, .ref x10, .ref x13, .int (sx_i 0), .int (sx_i 2), .int (sx_i 5)])), (x0, .inl (cI, 8, .inl (fun _ => sx_i 0))), (x1, .inl (cI, 8, .inl (fun _ => sx_i 0))), (x2, .inr (3, [.ref x3, .ref x4, .ref x5, .int (sx_i 0), .int (sx_i 0)])), (x3, .inl (cI, 16, .inl (fun _ => sx_i 0))), (x4, .inl (cI, 16, .inl (fun _ => sx_i 0))), (x5, .inl (cI, 8, .inl (fun _ => sx_i 0))), (x6, .inr (3, [.ref x7, .ref x8, .ref x9, .int (sx_i 0), .int (sx_i 0)])), (x7, .inl (cI, 16, .inl (fun _ => sx_i 0))), (x8, .inl (cI, 16, .inl (fun _ => sx_i 0))), (x9, .inl (cI, 8, .inl (fun _ => sx_i 0))), (x10, .inr (0, [.ref x11, .ref x12, .int (sx_i 0), .int (sx_i 0)])), (x11, .inl (cI, 81, .inl (fun _ => sx_i 0))), (x12, .inl (cI, 8, .inl (fun _ => sx_i 0))), (x13, .inr (2, [.ref x15, .ref x14, .int (sx_i 0)])), (x14, .inl (cI, 4, .inl (fun _ => sx_i 0))), (x15, .inl (cI, 80, .inl (fun j => sx_i (if (j : Int) < 80 then -1 else 0)))), (x16, .inr (1, [.int (sx_i (sr_near (sr_cell L xs 0))), .int (sx_i (sr_near (sr_cell L xs 1))), .ref x17, .int (sx_i 0), .int (sx_i 0), .int (sx_i 0)])), (x17, .inl (cI, 256, .inl (fun _ => sx_i 0)))]) C 19 [0, 1, 2, 3, 4, 5, 6, 7, 8, 9, 10, 11, 12, 13, 14, 15, 16, 17, 18] rfl rfl (by decide) (by decide) (fun sz2 => sc_M_init (sr_cellR L xs 0) (sr_cellR L xs 1) sz2) (fun H locs ls hl hp => va_runI (As := [.int (sx_i (sr_cell L xs 0)), .int (sx_i (sr_cell L xs 1))]) (rest := [.ref qm]) ⟨C.1, C.2.1, C.2.2.1, C.2.2.2.1, C.2.2.2.2.1⟩ (sc_M_init (sr_cellR L xs 0) (sr_cellR L xs 1) _) (cwI 2 C.2.2.2.2.1 (fun w h => sx_good (w := w) wd_590 w h) rfl rfl rfl (C.2.2.2.2.1 _ wd_8) (C.2.2.2.2.1 _ wd_588) (C.2.2.2.2.1 _ wd_589) rfl (by decide +kernel) ⟨by decide, by decide⟩) hp rfl rfl hl.1 rfl (lv_room (Nat.le_of_ble_eq_true rfl)) dd_L_law_32 ⟨(Nat.le_of_ble_eq_true rfl), (Nat.le_of_ble_eq_true rfl)⟩) (fun w hw => ?_)
  obtain ⟨y0, y1, y2, y3, y4, y5, y6, y7, y8, y9, rfl⟩ := hw
  show sx_U sr_cl (dC, dI) (fun q : Nat => s.heap.size ≤ q) 7 p l e room_1 s m #[Value.ref b] below meth c (lw_Z below #[Value.ref b] s) 30 1300 [(qx, .inr (4, [.ref x16, .ref x0, .ref x1, .ref x2, .ref x6, .ref x10, .ref x13, .int (sx_i 0), .int (sx_i 2), .int (sx_i 5)])), (x0, .inl (cI, 8, .inl (fun _ => sx_i 0))), (x1, .inl (cI, 8, .inl (fun _ => sx_i 0))), (x2, .inr (3, [.ref x3, .ref x4, .ref x5, .int (sx_i 0), .int (sx_i 0)])), (x3, .inl (cI, 16, .inl (fun _ => sx_i 0))), (x4, .inl (cI, 16, .inl (fun _ => sx_i 0))), (x5, .inl (cI, 8, .inl (fun _ => sx_i 0))), (x6, .inr (3, [.ref x7, .ref x8, .ref x9, .int (sx_i 0), .int (sx_i 0)])), (x7, .inl (cI, 16, .inl (fun _ => sx_i 0))), (x8, .inl (cI, 16, .inl (fun _ => sx_i 0))), (x9, .inl (cI, 8, .inl (fun _ => sx_i 0))), (x10, .inr (0, [.ref x11, .ref x12, .int (sx_i 0), .int (sx_i 0)])), (x11, .inl (cI, 81, .inl (fun _ => sx_i 0))), (x12, .inl (cI, 8, .inl (fun _ => sx_i 0))), (x13, .inr (2, [.ref x15, .ref x14, .int (sx_i 0)])), (x14, .inl (cI, 4, .inl (fun _ => sx_i 0))), (x15, .inl (cI, 80, .inl (fun j => sx_i (if (j : Int) < 80 then -1 else 0)))), (x16, .inr (1, [.int (sx_i (sr_near (sr_cell L xs 0))), .int (sx_i (sr_near (sr_cell L xs 1))), .ref x17, .int (sx_i 0), .int (sx_i 0), .int (sx_i 0)])), (x17, .inl (cI, 256, .inl (fun _ => sx_i 0))), (qm, .inr (5, [.int (sx_i 0), .int (sx_i (sr_near (sr_cell L xs 0))), .int (sx_i (sr_near (sr_cell L xs 1))), .ref y0, .int (sx_i 0), .ref y1, .ref y2, .int (sx_i 2), .int (sx_i 5), .int (sx_i 0), .ref y3, .ref y4, .int (sx_i 0), .ref y5, .int (sx_i 0), .ref y6, .ref y7, .int (sx_i 0), .int (sx_i 0), .ref y8, .ref y9])), (y0, .inl (cI, 256, .inl (fun _ => sx_i 0))), (y1, .inl (cI, 8, .inl (fun _ => sx_i 0))), (y2, .inl (cI, 8, .inl (fun _ => sx_i 0))), (y3, .inl (cI, 16, .inl (fun _ => sx_i 0))), (y4, .inl (cI, 16, .inl (fun _ => sx_i 0))), (y5, .inl (cI, 16, .inl (fun _ => sx_i 0))), (y6, .inl (cI, 16, .inl (fun _ => sx_i 0))), (y7, .inl (cI, 289, .inl (fun _ => sx_i 0))), (y8, .inl (cI, 16, .inl (fun _ => sx_i 0))), (y9, .inl (cI, 80, .inl (fun _ => sx_i 0)))] 35 [(1, .ref qx), (0, .ref b)] [.ref qm]
  refine su_astore_n (lu := [(2, .ref qm), (1, .ref qx), (0, .ref b)]) C dd_L_law_35 rfl (by decide) rfl ?_
  refine su_iconst C dd_L_law_36 rfl ?_
  refine su_newJ (N0 := 1) C rfl (by decide) w_arrJ (Nat.le_of_ble_eq_true rfl) (Nat.le_of_ble_eq_true rfl) dd_L_law_37 (fun qo => ?_)
  show sx_U sr_cl (dC, dI) (fun q : Nat => s.heap.size ≤ q) 7 p l e room_1 s m #[Value.ref b] below meth c (lw_Z below #[Value.ref b] s) 31 1301 [(qx, .inr (4, [.ref x16, .ref x0, .ref x1, .ref x2, .ref x6, .ref x10, .ref x13, .int (sx_i 0), .int (sx_i 2), .int (sx_i 5)])), (x0, .inl (cI, 8, .inl (fun _ => sx_i 0))), (x1, .inl (cI, 8, .inl (fun _ => sx_i 0))), (x2, .inr (3, [.ref x3, .ref x4, .ref x5, .int (sx_i 0), .int (sx_i 0)])), (x3, .inl (cI, 16, .inl (fun _ => sx_i 0))), (x4, .inl (cI, 16, .inl (fun _ => sx_i 0))), (x5, .inl (cI, 8, .inl (fun _ => sx_i 0))), (x6, .inr (3, [.ref x7, .ref x8, .ref x9, .int (sx_i 0), .int (sx_i 0)])), (x7, .inl (cI, 16, .inl (fun _ => sx_i 0))), (x8, .inl (cI, 16, .inl (fun _ => sx_i 0))), (x9, .inl (cI, 8, .inl (fun _ => sx_i 0))), (x10, .inr (0, [.ref x11, .ref x12, .int (sx_i 0), .int (sx_i 0)])), (x11, .inl (cI, 81, .inl (fun _ => sx_i 0))), (x12, .inl (cI, 8, .inl (fun _ => sx_i 0))), (x13, .inr (2, [.ref x15, .ref x14, .int (sx_i 0)])), (x14, .inl (cI, 4, .inl (fun _ => sx_i 0))), (x15, .inl (cI, 80, .inl (fun j => sx_i (if (j : Int) < 80 then -1 else 0)))), (x16, .inr (1, [.int (sx_i (sr_near (sr_cell L xs 0))), .int (sx_i (sr_near (sr_cell L xs 1))), .ref x17, .int (sx_i 0), .int (sx_i 0), .int (sx_i 0)])), (x17, .inl (cI, 256, .inl (fun _ => sx_i 0))), (qm, .inr (5, [.int (sx_i 0), .int (sx_i (sr_near (sr_cell L xs 0))), .int (sx_i (sr_near (sr_cell L xs 1))), .ref y0, .int (sx_i 0), .ref y1, .ref y2, .int (sx_i 2), .int (sx_i 5), .int (sx_i 0), .ref y3, .ref y4, .int (sx_i 0), .ref y5, .int (sx_i 0), .ref y6, .ref y7, .int (sx_i 0), .int (sx_i 0), .ref y8, .ref y9])), (y0, .inl (cI, 256, .inl (fun _ => sx_i 0))), (y1, .inl (cI, 8, .inl (fun _ => sx_i 0))), (y2, .inl (cI, 8, .inl (fun _ => sx_i 0))), (y3, .inl (cI, 16, .inl (fun _ => sx_i 0))), (y4, .inl (cI, 16, .inl (fun _ => sx_i 0))), (y5, .inl (cI, 16, .inl (fun _ => sx_i 0))), (y6, .inl (cI, 16, .inl (fun _ => sx_i 0))), (y7, .inl (cI, 289, .inl (fun _ => sx_i 0))), (y8, .inl (cI, 16, .inl (fun _ => sx_i 0))), (y9, .inl (cI, 80, .inl (fun _ => sx_i 0))), (qo, .inl (cJ, 1, .inr (.inl (fun _ => sx_j 0))))] 39 [(2, .ref qm), (1, .ref qx), (0, .ref b)] [.ref qo]
  refine su_astore_n (lu := [(3, .ref qo), (2, .ref qm), (1, .ref qx), (0, .ref b)]) C dd_L_law_39 rfl (by decide) rfl ?_
  refine su_iconst C dd_L_law_40 rfl ?_
  refine su_istore (lu := [(4, .int (sx_i 2)), (3, .ref qo), (2, .ref qm), (1, .ref qx), (0, .ref b)]) C dd_L_law_41 (by decide) rfl ?_
  intro H locs ls hP hD hS hl
  have hP6 := hP.sub (ws' := [(qx, .inr (4, [.ref x16, .ref x0, .ref x1, .ref x2, .ref x6, .ref x10, .ref x13, .int (sx_i 0), .int (sx_i 2), .int (sx_i 5)])), (x0, .inl (cI, 8, .inl (fun _ => sx_i 0))), (x1, .inl (cI, 8, .inl (fun _ => sx_i 0))), (x16, .inr (1, [.int (sx_i (sr_near (sr_cell L xs 0))), .int (sx_i (sr_near (sr_cell L xs 1))), .ref x17, .int (sx_i 0), .int (sx_i 0), .int (sx_i 0)])), (x17, .inl (cI, 256, .inl (fun _ => sx_i 0))), (x2, .inr (3, [.ref x3, .ref x4, .ref x5, .int (sx_i 0), .int (sx_i 0)])), (x3, .inl (cI, 16, .inl (fun _ => sx_i 0))), (x4, .inl (cI, 16, .inl (fun _ => sx_i 0))), (x5, .inl (cI, 8, .inl (fun _ => sx_i 0))), (x6, .inr (3, [.ref x7, .ref x8, .ref x9, .int (sx_i 0), .int (sx_i 0)])), (x7, .inl (cI, 16, .inl (fun _ => sx_i 0))), (x8, .inl (cI, 16, .inl (fun _ => sx_i 0))), (x9, .inl (cI, 8, .inl (fun _ => sx_i 0))), (x10, .inr (0, [.ref x11, .ref x12, .int (sx_i 0), .int (sx_i 0)])), (x11, .inl (cI, 81, .inl (fun _ => sx_i 0))), (x12, .inl (cI, 8, .inl (fun _ => sx_i 0))), (x13, .inr (2, [.ref x15, .ref x14, .int (sx_i 0)])), (x15, .inl (cI, 80, .inl (fun j => sx_i (if (j : Int) < 80 then -1 else 0)))), (x14, .inl (cI, 4, .inl (fun _ => sx_i 0))), (qm, .inr (5, [.int (sx_i 0), .int (sx_i (sr_near (sr_cell L xs 0))), .int (sx_i (sr_near (sr_cell L xs 1))), .ref y0, .int (sx_i 0), .ref y1, .ref y2, .int (sx_i 2), .int (sx_i 5), .int (sx_i 0), .ref y3, .ref y4, .int (sx_i 0), .ref y5, .int (sx_i 0), .ref y6, .ref y7, .int (sx_i 0), .int (sx_i 0), .ref y8, .ref y9])), (y0, .inl (cI, 256, .inl (fun _ => sx_i 0))), (y1, .inl (cI, 8, .inl (fun _ => sx_i 0))), (y2, .inl (cI, 8, .inl (fun _ => sx_i 0))), (y3, .inl (cI, 16, .inl (fun _ => sx_i 0))), (y4, .inl (cI, 16, .inl (fun _ => sx_i 0))), (y5, .inl (cI, 16, .inl (fun _ => sx_i 0))), (y6, .inl (cI, 16, .inl (fun _ => sx_i 0))), (y7, .inl (cI, 289, .inl (fun _ => sx_i 0))), (y8, .inl (cI, 16, .inl (fun _ => sx_i 0))), (y9, .inl (cI, 80, .inl (fun _ => sx_i 0))), (qo, .inl (cJ, 1, .inr (.inl (fun _ => sx_j 0))))]) [0, 1, 2, 17, 18, 3, 4, 5, 6, 7, 8, 9, 10, 11, 12, 13, 14, 16, 15, 19, 20, 21, 22, 23, 24, 25, 26, 27, 28, 29, 30] rfl
  have hD6 := hD.sub (ws' := [(qx, .inr (4, [.ref x16, .ref x0, .ref x1, .ref x2, .ref x6, .ref x10, .ref x13, .int (sx_i 0), .int (sx_i 2), .int (sx_i 5)])), (x0, .inl (cI, 8, .inl (fun _ => sx_i 0))), (x1, .inl (cI, 8, .inl (fun _ => sx_i 0))), (x16, .inr (1, [.int (sx_i (sr_near (sr_cell L xs 0))), .int (sx_i (sr_near (sr_cell L xs 1))), .ref x17, .int (sx_i 0), .int (sx_i 0), .int (sx_i 0)])), (x17, .inl (cI, 256, .inl (fun _ => sx_i 0))), (x2, .inr (3, [.ref x3, .ref x4, .ref x5, .int (sx_i 0), .int (sx_i 0)])), (x3, .inl (cI, 16, .inl (fun _ => sx_i 0))), (x4, .inl (cI, 16, .inl (fun _ => sx_i 0))), (x5, .inl (cI, 8, .inl (fun _ => sx_i 0))), (x6, .inr (3, [.ref x7, .ref x8, .ref x9, .int (sx_i 0), .int (sx_i 0)])), (x7, .inl (cI, 16, .inl (fun _ => sx_i 0))), (x8, .inl (cI, 16, .inl (fun _ => sx_i 0))), (x9, .inl (cI, 8, .inl (fun _ => sx_i 0))), (x10, .inr (0, [.ref x11, .ref x12, .int (sx_i 0), .int (sx_i 0)])), (x11, .inl (cI, 81, .inl (fun _ => sx_i 0))), (x12, .inl (cI, 8, .inl (fun _ => sx_i 0))), (x13, .inr (2, [.ref x15, .ref x14, .int (sx_i 0)])), (x15, .inl (cI, 80, .inl (fun j => sx_i (if (j : Int) < 80 then -1 else 0)))), (x14, .inl (cI, 4, .inl (fun _ => sx_i 0))), (qm, .inr (5, [.int (sx_i 0), .int (sx_i (sr_near (sr_cell L xs 0))), .int (sx_i (sr_near (sr_cell L xs 1))), .ref y0, .int (sx_i 0), .ref y1, .ref y2, .int (sx_i 2), .int (sx_i 5), .int (sx_i 0), .ref y3, .ref y4, .int (sx_i 0), .ref y5, .int (sx_i 0), .ref y6, .ref y7, .int (sx_i 0), .int (sx_i 0), .ref y8, .ref y9])), (y0, .inl (cI, 256, .inl (fun _ => sx_i 0))), (y1, .inl (cI, 8, .inl (fun _ => sx_i 0))), (y2, .inl (cI, 8, .inl (fun _ => sx_i 0))), (y3, .inl (cI, 16, .inl (fun _ => sx_i 0))), (y4, .inl (cI, 16, .inl (fun _ => sx_i 0))), (y5, .inl (cI, 16, .inl (fun _ => sx_i 0))), (y6, .inl (cI, 16, .inl (fun _ => sx_i 0))), (y7, .inl (cI, 289, .inl (fun _ => sx_i 0))), (y8, .inl (cI, 16, .inl (fun _ => sx_i 0))), (y9, .inl (cI, 80, .inl (fun _ => sx_i 0))), (qo, .inl (cJ, 1, .inr (.inl (fun _ => sx_j 0))))]) [0, 1, 2, 17, 18, 3, 4, 5, 6, 7, 8, 9, 10, 11, 12, 13, 14, 16, 15, 19, 20, 21, 22, 23, 24, 25, 26, 27, 28, 29, 30] (by decide) rfl
  rw [sr_world qx x0 x1 x16 x17 x2 x3 x4 x5 x6 x7 x8 x9 x10 x11 x12 x13 x15 x14 qm y0 y1 y2 y3 y4 y5 y6 y7 y8 y9 qo] at hP6 hD6
  obtain ⟨hJ, hAd⟩ := sx_J_of hD6
  exact sm_L_law_43 ⟨hx, hb, hml, hown, hts, hK, fun _ h => h, hJ, hAd⟩ hZ hr hlocks hlf hX hbl hL 514 2 _ 31 1301 (by decide) (by decide) hpure H locs ls hP6 hS (lv_sub hl [4, 3, 2, 1, 0] rfl)
