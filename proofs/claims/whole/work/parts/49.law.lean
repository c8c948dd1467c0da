section SXG
variable {D : va_G} {cI cJ : ClassId} {ad : Nat → Nat} {p : Program} {l : Launch} {e : Env} {s : State} {m : MethodId} {below : List Frame} {meth : Method} {c : Code} {b L : Nat} {xs : Nat → Int32}
set_option maxHeartbeats 4000000 in
set_option maxRecDepth 100000 in
theorem sm_L_law_1646 (C : sx_C sr_lay sr_cl D cI cJ ad (fun q : Nat => s.heap.size ≤ q) 7 "StoneRingsLaw" code sr_ts p s m #[Value.ref b] c) (hZ : sx_Z (fun q : Nat => s.heap.size ≤ q) s s.heap) (hr : meth.sig.returnType = ret) (hlk : meth.locks = false) (hlf : l.stackTraces = false) (hX : va_X b L xs s s.heap) (hbl : b < s.heap.size) (hLL : L ≤ 2050) {n : Nat} {r43 : Int → sx_M → Prop} (hr43 : ∀ (x4 : Int) (μ : sx_M) (cells slots : Nat), cells + n ≤ 1063 → slots + 6 * n ≤ 9541 → r43 x4 μ → sx_V sr_lay sr_cl D cI cJ ad (fun q : Nat => s.heap.size ≤ q) 7 p l e room_1 s m #[Value.ref b] below meth c (lw_Z below #[Value.ref b] s) cells slots μ 43 [(0, .ref b), (1, .ref (ad 0)), (2, .ref (ad 19)), (3, .ref (ad 30)), (4, .int (sx_i x4))] []) {cells slots : Nat} (hc : cells + (n + 1) ≤ 1063) (hs : slots + 6 * (n + 1) ≤ 9541) {x4 : Int} {μ : sx_M} (h : sw_L_law_1646 (sx_sc xs) (L : Int) r43 x4 μ) : sx_V sr_lay sr_cl D cI cJ ad (fun q : Nat => s.heap.size ≤ q) 7 p l e room_1 s m #[Value.ref b] below meth c (lw_Z below #[Value.ref b] s) (cells + 1) (slots + 6) μ 1646 [(0, .ref b), (1, .ref (ad 0)), (2, .ref (ad 19)), (3, .ref (ad 30)), (4, .int (sx_i x4))] [] := by
  unfold sw_L_law_1646 at h
  refine sx_iinc (lu := [(4, .int (sx_i (x4 + 4))), (0, .ref b), (1, .ref (ad 0)), (2, .ref (ad 19)), (3, .ref (ad 30))]) C 4 dd_L_law_1646 rfl (by decide) rfl ?_
  refine sx_goto (tgt := 43) C dd_L_law_1649 (by decide) ?_
  refine sx_less (lu := [(0, .ref b), (1, .ref (ad 0)), (2, .ref (ad 19)), (3, .ref (ad 30)), (4, .int (sx_i (x4 + 4)))]) C [1, 2, 3, 4, 0] rfl ?_
  exact hr43 _ _ _ _ (by omega) (by omega) h
set_option maxHeartbeats 4000000 in
set_option maxRecDepth 100000 in
theorem sm_L_law_1621 (C : sx_C sr_lay sr_cl D cI cJ ad (fun q : Nat => s.heap.size ≤ q) 7 "StoneRingsLaw" code sr_ts p s m #[Value.ref b] c) (hZ : sx_Z (fun q : Nat => s.heap.size ≤ q) s s.heap) (hr : meth.sig.returnType = ret) (hlk : meth.locks = false) (hlf : l.stackTraces = false) (hX : va_X b L xs s s.heap) (hbl : b < s.heap.size) (hLL : L ≤ 2050) {n : Nat} {r43 : Int → sx_M → Prop} (hr43 : ∀ (x4 : Int) (μ : sx_M) (cells slots : Nat), cells + n ≤ 1063 → slots + 6 * n ≤ 9541 → r43 x4 μ → sx_V sr_lay sr_cl D cI cJ ad (fun q : Nat => s.heap.size ≤ q) 7 p l e room_1 s m #[Value.ref b] below meth c (lw_Z below #[Value.ref b] s) cells slots μ 43 [(0, .ref b), (1, .ref (ad 0)), (2, .ref (ad 19)), (3, .ref (ad 30)), (4, .int (sx_i x4))] []) {cells slots : Nat} (hc : cells + (n + 1) ≤ 1063) (hs : slots + 6 * (n + 1) ≤ 9541) {x4 : Int} {μ : sx_M} (h : sw_L_law_1621 (sx_sc xs) (L : Int) r43 x4 μ) : sx_V sr_lay sr_cl D cI cJ ad (fun q : Nat => s.heap.size ≤ q) 7 p l e room_1 s m #[Value.ref b] below meth c (lw_Z below #[Value.ref b] s) cells slots μ 1621 [(0, .ref b), (1, .ref (ad 0)), (2, .ref (ad 19)), (3, .ref (ad 30)), (4, .int (sx_i x4))] [] := by
  unfold sw_L_law_1621 at h
  refine sx_aload_n C 1 dd_L_law_1621 rfl rfl ?_
  refine sx_aload_n C 0 dd_L_law_1622 rfl rfl ?_
  refine sx_iload C 4 dd_L_law_1623 rfl ?_
  refine sx_iconst C dd_L_law_1625 rfl ?_
  refine sx_iadd C dd_L_law_1626 ?_
  refine sx_sld C hX hbl (Nat.not_le.mpr hbl) (by omega) dd_L_law_1627 h (fun h => ?_)
  refine sx_invI (c0 := 0) C hZ [.int (sx_i ((sx_sc xs) (x4 + 1)))] (fun sz2 => sm_S_count hlf h sz2) (sx_cwV (n := 1) C.2.2.2.2.1 wd_165 wd_162 wd_163 wd_164 wd_1 rfl rfl (by decide +kernel) ⟨by decide, by decide⟩) rfl (rfl : sr_cl[4]? = some ("StoneRings", tt_S, 10)) rfl rfl (Nat.le_of_ble_eq_true rfl) dd_L_law_1628 ⟨by show _ ≤ 1063; omega, by show _ ≤ 9541; omega⟩ sx_noX (fun v1 μ1 h => ?_)
  refine sx_aload_n C 2 dd_L_law_1631 rfl rfl ?_
  refine sx_aload_n C 0 dd_L_law_1632 rfl rfl ?_
  refine sx_iload C 4 dd_L_law_1633 rfl ?_
  refine sx_iconst C dd_L_law_1635 rfl ?_
  refine sx_iadd C dd_L_law_1636 ?_
  refine sx_sld C hX hbl (Nat.not_le.mpr hbl) (by omega) dd_L_law_1637 h (fun h => ?_)
  refine sx_invI (c0 := 19) C hZ [.int (sx_i ((sx_sc xs) (x4 + 1)))] (fun sz2 => sm_M_count hlf h sz2) (sx_cwV (n := 1) C.2.2.2.2.1 wd_810 wd_807 wd_808 wd_809 wd_8 rfl rfl (by decide +kernel) ⟨by decide, by decide⟩) rfl (rfl : sr_cl[5]? = some ("StoneRingsModel", tt_M, 21)) rfl rfl (Nat.le_of_ble_eq_true rfl) dd_L_law_1638 ⟨by show _ ≤ 1063; omega, by show _ ≤ 9541; omega⟩ sx_noX (fun v2 μ2 h => ?_)
  refine sx_icmp_eq (tgt := 1646) C dd_L_law_1641 (by decide) h (fun h => ?_) (fun h => ?_)
  · refine sx_wide (cells2 := cells + 1) (slots2 := slots + 6) C (by omega) (by omega) ?_
    exact sm_L_law_1646 C hZ hr hlk hlf hX hbl hLL hr43 hc hs h
  · refine sx_iconst C dd_L_law_1644 rfl ?_
    exact sx_lret C hr hlk (fun _ h => h) (by omega) (by omega) dd_L_law_1645 h
set_option maxHeartbeats 4000000 in
set_option maxRecDepth 100000 in
theorem sm_L_law_1618 (C : sx_C sr_lay sr_cl D cI cJ ad (fun q : Nat => s.heap.size ≤ q) 7 "StoneRingsLaw" code sr_ts p s m #[Value.ref b] c) (hZ : sx_Z (fun q : Nat => s.heap.size ≤ q) s s.heap) (hr : meth.sig.returnType = ret) (hlk : meth.locks = false) (hlf : l.stackTraces = false) (hX : va_X b L xs s s.heap) (hbl : b < s.heap.size) (hLL : L ≤ 2050) {n : Nat} {r43 : Int → sx_M → Prop} (hr43 : ∀ (x4 : Int) (μ : sx_M) (cells slots : Nat), cells + n ≤ 1063 → slots + 6 * n ≤ 9541 → r43 x4 μ → sx_V sr_lay sr_cl D cI cJ ad (fun q : Nat => s.heap.size ≤ q) 7 p l e room_1 s m #[Value.ref b] below meth c (lw_Z below #[Value.ref b] s) cells slots μ 43 [(0, .ref b), (1, .ref (ad 0)), (2, .ref (ad 19)), (3, .ref (ad 30)), (4, .int (sx_i x4))] []) {cells slots : Nat} (hc : cells + (n + 1) ≤ 1063) (hs : slots + 6 * (n + 1) ≤ 9541) {x4 : Int} {μ : sx_M} (h : sw_L_law_1618 (sx_sc xs) (L : Int) r43 x4 μ) : sx_V sr_lay sr_cl D cI cJ ad (fun q : Nat => s.heap.size ≤ q) 7 p l e room_1 s m #[Value.ref b] below meth c (lw_Z below #[Value.ref b] s) (cells + 1) (slots + 6) μ 1618 [(0, .ref b), (1, .ref (ad 0)), (2, .ref (ad 19)), (3, .ref (ad 30)), (4, .int (sx_i x4))] [] := by
  unfold sw_L_law_1618 at h
  refine sx_goto (tgt := 1646) C dd_L_law_1618 (by decide) ?_
  exact sm_L_law_1646 C hZ hr hlk hlf hX hbl hLL hr43 hc hs h
set_option maxHeartbeats 4000000 in
set_option maxRecDepth 100000 in
theorem sm_L_law_1612 (C : sx_C sr_lay sr_cl D cI cJ ad (fun q : Nat => s.heap.size ≤ q) 7 "StoneRingsLaw" code sr_ts p s m #[Value.ref b] c) (hZ : sx_Z (fun q : Nat => s.heap.size ≤ q) s s.heap) (hr : meth.sig.returnType = ret) (hlk : meth.locks = false) (hlf : l.stackTraces = false) (hX : va_X b L xs s s.heap) (hbl : b < s.heap.size) (hLL : L ≤ 2050) {n : Nat} {r43 : Int → sx_M → Prop} (hr43 : ∀ (x4 : Int) (μ : sx_M) (cells slots : Nat), cells + n ≤ 1063 → slots + 6 * n ≤ 9541 → r43 x4 μ → sx_V sr_lay sr_cl D cI cJ ad (fun q : Nat => s.heap.size ≤ q) 7 p l e room_1 s m #[Value.ref b] below meth c (lw_Z below #[Value.ref b] s) cells slots μ 43 [(0, .ref b), (1, .ref (ad 0)), (2, .ref (ad 19)), (3, .ref (ad 30)), (4, .int (sx_i x4))] []) {cells slots : Nat} (hc : cells + (n + 1) ≤ 1063) (hs : slots + 6 * (n + 1) ≤ 9541) {x4 y0 y1 : Int} {μ : sx_M} (h : sw_L_law_1612 (sx_sc xs) (L : Int) r43 x4 y0 y1 μ) : sx_V sr_lay sr_cl D cI cJ ad (fun q : Nat => s.heap.size ≤ q) 7 p l e room_1 s m #[Value.ref b] below meth c (lw_Z below #[Value.ref b] s) (cells + 1) (slots + 6) μ 1612 [(0, .ref b), (1, .ref (ad 0)), (2, .ref (ad 19)), (3, .ref (ad 30)), (4, .int (sx_i x4))] [.long (sx_j y1), .long (sx_j y0)] := by
  unfold sw_L_law_1612 at h
  refine sx_cmpL C dd_L_law_1612 h (fun h => ?_)
  refine sx_if_eq (tgt := 1618) C dd_L_law_1613 (by decide) h (fun h => ?_) (fun h => ?_)
  · exact sm_L_law_1618 C hZ hr hlk hlf hX hbl hLL hr43 hc hs h
  · refine sx_iconst C dd_L_law_1616 rfl ?_
    exact sx_lret C hr hlk (fun _ h => h) (by omega) (by omega) dd_L_law_1617 h
set_option maxHeartbeats 4000000 in
set_option maxRecDepth 100000 in
theorem sm_L_law_1546 (C : sx_C sr_lay sr_cl D cI cJ ad (fun q : Nat => s.heap.size ≤ q) 7 "StoneRingsLaw" code sr_ts p s m #[Value.ref b] c) (hZ : sx_Z (fun q : Nat => s.heap.size ≤ q) s s.heap) (hr : meth.sig.returnType = ret) (hlk : meth.locks = false) (hlf : l.stackTraces = false) (hX : va_X b L xs s s.heap) (hbl : b < s.heap.size) (hLL : L ≤ 2050) {n : Nat} {r43 : Int → sx_M → Prop} (hr43 : ∀ (x4 : Int) (μ : sx_M) (cells slots : Nat), cells + n ≤ 1063 → slots + 6 * n ≤ 9541 → r43 x4 μ → sx_V sr_lay sr_cl D cI cJ ad (fun q : Nat => s.heap.size ≤ q) 7 p l e room_1 s m #[Value.ref b] below meth c (lw_Z below #[Value.ref b] s) cells slots μ 43 [(0, .ref b), (1, .ref (ad 0)), (2, .ref (ad 19)), (3, .ref (ad 30)), (4, .int (sx_i x4))] []) {cells slots : Nat} (hc : cells + (n + 1) ≤ 1063) (hs : slots + 6 * (n + 1) ≤ 9541) {x4 : Int} {μ : sx_M} (h : sw_L_law_1546 (sx_sc xs) (L : Int) r43 x4 μ) : sx_V sr_lay sr_cl D cI cJ ad (fun q : Nat => s.heap.size ≤ q) 7 p l e room_1 s m #[Value.ref b] below meth c (lw_Z below #[Value.ref b] s) cells slots μ 1546 [(0, .ref b), (1, .ref (ad 0)), (2, .ref (ad 19)), (3, .ref (ad 30)), (4, .int (sx_i x4))] [] := by
  unfold sw_L_law_1546 at h
  refine sx_aload_n C 1 dd_L_law_1546 rfl rfl ?_
  refine sx_aload_n C 0 dd_L_law_1547 rfl rfl ?_
  refine sx_iload C 4 dd_L_law_1548 rfl ?_
  refine sx_iconst C dd_L_law_1550 rfl ?_
  refine sx_iadd C dd_L_law_1551 ?_
  refine sx_sld C hX hbl (Nat.not_le.mpr hbl) (by omega) dd_L_law_1552 h (fun h => ?_)
  refine sx_aload_n C 0 dd_L_law_1553 rfl rfl ?_
  refine sx_iload C 4 dd_L_law_1554 rfl ?_
  refine sx_iconst C dd_L_law_1556 rfl ?_
  refine sx_iadd C dd_L_law_1557 ?_
  refine sx_sld C hX hbl (Nat.not_le.mpr hbl) (by omega) dd_L_law_1558 h (fun h => ?_)
  refine sx_aload_n C 3 dd_L_law_1559 rfl rfl ?_
  refine sx_stcL C hZ [.ref (ad 0), .int (sx_i ((sx_sc xs) (x4 + 1))), .int (sx_i ((sx_sc xs) (x4 + 2))), .ref (ad 30)] (fun sz2 => sm_L_twin hlf h sz2) (sx_cwL (n := 4) C.2.2.2.2.1 wd_577 wd_575 wd_576 wd_0 rfl rfl (by decide +kernel) ⟨by decide, by decide⟩) rfl rfl (Nat.le_of_ble_eq_true rfl) dd_L_law_1560 ⟨by show _ ≤ 1063; omega, by show _ ≤ 9541; omega⟩ (fun v1 μ1 h => ?_)
  refine sx_istore (lu := [(5, .int (sx_i v1)), (0, .ref b), (1, .ref (ad 0)), (2, .ref (ad 19)), (3, .ref (ad 30)), (4, .int (sx_i x4))]) C dd_L_law_1563 (by decide) rfl ?_
  refine sx_aload_n C 3 dd_L_law_1565 rfl rfl ?_
  refine sx_aload_n C 1 dd_L_law_1566 rfl rfl ?_
  refine sx_iload C 5 dd_L_law_1567 rfl ?_
  refine sx_iconst C dd_L_law_1569 rfl ?_
  refine sx_iadd C dd_L_law_1570 ?_
  refine sx_sld C hX hbl (Nat.not_le.mpr hbl) (by omega) dd_L_law_1571 h (fun h => ?_)
  refine sx_aload_n C 1 dd_L_law_1572 rfl rfl ?_
  refine sx_iload C 5 dd_L_law_1573 rfl ?_
  refine sx_iconst C dd_L_law_1575 rfl ?_
  refine sx_iadd C dd_L_law_1576 ?_
  refine sx_sld C hX hbl (Nat.not_le.mpr hbl) (by omega) dd_L_law_1577 h (fun h => ?_)
  refine sx_invI (c0 := 19) C hZ [.int (sx_i ((sx_sc xs) (x4 + 1))), .int (sx_i ((sx_sc xs) (x4 + 2)))] (fun sz2 => sm_M_twin hlf h sz2) (sx_cwV (n := 2) C.2.2.2.2.1 wd_806 wd_803 wd_804 wd_805 wd_8 rfl rfl (by decide +kernel) ⟨by decide, by decide⟩) rfl (rfl : sr_cl[5]? = some ("StoneRingsModel", tt_M, 21)) rfl rfl (Nat.le_of_ble_eq_true rfl) dd_L_law_1578 ⟨by show _ ≤ 1063; omega, by show _ ≤ 9541; omega⟩ sx_noX (fun v2 μ2 h => ?_)
  refine sx_istore (lu := [(6, .int (sx_i v2)), (5, .int (sx_i v1)), (0, .ref b), (1, .ref (ad 0)), (2, .ref (ad 19)), (3, .ref (ad 30)), (4, .int (sx_i x4))]) C dd_L_law_1581 (by decide) rfl ?_
  refine sx_aload_n C 4 dd_L_law_1583 rfl rfl ?_
  refine sx_invI (c0 := 19) C hZ [] (fun sz2 => sm_M_thrown hlf h sz2) (sx_cwV (n := 0) C.2.2.2.2.1 wd_659 wd_656 wd_657 wd_658 wd_8 rfl rfl (by decide +kernel) ⟨by decide, by decide⟩) rfl (rfl : sr_cl[5]? = some ("StoneRingsModel", tt_M, 21)) rfl rfl (Nat.le_of_ble_eq_true rfl) dd_L_law_1584 ⟨by show _ ≤ 1063; omega, by show _ ≤ 9541; omega⟩ sx_noX (fun v3 μ3 h => ?_)
  refine sx_iload C 1 dd_L_law_1587 rfl ?_
  refine sx_icmp_eq (tgt := 1594) C dd_L_law_1589 (by decide) h (fun h => ?_) (fun h => ?_)
  · refine sx_iload C 1 dd_L_law_1594 rfl ?_
    refine sx_if_ne (tgt := 1618) C dd_L_law_1596 (by decide) h (fun h => ?_) (fun h => ?_)
    · refine sx_less (lu := [(0, .ref b), (1, .ref (ad 0)), (2, .ref (ad 19)), (3, .ref (ad 30)), (4, .int (sx_i x4))]) C [2, 3, 4, 5, 6] rfl ?_
      exact sm_L_law_1618 C hZ hr hlk hlf hX hbl hLL hr43 hc hs h
    · refine sx_aload_n C 5 dd_L_law_1599 rfl rfl ?_
      refine sx_iconst C dd_L_law_1600 rfl ?_
      refine sx_lald (N := 1) C 30 rfl rfl (by decide) dd_L_law_1601 h (fun h => ?_)
      refine sx_iload C 0 dd_L_law_1602 rfl ?_
      refine sx_if_eq (tgt := 1611) C dd_L_law_1604 (by decide) h (fun h => ?_) (fun h => ?_)
      · refine sx_lconst (v := 0) C dd_L_law_1611 (by decide +kernel) ?_
        refine sx_less (lu := [(0, .ref b), (1, .ref (ad 0)), (2, .ref (ad 19)), (3, .ref (ad 30)), (4, .int (sx_i x4))]) C [2, 3, 4, 5, 6] rfl ?_
        exact sm_L_law_1612 C hZ hr hlk hlf hX hbl hLL hr43 hc hs h
      · refine sx_lconst (v := 1) C dd_L_law_1607 (by decide +kernel) ?_
        refine sx_goto (tgt := 1612) C dd_L_law_1608 (by decide) ?_
        refine sx_less (lu := [(0, .ref b), (1, .ref (ad 0)), (2, .ref (ad 19)), (3, .ref (ad 30)), (4, .int (sx_i x4))]) C [2, 3, 4, 5, 6] rfl ?_
        exact sm_L_law_1612 C hZ hr hlk hlf hX hbl hLL hr43 hc hs h
  · refine sx_iconst C dd_L_law_1592 rfl ?_
    exact sx_lret C hr hlk (fun _ h => h) (by omega) (by omega) dd_L_law_1593 h
set_option maxHeartbeats 4000000 in
set_option maxRecDepth 100000 in
theorem sm_L_law_1543 (C : sx_C sr_lay sr_cl D cI cJ ad (fun q : Nat => s.heap.size ≤ q) 7 "StoneRingsLaw" code sr_ts p s m #[Value.ref b] c) (hZ : sx_Z (fun q : Nat => s.heap.size ≤ q) s s.heap) (hr : meth.sig.returnType = ret) (hlk : meth.locks = false) (hlf : l.stackTraces = false) (hX : va_X b L xs s s.heap) (hbl : b < s.heap.size) (hLL : L ≤ 2050) {n : Nat} {r43 : Int → sx_M → Prop} (hr43 : ∀ (x4 : Int) (μ : sx_M) (cells slots : Nat), cells + n ≤ 1063 → slots + 6 * n ≤ 9541 → r43 x4 μ → sx_V sr_lay sr_cl D cI cJ ad (fun q : Nat => s.heap.size ≤ q) 7 p l e room_1 s m #[Value.ref b] below meth c (lw_Z below #[Value.ref b] s) cells slots μ 43 [(0, .ref b), (1, .ref (ad 0)), (2, .ref (ad 19)), (3, .ref (ad 30)), (4, .int (sx_i x4))] []) {cells slots : Nat} (hc : cells + (n + 1) ≤ 1063) (hs : slots + 6 * (n + 1) ≤ 9541) {x4 : Int} {μ : sx_M} (h : sw_L_law_1543 (sx_sc xs) (L : Int) r43 x4 μ) : sx_V sr_lay sr_cl D cI cJ ad (fun q : Nat => s.heap.size ≤ q) 7 p l e room_1 s m #[Value.ref b] below meth c (lw_Z below #[Value.ref b] s) (cells + 1) (slots + 6) μ 1543 [(0, .ref b), (1, .ref (ad 0)), (2, .ref (ad 19)), (3, .ref (ad 30)), (4, .int (sx_i x4))] [] := by
  unfold sw_L_law_1543 at h
  refine sx_goto (tgt := 1646) C dd_L_law_1543 (by decide) ?_
  exact sm_L_law_1646 C hZ hr hlk hlf hX hbl hLL hr43 hc hs h
set_option maxHeartbeats 4000000 in
set_option maxRecDepth 100000 in
theorem sm_L_law_1466 (C : sx_C sr_lay sr_cl D cI cJ ad (fun q : Nat => s.heap.size ≤ q) 7 "StoneRingsLaw" code sr_ts p s m #[Value.ref b] c) (hZ : sx_Z (fun q : Nat => s.heap.size ≤ q) s s.heap) (hr : meth.sig.returnType = ret) (hlk : meth.locks = false) (hlf : l.stackTraces = false) (hX : va_X b L xs s s.heap) (hbl : b < s.heap.size) (hLL : L ≤ 2050) {n : Nat} {r43 : Int → sx_M → Prop} (hr43 : ∀ (x4 : Int) (μ : sx_M) (cells slots : Nat), cells + n ≤ 1063 → slots + 6 * n ≤ 9541 → r43 x4 μ → sx_V sr_lay sr_cl D cI cJ ad (fun q : Nat => s.heap.size ≤ q) 7 p l e room_1 s m #[Value.ref b] below meth c (lw_Z below #[Value.ref b] s) cells slots μ 43 [(0, .ref b), (1, .ref (ad 0)), (2, .ref (ad 19)), (3, .ref (ad 30)), (4, .int (sx_i x4))] []) {cells slots : Nat} (hc : cells + (n + 1) ≤ 1063) (hs : slots + 6 * (n + 1) ≤ 9541) {x4 : Int} {μ : sx_M} (h : sw_L_law_1466 (sx_sc xs) (L : Int) r43 x4 μ) : sx_V sr_lay sr_cl D cI cJ ad (fun q : Nat => s.heap.size ≤ q) 7 p l e room_1 s m #[Value.ref b] below meth c (lw_Z below #[Value.ref b] s) cells slots μ 1466 [(0, .ref b), (1, .ref (ad 0)), (2, .ref (ad 19)), (3, .ref (ad 30)), (4, .int (sx_i x4))] [] := by
  unfold sw_L_law_1466 at h
  refine sx_aload_n C 1 dd_L_law_1466 rfl rfl ?_
  refine sx_aload_n C 0 dd_L_law_1467 rfl rfl ?_
  refine sx_iload C 4 dd_L_law_1468 rfl ?_
  refine sx_iconst C dd_L_law_1470 rfl ?_
  refine sx_iadd C dd_L_law_1471 ?_
  refine sx_sld C hX hbl (Nat.not_le.mpr hbl) (by omega) dd_L_law_1472 h (fun h => ?_)
  refine sx_aload_n C 0 dd_L_law_1473 rfl rfl ?_
  refine sx_iload C 4 dd_L_law_1474 rfl ?_
  refine sx_iconst C dd_L_law_1476 rfl ?_
  refine sx_iadd C dd_L_law_1477 ?_
  refine sx_sld C hX hbl (Nat.not_le.mpr hbl) (by omega) dd_L_law_1478 h (fun h => ?_)
  refine sx_aload_n C 0 dd_L_law_1479 rfl rfl ?_
  refine sx_iload C 4 dd_L_law_1480 rfl ?_
  refine sx_iconst C dd_L_law_1482 rfl ?_
  refine sx_iadd C dd_L_law_1483 ?_
  refine sx_sld C hX hbl (Nat.not_le.mpr hbl) (by omega) dd_L_law_1484 h (fun h => ?_)
  refine sx_aload_n C 3 dd_L_law_1485 rfl rfl ?_
  refine sx_stcL C hZ [.ref (ad 0), .int (sx_i ((sx_sc xs) (x4 + 1))), .int (sx_i ((sx_sc xs) (x4 + 2))), .int (sx_i ((sx_sc xs) (x4 + 3))), .ref (ad 30)] (fun sz2 => sm_L_age hlf h sz2) (sx_cwL (n := 5) C.2.2.2.2.1 wd_570 wd_568 wd_569 wd_0 rfl rfl (by decide +kernel) ⟨by decide, by decide⟩) rfl rfl (Nat.le_of_ble_eq_true rfl) dd_L_law_1486 ⟨by show _ ≤ 1063; omega, by show _ ≤ 9541; omega⟩ (fun v1 μ1 h => ?_)
  refine sx_istore (lu := [(5, .int (sx_i v1)), (0, .ref b), (1, .ref (ad 0)), (2, .ref (ad 19)), (3, .ref (ad 30)), (4, .int (sx_i x4))]) C dd_L_law_1489 (by decide) rfl ?_
  refine sx_aload_n C 3 dd_L_law_1491 rfl rfl ?_
  refine sx_aload_n C 1 dd_L_law_1492 rfl rfl ?_
  refine sx_iload C 5 dd_L_law_1493 rfl ?_
  refine sx_iconst C dd_L_law_1495 rfl ?_
  refine sx_iadd C dd_L_law_1496 ?_
  refine sx_sld C hX hbl (Nat.not_le.mpr hbl) (by omega) dd_L_law_1497 h (fun h => ?_)
  refine sx_aload_n C 1 dd_L_law_1498 rfl rfl ?_
  refine sx_iload C 5 dd_L_law_1499 rfl ?_
  refine sx_iconst C dd_L_law_1501 rfl ?_
  refine sx_iadd C dd_L_law_1502 ?_
  refine sx_sld C hX hbl (Nat.not_le.mpr hbl) (by omega) dd_L_law_1503 h (fun h => ?_)
  refine sx_aload_n C 1 dd_L_law_1504 rfl rfl ?_
  refine sx_iload C 5 dd_L_law_1505 rfl ?_
  refine sx_iconst C dd_L_law_1507 rfl ?_
  refine sx_iadd C dd_L_law_1508 ?_
  refine sx_sld C hX hbl (Nat.not_le.mpr hbl) (by omega) dd_L_law_1509 h (fun h => ?_)
  refine sx_invI (c0 := 19) C hZ [.int (sx_i ((sx_sc xs) (x4 + 1))), .int (sx_i ((sx_sc xs) (x4 + 2))), .int (sx_i ((sx_sc xs) (x4 + 3)))] (fun sz2 => sm_M_age hlf h sz2) (sx_cwV (n := 3) C.2.2.2.2.1 wd_802 wd_799 wd_800 wd_801 wd_8 rfl rfl (by decide +kernel) ⟨by decide, by decide⟩) rfl (rfl : sr_cl[5]? = some ("StoneRingsModel", tt_M, 21)) rfl rfl (Nat.le_of_ble_eq_true rfl) dd_L_law_1510 ⟨by show _ ≤ 1063; omega, by show _ ≤ 9541; omega⟩ sx_noX (fun v2 μ2 h => ?_)
  refine sx_istore (lu := [(6, .int (sx_i v2)), (5, .int (sx_i v1)), (0, .ref b), (1, .ref (ad 0)), (2, .ref (ad 19)), (3, .ref (ad 30)), (4, .int (sx_i x4))]) C dd_L_law_1513 (by decide) rfl ?_
  refine sx_aload_n C 4 dd_L_law_1515 rfl rfl ?_
  refine sx_invI (c0 := 19) C hZ [] (fun sz2 => sm_M_thrown hlf h sz2) (sx_cwV (n := 0) C.2.2.2.2.1 wd_659 wd_656 wd_657 wd_658 wd_8 rfl rfl (by decide +kernel) ⟨by decide, by decide⟩) rfl (rfl : sr_cl[5]? = some ("StoneRingsModel", tt_M, 21)) rfl rfl (Nat.le_of_ble_eq_true rfl) dd_L_law_1516 ⟨by show _ ≤ 1063; omega, by show _ ≤ 9541; omega⟩ sx_noX (fun v3 μ3 h => ?_)
  refine sx_iload C 1 dd_L_law_1519 rfl ?_
  refine sx_icmp_eq (tgt := 1526) C dd_L_law_1521 (by decide) h (fun h => ?_) (fun h => ?_)
  · refine sx_iload C 1 dd_L_law_1526 rfl ?_
    refine sx_if_ne (tgt := 1543) C dd_L_law_1528 (by decide) h (fun h => ?_) (fun h => ?_)
    · refine sx_less (lu := [(0, .ref b), (1, .ref (ad 0)), (2, .ref (ad 19)), (3, .ref (ad 30)), (4, .int (sx_i x4))]) C [2, 3, 4, 5, 6] rfl ?_
      exact sm_L_law_1543 C hZ hr hlk hlf hX hbl hLL hr43 hc hs h
    · refine sx_aload_n C 5 dd_L_law_1531 rfl rfl ?_
      refine sx_iconst C dd_L_law_1532 rfl ?_
      refine sx_lald (N := 1) C 30 rfl rfl (by decide) dd_L_law_1533 h (fun h => ?_)
      refine sx_iload C 0 dd_L_law_1534 rfl ?_
      refine sx_toL C dd_L_law_1536 h (fun h => ?_)
      refine sx_cmpL C dd_L_law_1537 h (fun h => ?_)
      refine sx_if_eq (tgt := 1543) C dd_L_law_1538 (by decide) h (fun h => ?_) (fun h => ?_)
      · refine sx_less (lu := [(0, .ref b), (1, .ref (ad 0)), (2, .ref (ad 19)), (3, .ref (ad 30)), (4, .int (sx_i x4))]) C [2, 3, 4, 5, 6] rfl ?_
        exact sm_L_law_1543 C hZ hr hlk hlf hX hbl hLL hr43 hc hs h
      · refine sx_iconst C dd_L_law_1541 rfl ?_
        exact sx_lret C hr hlk (fun _ h => h) (by omega) (by omega) dd_L_law_1542 h
  · refine sx_iconst C dd_L_law_1524 rfl ?_
    exact sx_lret C hr hlk (fun _ h => h) (by omega) (by omega) dd_L_law_1525 h
set_option maxHeartbeats 4000000 in
set_option maxRecDepth 100000 in
theorem sm_L_law_1463 (C : sx_C sr_lay sr_cl D cI cJ ad (fun q : Nat => s.heap.size ≤ q) 7 "StoneRingsLaw" code sr_ts p s m #[Value.ref b] c) (hZ : sx_Z (fun q : Nat => s.heap.size ≤ q) s s.heap) (hr : meth.sig.returnType = ret) (hlk : meth.locks = false) (hlf : l.stackTraces = false) (hX : va_X b L xs s s.heap) (hbl : b < s.heap.size) (hLL : L ≤ 2050) {n : Nat} {r43 : Int → sx_M → Prop} (hr43 : ∀ (x4 : Int) (μ : sx_M) (cells slots : Nat), cells + n ≤ 1063 → slots + 6 * n ≤ 9541 → r43 x4 μ → sx_V sr_lay sr_cl D cI cJ ad (fun q : Nat => s.heap.size ≤ q) 7 p l e room_1 s m #[Value.ref b] below meth c (lw_Z below #[Value.ref b] s) cells slots μ 43 [(0, .ref b), (1, .ref (ad 0)), (2, .ref (ad 19)), (3, .ref (ad 30)), (4, .int (sx_i x4))] []) {cells slots : Nat} (hc : cells + (n + 1) ≤ 1063) (hs : slots + 6 * (n + 1) ≤ 9541) {x4 : Int} {μ : sx_M} (h : sw_L_law_1463 (sx_sc xs) (L : Int) r43 x4 μ) : sx_V sr_lay sr_cl D cI cJ ad (fun q : Nat => s.heap.size ≤ q) 7 p l e room_1 s m #[Value.ref b] below meth c (lw_Z below #[Value.ref b] s) (cells + 1) (slots + 6) μ 1463 [(0, .ref b), (1, .ref (ad 0)), (2, .ref (ad 19)), (3, .ref (ad 30)), (4, .int (sx_i x4))] [] := by
  unfold sw_L_law_1463 at h
  refine sx_goto (tgt := 1646) C dd_L_law_1463 (by decide) ?_
  exact sm_L_law_1646 C hZ hr hlk hlf hX hbl hLL hr43 hc hs h
set_option maxHeartbeats 4000000 in
set_option maxRecDepth 100000 in
theorem sm_L_law_1410 (C : sx_C sr_lay sr_cl D cI cJ ad (fun q : Nat => s.heap.size ≤ q) 7 "StoneRingsLaw" code sr_ts p s m #[Value.ref b] c) (hZ : sx_Z (fun q : Nat => s.heap.size ≤ q) s s.heap) (hr : meth.sig.returnType = ret) (hlk : meth.locks = false) (hlf : l.stackTraces = false) (hX : va_X b L xs s s.heap) (hbl : b < s.heap.size) (hLL : L ≤ 2050) {n : Nat} {r43 : Int → sx_M → Prop} (hr43 : ∀ (x4 : Int) (μ : sx_M) (cells slots : Nat), cells + n ≤ 1063 → slots + 6 * n ≤ 9541 → r43 x4 μ → sx_V sr_lay sr_cl D cI cJ ad (fun q : Nat => s.heap.size ≤ q) 7 p l e room_1 s m #[Value.ref b] below meth c (lw_Z below #[Value.ref b] s) cells slots μ 43 [(0, .ref b), (1, .ref (ad 0)), (2, .ref (ad 19)), (3, .ref (ad 30)), (4, .int (sx_i x4))] []) {cells slots : Nat} (hc : cells + (n + 1) ≤ 1063) (hs : slots + 6 * (n + 1) ≤ 9541) {x4 : Int} {μ : sx_M} (h : sw_L_law_1410 (sx_sc xs) (L : Int) r43 x4 μ) : sx_V sr_lay sr_cl D cI cJ ad (fun q : Nat => s.heap.size ≤ q) 7 p l e room_1 s m #[Value.ref b] below meth c (lw_Z below #[Value.ref b] s) cells slots μ 1410 [(0, .ref b), (1, .ref (ad 0)), (2, .ref (ad 19)), (3, .ref (ad 30)), (4, .int (sx_i x4))] [] := by
  unfold sw_L_law_1410 at h
  refine sx_aload_n C 1 dd_L_law_1410 rfl rfl ?_
  refine sx_aload_n C 0 dd_L_law_1411 rfl rfl ?_
  refine sx_iload C 4 dd_L_law_1412 rfl ?_
  refine sx_iconst C dd_L_law_1414 rfl ?_
  refine sx_iadd C dd_L_law_1415 ?_
  refine sx_sld C hX hbl (Nat.not_le.mpr hbl) (by omega) dd_L_law_1416 h (fun h => ?_)
  refine sx_aload_n C 3 dd_L_law_1417 rfl rfl ?_
  refine sx_stcL C hZ [.ref (ad 0), .int (sx_i ((sx_sc xs) (x4 + 1))), .ref (ad 30)] (fun sz2 => sm_L_best hlf h sz2) (sx_cwL (n := 3) C.2.2.2.2.1 wd_554 wd_552 wd_553 wd_0 rfl rfl (by decide +kernel) ⟨by decide, by decide⟩) rfl rfl (Nat.le_of_ble_eq_true rfl) dd_L_law_1418 ⟨by show _ ≤ 1063; omega, by show _ ≤ 9541; omega⟩ (fun v1 μ1 h => ?_)
  refine sx_istore (lu := [(5, .int (sx_i v1)), (0, .ref b), (1, .ref (ad 0)), (2, .ref (ad 19)), (3, .ref (ad 30)), (4, .int (sx_i x4))]) C dd_L_law_1421 (by decide) rfl ?_
  refine sx_aload_n C 3 dd_L_law_1423 rfl rfl ?_
  refine sx_aload_n C 1 dd_L_law_1424 rfl rfl ?_
  refine sx_iload C 5 dd_L_law_1425 rfl ?_
  refine sx_iconst C dd_L_law_1427 rfl ?_
  refine sx_iadd C dd_L_law_1428 ?_
  refine sx_sld C hX hbl (Nat.not_le.mpr hbl) (by omega) dd_L_law_1429 h (fun h => ?_)
  refine sx_invI (c0 := 19) C hZ [.int (sx_i ((sx_sc xs) (x4 + 1)))] (fun sz2 => sm_M_best hlf h sz2) (sx_cwV (n := 1) C.2.2.2.2.1 wd_798 wd_795 wd_796 wd_797 wd_8 rfl rfl (by decide +kernel) ⟨by decide, by decide⟩) rfl (rfl : sr_cl[5]? = some ("StoneRingsModel", tt_M, 21)) rfl rfl (Nat.le_of_ble_eq_true rfl) dd_L_law_1430 ⟨by show _ ≤ 1063; omega, by show _ ≤ 9541; omega⟩ sx_noX (fun v2 μ2 h => ?_)
  refine sx_istore (lu := [(6, .int (sx_i v2)), (5, .int (sx_i v1)), (0, .ref b), (1, .ref (ad 0)), (2, .ref (ad 19)), (3, .ref (ad 30)), (4, .int (sx_i x4))]) C dd_L_law_1433 (by decide) rfl ?_
  refine sx_aload_n C 4 dd_L_law_1435 rfl rfl ?_
  refine sx_invI (c0 := 19) C hZ [] (fun sz2 => sm_M_thrown hlf h sz2) (sx_cwV (n := 0) C.2.2.2.2.1 wd_659 wd_656 wd_657 wd_658 wd_8 rfl rfl (by decide +kernel) ⟨by decide, by decide⟩) rfl (rfl : sr_cl[5]? = some ("StoneRingsModel", tt_M, 21)) rfl rfl (Nat.le_of_ble_eq_true rfl) dd_L_law_1436 ⟨by show _ ≤ 1063; omega, by show _ ≤ 9541; omega⟩ sx_noX (fun v3 μ3 h => ?_)
  refine sx_iload C 1 dd_L_law_1439 rfl ?_
  refine sx_icmp_eq (tgt := 1446) C dd_L_law_1441 (by decide) h (fun h => ?_) (fun h => ?_)
  · refine sx_iload C 1 dd_L_law_1446 rfl ?_
    refine sx_if_ne (tgt := 1463) C dd_L_law_1448 (by decide) h (fun h => ?_) (fun h => ?_)
    · refine sx_less (lu := [(0, .ref b), (1, .ref (ad 0)), (2, .ref (ad 19)), (3, .ref (ad 30)), (4, .int (sx_i x4))]) C [2, 3, 4, 5, 6] rfl ?_
      exact sm_L_law_1463 C hZ hr hlk hlf hX hbl hLL hr43 hc hs h
    · refine sx_aload_n C 5 dd_L_law_1451 rfl rfl ?_
      refine sx_iconst C dd_L_law_1452 rfl ?_
      refine sx_lald (N := 1) C 30 rfl rfl (by decide) dd_L_law_1453 h (fun h => ?_)
      refine sx_iload C 0 dd_L_law_1454 rfl ?_
      refine sx_toL C dd_L_law_1456 h (fun h => ?_)
      refine sx_cmpL C dd_L_law_1457 h (fun h => ?_)
      refine sx_if_eq (tgt := 1463) C dd_L_law_1458 (by decide) h (fun h => ?_) (fun h => ?_)
      · refine sx_less (lu := [(0, .ref b), (1, .ref (ad 0)), (2, .ref (ad 19)), (3, .ref (ad 30)), (4, .int (sx_i x4))]) C [2, 3, 4, 5, 6] rfl ?_
        exact sm_L_law_1463 C hZ hr hlk hlf hX hbl hLL hr43 hc hs h
      · refine sx_iconst C dd_L_law_1461 rfl ?_
        exact sx_lret C hr hlk (fun _ h => h) (by omega) (by omega) dd_L_law_1462 h
  · refine sx_iconst C dd_L_law_1444 rfl ?_
    exact sx_lret C hr hlk (fun _ h => h) (by omega) (by omega) dd_L_law_1445 h
set_option maxHeartbeats 4000000 in
set_option maxRecDepth 100000 in
theorem sm_L_law_1407 (C : sx_C sr_lay sr_cl D cI cJ ad (fun q : Nat => s.heap.size ≤ q) 7 "StoneRingsLaw" code sr_ts p s m #[Value.ref b] c) (hZ : sx_Z (fun q : Nat => s.heap.size ≤ q) s s.heap) (hr : meth.sig.returnType = ret) (hlk : meth.locks = false) (hlf : l.stackTraces = false) (hX : va_X b L xs s s.heap) (hbl : b < s.heap.size) (hLL : L ≤ 2050) {n : Nat} {r43 : Int → sx_M → Prop} (hr43 : ∀ (x4 : Int) (μ : sx_M) (cells slots : Nat), cells + n ≤ 1063 → slots + 6 * n ≤ 9541 → r43 x4 μ → sx_V sr_lay sr_cl D cI cJ ad (fun q : Nat => s.heap.size ≤ q) 7 p l e room_1 s m #[Value.ref b] below meth c (lw_Z below #[Value.ref b] s) cells slots μ 43 [(0, .ref b), (1, .ref (ad 0)), (2, .ref (ad 19)), (3, .ref (ad 30)), (4, .int (sx_i x4))] []) {cells slots : Nat} (hc : cells + (n + 1) ≤ 1063) (hs : slots + 6 * (n + 1) ≤ 9541) {x4 : Int} {μ : sx_M} (h : sw_L_law_1407 (sx_sc xs) (L : Int) r43 x4 μ) : sx_V sr_lay sr_cl D cI cJ ad (fun q : Nat => s.heap.size ≤ q) 7 p l e room_1 s m #[Value.ref b] below meth c (lw_Z below #[Value.ref b] s) (cells + 1) (slots + 6) μ 1407 [(0, .ref b), (1, .ref (ad 0)), (2, .ref (ad 19)), (3, .ref (ad 30)), (4, .int (sx_i x4))] [] := by
  unfold sw_L_law_1407 at h
  refine sx_goto (tgt := 1646) C dd_L_law_1407 (by decide) ?_
  exact sm_L_law_1646 C hZ hr hlk hlf hX hbl hLL hr43 hc hs h
set_option maxHeartbeats 4000000 in
set_option maxRecDepth 100000 in
theorem sm_L_law_1354 (C : sx_C sr_lay sr_cl D cI cJ ad (fun q : Nat => s.heap.size ≤ q) 7 "StoneRingsLaw" code sr_ts p s m #[Value.ref b] c) (hZ : sx_Z (fun q : Nat => s.heap.size ≤ q) s s.heap) (hr : meth.sig.returnType = ret) (hlk : meth.locks = false) (hlf : l.stackTraces = false) (hX : va_X b L xs s s.heap) (hbl : b < s.heap.size) (hLL : L ≤ 2050) {n : Nat} {r43 : Int → sx_M → Prop} (hr43 : ∀ (x4 : Int) (μ : sx_M) (cells slots : Nat), cells + n ≤ 1063 → slots + 6 * n ≤ 9541 → r43 x4 μ → sx_V sr_lay sr_cl D cI cJ ad (fun q : Nat => s.heap.size ≤ q) 7 p l e room_1 s m #[Value.ref b] below meth c (lw_Z below #[Value.ref b] s) cells slots μ 43 [(0, .ref b), (1, .ref (ad 0)), (2, .ref (ad 19)), (3, .ref (ad 30)), (4, .int (sx_i x4))] []) {cells slots : Nat} (hc : cells + (n + 1) ≤ 1063) (hs : slots + 6 * (n + 1) ≤ 9541) {x4 : Int} {μ : sx_M} (h : sw_L_law_1354 (sx_sc xs) (L : Int) r43 x4 μ) : sx_V sr_lay sr_cl D cI cJ ad (fun q : Nat => s.heap.size ≤ q) 7 p l e room_1 s m #[Value.ref b] below meth c (lw_Z below #[Value.ref b] s) cells slots μ 1354 [(0, .ref b), (1, .ref (ad 0)), (2, .ref (ad 19)), (3, .ref (ad 30)), (4, .int (sx_i x4))] [] := by
  unfold sw_L_law_1354 at h
  refine sx_aload_n C 1 dd_L_law_1354 rfl rfl ?_
  refine sx_aload_n C 0 dd_L_law_1355 rfl rfl ?_
  refine sx_iload C 4 dd_L_law_1356 rfl ?_
  refine sx_iconst C dd_L_law_1358 rfl ?_
  refine sx_iadd C dd_L_law_1359 ?_
  refine sx_sld C hX hbl (Nat.not_le.mpr hbl) (by omega) dd_L_law_1360 h (fun h => ?_)
  refine sx_aload_n C 3 dd_L_law_1361 rfl rfl ?_
  refine sx_stcL C hZ [.ref (ad 0), .int (sx_i ((sx_sc xs) (x4 + 1))), .ref (ad 30)] (fun sz2 => sm_L_right hlf h sz2) (sx_cwL (n := 3) C.2.2.2.2.1 wd_543 wd_541 wd_542 wd_0 rfl rfl (by decide +kernel) ⟨by decide, by decide⟩) rfl rfl (Nat.le_of_ble_eq_true rfl) dd_L_law_1362 ⟨by show _ ≤ 1063; omega, by show _ ≤ 9541; omega⟩ (fun v1 μ1 h => ?_)
  refine sx_istore (lu := [(5, .int (sx_i v1)), (0, .ref b), (1, .ref (ad 0)), (2, .ref (ad 19)), (3, .ref (ad 30)), (4, .int (sx_i x4))]) C dd_L_law_1365 (by decide) rfl ?_
  refine sx_aload_n C 3 dd_L_law_1367 rfl rfl ?_
  refine sx_aload_n C 1 dd_L_law_1368 rfl rfl ?_
  refine sx_iload C 5 dd_L_law_1369 rfl ?_
  refine sx_iconst C dd_L_law_1371 rfl ?_
  refine sx_iadd C dd_L_law_1372 ?_
  refine sx_sld C hX hbl (Nat.not_le.mpr hbl) (by omega) dd_L_law_1373 h (fun h => ?_)
  refine sx_invI (c0 := 19) C hZ [.int (sx_i ((sx_sc xs) (x4 + 1)))] (fun sz2 => sm_M_right hlf h sz2) (sx_cwV (n := 1) C.2.2.2.2.1 wd_790 wd_787 wd_788 wd_789 wd_8 rfl rfl (by decide +kernel) ⟨by decide, by decide⟩) rfl (rfl : sr_cl[5]? = some ("StoneRingsModel", tt_M, 21)) rfl rfl (Nat.le_of_ble_eq_true rfl) dd_L_law_1374 ⟨by show _ ≤ 1063; omega, by show _ ≤ 9541; omega⟩ sx_noX (fun v2 μ2 h => ?_)
  refine sx_istore (lu := [(6, .int (sx_i v2)), (5, .int (sx_i v1)), (0, .ref b), (1, .ref (ad 0)), (2, .ref (ad 19)), (3, .ref (ad 30)), (4, .int (sx_i x4))]) C dd_L_law_1377 (by decide) rfl ?_
  refine sx_aload_n C 4 dd_L_law_1379 rfl rfl ?_
  refine sx_invI (c0 := 19) C hZ [] (fun sz2 => sm_M_thrown hlf h sz2) (sx_cwV (n := 0) C.2.2.2.2.1 wd_659 wd_656 wd_657 wd_658 wd_8 rfl rfl (by decide +kernel) ⟨by decide, by decide⟩) rfl (rfl : sr_cl[5]? = some ("StoneRingsModel", tt_M, 21)) rfl rfl (Nat.le_of_ble_eq_true rfl) dd_L_law_1380 ⟨by show _ ≤ 1063; omega, by show _ ≤ 9541; omega⟩ sx_noX (fun v3 μ3 h => ?_)
  refine sx_iload C 1 dd_L_law_1383 rfl ?_
  refine sx_icmp_eq (tgt := 1390) C dd_L_law_1385 (by decide) h (fun h => ?_) (fun h => ?_)
  · refine sx_iload C 1 dd_L_law_1390 rfl ?_
    refine sx_if_ne (tgt := 1407) C dd_L_law_1392 (by decide) h (fun h => ?_) (fun h => ?_)
    · refine sx_less (lu := [(0, .ref b), (1, .ref (ad 0)), (2, .ref (ad 19)), (3, .ref (ad 30)), (4, .int (sx_i x4))]) C [2, 3, 4, 5, 6] rfl ?_
      exact sm_L_law_1407 C hZ hr hlk hlf hX hbl hLL hr43 hc hs h
    · refine sx_aload_n C 5 dd_L_law_1395 rfl rfl ?_
      refine sx_iconst C dd_L_law_1396 rfl ?_
      refine sx_lald (N := 1) C 30 rfl rfl (by decide) dd_L_law_1397 h (fun h => ?_)
      refine sx_iload C 0 dd_L_law_1398 rfl ?_
      refine sx_toL C dd_L_law_1400 h (fun h => ?_)
      refine sx_cmpL C dd_L_law_1401 h (fun h => ?_)
      refine sx_if_eq (tgt := 1407) C dd_L_law_1402 (by decide) h (fun h => ?_) (fun h => ?_)
      · refine sx_less (lu := [(0, .ref b), (1, .ref (ad 0)), (2, .ref (ad 19)), (3, .ref (ad 30)), (4, .int (sx_i x4))]) C [2, 3, 4, 5, 6] rfl ?_
        exact sm_L_law_1407 C hZ hr hlk hlf hX hbl hLL hr43 hc hs h
      · refine sx_iconst C dd_L_law_1405 rfl ?_
        exact sx_lret C hr hlk (fun _ h => h) (by omega) (by omega) dd_L_law_1406 h
  · refine sx_iconst C dd_L_law_1388 rfl ?_
    exact sx_lret C hr hlk (fun _ h => h) (by omega) (by omega) dd_L_law_1389 h
set_option maxHeartbeats 4000000 in
set_option maxRecDepth 100000 in
theorem sm_L_law_1351 (C : sx_C sr_lay sr_cl D cI cJ ad (fun q : Nat => s.heap.size ≤ q) 7 "StoneRingsLaw" code sr_ts p s m #[Value.ref b] c) (hZ : sx_Z (fun q : Nat => s.heap.size ≤ q) s s.heap) (hr : meth.sig.returnType = ret) (hlk : meth.locks = false) (hlf : l.stackTraces = false) (hX : va_X b L xs s s.heap) (hbl : b < s.heap.size) (hLL : L ≤ 2050) {n : Nat} {r43 : Int → sx_M → Prop} (hr43 : ∀ (x4 : Int) (μ : sx_M) (cells slots : Nat), cells + n ≤ 1063 → slots + 6 * n ≤ 9541 → r43 x4 μ → sx_V sr_lay sr_cl D cI cJ ad (fun q : Nat => s.heap.size ≤ q) 7 p l e room_1 s m #[Value.ref b] below meth c (lw_Z below #[Value.ref b] s) cells slots μ 43 [(0, .ref b), (1, .ref (ad 0)), (2, .ref (ad 19)), (3, .ref (ad 30)), (4, .int (sx_i x4))] []) {cells slots : Nat} (hc : cells + (n + 1) ≤ 1063) (hs : slots + 6 * (n + 1) ≤ 9541) {x4 : Int} {μ : sx_M} (h : sw_L_law_1351 (sx_sc xs) (L : Int) r43 x4 μ) : sx_V sr_lay sr_cl D cI cJ ad (fun q : Nat => s.heap.size ≤ q) 7 p l e room_1 s m #[Value.ref b] below meth c (lw_Z below #[Value.ref b] s) (cells + 1) (slots + 6) μ 1351 [(0, .ref b), (1, .ref (ad 0)), (2, .ref (ad 19)), (3, .ref (ad 30)), (4, .int (sx_i x4))] [] := by
  unfold sw_L_law_1351 at h
  refine sx_goto (tgt := 1646) C dd_L_law_1351 (by decide) ?_
  exact sm_L_law_1646 C hZ hr hlk hlf hX hbl hLL hr43 hc hs h
set_option maxHeartbeats 4000000 in
set_option maxRecDepth 100000 in
theorem sm_L_law_1298 (C : sx_C sr_lay sr_cl D cI cJ ad (fun q : Nat => s.heap.size ≤ q) 7 "StoneRingsLaw" code sr_ts p s m #[Value.ref b] c) (hZ : sx_Z (fun q : Nat => s.heap.size ≤ q) s s.heap) (hr : meth.sig.returnType = ret) (hlk : meth.locks = false) (hlf : l.stackTraces = false) (hX : va_X b L xs s s.heap) (hbl : b < s.heap.size) (hLL : L ≤ 2050) {n : Nat} {r43 : Int → sx_M → Prop} (hr43 : ∀ (x4 : Int) (μ : sx_M) (cells slots : Nat), cells + n ≤ 1063 → slots + 6 * n ≤ 9541 → r43 x4 μ → sx_V sr_lay sr_cl D cI cJ ad (fun q : Nat => s.heap.size ≤ q) 7 p l e room_1 s m #[Value.ref b] below meth c (lw_Z below #[Value.ref b] s) cells slots μ 43 [(0, .ref b), (1, .ref (ad 0)), (2, .ref (ad 19)), (3, .ref (ad 30)), (4, .int (sx_i x4))] []) {cells slots : Nat} (hc : cells + (n + 1) ≤ 1063) (hs : slots + 6 * (n + 1) ≤ 9541) {x4 : Int} {μ : sx_M} (h : sw_L_law_1298 (sx_sc xs) (L : Int) r43 x4 μ) : sx_V sr_lay sr_cl D cI cJ ad (fun q : Nat => s.heap.size ≤ q) 7 p l e room_1 s m #[Value.ref b] below meth c (lw_Z below #[Value.ref b] s) cells slots μ 1298 [(0, .ref b), (1, .ref (ad 0)), (2, .ref (ad 19)), (3, .ref (ad 30)), (4, .int (sx_i x4))] [] := by
  unfold sw_L_law_1298 at h
  refine sx_aload_n C 1 dd_L_law_1298 rfl rfl ?_
  refine sx_aload_n C 0 dd_L_law_1299 rfl rfl ?_
  refine sx_iload C 4 dd_L_law_1300 rfl ?_
  refine sx_iconst C dd_L_law_1302 rfl ?_
  refine sx_iadd C dd_L_law_1303 ?_
  refine sx_sld C hX hbl (Nat.not_le.mpr hbl) (by omega) dd_L_law_1304 h (fun h => ?_)
  refine sx_aload_n C 3 dd_L_law_1305 rfl rfl ?_
  refine sx_stcL C hZ [.ref (ad 0), .int (sx_i ((sx_sc xs) (x4 + 1))), .ref (ad 30)] (fun sz2 => sm_L_told hlf h sz2) (sx_cwL (n := 3) C.2.2.2.2.1 wd_535 wd_533 wd_534 wd_0 rfl rfl (by decide +kernel) ⟨by decide, by decide⟩) rfl rfl (Nat.le_of_ble_eq_true rfl) dd_L_law_1306 ⟨by show _ ≤ 1063; omega, by show _ ≤ 9541; omega⟩ (fun v1 μ1 h => ?_)
  refine sx_istore (lu := [(5, .int (sx_i v1)), (0, .ref b), (1, .ref (ad 0)), (2, .ref (ad 19)), (3, .ref (ad 30)), (4, .int (sx_i x4))]) C dd_L_law_1309 (by decide) rfl ?_
  refine sx_aload_n C 3 dd_L_law_1311 rfl rfl ?_
  refine sx_aload_n C 1 dd_L_law_1312 rfl rfl ?_
  refine sx_iload C 5 dd_L_law_1313 rfl ?_
  refine sx_iconst C dd_L_law_1315 rfl ?_
  refine sx_iadd C dd_L_law_1316 ?_
  refine sx_sld C hX hbl (Nat.not_le.mpr hbl) (by omega) dd_L_law_1317 h (fun h => ?_)
  refine sx_invI (c0 := 19) C hZ [.int (sx_i ((sx_sc xs) (x4 + 1)))] (fun sz2 => sm_M_told hlf h sz2) (sx_cwV (n := 1) C.2.2.2.2.1 wd_782 wd_779 wd_780 wd_781 wd_8 rfl rfl (by decide +kernel) ⟨by decide, by decide⟩) rfl (rfl : sr_cl[5]? = some ("StoneRingsModel", tt_M, 21)) rfl rfl (Nat.le_of_ble_eq_true rfl) dd_L_law_1318 ⟨by show _ ≤ 1063; omega, by show _ ≤ 9541; omega⟩ sx_noX (fun v2 μ2 h => ?_)
  refine sx_istore (lu := [(6, .int (sx_i v2)), (5, .int (sx_i v1)), (0, .ref b), (1, .ref (ad 0)), (2, .ref (ad 19)), (3, .ref (ad 30)), (4, .int (sx_i x4))]) C dd_L_law_1321 (by decide) rfl ?_
  refine sx_aload_n C 4 dd_L_law_1323 rfl rfl ?_
  refine sx_invI (c0 := 19) C hZ [] (fun sz2 => sm_M_thrown hlf h sz2) (sx_cwV (n := 0) C.2.2.2.2.1 wd_659 wd_656 wd_657 wd_658 wd_8 rfl rfl (by decide +kernel) ⟨by decide, by decide⟩) rfl (rfl : sr_cl[5]? = some ("StoneRingsModel", tt_M, 21)) rfl rfl (Nat.le_of_ble_eq_true rfl) dd_L_law_1324 ⟨by show _ ≤ 1063; omega, by show _ ≤ 9541; omega⟩ sx_noX (fun v3 μ3 h => ?_)
  refine sx_iload C 1 dd_L_law_1327 rfl ?_
  refine sx_icmp_eq (tgt := 1334) C dd_L_law_1329 (by decide) h (fun h => ?_) (fun h => ?_)
  · refine sx_iload C 1 dd_L_law_1334 rfl ?_
    refine sx_if_ne (tgt := 1351) C dd_L_law_1336 (by decide) h (fun h => ?_) (fun h => ?_)
    · refine sx_less (lu := [(0, .ref b), (1, .ref (ad 0)), (2, .ref (ad 19)), (3, .ref (ad 30)), (4, .int (sx_i x4))]) C [2, 3, 4, 5, 6] rfl ?_
      exact sm_L_law_1351 C hZ hr hlk hlf hX hbl hLL hr43 hc hs h
    · refine sx_aload_n C 5 dd_L_law_1339 rfl rfl ?_
      refine sx_iconst C dd_L_law_1340 rfl ?_
      refine sx_lald (N := 1) C 30 rfl rfl (by decide) dd_L_law_1341 h (fun h => ?_)
      refine sx_iload C 0 dd_L_law_1342 rfl ?_
      refine sx_toL C dd_L_law_1344 h (fun h => ?_)
      refine sx_cmpL C dd_L_law_1345 h (fun h => ?_)
      refine sx_if_eq (tgt := 1351) C dd_L_law_1346 (by decide) h (fun h => ?_) (fun h => ?_)
      · refine sx_less (lu := [(0, .ref b), (1, .ref (ad 0)), (2, .ref (ad 19)), (3, .ref (ad 30)), (4, .int (sx_i x4))]) C [2, 3, 4, 5, 6] rfl ?_
        exact sm_L_law_1351 C hZ hr hlk hlf hX hbl hLL hr43 hc hs h
      · refine sx_iconst C dd_L_law_1349 rfl ?_
        exact sx_lret C hr hlk (fun _ h => h) (by omega) (by omega) dd_L_law_1350 h
  · refine sx_iconst C dd_L_law_1332 rfl ?_
    exact sx_lret C hr hlk (fun _ h => h) (by omega) (by omega) dd_L_law_1333 h
set_option maxHeartbeats 4000000 in
set_option maxRecDepth 100000 in
theorem sm_L_law_1295 (C : sx_C sr_lay sr_cl D cI cJ ad (fun q : Nat => s.heap.size ≤ q) 7 "StoneRingsLaw" code sr_ts p s m #[Value.ref b] c) (hZ : sx_Z (fun q : Nat => s.heap.size ≤ q) s s.heap) (hr : meth.sig.returnType = ret) (hlk : meth.locks = false) (hlf : l.stackTraces = false) (hX : va_X b L xs s s.heap) (hbl : b < s.heap.size) (hLL : L ≤ 2050) {n : Nat} {r43 : Int → sx_M → Prop} (hr43 : ∀ (x4 : Int) (μ : sx_M) (cells slots : Nat), cells + n ≤ 1063 → slots + 6 * n ≤ 9541 → r43 x4 μ → sx_V sr_lay sr_cl D cI cJ ad (fun q : Nat => s.heap.size ≤ q) 7 p l e room_1 s m #[Value.ref b] below meth c (lw_Z below #[Value.ref b] s) cells slots μ 43 [(0, .ref b), (1, .ref (ad 0)), (2, .ref (ad 19)), (3, .ref (ad 30)), (4, .int (sx_i x4))] []) {cells slots : Nat} (hc : cells + (n + 1) ≤ 1063) (hs : slots + 6 * (n + 1) ≤ 9541) {x4 : Int} {μ : sx_M} (h : sw_L_law_1295 (sx_sc xs) (L : Int) r43 x4 μ) : sx_V sr_lay sr_cl D cI cJ ad (fun q : Nat => s.heap.size ≤ q) 7 p l e room_1 s m #[Value.ref b] below meth c (lw_Z below #[Value.ref b] s) (cells + 1) (slots + 6) μ 1295 [(0, .ref b), (1, .ref (ad 0)), (2, .ref (ad 19)), (3, .ref (ad 30)), (4, .int (sx_i x4))] [] := by
  unfold sw_L_law_1295 at h
  refine sx_goto (tgt := 1646) C dd_L_law_1295 (by decide) ?_
  exact sm_L_law_1646 C hZ hr hlk hlf hX hbl hLL hr43 hc hs h
set_option maxHeartbeats 4000000 in
set_option maxRecDepth 100000 in
theorem sm_L_law_1218 (C : sx_C sr_lay sr_cl D cI cJ ad (fun q : Nat => s.heap.size ≤ q) 7 "StoneRingsLaw" code sr_ts p s m #[Value.ref b] c) (hZ : sx_Z (fun q : Nat => s.heap.size ≤ q) s s.heap) (hr : meth.sig.returnType = ret) (hlk : meth.locks = false) (hlf : l.stackTraces = false) (hX : va_X b L xs s s.heap) (hbl : b < s.heap.size) (hLL : L ≤ 2050) {n : Nat} {r43 : Int → sx_M → Prop} (hr43 : ∀ (x4 : Int) (μ : sx_M) (cells slots : Nat), cells + n ≤ 1063 → slots + 6 * n ≤ 9541 → r43 x4 μ → sx_V sr_lay sr_cl D cI cJ ad (fun q : Nat => s.heap.size ≤ q) 7 p l e room_1 s m #[Value.ref b] below meth c (lw_Z below #[Value.ref b] s) cells slots μ 43 [(0, .ref b), (1, .ref (ad 0)), (2, .ref (ad 19)), (3, .ref (ad 30)), (4, .int (sx_i x4))] []) {cells slots : Nat} (hc : cells + (n + 1) ≤ 1063) (hs : slots + 6 * (n + 1) ≤ 9541) {x4 : Int} {μ : sx_M} (h : sw_L_law_1218 (sx_sc xs) (L : Int) r43 x4 μ) : sx_V sr_lay sr_cl D cI cJ ad (fun q : Nat => s.heap.size ≤ q) 7 p l e room_1 s m #[Value.ref b] below meth c (lw_Z below #[Value.ref b] s) cells slots μ 1218 [(0, .ref b), (1, .ref (ad 0)), (2, .ref (ad 19)), (3, .ref (ad 30)), (4, .int (sx_i x4))] [] := by
  unfold sw_L_law_1218 at h
  refine sx_aload_n C 1 dd_L_law_1218 rfl rfl ?_
  refine sx_aload_n C 0 dd_L_law_1219 rfl rfl ?_
  refine sx_iload C 4 dd_L_law_1220 rfl ?_
  refine sx_iconst C dd_L_law_1222 rfl ?_
  refine sx_iadd C dd_L_law_1223 ?_
  refine sx_sld C hX hbl (Nat.not_le.mpr hbl) (by omega) dd_L_law_1224 h (fun h => ?_)
  refine sx_aload_n C 0 dd_L_law_1225 rfl rfl ?_
  refine sx_iload C 4 dd_L_law_1226 rfl ?_
  refine sx_iconst C dd_L_law_1228 rfl ?_
  refine sx_iadd C dd_L_law_1229 ?_
  refine sx_sld C hX hbl (Nat.not_le.mpr hbl) (by omega) dd_L_law_1230 h (fun h => ?_)
  refine sx_aload_n C 0 dd_L_law_1231 rfl rfl ?_
  refine sx_iload C 4 dd_L_law_1232 rfl ?_
  refine sx_iconst C dd_L_law_1234 rfl ?_
  refine sx_iadd C dd_L_law_1235 ?_
  refine sx_sld C hX hbl (Nat.not_le.mpr hbl) (by omega) dd_L_law_1236 h (fun h => ?_)
  refine sx_aload_n C 3 dd_L_law_1237 rfl rfl ?_
  refine sx_stcL C hZ [.ref (ad 0), .int (sx_i ((sx_sc xs) (x4 + 1))), .int (sx_i ((sx_sc xs) (x4 + 2))), .int (sx_i ((sx_sc xs) (x4 + 3))), .ref (ad 30)] (fun sz2 => sm_L_bias hlf h sz2) (sx_cwL (n := 5) C.2.2.2.2.1 wd_524 wd_522 wd_523 wd_0 rfl rfl (by decide +kernel) ⟨by decide, by decide⟩) rfl rfl (Nat.le_of_ble_eq_true rfl) dd_L_law_1238 ⟨by show _ ≤ 1063; omega, by show _ ≤ 9541; omega⟩ (fun v1 μ1 h => ?_)
  refine sx_istore (lu := [(5, .int (sx_i v1)), (0, .ref b), (1, .ref (ad 0)), (2, .ref (ad 19)), (3, .ref (ad 30)), (4, .int (sx_i x4))]) C dd_L_law_1241 (by decide) rfl ?_
  refine sx_aload_n C 3 dd_L_law_1243 rfl rfl ?_
  refine sx_aload_n C 1 dd_L_law_1244 rfl rfl ?_
  refine sx_iload C 5 dd_L_law_1245 rfl ?_
  refine sx_iconst C dd_L_law_1247 rfl ?_
  refine sx_iadd C dd_L_law_1248 ?_
  refine sx_sld C hX hbl (Nat.not_le.mpr hbl) (by omega) dd_L_law_1249 h (fun h => ?_)
  refine sx_aload_n C 1 dd_L_law_1250 rfl rfl ?_
  refine sx_iload C 5 dd_L_law_1251 rfl ?_
  refine sx_iconst C dd_L_law_1253 rfl ?_
  refine sx_iadd C dd_L_law_1254 ?_
  refine sx_sld C hX hbl (Nat.not_le.mpr hbl) (by omega) dd_L_law_1255 h (fun h => ?_)
  refine sx_aload_n C 1 dd_L_law_1256 rfl rfl ?_
  refine sx_iload C 5 dd_L_law_1257 rfl ?_
  refine sx_iconst C dd_L_law_1259 rfl ?_
  refine sx_iadd C dd_L_law_1260 ?_
  refine sx_sld C hX hbl (Nat.not_le.mpr hbl) (by omega) dd_L_law_1261 h (fun h => ?_)
  refine sx_invI (c0 := 19) C hZ [.int (sx_i ((sx_sc xs) (x4 + 1))), .int (sx_i ((sx_sc xs) (x4 + 2))), .int (sx_i ((sx_sc xs) (x4 + 3)))] (fun sz2 => sm_M_bias hlf h sz2) (sx_cwV (n := 3) C.2.2.2.2.1 wd_778 wd_775 wd_776 wd_777 wd_8 rfl rfl (by decide +kernel) ⟨by decide, by decide⟩) rfl (rfl : sr_cl[5]? = some ("StoneRingsModel", tt_M, 21)) rfl rfl (Nat.le_of_ble_eq_true rfl) dd_L_law_1262 ⟨by show _ ≤ 1063; omega, by show _ ≤ 9541; omega⟩ sx_noX (fun v2 μ2 h => ?_)
  refine sx_istore (lu := [(6, .int (sx_i v2)), (5, .int (sx_i v1)), (0, .ref b), (1, .ref (ad 0)), (2, .ref (ad 19)), (3, .ref (ad 30)), (4, .int (sx_i x4))]) C dd_L_law_1265 (by decide) rfl ?_
  refine sx_aload_n C 4 dd_L_law_1267 rfl rfl ?_
  refine sx_invI (c0 := 19) C hZ [] (fun sz2 => sm_M_thrown hlf h sz2) (sx_cwV (n := 0) C.2.2.2.2.1 wd_659 wd_656 wd_657 wd_658 wd_8 rfl rfl (by decide +kernel) ⟨by decide, by decide⟩) rfl (rfl : sr_cl[5]? = some ("StoneRingsModel", tt_M, 21)) rfl rfl (Nat.le_of_ble_eq_true rfl) dd_L_law_1268 ⟨by show _ ≤ 1063; omega, by show _ ≤ 9541; omega⟩ sx_noX (fun v3 μ3 h => ?_)
  refine sx_iload C 1 dd_L_law_1271 rfl ?_
  refine sx_icmp_eq (tgt := 1278) C dd_L_law_1273 (by decide) h (fun h => ?_) (fun h => ?_)
  · refine sx_iload C 1 dd_L_law_1278 rfl ?_
    refine sx_if_ne (tgt := 1295) C dd_L_law_1280 (by decide) h (fun h => ?_) (fun h => ?_)
    · refine sx_less (lu := [(0, .ref b), (1, .ref (ad 0)), (2, .ref (ad 19)), (3, .ref (ad 30)), (4, .int (sx_i x4))]) C [2, 3, 4, 5, 6] rfl ?_
      exact sm_L_law_1295 C hZ hr hlk hlf hX hbl hLL hr43 hc hs h
    · refine sx_aload_n C 5 dd_L_law_1283 rfl rfl ?_
      refine sx_iconst C dd_L_law_1284 rfl ?_
      refine sx_lald (N := 1) C 30 rfl rfl (by decide) dd_L_law_1285 h (fun h => ?_)
      refine sx_iload C 0 dd_L_law_1286 rfl ?_
      refine sx_toL C dd_L_law_1288 h (fun h => ?_)
      refine sx_cmpL C dd_L_law_1289 h (fun h => ?_)
      refine sx_if_eq (tgt := 1295) C dd_L_law_1290 (by decide) h (fun h => ?_) (fun h => ?_)
      · refine sx_less (lu := [(0, .ref b), (1, .ref (ad 0)), (2, .ref (ad 19)), (3, .ref (ad 30)), (4, .int (sx_i x4))]) C [2, 3, 4, 5, 6] rfl ?_
        exact sm_L_law_1295 C hZ hr hlk hlf hX hbl hLL hr43 hc hs h
      · refine sx_iconst C dd_L_law_1293 rfl ?_
        exact sx_lret C hr hlk (fun _ h => h) (by omega) (by omega) dd_L_law_1294 h
  · refine sx_iconst C dd_L_law_1276 rfl ?_
    exact sx_lret C hr hlk (fun _ h => h) (by omega) (by omega) dd_L_law_1277 h
set_option maxHeartbeats 4000000 in
set_option maxRecDepth 100000 in
theorem sm_L_law_1215 (C : sx_C sr_lay sr_cl D cI cJ ad (fun q : Nat => s.heap.size ≤ q) 7 "StoneRingsLaw" code sr_ts p s m #[Value.ref b] c) (hZ : sx_Z (fun q : Nat => s.heap.size ≤ q) s s.heap) (hr : meth.sig.returnType = ret) (hlk : meth.locks = false) (hlf : l.stackTraces = false) (hX : va_X b L xs s s.heap) (hbl : b < s.heap.size) (hLL : L ≤ 2050) {n : Nat} {r43 : Int → sx_M → Prop} (hr43 : ∀ (x4 : Int) (μ : sx_M) (cells slots : Nat), cells + n ≤ 1063 → slots + 6 * n ≤ 9541 → r43 x4 μ → sx_V sr_lay sr_cl D cI cJ ad (fun q : Nat => s.heap.size ≤ q) 7 p l e room_1 s m #[Value.ref b] below meth c (lw_Z below #[Value.ref b] s) cells slots μ 43 [(0, .ref b), (1, .ref (ad 0)), (2, .ref (ad 19)), (3, .ref (ad 30)), (4, .int (sx_i x4))] []) {cells slots : Nat} (hc : cells + (n + 1) ≤ 1063) (hs : slots + 6 * (n + 1) ≤ 9541) {x4 : Int} {μ : sx_M} (h : sw_L_law_1215 (sx_sc xs) (L : Int) r43 x4 μ) : sx_V sr_lay sr_cl D cI cJ ad (fun q : Nat => s.heap.size ≤ q) 7 p l e room_1 s m #[Value.ref b] below meth c (lw_Z below #[Value.ref b] s) (cells + 1) (slots + 6) μ 1215 [(0, .ref b), (1, .ref (ad 0)), (2, .ref (ad 19)), (3, .ref (ad 30)), (4, .int (sx_i x4))] [] := by
  unfold sw_L_law_1215 at h
  refine sx_goto (tgt := 1646) C dd_L_law_1215 (by decide) ?_
  exact sm_L_law_1646 C hZ hr hlk hlf hX hbl hLL hr43 hc hs h
set_option maxHeartbeats 4000000 in
set_option maxRecDepth 100000 in
theorem sm_L_law_1138 (C : sx_C sr_lay sr_cl D cI cJ ad (fun q : Nat => s.heap.size ≤ q) 7 "StoneRingsLaw" code sr_ts p s m #[Value.ref b] c) (hZ : sx_Z (fun q : Nat => s.heap.size ≤ q) s s.heap) (hr : meth.sig.returnType = ret) (hlk : meth.locks = false) (hlf : l.stackTraces = false) (hX : va_X b L xs s s.heap) (hbl : b < s.heap.size) (hLL : L ≤ 2050) {n : Nat} {r43 : Int → sx_M → Prop} (hr43 : ∀ (x4 : Int) (μ : sx_M) (cells slots : Nat), cells + n ≤ 1063 → slots + 6 * n ≤ 9541 → r43 x4 μ → sx_V sr_lay sr_cl D cI cJ ad (fun q : Nat => s.heap.size ≤ q) 7 p l e room_1 s m #[Value.ref b] below meth c (lw_Z below #[Value.ref b] s) cells slots μ 43 [(0, .ref b), (1, .ref (ad 0)), (2, .ref (ad 19)), (3, .ref (ad 30)), (4, .int (sx_i x4))] []) {cells slots : Nat} (hc : cells + (n + 1) ≤ 1063) (hs : slots + 6 * (n + 1) ≤ 9541) {x4 : Int} {μ : sx_M} (h : sw_L_law_1138 (sx_sc xs) (L : Int) r43 x4 μ) : sx_V sr_lay sr_cl D cI cJ ad (fun q : Nat => s.heap.size ≤ q) 7 p l e room_1 s m #[Value.ref b] below meth c (lw_Z below #[Value.ref b] s) cells slots μ 1138 [(0, .ref b), (1, .ref (ad 0)), (2, .ref (ad 19)), (3, .ref (ad 30)), (4, .int (sx_i x4))] [] := by
  unfold sw_L_law_1138 at h
  refine sx_aload_n C 1 dd_L_law_1138 rfl rfl ?_
  refine sx_aload_n C 0 dd_L_law_1139 rfl rfl ?_
  refine sx_iload C 4 dd_L_law_1140 rfl ?_
  refine sx_iconst C dd_L_law_1142 rfl ?_
  refine sx_iadd C dd_L_law_1143 ?_
  refine sx_sld C hX hbl (Nat.not_le.mpr hbl) (by omega) dd_L_law_1144 h (fun h => ?_)
  refine sx_aload_n C 0 dd_L_law_1145 rfl rfl ?_
  refine sx_iload C 4 dd_L_law_1146 rfl ?_
  refine sx_iconst C dd_L_law_1148 rfl ?_
  refine sx_iadd C dd_L_law_1149 ?_
  refine sx_sld C hX hbl (Nat.not_le.mpr hbl) (by omega) dd_L_law_1150 h (fun h => ?_)
  refine sx_aload_n C 0 dd_L_law_1151 rfl rfl ?_
  refine sx_iload C 4 dd_L_law_1152 rfl ?_
  refine sx_iconst C dd_L_law_1154 rfl ?_
  refine sx_iadd C dd_L_law_1155 ?_
  refine sx_sld C hX hbl (Nat.not_le.mpr hbl) (by omega) dd_L_law_1156 h (fun h => ?_)
  refine sx_aload_n C 3 dd_L_law_1157 rfl rfl ?_
  refine sx_stcL C hZ [.ref (ad 0), .int (sx_i ((sx_sc xs) (x4 + 1))), .int (sx_i ((sx_sc xs) (x4 + 2))), .int (sx_i ((sx_sc xs) (x4 + 3))), .ref (ad 30)] (fun sz2 => sm_L_agree hlf h sz2) (sx_cwL (n := 5) C.2.2.2.2.1 wd_494 wd_492 wd_493 wd_0 rfl rfl (by decide +kernel) ⟨by decide, by decide⟩) rfl rfl (Nat.le_of_ble_eq_true rfl) dd_L_law_1158 ⟨by show _ ≤ 1063; omega, by show _ ≤ 9541; omega⟩ (fun v1 μ1 h => ?_)
  refine sx_istore (lu := [(5, .int (sx_i v1)), (0, .ref b), (1, .ref (ad 0)), (2, .ref (ad 19)), (3, .ref (ad 30)), (4, .int (sx_i x4))]) C dd_L_law_1161 (by decide) rfl ?_
  refine sx_aload_n C 3 dd_L_law_1163 rfl rfl ?_
  refine sx_aload_n C 1 dd_L_law_1164 rfl rfl ?_
  refine sx_iload C 5 dd_L_law_1165 rfl ?_
  refine sx_iconst C dd_L_law_1167 rfl ?_
  refine sx_iadd C dd_L_law_1168 ?_
  refine sx_sld C hX hbl (Nat.not_le.mpr hbl) (by omega) dd_L_law_1169 h (fun h => ?_)
  refine sx_aload_n C 1 dd_L_law_1170 rfl rfl ?_
  refine sx_iload C 5 dd_L_law_1171 rfl ?_
  refine sx_iconst C dd_L_law_1173 rfl ?_
  refine sx_iadd C dd_L_law_1174 ?_
  refine sx_sld C hX hbl (Nat.not_le.mpr hbl) (by omega) dd_L_law_1175 h (fun h => ?_)
  refine sx_aload_n C 1 dd_L_law_1176 rfl rfl ?_
  refine sx_iload C 5 dd_L_law_1177 rfl ?_
  refine sx_iconst C dd_L_law_1179 rfl ?_
  refine sx_iadd C dd_L_law_1180 ?_
  refine sx_sld C hX hbl (Nat.not_le.mpr hbl) (by omega) dd_L_law_1181 h (fun h => ?_)
  refine sx_invI (c0 := 19) C hZ [.int (sx_i ((sx_sc xs) (x4 + 1))), .int (sx_i ((sx_sc xs) (x4 + 2))), .int (sx_i ((sx_sc xs) (x4 + 3)))] (fun sz2 => sm_M_agree hlf h sz2) (sx_cwV (n := 3) C.2.2.2.2.1 wd_763 wd_760 wd_761 wd_762 wd_8 rfl rfl (by decide +kernel) ⟨by decide, by decide⟩) rfl (rfl : sr_cl[5]? = some ("StoneRingsModel", tt_M, 21)) rfl rfl (Nat.le_of_ble_eq_true rfl) dd_L_law_1182 ⟨by show _ ≤ 1063; omega, by show _ ≤ 9541; omega⟩ sx_noX (fun v2 μ2 h => ?_)
  refine sx_istore (lu := [(6, .int (sx_i v2)), (5, .int (sx_i v1)), (0, .ref b), (1, .ref (ad 0)), (2, .ref (ad 19)), (3, .ref (ad 30)), (4, .int (sx_i x4))]) C dd_L_law_1185 (by decide) rfl ?_
  refine sx_aload_n C 4 dd_L_law_1187 rfl rfl ?_
  refine sx_invI (c0 := 19) C hZ [] (fun sz2 => sm_M_thrown hlf h sz2) (sx_cwV (n := 0) C.2.2.2.2.1 wd_659 wd_656 wd_657 wd_658 wd_8 rfl rfl (by decide +kernel) ⟨by decide, by decide⟩) rfl (rfl : sr_cl[5]? = some ("StoneRingsModel", tt_M, 21)) rfl rfl (Nat.le_of_ble_eq_true rfl) dd_L_law_1188 ⟨by show _ ≤ 1063; omega, by show _ ≤ 9541; omega⟩ sx_noX (fun v3 μ3 h => ?_)
  refine sx_iload C 1 dd_L_law_1191 rfl ?_
  refine sx_icmp_eq (tgt := 1198) C dd_L_law_1193 (by decide) h (fun h => ?_) (fun h => ?_)
  · refine sx_iload C 1 dd_L_law_1198 rfl ?_
    refine sx_if_ne (tgt := 1215) C dd_L_law_1200 (by decide) h (fun h => ?_) (fun h => ?_)
    · refine sx_less (lu := [(0, .ref b), (1, .ref (ad 0)), (2, .ref (ad 19)), (3, .ref (ad 30)), (4, .int (sx_i x4))]) C [2, 3, 4, 5, 6] rfl ?_
      exact sm_L_law_1215 C hZ hr hlk hlf hX hbl hLL hr43 hc hs h
    · refine sx_aload_n C 5 dd_L_law_1203 rfl rfl ?_
      refine sx_iconst C dd_L_law_1204 rfl ?_
      refine sx_lald (N := 1) C 30 rfl rfl (by decide) dd_L_law_1205 h (fun h => ?_)
      refine sx_iload C 0 dd_L_law_1206 rfl ?_
      refine sx_toL C dd_L_law_1208 h (fun h => ?_)
      refine sx_cmpL C dd_L_law_1209 h (fun h => ?_)
      refine sx_if_eq (tgt := 1215) C dd_L_law_1210 (by decide) h (fun h => ?_) (fun h => ?_)
      · refine sx_less (lu := [(0, .ref b), (1, .ref (ad 0)), (2, .ref (ad 19)), (3, .ref (ad 30)), (4, .int (sx_i x4))]) C [2, 3, 4, 5, 6] rfl ?_
        exact sm_L_law_1215 C hZ hr hlk hlf hX hbl hLL hr43 hc hs h
      · refine sx_iconst C dd_L_law_1213 rfl ?_
        exact sx_lret C hr hlk (fun _ h => h) (by omega) (by omega) dd_L_law_1214 h
  · refine sx_iconst C dd_L_law_1196 rfl ?_
    exact sx_lret C hr hlk (fun _ h => h) (by omega) (by omega) dd_L_law_1197 h
set_option maxHeartbeats 4000000 in
set_option maxRecDepth 100000 in
theorem sm_L_law_1135 (C : sx_C sr_lay sr_cl D cI cJ ad (fun q : Nat => s.heap.size ≤ q) 7 "StoneRingsLaw" code sr_ts p s m #[Value.ref b] c) (hZ : sx_Z (fun q : Nat => s.heap.size ≤ q) s s.heap) (hr : meth.sig.returnType = ret) (hlk : meth.locks = false) (hlf : l.stackTraces = false) (hX : va_X b L xs s s.heap) (hbl : b < s.heap.size) (hLL : L ≤ 2050) {n : Nat} {r43 : Int → sx_M → Prop} (hr43 : ∀ (x4 : Int) (μ : sx_M) (cells slots : Nat), cells + n ≤ 1063 → slots + 6 * n ≤ 9541 → r43 x4 μ → sx_V sr_lay sr_cl D cI cJ ad (fun q : Nat => s.heap.size ≤ q) 7 p l e room_1 s m #[Value.ref b] below meth c (lw_Z below #[Value.ref b] s) cells slots μ 43 [(0, .ref b), (1, .ref (ad 0)), (2, .ref (ad 19)), (3, .ref (ad 30)), (4, .int (sx_i x4))] []) {cells slots : Nat} (hc : cells + (n + 1) ≤ 1063) (hs : slots + 6 * (n + 1) ≤ 9541) {x4 : Int} {μ : sx_M} (h : sw_L_law_1135 (sx_sc xs) (L : Int) r43 x4 μ) : sx_V sr_lay sr_cl D cI cJ ad (fun q : Nat => s.heap.size ≤ q) 7 p l e room_1 s m #[Value.ref b] below meth c (lw_Z below #[Value.ref b] s) (cells + 1) (slots + 6) μ 1135 [(0, .ref b), (1, .ref (ad 0)), (2, .ref (ad 19)), (3, .ref (ad 30)), (4, .int (sx_i x4))] [] := by
  unfold sw_L_law_1135 at h
  refine sx_goto (tgt := 1646) C dd_L_law_1135 (by decide) ?_
  exact sm_L_law_1646 C hZ hr hlk hlf hX hbl hLL hr43 hc hs h
set_option maxHeartbeats 4000000 in
set_option maxRecDepth 100000 in
theorem sm_L_law_1058 (C : sx_C sr_lay sr_cl D cI cJ ad (fun q : Nat => s.heap.size ≤ q) 7 "StoneRingsLaw" code sr_ts p s m #[Value.ref b] c) (hZ : sx_Z (fun q : Nat => s.heap.size ≤ q) s s.heap) (hr : meth.sig.returnType = ret) (hlk : meth.locks = false) (hlf : l.stackTraces = false) (hX : va_X b L xs s s.heap) (hbl : b < s.heap.size) (hLL : L ≤ 2050) {n : Nat} {r43 : Int → sx_M → Prop} (hr43 : ∀ (x4 : Int) (μ : sx_M) (cells slots : Nat), cells + n ≤ 1063 → slots + 6 * n ≤ 9541 → r43 x4 μ → sx_V sr_lay sr_cl D cI cJ ad (fun q : Nat => s.heap.size ≤ q) 7 p l e room_1 s m #[Value.ref b] below meth c (lw_Z below #[Value.ref b] s) cells slots μ 43 [(0, .ref b), (1, .ref (ad 0)), (2, .ref (ad 19)), (3, .ref (ad 30)), (4, .int (sx_i x4))] []) {cells slots : Nat} (hc : cells + (n + 1) ≤ 1063) (hs : slots + 6 * (n + 1) ≤ 9541) {x4 : Int} {μ : sx_M} (h : sw_L_law_1058 (sx_sc xs) (L : Int) r43 x4 μ) : sx_V sr_lay sr_cl D cI cJ ad (fun q : Nat => s.heap.size ≤ q) 7 p l e room_1 s m #[Value.ref b] below meth c (lw_Z below #[Value.ref b] s) cells slots μ 1058 [(0, .ref b), (1, .ref (ad 0)), (2, .ref (ad 19)), (3, .ref (ad 30)), (4, .int (sx_i x4))] [] := by
  unfold sw_L_law_1058 at h
  refine sx_aload_n C 1 dd_L_law_1058 rfl rfl ?_
  refine sx_aload_n C 0 dd_L_law_1059 rfl rfl ?_
  refine sx_iload C 4 dd_L_law_1060 rfl ?_
  refine sx_iconst C dd_L_law_1062 rfl ?_
  refine sx_iadd C dd_L_law_1063 ?_
  refine sx_sld C hX hbl (Nat.not_le.mpr hbl) (by omega) dd_L_law_1064 h (fun h => ?_)
  refine sx_aload_n C 0 dd_L_law_1065 rfl rfl ?_
  refine sx_iload C 4 dd_L_law_1066 rfl ?_
  refine sx_iconst C dd_L_law_1068 rfl ?_
  refine sx_iadd C dd_L_law_1069 ?_
  refine sx_sld C hX hbl (Nat.not_le.mpr hbl) (by omega) dd_L_law_1070 h (fun h => ?_)
  refine sx_aload_n C 0 dd_L_law_1071 rfl rfl ?_
  refine sx_iload C 4 dd_L_law_1072 rfl ?_
  refine sx_iconst C dd_L_law_1074 rfl ?_
  refine sx_iadd C dd_L_law_1075 ?_
  refine sx_sld C hX hbl (Nat.not_le.mpr hbl) (by omega) dd_L_law_1076 h (fun h => ?_)
  refine sx_aload_n C 3 dd_L_law_1077 rfl rfl ?_
  refine sx_stcL C hZ [.ref (ad 0), .int (sx_i ((sx_sc xs) (x4 + 1))), .int (sx_i ((sx_sc xs) (x4 + 2))), .int (sx_i ((sx_sc xs) (x4 + 3))), .ref (ad 30)] (fun sz2 => sm_L_seen hlf h sz2) (sx_cwL (n := 5) C.2.2.2.2.1 wd_485 wd_483 wd_484 wd_0 rfl rfl (by decide +kernel) ⟨by decide, by decide⟩) rfl rfl (Nat.le_of_ble_eq_true rfl) dd_L_law_1078 ⟨by show _ ≤ 1063; omega, by show _ ≤ 9541; omega⟩ (fun v1 μ1 h => ?_)
  refine sx_istore (lu := [(5, .int (sx_i v1)), (0, .ref b), (1, .ref (ad 0)), (2, .ref (ad 19)), (3, .ref (ad 30)), (4, .int (sx_i x4))]) C dd_L_law_1081 (by decide) rfl ?_
  refine sx_aload_n C 3 dd_L_law_1083 rfl rfl ?_
  refine sx_aload_n C 1 dd_L_law_1084 rfl rfl ?_
  refine sx_iload C 5 dd_L_law_1085 rfl ?_
  refine sx_iconst C dd_L_law_1087 rfl ?_
  refine sx_iadd C dd_L_law_1088 ?_
  refine sx_sld C hX hbl (Nat.not_le.mpr hbl) (by omega) dd_L_law_1089 h (fun h => ?_)
  refine sx_aload_n C 1 dd_L_law_1090 rfl rfl ?_
  refine sx_iload C 5 dd_L_law_1091 rfl ?_
  refine sx_iconst C dd_L_law_1093 rfl ?_
  refine sx_iadd C dd_L_law_1094 ?_
  refine sx_sld C hX hbl (Nat.not_le.mpr hbl) (by omega) dd_L_law_1095 h (fun h => ?_)
  refine sx_aload_n C 1 dd_L_law_1096 rfl rfl ?_
  refine sx_iload C 5 dd_L_law_1097 rfl ?_
  refine sx_iconst C dd_L_law_1099 rfl ?_
  refine sx_iadd C dd_L_law_1100 ?_
  refine sx_sld C hX hbl (Nat.not_le.mpr hbl) (by omega) dd_L_law_1101 h (fun h => ?_)
  refine sx_invI (c0 := 19) C hZ [.int (sx_i ((sx_sc xs) (x4 + 1))), .int (sx_i ((sx_sc xs) (x4 + 2))), .int (sx_i ((sx_sc xs) (x4 + 3)))] (fun sz2 => sm_M_seen hlf h sz2) (sx_cwV (n := 3) C.2.2.2.2.1 wd_759 wd_756 wd_757 wd_758 wd_8 rfl rfl (by decide +kernel) ⟨by decide, by decide⟩) rfl (rfl : sr_cl[5]? = some ("StoneRingsModel", tt_M, 21)) rfl rfl (Nat.le_of_ble_eq_true rfl) dd_L_law_1102 ⟨by show _ ≤ 1063; omega, by show _ ≤ 9541; omega⟩ sx_noX (fun v2 μ2 h => ?_)
  refine sx_istore (lu := [(6, .int (sx_i v2)), (5, .int (sx_i v1)), (0, .ref b), (1, .ref (ad 0)), (2, .ref (ad 19)), (3, .ref (ad 30)), (4, .int (sx_i x4))]) C dd_L_law_1105 (by decide) rfl ?_
  refine sx_aload_n C 4 dd_L_law_1107 rfl rfl ?_
  refine sx_invI (c0 := 19) C hZ [] (fun sz2 => sm_M_thrown hlf h sz2) (sx_cwV (n := 0) C.2.2.2.2.1 wd_659 wd_656 wd_657 wd_658 wd_8 rfl rfl (by decide +kernel) ⟨by decide, by decide⟩) rfl (rfl : sr_cl[5]? = some ("StoneRingsModel", tt_M, 21)) rfl rfl (Nat.le_of_ble_eq_true rfl) dd_L_law_1108 ⟨by show _ ≤ 1063; omega, by show _ ≤ 9541; omega⟩ sx_noX (fun v3 μ3 h => ?_)
  refine sx_iload C 1 dd_L_law_1111 rfl ?_
  refine sx_icmp_eq (tgt := 1118) C dd_L_law_1113 (by decide) h (fun h => ?_) (fun h => ?_)
  · refine sx_iload C 1 dd_L_law_1118 rfl ?_
    refine sx_if_ne (tgt := 1135) C dd_L_law_1120 (by decide) h (fun h => ?_) (fun h => ?_)
    · refine sx_less (lu := [(0, .ref b), (1, .ref (ad 0)), (2, .ref (ad 19)), (3, .ref (ad 30)), (4, .int (sx_i x4))]) C [2, 3, 4, 5, 6] rfl ?_
      exact sm_L_law_1135 C hZ hr hlk hlf hX hbl hLL hr43 hc hs h
    · refine sx_aload_n C 5 dd_L_law_1123 rfl rfl ?_
      refine sx_iconst C dd_L_law_1124 rfl ?_
      refine sx_lald (N := 1) C 30 rfl rfl (by decide) dd_L_law_1125 h (fun h => ?_)
      refine sx_iload C 0 dd_L_law_1126 rfl ?_
      refine sx_toL C dd_L_law_1128 h (fun h => ?_)
      refine sx_cmpL C dd_L_law_1129 h (fun h => ?_)
      refine sx_if_eq (tgt := 1135) C dd_L_law_1130 (by decide) h (fun h => ?_) (fun h => ?_)
      · refine sx_less (lu := [(0, .ref b), (1, .ref (ad 0)), (2, .ref (ad 19)), (3, .ref (ad 30)), (4, .int (sx_i x4))]) C [2, 3, 4, 5, 6] rfl ?_
        exact sm_L_law_1135 C hZ hr hlk hlf hX hbl hLL hr43 hc hs h
      · refine sx_iconst C dd_L_law_1133 rfl ?_
        exact sx_lret C hr hlk (fun _ h => h) (by omega) (by omega) dd_L_law_1134 h
  · refine sx_iconst C dd_L_law_1116 rfl ?_
    exact sx_lret C hr hlk (fun _ h => h) (by omega) (by omega) dd_L_law_1117 h
set_option maxHeartbeats 4000000 in
set_option maxRecDepth 100000 in
theorem sm_L_law_1055 (C : sx_C sr_lay sr_cl D cI cJ ad (fun q : Nat => s.heap.size ≤ q) 7 "StoneRingsLaw" code sr_ts p s m #[Value.ref b] c) (hZ : sx_Z (fun q : Nat => s.heap.size ≤ q) s s.heap) (hr : meth.sig.returnType = ret) (hlk : meth.locks = false) (hlf : l.stackTraces = false) (hX : va_X b L xs s s.heap) (hbl : b < s.heap.size) (hLL : L ≤ 2050) {n : Nat} {r43 : Int → sx_M → Prop} (hr43 : ∀ (x4 : Int) (μ : sx_M) (cells slots : Nat), cells + n ≤ 1063 → slots + 6 * n ≤ 9541 → r43 x4 μ → sx_V sr_lay sr_cl D cI cJ ad (fun q : Nat => s.heap.size ≤ q) 7 p l e room_1 s m #[Value.ref b] below meth c (lw_Z below #[Value.ref b] s) cells slots μ 43 [(0, .ref b), (1, .ref (ad 0)), (2, .ref (ad 19)), (3, .ref (ad 30)), (4, .int (sx_i x4))] []) {cells slots : Nat} (hc : cells + (n + 1) ≤ 1063) (hs : slots + 6 * (n + 1) ≤ 9541) {x4 : Int} {μ : sx_M} (h : sw_L_law_1055 (sx_sc xs) (L : Int) r43 x4 μ) : sx_V sr_lay sr_cl D cI cJ ad (fun q : Nat => s.heap.size ≤ q) 7 p l e room_1 s m #[Value.ref b] below meth c (lw_Z below #[Value.ref b] s) (cells + 1) (slots + 6) μ 1055 [(0, .ref b), (1, .ref (ad 0)), (2, .ref (ad 19)), (3, .ref (ad 30)), (4, .int (sx_i x4))] [] := by
  unfold sw_L_law_1055 at h
  refine sx_goto (tgt := 1646) C dd_L_law_1055 (by decide) ?_
  exact sm_L_law_1646 C hZ hr hlk hlf hX hbl hLL hr43 hc hs h
set_option maxHeartbeats 4000000 in
set_option maxRecDepth 100000 in
theorem sm_L_law_1049 (C : sx_C sr_lay sr_cl D cI cJ ad (fun q : Nat => s.heap.size ≤ q) 7 "StoneRingsLaw" code sr_ts p s m #[Value.ref b] c) (hZ : sx_Z (fun q : Nat => s.heap.size ≤ q) s s.heap) (hr : meth.sig.returnType = ret) (hlk : meth.locks = false) (hlf : l.stackTraces = false) (hX : va_X b L xs s s.heap) (hbl : b < s.heap.size) (hLL : L ≤ 2050) {n : Nat} {r43 : Int → sx_M → Prop} (hr43 : ∀ (x4 : Int) (μ : sx_M) (cells slots : Nat), cells + n ≤ 1063 → slots + 6 * n ≤ 9541 → r43 x4 μ → sx_V sr_lay sr_cl D cI cJ ad (fun q : Nat => s.heap.size ≤ q) 7 p l e room_1 s m #[Value.ref b] below meth c (lw_Z below #[Value.ref b] s) cells slots μ 43 [(0, .ref b), (1, .ref (ad 0)), (2, .ref (ad 19)), (3, .ref (ad 30)), (4, .int (sx_i x4))] []) {cells slots : Nat} (hc : cells + (n + 1) ≤ 1063) (hs : slots + 6 * (n + 1) ≤ 9541) {x4 y0 y1 : Int} {μ : sx_M} (h : sw_L_law_1049 (sx_sc xs) (L : Int) r43 x4 y0 y1 μ) : sx_V sr_lay sr_cl D cI cJ ad (fun q : Nat => s.heap.size ≤ q) 7 p l e room_1 s m #[Value.ref b] below meth c (lw_Z below #[Value.ref b] s) (cells + 1) (slots + 6) μ 1049 [(0, .ref b), (1, .ref (ad 0)), (2, .ref (ad 19)), (3, .ref (ad 30)), (4, .int (sx_i x4))] [.long (sx_j y1), .long (sx_j y0)] := by
  unfold sw_L_law_1049 at h
  refine sx_cmpL C dd_L_law_1049 h (fun h => ?_)
  refine sx_if_eq (tgt := 1055) C dd_L_law_1050 (by decide) h (fun h => ?_) (fun h => ?_)
  · exact sm_L_law_1055 C hZ hr hlk hlf hX hbl hLL hr43 hc hs h
  · refine sx_iconst C dd_L_law_1053 rfl ?_
    exact sx_lret C hr hlk (fun _ h => h) (by omega) (by omega) dd_L_law_1054 h
set_option maxHeartbeats 4000000 in
set_option maxRecDepth 100000 in
theorem sm_L_law_983 (C : sx_C sr_lay sr_cl D cI cJ ad (fun q : Nat => s.heap.size ≤ q) 7 "StoneRingsLaw" code sr_ts p s m #[Value.ref b] c) (hZ : sx_Z (fun q : Nat => s.heap.size ≤ q) s s.heap) (hr : meth.sig.returnType = ret) (hlk : meth.locks = false) (hlf : l.stackTraces = false) (hX : va_X b L xs s s.heap) (hbl : b < s.heap.size) (hLL : L ≤ 2050) {n : Nat} {r43 : Int → sx_M → Prop} (hr43 : ∀ (x4 : Int) (μ : sx_M) (cells slots : Nat), cells + n ≤ 1063 → slots + 6 * n ≤ 9541 → r43 x4 μ → sx_V sr_lay sr_cl D cI cJ ad (fun q : Nat => s.heap.size ≤ q) 7 p l e room_1 s m #[Value.ref b] below meth c (lw_Z below #[Value.ref b] s) cells slots μ 43 [(0, .ref b), (1, .ref (ad 0)), (2, .ref (ad 19)), (3, .ref (ad 30)), (4, .int (sx_i x4))] []) {cells slots : Nat} (hc : cells + (n + 1) ≤ 1063) (hs : slots + 6 * (n + 1) ≤ 9541) {x4 : Int} {μ : sx_M} (h : sw_L_law_983 (sx_sc xs) (L : Int) r43 x4 μ) : sx_V sr_lay sr_cl D cI cJ ad (fun q : Nat => s.heap.size ≤ q) 7 p l e room_1 s m #[Value.ref b] below meth c (lw_Z below #[Value.ref b] s) cells slots μ 983 [(0, .ref b), (1, .ref (ad 0)), (2, .ref (ad 19)), (3, .ref (ad 30)), (4, .int (sx_i x4))] [] := by
  unfold sw_L_law_983 at h
  refine sx_aload_n C 1 dd_L_law_983 rfl rfl ?_
  refine sx_aload_n C 0 dd_L_law_984 rfl rfl ?_
  refine sx_iload C 4 dd_L_law_985 rfl ?_
  refine sx_iconst C dd_L_law_987 rfl ?_
  refine sx_iadd C dd_L_law_988 ?_
  refine sx_sld C hX hbl (Nat.not_le.mpr hbl) (by omega) dd_L_law_989 h (fun h => ?_)
  refine sx_aload_n C 0 dd_L_law_990 rfl rfl ?_
  refine sx_iload C 4 dd_L_law_991 rfl ?_
  refine sx_iconst C dd_L_law_993 rfl ?_
  refine sx_iadd C dd_L_law_994 ?_
  refine sx_sld C hX hbl (Nat.not_le.mpr hbl) (by omega) dd_L_law_995 h (fun h => ?_)
  refine sx_aload_n C 3 dd_L_law_996 rfl rfl ?_
  refine sx_stcL C hZ [.ref (ad 0), .int (sx_i ((sx_sc xs) (x4 + 1))), .int (sx_i ((sx_sc xs) (x4 + 2))), .ref (ad 30)] (fun sz2 => sm_L_may hlf h sz2) (sx_cwL (n := 4) C.2.2.2.2.1 wd_478 wd_476 wd_477 wd_0 rfl rfl (by decide +kernel) ⟨by decide, by decide⟩) rfl rfl (Nat.le_of_ble_eq_true rfl) dd_L_law_997 ⟨by show _ ≤ 1063; omega, by show _ ≤ 9541; omega⟩ (fun v1 μ1 h => ?_)
  refine sx_istore (lu := [(5, .int (sx_i v1)), (0, .ref b), (1, .ref (ad 0)), (2, .ref (ad 19)), (3, .ref (ad 30)), (4, .int (sx_i x4))]) C dd_L_law_1000 (by decide) rfl ?_
  refine sx_aload_n C 3 dd_L_law_1002 rfl rfl ?_
  refine sx_aload_n C 1 dd_L_law_1003 rfl rfl ?_
  refine sx_iload C 5 dd_L_law_1004 rfl ?_
  refine sx_iconst C dd_L_law_1006 rfl ?_
  refine sx_iadd C dd_L_law_1007 ?_
  refine sx_sld C hX hbl (Nat.not_le.mpr hbl) (by omega) dd_L_law_1008 h (fun h => ?_)
  refine sx_aload_n C 1 dd_L_law_1009 rfl rfl ?_
  refine sx_iload C 5 dd_L_law_1010 rfl ?_
  refine sx_iconst C dd_L_law_1012 rfl ?_
  refine sx_iadd C dd_L_law_1013 ?_
  refine sx_sld C hX hbl (Nat.not_le.mpr hbl) (by omega) dd_L_law_1014 h (fun h => ?_)
  refine sx_invI (c0 := 19) C hZ [.int (sx_i ((sx_sc xs) (x4 + 1))), .int (sx_i ((sx_sc xs) (x4 + 2)))] (fun sz2 => sm_M_may hlf h sz2) (sx_cwV (n := 2) C.2.2.2.2.1 wd_755 wd_752 wd_753 wd_754 wd_8 rfl rfl (by decide +kernel) ⟨by decide, by decide⟩) rfl (rfl : sr_cl[5]? = some ("StoneRingsModel", tt_M, 21)) rfl rfl (Nat.le_of_ble_eq_true rfl) dd_L_law_1015 ⟨by show _ ≤ 1063; omega, by show _ ≤ 9541; omega⟩ sx_noX (fun v2 μ2 h => ?_)
  refine sx_istore (lu := [(6, .int (sx_i v2)), (5, .int (sx_i v1)), (0, .ref b), (1, .ref (ad 0)), (2, .ref (ad 19)), (3, .ref (ad 30)), (4, .int (sx_i x4))]) C dd_L_law_1018 (by decide) rfl ?_
  refine sx_aload_n C 4 dd_L_law_1020 rfl rfl ?_
  refine sx_invI (c0 := 19) C hZ [] (fun sz2 => sm_M_thrown hlf h sz2) (sx_cwV (n := 0) C.2.2.2.2.1 wd_659 wd_656 wd_657 wd_658 wd_8 rfl rfl (by decide +kernel) ⟨by decide, by decide⟩) rfl (rfl : sr_cl[5]? = some ("StoneRingsModel", tt_M, 21)) rfl rfl (Nat.le_of_ble_eq_true rfl) dd_L_law_1021 ⟨by show _ ≤ 1063; omega, by show _ ≤ 9541; omega⟩ sx_noX (fun v3 μ3 h => ?_)
  refine sx_iload C 1 dd_L_law_1024 rfl ?_
  refine sx_icmp_eq (tgt := 1031) C dd_L_law_1026 (by decide) h (fun h => ?_) (fun h => ?_)
  · refine sx_iload C 1 dd_L_law_1031 rfl ?_
    refine sx_if_ne (tgt := 1055) C dd_L_law_1033 (by decide) h (fun h => ?_) (fun h => ?_)
    · refine sx_less (lu := [(0, .ref b), (1, .ref (ad 0)), (2, .ref (ad 19)), (3, .ref (ad 30)), (4, .int (sx_i x4))]) C [2, 3, 4, 5, 6] rfl ?_
      exact sm_L_law_1055 C hZ hr hlk hlf hX hbl hLL hr43 hc hs h
    · refine sx_aload_n C 5 dd_L_law_1036 rfl rfl ?_
      refine sx_iconst C dd_L_law_1037 rfl ?_
      refine sx_lald (N := 1) C 30 rfl rfl (by decide) dd_L_law_1038 h (fun h => ?_)
      refine sx_iload C 0 dd_L_law_1039 rfl ?_
      refine sx_if_eq (tgt := 1048) C dd_L_law_1041 (by decide) h (fun h => ?_) (fun h => ?_)
      · refine sx_lconst (v := 0) C dd_L_law_1048 (by decide +kernel) ?_
        refine sx_less (lu := [(0, .ref b), (1, .ref (ad 0)), (2, .ref (ad 19)), (3, .ref (ad 30)), (4, .int (sx_i x4))]) C [2, 3, 4, 5, 6] rfl ?_
        exact sm_L_law_1049 C hZ hr hlk hlf hX hbl hLL hr43 hc hs h
      · refine sx_lconst (v := 1) C dd_L_law_1044 (by decide +kernel) ?_
        refine sx_goto (tgt := 1049) C dd_L_law_1045 (by decide) ?_
        refine sx_less (lu := [(0, .ref b), (1, .ref (ad 0)), (2, .ref (ad 19)), (3, .ref (ad 30)), (4, .int (sx_i x4))]) C [2, 3, 4, 5, 6] rfl ?_
        exact sm_L_law_1049 C hZ hr hlk hlf hX hbl hLL hr43 hc hs h
  · refine sx_iconst C dd_L_law_1029 rfl ?_
    exact sx_lret C hr hlk (fun _ h => h) (by omega) (by omega) dd_L_law_1030 h
set_option maxHeartbeats 4000000 in
set_option maxRecDepth 100000 in
theorem sm_L_law_923 (C : sx_C sr_lay sr_cl D cI cJ ad (fun q : Nat => s.heap.size ≤ q) 7 "StoneRingsLaw" code sr_ts p s m #[Value.ref b] c) (hZ : sx_Z (fun q : Nat => s.heap.size ≤ q) s s.heap) (hr : meth.sig.returnType = ret) (hlk : meth.locks = false) (hlf : l.stackTraces = false) (hX : va_X b L xs s s.heap) (hbl : b < s.heap.size) (hLL : L ≤ 2050) {n : Nat} {r43 : Int → sx_M → Prop} (hr43 : ∀ (x4 : Int) (μ : sx_M) (cells slots : Nat), cells + n ≤ 1063 → slots + 6 * n ≤ 9541 → r43 x4 μ → sx_V sr_lay sr_cl D cI cJ ad (fun q : Nat => s.heap.size ≤ q) 7 p l e room_1 s m #[Value.ref b] below meth c (lw_Z below #[Value.ref b] s) cells slots μ 43 [(0, .ref b), (1, .ref (ad 0)), (2, .ref (ad 19)), (3, .ref (ad 30)), (4, .int (sx_i x4))] []) {cells slots : Nat} (hc : cells + (n + 1) ≤ 1063) (hs : slots + 6 * (n + 1) ≤ 9541) {x4 : Int} {μ : sx_M} (h : sw_L_law_923 (sx_sc xs) (L : Int) r43 x4 μ) : sx_V sr_lay sr_cl D cI cJ ad (fun q : Nat => s.heap.size ≤ q) 7 p l e room_1 s m #[Value.ref b] below meth c (lw_Z below #[Value.ref b] s) cells slots μ 923 [(0, .ref b), (1, .ref (ad 0)), (2, .ref (ad 19)), (3, .ref (ad 30)), (4, .int (sx_i x4))] [] := by
  unfold sw_L_law_923 at h
  refine sx_aload_n C 1 dd_L_law_923 rfl rfl ?_
  refine sx_aload_n C 0 dd_L_law_924 rfl rfl ?_
  refine sx_iload C 4 dd_L_law_925 rfl ?_
  refine sx_iconst C dd_L_law_927 rfl ?_
  refine sx_iadd C dd_L_law_928 ?_
  refine sx_sld C hX hbl (Nat.not_le.mpr hbl) (by omega) dd_L_law_929 h (fun h => ?_)
  refine sx_aload_n C 0 dd_L_law_930 rfl rfl ?_
  refine sx_iload C 4 dd_L_law_931 rfl ?_
  refine sx_iconst C dd_L_law_933 rfl ?_
  refine sx_iadd C dd_L_law_934 ?_
  refine sx_sld C hX hbl (Nat.not_le.mpr hbl) (by omega) dd_L_law_935 h (fun h => ?_)
  refine sx_aload_n C 0 dd_L_law_936 rfl rfl ?_
  refine sx_iload C 4 dd_L_law_937 rfl ?_
  refine sx_iconst C dd_L_law_939 rfl ?_
  refine sx_iadd C dd_L_law_940 ?_
  refine sx_sld C hX hbl (Nat.not_le.mpr hbl) (by omega) dd_L_law_941 h (fun h => ?_)
  refine sx_stcL C hZ [.ref (ad 0), .int (sx_i ((sx_sc xs) (x4 + 1))), .int (sx_i ((sx_sc xs) (x4 + 2))), .int (sx_i ((sx_sc xs) (x4 + 3)))] (fun sz2 => sm_L_tell hlf h sz2) (sx_cwL (n := 4) C.2.2.2.2.1 wd_462 wd_460 wd_461 wd_0 rfl rfl (by decide +kernel) ⟨by decide, by decide⟩) rfl rfl (Nat.le_of_ble_eq_true rfl) dd_L_law_942 ⟨by show _ ≤ 1063; omega, by show _ ≤ 9541; omega⟩ (fun v1 μ1 h => ?_)
  refine sx_istore (lu := [(5, .int (sx_i v1)), (0, .ref b), (1, .ref (ad 0)), (2, .ref (ad 19)), (3, .ref (ad 30)), (4, .int (sx_i x4))]) C dd_L_law_945 (by decide) rfl ?_
  refine sx_aload_n C 3 dd_L_law_947 rfl rfl ?_
  refine sx_aload_n C 1 dd_L_law_948 rfl rfl ?_
  refine sx_iload C 5 dd_L_law_949 rfl ?_
  refine sx_iconst C dd_L_law_951 rfl ?_
  refine sx_iadd C dd_L_law_952 ?_
  refine sx_sld C hX hbl (Nat.not_le.mpr hbl) (by omega) dd_L_law_953 h (fun h => ?_)
  refine sx_aload_n C 1 dd_L_law_954 rfl rfl ?_
  refine sx_iload C 5 dd_L_law_955 rfl ?_
  refine sx_iconst C dd_L_law_957 rfl ?_
  refine sx_iadd C dd_L_law_958 ?_
  refine sx_sld C hX hbl (Nat.not_le.mpr hbl) (by omega) dd_L_law_959 h (fun h => ?_)
  refine sx_aload_n C 1 dd_L_law_960 rfl rfl ?_
  refine sx_iload C 5 dd_L_law_961 rfl ?_
  refine sx_iconst C dd_L_law_963 rfl ?_
  refine sx_iadd C dd_L_law_964 ?_
  refine sx_sld C hX hbl (Nat.not_le.mpr hbl) (by omega) dd_L_law_965 h (fun h => ?_)
  refine sx_invV (c0 := 19) C hZ [.int (sx_i ((sx_sc xs) (x4 + 1))), .int (sx_i ((sx_sc xs) (x4 + 2))), .int (sx_i ((sx_sc xs) (x4 + 3)))] (fun sz2 => sm_M_tell hlf h sz2) (sx_cwV (n := 3) C.2.2.2.2.1 wd_748 wd_745 wd_746 wd_747 wd_8 rfl rfl (by decide +kernel) ⟨by decide, by decide⟩) rfl (rfl : sr_cl[5]? = some ("StoneRingsModel", tt_M, 21)) rfl rfl (Nat.le_of_ble_eq_true rfl) dd_L_law_966 ⟨by show _ ≤ 1063; omega, by show _ ≤ 9541; omega⟩ sx_noX (fun v2 μ2 h => ?_)
  refine sx_aload_n C 3 dd_L_law_969 rfl rfl ?_
  refine sx_invI (c0 := 19) C hZ [] (fun sz2 => sm_M_thrown hlf h sz2) (sx_cwV (n := 0) C.2.2.2.2.1 wd_659 wd_656 wd_657 wd_658 wd_8 rfl rfl (by decide +kernel) ⟨by decide, by decide⟩) rfl (rfl : sr_cl[5]? = some ("StoneRingsModel", tt_M, 21)) rfl rfl (Nat.le_of_ble_eq_true rfl) dd_L_law_970 ⟨by show _ ≤ 1063; omega, by show _ ≤ 9541; omega⟩ sx_noX (fun v3 μ3 h => ?_)
  refine sx_iload C 0 dd_L_law_973 rfl ?_
  refine sx_icmp_eq (tgt := 980) C dd_L_law_975 (by decide) h (fun h => ?_) (fun h => ?_)
  · refine sx_goto (tgt := 1646) C dd_L_law_980 (by decide) ?_
    refine sx_less (lu := [(0, .ref b), (1, .ref (ad 0)), (2, .ref (ad 19)), (3, .ref (ad 30)), (4, .int (sx_i x4))]) C [1, 2, 3, 4, 5] rfl ?_
    exact sm_L_law_1646 C hZ hr hlk hlf hX hbl hLL hr43 hc hs h
  · refine sx_iconst C dd_L_law_978 rfl ?_
    exact sx_lret C hr hlk (fun _ h => h) (by omega) (by omega) dd_L_law_979 h
set_option maxHeartbeats 4000000 in
set_option maxRecDepth 100000 in
theorem sm_L_law_920 (C : sx_C sr_lay sr_cl D cI cJ ad (fun q : Nat => s.heap.size ≤ q) 7 "StoneRingsLaw" code sr_ts p s m #[Value.ref b] c) (hZ : sx_Z (fun q : Nat => s.heap.size ≤ q) s s.heap) (hr : meth.sig.returnType = ret) (hlk : meth.locks = false) (hlf : l.stackTraces = false) (hX : va_X b L xs s s.heap) (hbl : b < s.heap.size) (hLL : L ≤ 2050) {n : Nat} {r43 : Int → sx_M → Prop} (hr43 : ∀ (x4 : Int) (μ : sx_M) (cells slots : Nat), cells + n ≤ 1063 → slots + 6 * n ≤ 9541 → r43 x4 μ → sx_V sr_lay sr_cl D cI cJ ad (fun q : Nat => s.heap.size ≤ q) 7 p l e room_1 s m #[Value.ref b] below meth c (lw_Z below #[Value.ref b] s) cells slots μ 43 [(0, .ref b), (1, .ref (ad 0)), (2, .ref (ad 19)), (3, .ref (ad 30)), (4, .int (sx_i x4))] []) {cells slots : Nat} (hc : cells + (n + 1) ≤ 1063) (hs : slots + 6 * (n + 1) ≤ 9541) {x4 : Int} {μ : sx_M} (h : sw_L_law_920 (sx_sc xs) (L : Int) r43 x4 μ) : sx_V sr_lay sr_cl D cI cJ ad (fun q : Nat => s.heap.size ≤ q) 7 p l e room_1 s m #[Value.ref b] below meth c (lw_Z below #[Value.ref b] s) (cells + 1) (slots + 6) μ 920 [(0, .ref b), (1, .ref (ad 0)), (2, .ref (ad 19)), (3, .ref (ad 30)), (4, .int (sx_i x4))] [] := by
  unfold sw_L_law_920 at h
  refine sx_goto (tgt := 1646) C dd_L_law_920 (by decide) ?_
  exact sm_L_law_1646 C hZ hr hlk hlf hX hbl hLL hr43 hc hs h
set_option maxHeartbeats 4000000 in
set_option maxRecDepth 100000 in
theorem sm_L_law_843 (C : sx_C sr_lay sr_cl D cI cJ ad (fun q : Nat => s.heap.size ≤ q) 7 "StoneRingsLaw" code sr_ts p s m #[Value.ref b] c) (hZ : sx_Z (fun q : Nat => s.heap.size ≤ q) s s.heap) (hr : meth.sig.returnType = ret) (hlk : meth.locks = false) (hlf : l.stackTraces = false) (hX : va_X b L xs s s.heap) (hbl : b < s.heap.size) (hLL : L ≤ 2050) {n : Nat} {r43 : Int → sx_M → Prop} (hr43 : ∀ (x4 : Int) (μ : sx_M) (cells slots : Nat), cells + n ≤ 1063 → slots + 6 * n ≤ 9541 → r43 x4 μ → sx_V sr_lay sr_cl D cI cJ ad (fun q : Nat => s.heap.size ≤ q) 7 p l e room_1 s m #[Value.ref b] below meth c (lw_Z below #[Value.ref b] s) cells slots μ 43 [(0, .ref b), (1, .ref (ad 0)), (2, .ref (ad 19)), (3, .ref (ad 30)), (4, .int (sx_i x4))] []) {cells slots : Nat} (hc : cells + (n + 1) ≤ 1063) (hs : slots + 6 * (n + 1) ≤ 9541) {x4 : Int} {μ : sx_M} (h : sw_L_law_843 (sx_sc xs) (L : Int) r43 x4 μ) : sx_V sr_lay sr_cl D cI cJ ad (fun q : Nat => s.heap.size ≤ q) 7 p l e room_1 s m #[Value.ref b] below meth c (lw_Z below #[Value.ref b] s) cells slots μ 843 [(0, .ref b), (1, .ref (ad 0)), (2, .ref (ad 19)), (3, .ref (ad 30)), (4, .int (sx_i x4))] [] := by
  unfold sw_L_law_843 at h
  refine sx_aload_n C 1 dd_L_law_843 rfl rfl ?_
  refine sx_aload_n C 0 dd_L_law_844 rfl rfl ?_
  refine sx_iload C 4 dd_L_law_845 rfl ?_
  refine sx_iconst C dd_L_law_847 rfl ?_
  refine sx_iadd C dd_L_law_848 ?_
  refine sx_sld C hX hbl (Nat.not_le.mpr hbl) (by omega) dd_L_law_849 h (fun h => ?_)
  refine sx_aload_n C 0 dd_L_law_850 rfl rfl ?_
  refine sx_iload C 4 dd_L_law_851 rfl ?_
  refine sx_iconst C dd_L_law_853 rfl ?_
  refine sx_iadd C dd_L_law_854 ?_
  refine sx_sld C hX hbl (Nat.not_le.mpr hbl) (by omega) dd_L_law_855 h (fun h => ?_)
  refine sx_aload_n C 0 dd_L_law_856 rfl rfl ?_
  refine sx_iload C 4 dd_L_law_857 rfl ?_
  refine sx_iconst C dd_L_law_859 rfl ?_
  refine sx_iadd C dd_L_law_860 ?_
  refine sx_sld C hX hbl (Nat.not_le.mpr hbl) (by omega) dd_L_law_861 h (fun h => ?_)
  refine sx_aload_n C 3 dd_L_law_862 rfl rfl ?_
  refine sx_stcL C hZ [.ref (ad 0), .int (sx_i ((sx_sc xs) (x4 + 1))), .int (sx_i ((sx_sc xs) (x4 + 2))), .int (sx_i ((sx_sc xs) (x4 + 3))), .ref (ad 30)] (fun sz2 => sm_L_back hlf h sz2) (sx_cwL (n := 5) C.2.2.2.2.1 wd_453 wd_451 wd_452 wd_0 rfl rfl (by decide +kernel) ⟨by decide, by decide⟩) rfl rfl (Nat.le_of_ble_eq_true rfl) dd_L_law_863 ⟨by show _ ≤ 1063; omega, by show _ ≤ 9541; omega⟩ (fun v1 μ1 h => ?_)
  refine sx_istore (lu := [(5, .int (sx_i v1)), (0, .ref b), (1, .ref (ad 0)), (2, .ref (ad 19)), (3, .ref (ad 30)), (4, .int (sx_i x4))]) C dd_L_law_866 (by decide) rfl ?_
  refine sx_aload_n C 3 dd_L_law_868 rfl rfl ?_
  refine sx_aload_n C 1 dd_L_law_869 rfl rfl ?_
  refine sx_iload C 5 dd_L_law_870 rfl ?_
  refine sx_iconst C dd_L_law_872 rfl ?_
  refine sx_iadd C dd_L_law_873 ?_
  refine sx_sld C hX hbl (Nat.not_le.mpr hbl) (by omega) dd_L_law_874 h (fun h => ?_)
  refine sx_aload_n C 1 dd_L_law_875 rfl rfl ?_
  refine sx_iload C 5 dd_L_law_876 rfl ?_
  refine sx_iconst C dd_L_law_878 rfl ?_
  refine sx_iadd C dd_L_law_879 ?_
  refine sx_sld C hX hbl (Nat.not_le.mpr hbl) (by omega) dd_L_law_880 h (fun h => ?_)
  refine sx_aload_n C 1 dd_L_law_881 rfl rfl ?_
  refine sx_iload C 5 dd_L_law_882 rfl ?_
  refine sx_iconst C dd_L_law_884 rfl ?_
  refine sx_iadd C dd_L_law_885 ?_
  refine sx_sld C hX hbl (Nat.not_le.mpr hbl) (by omega) dd_L_law_886 h (fun h => ?_)
  refine sx_invI (c0 := 19) C hZ [.int (sx_i ((sx_sc xs) (x4 + 1))), .int (sx_i ((sx_sc xs) (x4 + 2))), .int (sx_i ((sx_sc xs) (x4 + 3)))] (fun sz2 => sm_M_back hlf h sz2) (sx_cwV (n := 3) C.2.2.2.2.1 wd_743 wd_740 wd_741 wd_742 wd_8 rfl rfl (by decide +kernel) ⟨by decide, by decide⟩) rfl (rfl : sr_cl[5]? = some ("StoneRingsModel", tt_M, 21)) rfl rfl (Nat.le_of_ble_eq_true rfl) dd_L_law_887 ⟨by show _ ≤ 1063; omega, by show _ ≤ 9541; omega⟩ sx_noX (fun v2 μ2 h => ?_)
  refine sx_istore (lu := [(6, .int (sx_i v2)), (5, .int (sx_i v1)), (0, .ref b), (1, .ref (ad 0)), (2, .ref (ad 19)), (3, .ref (ad 30)), (4, .int (sx_i x4))]) C dd_L_law_890 (by decide) rfl ?_
  refine sx_aload_n C 4 dd_L_law_892 rfl rfl ?_
  refine sx_invI (c0 := 19) C hZ [] (fun sz2 => sm_M_thrown hlf h sz2) (sx_cwV (n := 0) C.2.2.2.2.1 wd_659 wd_656 wd_657 wd_658 wd_8 rfl rfl (by decide +kernel) ⟨by decide, by decide⟩) rfl (rfl : sr_cl[5]? = some ("StoneRingsModel", tt_M, 21)) rfl rfl (Nat.le_of_ble_eq_true rfl) dd_L_law_893 ⟨by show _ ≤ 1063; omega, by show _ ≤ 9541; omega⟩ sx_noX (fun v3 μ3 h => ?_)
  refine sx_iload C 1 dd_L_law_896 rfl ?_
  refine sx_icmp_eq (tgt := 903) C dd_L_law_898 (by decide) h (fun h => ?_) (fun h => ?_)
  · refine sx_iload C 1 dd_L_law_903 rfl ?_
    refine sx_if_ne (tgt := 920) C dd_L_law_905 (by decide) h (fun h => ?_) (fun h => ?_)
    · refine sx_less (lu := [(0, .ref b), (1, .ref (ad 0)), (2, .ref (ad 19)), (3, .ref (ad 30)), (4, .int (sx_i x4))]) C [2, 3, 4, 5, 6] rfl ?_
      exact sm_L_law_920 C hZ hr hlk hlf hX hbl hLL hr43 hc hs h
    · refine sx_aload_n C 5 dd_L_law_908 rfl rfl ?_
      refine sx_iconst C dd_L_law_909 rfl ?_
      refine sx_lald (N := 1) C 30 rfl rfl (by decide) dd_L_law_910 h (fun h => ?_)
      refine sx_iload C 0 dd_L_law_911 rfl ?_
      refine sx_toL C dd_L_law_913 h (fun h => ?_)
      refine sx_cmpL C dd_L_law_914 h (fun h => ?_)
      refine sx_if_eq (tgt := 920) C dd_L_law_915 (by decide) h (fun h => ?_) (fun h => ?_)
      · refine sx_less (lu := [(0, .ref b), (1, .ref (ad 0)), (2, .ref (ad 19)), (3, .ref (ad 30)), (4, .int (sx_i x4))]) C [2, 3, 4, 5, 6] rfl ?_
        exact sm_L_law_920 C hZ hr hlk hlf hX hbl hLL hr43 hc hs h
      · refine sx_iconst C dd_L_law_918 rfl ?_
        exact sx_lret C hr hlk (fun _ h => h) (by omega) (by omega) dd_L_law_919 h
  · refine sx_iconst C dd_L_law_901 rfl ?_
    exact sx_lret C hr hlk (fun _ h => h) (by omega) (by omega) dd_L_law_902 h
set_option maxHeartbeats 4000000 in
set_option maxRecDepth 100000 in
theorem sm_L_law_840 (C : sx_C sr_lay sr_cl D cI cJ ad (fun q : Nat => s.heap.size ≤ q) 7 "StoneRingsLaw" code sr_ts p s m #[Value.ref b] c) (hZ : sx_Z (fun q : Nat => s.heap.size ≤ q) s s.heap) (hr : meth.sig.returnType = ret) (hlk : meth.locks = false) (hlf : l.stackTraces = false) (hX : va_X b L xs s s.heap) (hbl : b < s.heap.size) (hLL : L ≤ 2050) {n : Nat} {r43 : Int → sx_M → Prop} (hr43 : ∀ (x4 : Int) (μ : sx_M) (cells slots : Nat), cells + n ≤ 1063 → slots + 6 * n ≤ 9541 → r43 x4 μ → sx_V sr_lay sr_cl D cI cJ ad (fun q : Nat => s.heap.size ≤ q) 7 p l e room_1 s m #[Value.ref b] below meth c (lw_Z below #[Value.ref b] s) cells slots μ 43 [(0, .ref b), (1, .ref (ad 0)), (2, .ref (ad 19)), (3, .ref (ad 30)), (4, .int (sx_i x4))] []) {cells slots : Nat} (hc : cells + (n + 1) ≤ 1063) (hs : slots + 6 * (n + 1) ≤ 9541) {x4 : Int} {μ : sx_M} (h : sw_L_law_840 (sx_sc xs) (L : Int) r43 x4 μ) : sx_V sr_lay sr_cl D cI cJ ad (fun q : Nat => s.heap.size ≤ q) 7 p l e room_1 s m #[Value.ref b] below meth c (lw_Z below #[Value.ref b] s) (cells + 1) (slots + 6) μ 840 [(0, .ref b), (1, .ref (ad 0)), (2, .ref (ad 19)), (3, .ref (ad 30)), (4, .int (sx_i x4))] [] := by
  unfold sw_L_law_840 at h
  refine sx_goto (tgt := 1646) C dd_L_law_840 (by decide) ?_
  exact sm_L_law_1646 C hZ hr hlk hlf hX hbl hLL hr43 hc hs h
set_option maxHeartbeats 4000000 in
set_option maxRecDepth 100000 in
theorem sm_L_law_787 (C : sx_C sr_lay sr_cl D cI cJ ad (fun q : Nat => s.heap.size ≤ q) 7 "StoneRingsLaw" code sr_ts p s m #[Value.ref b] c) (hZ : sx_Z (fun q : Nat => s.heap.size ≤ q) s s.heap) (hr : meth.sig.returnType = ret) (hlk : meth.locks = false) (hlf : l.stackTraces = false) (hX : va_X b L xs s s.heap) (hbl : b < s.heap.size) (hLL : L ≤ 2050) {n : Nat} {r43 : Int → sx_M → Prop} (hr43 : ∀ (x4 : Int) (μ : sx_M) (cells slots : Nat), cells + n ≤ 1063 → slots + 6 * n ≤ 9541 → r43 x4 μ → sx_V sr_lay sr_cl D cI cJ ad (fun q : Nat => s.heap.size ≤ q) 7 p l e room_1 s m #[Value.ref b] below meth c (lw_Z below #[Value.ref b] s) cells slots μ 43 [(0, .ref b), (1, .ref (ad 0)), (2, .ref (ad 19)), (3, .ref (ad 30)), (4, .int (sx_i x4))] []) {cells slots : Nat} (hc : cells + (n + 1) ≤ 1063) (hs : slots + 6 * (n + 1) ≤ 9541) {x4 : Int} {μ : sx_M} (h : sw_L_law_787 (sx_sc xs) (L : Int) r43 x4 μ) : sx_V sr_lay sr_cl D cI cJ ad (fun q : Nat => s.heap.size ≤ q) 7 p l e room_1 s m #[Value.ref b] below meth c (lw_Z below #[Value.ref b] s) cells slots μ 787 [(0, .ref b), (1, .ref (ad 0)), (2, .ref (ad 19)), (3, .ref (ad 30)), (4, .int (sx_i x4))] [] := by
  unfold sw_L_law_787 at h
  refine sx_aload_n C 1 dd_L_law_787 rfl rfl ?_
  refine sx_aload_n C 0 dd_L_law_788 rfl rfl ?_
  refine sx_iload C 4 dd_L_law_789 rfl ?_
  refine sx_iconst C dd_L_law_791 rfl ?_
  refine sx_iadd C dd_L_law_792 ?_
  refine sx_sld C hX hbl (Nat.not_le.mpr hbl) (by omega) dd_L_law_793 h (fun h => ?_)
  refine sx_aload_n C 3 dd_L_law_794 rfl rfl ?_
  refine sx_stcL C hZ [.ref (ad 0), .int (sx_i ((sx_sc xs) (x4 + 1))), .ref (ad 30)] (fun sz2 => sm_L_joined hlf h sz2) (sx_cwL (n := 3) C.2.2.2.2.1 wd_445 wd_443 wd_444 wd_0 rfl rfl (by decide +kernel) ⟨by decide, by decide⟩) rfl rfl (Nat.le_of_ble_eq_true rfl) dd_L_law_795 ⟨by show _ ≤ 1063; omega, by show _ ≤ 9541; omega⟩ (fun v1 μ1 h => ?_)
  refine sx_istore (lu := [(5, .int (sx_i v1)), (0, .ref b), (1, .ref (ad 0)), (2, .ref (ad 19)), (3, .ref (ad 30)), (4, .int (sx_i x4))]) C dd_L_law_798 (by decide) rfl ?_
  refine sx_aload_n C 3 dd_L_law_800 rfl rfl ?_
  refine sx_aload_n C 1 dd_L_law_801 rfl rfl ?_
  refine sx_iload C 5 dd_L_law_802 rfl ?_
  refine sx_iconst C dd_L_law_804 rfl ?_
  refine sx_iadd C dd_L_law_805 ?_
  refine sx_sld C hX hbl (Nat.not_le.mpr hbl) (by omega) dd_L_law_806 h (fun h => ?_)
  refine sx_invI (c0 := 19) C hZ [.int (sx_i ((sx_sc xs) (x4 + 1)))] (fun sz2 => sm_M_joined hlf h sz2) (sx_cwV (n := 1) C.2.2.2.2.1 wd_739 wd_736 wd_737 wd_738 wd_8 rfl rfl (by decide +kernel) ⟨by decide, by decide⟩) rfl (rfl : sr_cl[5]? = some ("StoneRingsModel", tt_M, 21)) rfl rfl (Nat.le_of_ble_eq_true rfl) dd_L_law_807 ⟨by show _ ≤ 1063; omega, by show _ ≤ 9541; omega⟩ sx_noX (fun v2 μ2 h => ?_)
  refine sx_istore (lu := [(6, .int (sx_i v2)), (5, .int (sx_i v1)), (0, .ref b), (1, .ref (ad 0)), (2, .ref (ad 19)), (3, .ref (ad 30)), (4, .int (sx_i x4))]) C dd_L_law_810 (by decide) rfl ?_
  refine sx_aload_n C 4 dd_L_law_812 rfl rfl ?_
  refine sx_invI (c0 := 19) C hZ [] (fun sz2 => sm_M_thrown hlf h sz2) (sx_cwV (n := 0) C.2.2.2.2.1 wd_659 wd_656 wd_657 wd_658 wd_8 rfl rfl (by decide +kernel) ⟨by decide, by decide⟩) rfl (rfl : sr_cl[5]? = some ("StoneRingsModel", tt_M, 21)) rfl rfl (Nat.le_of_ble_eq_true rfl) dd_L_law_813 ⟨by show _ ≤ 1063; omega, by show _ ≤ 9541; omega⟩ sx_noX (fun v3 μ3 h => ?_)
  refine sx_iload C 1 dd_L_law_816 rfl ?_
  refine sx_icmp_eq (tgt := 823) C dd_L_law_818 (by decide) h (fun h => ?_) (fun h => ?_)
  · refine sx_iload C 1 dd_L_law_823 rfl ?_
    refine sx_if_ne (tgt := 840) C dd_L_law_825 (by decide) h (fun h => ?_) (fun h => ?_)
    · refine sx_less (lu := [(0, .ref b), (1, .ref (ad 0)), (2, .ref (ad 19)), (3, .ref (ad 30)), (4, .int (sx_i x4))]) C [2, 3, 4, 5, 6] rfl ?_
      exact sm_L_law_840 C hZ hr hlk hlf hX hbl hLL hr43 hc hs h
    · refine sx_aload_n C 5 dd_L_law_828 rfl rfl ?_
      refine sx_iconst C dd_L_law_829 rfl ?_
      refine sx_lald (N := 1) C 30 rfl rfl (by decide) dd_L_law_830 h (fun h => ?_)
      refine sx_iload C 0 dd_L_law_831 rfl ?_
      refine sx_toL C dd_L_law_833 h (fun h => ?_)
      refine sx_cmpL C dd_L_law_834 h (fun h => ?_)
      refine sx_if_eq (tgt := 840) C dd_L_law_835 (by decide) h (fun h => ?_) (fun h => ?_)
      · refine sx_less (lu := [(0, .ref b), (1, .ref (ad 0)), (2, .ref (ad 19)), (3, .ref (ad 30)), (4, .int (sx_i x4))]) C [2, 3, 4, 5, 6] rfl ?_
        exact sm_L_law_840 C hZ hr hlk hlf hX hbl hLL hr43 hc hs h
      · refine sx_iconst C dd_L_law_838 rfl ?_
        exact sx_lret C hr hlk (fun _ h => h) (by omega) (by omega) dd_L_law_839 h
  · refine sx_iconst C dd_L_law_821 rfl ?_
    exact sx_lret C hr hlk (fun _ h => h) (by omega) (by omega) dd_L_law_822 h
set_option maxHeartbeats 4000000 in
set_option maxRecDepth 100000 in
theorem sm_L_law_784 (C : sx_C sr_lay sr_cl D cI cJ ad (fun q : Nat => s.heap.size ≤ q) 7 "StoneRingsLaw" code sr_ts p s m #[Value.ref b] c) (hZ : sx_Z (fun q : Nat => s.heap.size ≤ q) s s.heap) (hr : meth.sig.returnType = ret) (hlk : meth.locks = false) (hlf : l.stackTraces = false) (hX : va_X b L xs s s.heap) (hbl : b < s.heap.size) (hLL : L ≤ 2050) {n : Nat} {r43 : Int → sx_M → Prop} (hr43 : ∀ (x4 : Int) (μ : sx_M) (cells slots : Nat), cells + n ≤ 1063 → slots + 6 * n ≤ 9541 → r43 x4 μ → sx_V sr_lay sr_cl D cI cJ ad (fun q : Nat => s.heap.size ≤ q) 7 p l e room_1 s m #[Value.ref b] below meth c (lw_Z below #[Value.ref b] s) cells slots μ 43 [(0, .ref b), (1, .ref (ad 0)), (2, .ref (ad 19)), (3, .ref (ad 30)), (4, .int (sx_i x4))] []) {cells slots : Nat} (hc : cells + (n + 1) ≤ 1063) (hs : slots + 6 * (n + 1) ≤ 9541) {x4 : Int} {μ : sx_M} (h : sw_L_law_784 (sx_sc xs) (L : Int) r43 x4 μ) : sx_V sr_lay sr_cl D cI cJ ad (fun q : Nat => s.heap.size ≤ q) 7 p l e room_1 s m #[Value.ref b] below meth c (lw_Z below #[Value.ref b] s) (cells + 1) (slots + 6) μ 784 [(0, .ref b), (1, .ref (ad 0)), (2, .ref (ad 19)), (3, .ref (ad 30)), (4, .int (sx_i x4))] [] := by
  unfold sw_L_law_784 at h
  refine sx_goto (tgt := 1646) C dd_L_law_784 (by decide) ?_
  exact sm_L_law_1646 C hZ hr hlk hlf hX hbl hLL hr43 hc hs h
set_option maxHeartbeats 4000000 in
set_option maxRecDepth 100000 in
theorem sm_L_law_707 (C : sx_C sr_lay sr_cl D cI cJ ad (fun q : Nat => s.heap.size ≤ q) 7 "StoneRingsLaw" code sr_ts p s m #[Value.ref b] c) (hZ : sx_Z (fun q : Nat => s.heap.size ≤ q) s s.heap) (hr : meth.sig.returnType = ret) (hlk : meth.locks = false) (hlf : l.stackTraces = false) (hX : va_X b L xs s s.heap) (hbl : b < s.heap.size) (hLL : L ≤ 2050) {n : Nat} {r43 : Int → sx_M → Prop} (hr43 : ∀ (x4 : Int) (μ : sx_M) (cells slots : Nat), cells + n ≤ 1063 → slots + 6 * n ≤ 9541 → r43 x4 μ → sx_V sr_lay sr_cl D cI cJ ad (fun q : Nat => s.heap.size ≤ q) 7 p l e room_1 s m #[Value.ref b] below meth c (lw_Z below #[Value.ref b] s) cells slots μ 43 [(0, .ref b), (1, .ref (ad 0)), (2, .ref (ad 19)), (3, .ref (ad 30)), (4, .int (sx_i x4))] []) {cells slots : Nat} (hc : cells + (n + 1) ≤ 1063) (hs : slots + 6 * (n + 1) ≤ 9541) {x4 : Int} {μ : sx_M} (h : sw_L_law_707 (sx_sc xs) (L : Int) r43 x4 μ) : sx_V sr_lay sr_cl D cI cJ ad (fun q : Nat => s.heap.size ≤ q) 7 p l e room_1 s m #[Value.ref b] below meth c (lw_Z below #[Value.ref b] s) cells slots μ 707 [(0, .ref b), (1, .ref (ad 0)), (2, .ref (ad 19)), (3, .ref (ad 30)), (4, .int (sx_i x4))] [] := by
  unfold sw_L_law_707 at h
  refine sx_aload_n C 1 dd_L_law_707 rfl rfl ?_
  refine sx_aload_n C 0 dd_L_law_708 rfl rfl ?_
  refine sx_iload C 4 dd_L_law_709 rfl ?_
  refine sx_iconst C dd_L_law_711 rfl ?_
  refine sx_iadd C dd_L_law_712 ?_
  refine sx_sld C hX hbl (Nat.not_le.mpr hbl) (by omega) dd_L_law_713 h (fun h => ?_)
  refine sx_aload_n C 0 dd_L_law_714 rfl rfl ?_
  refine sx_iload C 4 dd_L_law_715 rfl ?_
  refine sx_iconst C dd_L_law_717 rfl ?_
  refine sx_iadd C dd_L_law_718 ?_
  refine sx_sld C hX hbl (Nat.not_le.mpr hbl) (by omega) dd_L_law_719 h (fun h => ?_)
  refine sx_aload_n C 0 dd_L_law_720 rfl rfl ?_
  refine sx_iload C 4 dd_L_law_721 rfl ?_
  refine sx_iconst C dd_L_law_723 rfl ?_
  refine sx_iadd C dd_L_law_724 ?_
  refine sx_sld C hX hbl (Nat.not_le.mpr hbl) (by omega) dd_L_law_725 h (fun h => ?_)
  refine sx_aload_n C 3 dd_L_law_726 rfl rfl ?_
  refine sx_stcL C hZ [.ref (ad 0), .int (sx_i ((sx_sc xs) (x4 + 1))), .int (sx_i ((sx_sc xs) (x4 + 2))), .int (sx_i ((sx_sc xs) (x4 + 3))), .ref (ad 30)] (fun sz2 => sm_L_join hlf h sz2) (sx_cwL (n := 5) C.2.2.2.2.1 wd_416 wd_414 wd_415 wd_0 rfl rfl (by decide +kernel) ⟨by decide, by decide⟩) rfl rfl (Nat.le_of_ble_eq_true rfl) dd_L_law_727 ⟨by show _ ≤ 1063; omega, by show _ ≤ 9541; omega⟩ (fun v1 μ1 h => ?_)
  refine sx_istore (lu := [(5, .int (sx_i v1)), (0, .ref b), (1, .ref (ad 0)), (2, .ref (ad 19)), (3, .ref (ad 30)), (4, .int (sx_i x4))]) C dd_L_law_730 (by decide) rfl ?_
  refine sx_aload_n C 3 dd_L_law_732 rfl rfl ?_
  refine sx_aload_n C 1 dd_L_law_733 rfl rfl ?_
  refine sx_iload C 5 dd_L_law_734 rfl ?_
  refine sx_iconst C dd_L_law_736 rfl ?_
  refine sx_iadd C dd_L_law_737 ?_
  refine sx_sld C hX hbl (Nat.not_le.mpr hbl) (by omega) dd_L_law_738 h (fun h => ?_)
  refine sx_aload_n C 1 dd_L_law_739 rfl rfl ?_
  refine sx_iload C 5 dd_L_law_740 rfl ?_
  refine sx_iconst C dd_L_law_742 rfl ?_
  refine sx_iadd C dd_L_law_743 ?_
  refine sx_sld C hX hbl (Nat.not_le.mpr hbl) (by omega) dd_L_law_744 h (fun h => ?_)
  refine sx_aload_n C 1 dd_L_law_745 rfl rfl ?_
  refine sx_iload C 5 dd_L_law_746 rfl ?_
  refine sx_iconst C dd_L_law_748 rfl ?_
  refine sx_iadd C dd_L_law_749 ?_
  refine sx_sld C hX hbl (Nat.not_le.mpr hbl) (by omega) dd_L_law_750 h (fun h => ?_)
  refine sx_invI (c0 := 19) C hZ [.int (sx_i ((sx_sc xs) (x4 + 1))), .int (sx_i ((sx_sc xs) (x4 + 2))), .int (sx_i ((sx_sc xs) (x4 + 3)))] (fun sz2 => sm_M_join hlf h sz2) (sx_cwV (n := 3) C.2.2.2.2.1 wd_730 wd_727 wd_728 wd_729 wd_8 rfl rfl (by decide +kernel) ⟨by decide, by decide⟩) rfl (rfl : sr_cl[5]? = some ("StoneRingsModel", tt_M, 21)) rfl rfl (Nat.le_of_ble_eq_true rfl) dd_L_law_751 ⟨by show _ ≤ 1063; omega, by show _ ≤ 9541; omega⟩ sx_noX (fun v2 μ2 h => ?_)
  refine sx_istore (lu := [(6, .int (sx_i v2)), (5, .int (sx_i v1)), (0, .ref b), (1, .ref (ad 0)), (2, .ref (ad 19)), (3, .ref (ad 30)), (4, .int (sx_i x4))]) C dd_L_law_754 (by decide) rfl ?_
  refine sx_aload_n C 4 dd_L_law_756 rfl rfl ?_
  refine sx_invI (c0 := 19) C hZ [] (fun sz2 => sm_M_thrown hlf h sz2) (sx_cwV (n := 0) C.2.2.2.2.1 wd_659 wd_656 wd_657 wd_658 wd_8 rfl rfl (by decide +kernel) ⟨by decide, by decide⟩) rfl (rfl : sr_cl[5]? = some ("StoneRingsModel", tt_M, 21)) rfl rfl (Nat.le_of_ble_eq_true rfl) dd_L_law_757 ⟨by show _ ≤ 1063; omega, by show _ ≤ 9541; omega⟩ sx_noX (fun v3 μ3 h => ?_)
  refine sx_iload C 1 dd_L_law_760 rfl ?_
  refine sx_icmp_eq (tgt := 767) C dd_L_law_762 (by decide) h (fun h => ?_) (fun h => ?_)
  · refine sx_iload C 1 dd_L_law_767 rfl ?_
    refine sx_if_ne (tgt := 784) C dd_L_law_769 (by decide) h (fun h => ?_) (fun h => ?_)
    · refine sx_less (lu := [(0, .ref b), (1, .ref (ad 0)), (2, .ref (ad 19)), (3, .ref (ad 30)), (4, .int (sx_i x4))]) C [2, 3, 4, 5, 6] rfl ?_
      exact sm_L_law_784 C hZ hr hlk hlf hX hbl hLL hr43 hc hs h
    · refine sx_aload_n C 5 dd_L_law_772 rfl rfl ?_
      refine sx_iconst C dd_L_law_773 rfl ?_
      refine sx_lald (N := 1) C 30 rfl rfl (by decide) dd_L_law_774 h (fun h => ?_)
      refine sx_iload C 0 dd_L_law_775 rfl ?_
      refine sx_toL C dd_L_law_777 h (fun h => ?_)
      refine sx_cmpL C dd_L_law_778 h (fun h => ?_)
      refine sx_if_eq (tgt := 784) C dd_L_law_779 (by decide) h (fun h => ?_) (fun h => ?_)
      · refine sx_less (lu := [(0, .ref b), (1, .ref (ad 0)), (2, .ref (ad 19)), (3, .ref (ad 30)), (4, .int (sx_i x4))]) C [2, 3, 4, 5, 6] rfl ?_
        exact sm_L_law_784 C hZ hr hlk hlf hX hbl hLL hr43 hc hs h
      · refine sx_iconst C dd_L_law_782 rfl ?_
        exact sx_lret C hr hlk (fun _ h => h) (by omega) (by omega) dd_L_law_783 h
  · refine sx_iconst C dd_L_law_765 rfl ?_
    exact sx_lret C hr hlk (fun _ h => h) (by omega) (by omega) dd_L_law_766 h
set_option maxHeartbeats 4000000 in
set_option maxRecDepth 100000 in
theorem sm_L_law_704 (C : sx_C sr_lay sr_cl D cI cJ ad (fun q : Nat => s.heap.size ≤ q) 7 "StoneRingsLaw" code sr_ts p s m #[Value.ref b] c) (hZ : sx_Z (fun q : Nat => s.heap.size ≤ q) s s.heap) (hr : meth.sig.returnType = ret) (hlk : meth.locks = false) (hlf : l.stackTraces = false) (hX : va_X b L xs s s.heap) (hbl : b < s.heap.size) (hLL : L ≤ 2050) {n : Nat} {r43 : Int → sx_M → Prop} (hr43 : ∀ (x4 : Int) (μ : sx_M) (cells slots : Nat), cells + n ≤ 1063 → slots + 6 * n ≤ 9541 → r43 x4 μ → sx_V sr_lay sr_cl D cI cJ ad (fun q : Nat => s.heap.size ≤ q) 7 p l e room_1 s m #[Value.ref b] below meth c (lw_Z below #[Value.ref b] s) cells slots μ 43 [(0, .ref b), (1, .ref (ad 0)), (2, .ref (ad 19)), (3, .ref (ad 30)), (4, .int (sx_i x4))] []) {cells slots : Nat} (hc : cells + (n + 1) ≤ 1063) (hs : slots + 6 * (n + 1) ≤ 9541) {x4 : Int} {μ : sx_M} (h : sw_L_law_704 (sx_sc xs) (L : Int) r43 x4 μ) : sx_V sr_lay sr_cl D cI cJ ad (fun q : Nat => s.heap.size ≤ q) 7 p l e room_1 s m #[Value.ref b] below meth c (lw_Z below #[Value.ref b] s) (cells + 1) (slots + 6) μ 704 [(0, .ref b), (1, .ref (ad 0)), (2, .ref (ad 19)), (3, .ref (ad 30)), (4, .int (sx_i x4))] [] := by
  unfold sw_L_law_704 at h
  refine sx_goto (tgt := 1646) C dd_L_law_704 (by decide) ?_
  exact sm_L_law_1646 C hZ hr hlk hlf hX hbl hLL hr43 hc hs h
set_option maxHeartbeats 4000000 in
set_option maxRecDepth 100000 in
theorem sm_L_law_627 (C : sx_C sr_lay sr_cl D cI cJ ad (fun q : Nat => s.heap.size ≤ q) 7 "StoneRingsLaw" code sr_ts p s m #[Value.ref b] c) (hZ : sx_Z (fun q : Nat => s.heap.size ≤ q) s s.heap) (hr : meth.sig.returnType = ret) (hlk : meth.locks = false) (hlf : l.stackTraces = false) (hX : va_X b L xs s s.heap) (hbl : b < s.heap.size) (hLL : L ≤ 2050) {n : Nat} {r43 : Int → sx_M → Prop} (hr43 : ∀ (x4 : Int) (μ : sx_M) (cells slots : Nat), cells + n ≤ 1063 → slots + 6 * n ≤ 9541 → r43 x4 μ → sx_V sr_lay sr_cl D cI cJ ad (fun q : Nat => s.heap.size ≤ q) 7 p l e room_1 s m #[Value.ref b] below meth c (lw_Z below #[Value.ref b] s) cells slots μ 43 [(0, .ref b), (1, .ref (ad 0)), (2, .ref (ad 19)), (3, .ref (ad 30)), (4, .int (sx_i x4))] []) {cells slots : Nat} (hc : cells + (n + 1) ≤ 1063) (hs : slots + 6 * (n + 1) ≤ 9541) {x4 : Int} {μ : sx_M} (h : sw_L_law_627 (sx_sc xs) (L : Int) r43 x4 μ) : sx_V sr_lay sr_cl D cI cJ ad (fun q : Nat => s.heap.size ≤ q) 7 p l e room_1 s m #[Value.ref b] below meth c (lw_Z below #[Value.ref b] s) cells slots μ 627 [(0, .ref b), (1, .ref (ad 0)), (2, .ref (ad 19)), (3, .ref (ad 30)), (4, .int (sx_i x4))] [] := by
  unfold sw_L_law_627 at h
  refine sx_aload_n C 1 dd_L_law_627 rfl rfl ?_
  refine sx_aload_n C 0 dd_L_law_628 rfl rfl ?_
  refine sx_iload C 4 dd_L_law_629 rfl ?_
  refine sx_iconst C dd_L_law_631 rfl ?_
  refine sx_iadd C dd_L_law_632 ?_
  refine sx_sld C hX hbl (Nat.not_le.mpr hbl) (by omega) dd_L_law_633 h (fun h => ?_)
  refine sx_aload_n C 0 dd_L_law_634 rfl rfl ?_
  refine sx_iload C 4 dd_L_law_635 rfl ?_
  refine sx_iconst C dd_L_law_637 rfl ?_
  refine sx_iadd C dd_L_law_638 ?_
  refine sx_sld C hX hbl (Nat.not_le.mpr hbl) (by omega) dd_L_law_639 h (fun h => ?_)
  refine sx_aload_n C 0 dd_L_law_640 rfl rfl ?_
  refine sx_iload C 4 dd_L_law_641 rfl ?_
  refine sx_iconst C dd_L_law_643 rfl ?_
  refine sx_iadd C dd_L_law_644 ?_
  refine sx_sld C hX hbl (Nat.not_le.mpr hbl) (by omega) dd_L_law_645 h (fun h => ?_)
  refine sx_aload_n C 3 dd_L_law_646 rfl rfl ?_
  refine sx_stcL C hZ [.ref (ad 0), .int (sx_i ((sx_sc xs) (x4 + 1))), .int (sx_i ((sx_sc xs) (x4 + 2))), .int (sx_i ((sx_sc xs) (x4 + 3))), .ref (ad 30)] (fun sz2 => sm_L_ring hlf h sz2) (sx_cwL (n := 5) C.2.2.2.2.1 wd_400 wd_398 wd_399 wd_0 rfl rfl (by decide +kernel) ⟨by decide, by decide⟩) rfl rfl (Nat.le_of_ble_eq_true rfl) dd_L_law_647 ⟨by show _ ≤ 1063; omega, by show _ ≤ 9541; omega⟩ (fun v1 μ1 h => ?_)
  refine sx_istore (lu := [(5, .int (sx_i v1)), (0, .ref b), (1, .ref (ad 0)), (2, .ref (ad 19)), (3, .ref (ad 30)), (4, .int (sx_i x4))]) C dd_L_law_650 (by decide) rfl ?_
  refine sx_aload_n C 3 dd_L_law_652 rfl rfl ?_
  refine sx_aload_n C 1 dd_L_law_653 rfl rfl ?_
  refine sx_iload C 5 dd_L_law_654 rfl ?_
  refine sx_iconst C dd_L_law_656 rfl ?_
  refine sx_iadd C dd_L_law_657 ?_
  refine sx_sld C hX hbl (Nat.not_le.mpr hbl) (by omega) dd_L_law_658 h (fun h => ?_)
  refine sx_aload_n C 1 dd_L_law_659 rfl rfl ?_
  refine sx_iload C 5 dd_L_law_660 rfl ?_
  refine sx_iconst C dd_L_law_662 rfl ?_
  refine sx_iadd C dd_L_law_663 ?_
  refine sx_sld C hX hbl (Nat.not_le.mpr hbl) (by omega) dd_L_law_664 h (fun h => ?_)
  refine sx_aload_n C 1 dd_L_law_665 rfl rfl ?_
  refine sx_iload C 5 dd_L_law_666 rfl ?_
  refine sx_iconst C dd_L_law_668 rfl ?_
  refine sx_iadd C dd_L_law_669 ?_
  refine sx_sld C hX hbl (Nat.not_le.mpr hbl) (by omega) dd_L_law_670 h (fun h => ?_)
  refine sx_invI (c0 := 19) C hZ [.int (sx_i ((sx_sc xs) (x4 + 1))), .int (sx_i ((sx_sc xs) (x4 + 2))), .int (sx_i ((sx_sc xs) (x4 + 3)))] (fun sz2 => sm_M_ring hlf h sz2) (sx_cwV (n := 3) C.2.2.2.2.1 wd_721 wd_718 wd_719 wd_720 wd_8 rfl rfl (by decide +kernel) ⟨by decide, by decide⟩) rfl (rfl : sr_cl[5]? = some ("StoneRingsModel", tt_M, 21)) rfl rfl (Nat.le_of_ble_eq_true rfl) dd_L_law_671 ⟨by show _ ≤ 1063; omega, by show _ ≤ 9541; omega⟩ sx_noX (fun v2 μ2 h => ?_)
  refine sx_istore (lu := [(6, .int (sx_i v2)), (5, .int (sx_i v1)), (0, .ref b), (1, .ref (ad 0)), (2, .ref (ad 19)), (3, .ref (ad 30)), (4, .int (sx_i x4))]) C dd_L_law_674 (by decide) rfl ?_
  refine sx_aload_n C 4 dd_L_law_676 rfl rfl ?_
  refine sx_invI (c0 := 19) C hZ [] (fun sz2 => sm_M_thrown hlf h sz2) (sx_cwV (n := 0) C.2.2.2.2.1 wd_659 wd_656 wd_657 wd_658 wd_8 rfl rfl (by decide +kernel) ⟨by decide, by decide⟩) rfl (rfl : sr_cl[5]? = some ("StoneRingsModel", tt_M, 21)) rfl rfl (Nat.le_of_ble_eq_true rfl) dd_L_law_677 ⟨by show _ ≤ 1063; omega, by show _ ≤ 9541; omega⟩ sx_noX (fun v3 μ3 h => ?_)
  refine sx_iload C 1 dd_L_law_680 rfl ?_
  refine sx_icmp_eq (tgt := 687) C dd_L_law_682 (by decide) h (fun h => ?_) (fun h => ?_)
  · refine sx_iload C 1 dd_L_law_687 rfl ?_
    refine sx_if_ne (tgt := 704) C dd_L_law_689 (by decide) h (fun h => ?_) (fun h => ?_)
    · refine sx_less (lu := [(0, .ref b), (1, .ref (ad 0)), (2, .ref (ad 19)), (3, .ref (ad 30)), (4, .int (sx_i x4))]) C [2, 3, 4, 5, 6] rfl ?_
      exact sm_L_law_704 C hZ hr hlk hlf hX hbl hLL hr43 hc hs h
    · refine sx_aload_n C 5 dd_L_law_692 rfl rfl ?_
      refine sx_iconst C dd_L_law_693 rfl ?_
      refine sx_lald (N := 1) C 30 rfl rfl (by decide) dd_L_law_694 h (fun h => ?_)
      refine sx_iload C 0 dd_L_law_695 rfl ?_
      refine sx_toL C dd_L_law_697 h (fun h => ?_)
      refine sx_cmpL C dd_L_law_698 h (fun h => ?_)
      refine sx_if_eq (tgt := 704) C dd_L_law_699 (by decide) h (fun h => ?_) (fun h => ?_)
      · refine sx_less (lu := [(0, .ref b), (1, .ref (ad 0)), (2, .ref (ad 19)), (3, .ref (ad 30)), (4, .int (sx_i x4))]) C [2, 3, 4, 5, 6] rfl ?_
        exact sm_L_law_704 C hZ hr hlk hlf hX hbl hLL hr43 hc hs h
      · refine sx_iconst C dd_L_law_702 rfl ?_
        exact sx_lret C hr hlk (fun _ h => h) (by omega) (by omega) dd_L_law_703 h
  · refine sx_iconst C dd_L_law_685 rfl ?_
    exact sx_lret C hr hlk (fun _ h => h) (by omega) (by omega) dd_L_law_686 h
set_option maxHeartbeats 4000000 in
set_option maxRecDepth 100000 in
theorem sm_L_law_624 (C : sx_C sr_lay sr_cl D cI cJ ad (fun q : Nat => s.heap.size ≤ q) 7 "StoneRingsLaw" code sr_ts p s m #[Value.ref b] c) (hZ : sx_Z (fun q : Nat => s.heap.size ≤ q) s s.heap) (hr : meth.sig.returnType = ret) (hlk : meth.locks = false) (hlf : l.stackTraces = false) (hX : va_X b L xs s s.heap) (hbl : b < s.heap.size) (hLL : L ≤ 2050) {n : Nat} {r43 : Int → sx_M → Prop} (hr43 : ∀ (x4 : Int) (μ : sx_M) (cells slots : Nat), cells + n ≤ 1063 → slots + 6 * n ≤ 9541 → r43 x4 μ → sx_V sr_lay sr_cl D cI cJ ad (fun q : Nat => s.heap.size ≤ q) 7 p l e room_1 s m #[Value.ref b] below meth c (lw_Z below #[Value.ref b] s) cells slots μ 43 [(0, .ref b), (1, .ref (ad 0)), (2, .ref (ad 19)), (3, .ref (ad 30)), (4, .int (sx_i x4))] []) {cells slots : Nat} (hc : cells + (n + 1) ≤ 1063) (hs : slots + 6 * (n + 1) ≤ 9541) {x4 : Int} {μ : sx_M} (h : sw_L_law_624 (sx_sc xs) (L : Int) r43 x4 μ) : sx_V sr_lay sr_cl D cI cJ ad (fun q : Nat => s.heap.size ≤ q) 7 p l e room_1 s m #[Value.ref b] below meth c (lw_Z below #[Value.ref b] s) (cells + 1) (slots + 6) μ 624 [(0, .ref b), (1, .ref (ad 0)), (2, .ref (ad 19)), (3, .ref (ad 30)), (4, .int (sx_i x4))] [] := by
  unfold sw_L_law_624 at h
  refine sx_goto (tgt := 1646) C dd_L_law_624 (by decide) ?_
  exact sm_L_law_1646 C hZ hr hlk hlf hX hbl hLL hr43 hc hs h
set_option maxHeartbeats 4000000 in
set_option maxRecDepth 100000 in
theorem sm_L_law_571 (C : sx_C sr_lay sr_cl D cI cJ ad (fun q : Nat => s.heap.size ≤ q) 7 "StoneRingsLaw" code sr_ts p s m #[Value.ref b] c) (hZ : sx_Z (fun q : Nat => s.heap.size ≤ q) s s.heap) (hr : meth.sig.returnType = ret) (hlk : meth.locks = false) (hlf : l.stackTraces = false) (hX : va_X b L xs s s.heap) (hbl : b < s.heap.size) (hLL : L ≤ 2050) {n : Nat} {r43 : Int → sx_M → Prop} (hr43 : ∀ (x4 : Int) (μ : sx_M) (cells slots : Nat), cells + n ≤ 1063 → slots + 6 * n ≤ 9541 → r43 x4 μ → sx_V sr_lay sr_cl D cI cJ ad (fun q : Nat => s.heap.size ≤ q) 7 p l e room_1 s m #[Value.ref b] below meth c (lw_Z below #[Value.ref b] s) cells slots μ 43 [(0, .ref b), (1, .ref (ad 0)), (2, .ref (ad 19)), (3, .ref (ad 30)), (4, .int (sx_i x4))] []) {cells slots : Nat} (hc : cells + (n + 1) ≤ 1063) (hs : slots + 6 * (n + 1) ≤ 9541) {x4 : Int} {μ : sx_M} (h : sw_L_law_571 (sx_sc xs) (L : Int) r43 x4 μ) : sx_V sr_lay sr_cl D cI cJ ad (fun q : Nat => s.heap.size ≤ q) 7 p l e room_1 s m #[Value.ref b] below meth c (lw_Z below #[Value.ref b] s) cells slots μ 571 [(0, .ref b), (1, .ref (ad 0)), (2, .ref (ad 19)), (3, .ref (ad 30)), (4, .int (sx_i x4))] [] := by
  unfold sw_L_law_571 at h
  refine sx_aload_n C 1 dd_L_law_571 rfl rfl ?_
  refine sx_aload_n C 0 dd_L_law_572 rfl rfl ?_
  refine sx_iload C 4 dd_L_law_573 rfl ?_
  refine sx_iconst C dd_L_law_575 rfl ?_
  refine sx_iadd C dd_L_law_576 ?_
  refine sx_sld C hX hbl (Nat.not_le.mpr hbl) (by omega) dd_L_law_577 h (fun h => ?_)
  refine sx_aload_n C 3 dd_L_law_578 rfl rfl ?_
  refine sx_stcL C hZ [.ref (ad 0), .int (sx_i ((sx_sc xs) (x4 + 1))), .ref (ad 30)] (fun sz2 => sm_L_rings hlf h sz2) (sx_cwL (n := 3) C.2.2.2.2.1 wd_393 wd_391 wd_392 wd_0 rfl rfl (by decide +kernel) ⟨by decide, by decide⟩) rfl rfl (Nat.le_of_ble_eq_true rfl) dd_L_law_579 ⟨by show _ ≤ 1063; omega, by show _ ≤ 9541; omega⟩ (fun v1 μ1 h => ?_)
  refine sx_istore (lu := [(5, .int (sx_i v1)), (0, .ref b), (1, .ref (ad 0)), (2, .ref (ad 19)), (3, .ref (ad 30)), (4, .int (sx_i x4))]) C dd_L_law_582 (by decide) rfl ?_
  refine sx_aload_n C 3 dd_L_law_584 rfl rfl ?_
  refine sx_aload_n C 1 dd_L_law_585 rfl rfl ?_
  refine sx_iload C 5 dd_L_law_586 rfl ?_
  refine sx_iconst C dd_L_law_588 rfl ?_
  refine sx_iadd C dd_L_law_589 ?_
  refine sx_sld C hX hbl (Nat.not_le.mpr hbl) (by omega) dd_L_law_590 h (fun h => ?_)
  refine sx_invI (c0 := 19) C hZ [.int (sx_i ((sx_sc xs) (x4 + 1)))] (fun sz2 => sm_M_rings hlf h sz2) (sx_cwV (n := 1) C.2.2.2.2.1 wd_717 wd_714 wd_715 wd_716 wd_8 rfl rfl (by decide +kernel) ⟨by decide, by decide⟩) rfl (rfl : sr_cl[5]? = some ("StoneRingsModel", tt_M, 21)) rfl rfl (Nat.le_of_ble_eq_true rfl) dd_L_law_591 ⟨by show _ ≤ 1063; omega, by show _ ≤ 9541; omega⟩ sx_noX (fun v2 μ2 h => ?_)
  refine sx_istore (lu := [(6, .int (sx_i v2)), (5, .int (sx_i v1)), (0, .ref b), (1, .ref (ad 0)), (2, .ref (ad 19)), (3, .ref (ad 30)), (4, .int (sx_i x4))]) C dd_L_law_594 (by decide) rfl ?_
  refine sx_aload_n C 4 dd_L_law_596 rfl rfl ?_
  refine sx_invI (c0 := 19) C hZ [] (fun sz2 => sm_M_thrown hlf h sz2) (sx_cwV (n := 0) C.2.2.2.2.1 wd_659 wd_656 wd_657 wd_658 wd_8 rfl rfl (by decide +kernel) ⟨by decide, by decide⟩) rfl (rfl : sr_cl[5]? = some ("StoneRingsModel", tt_M, 21)) rfl rfl (Nat.le_of_ble_eq_true rfl) dd_L_law_597 ⟨by show _ ≤ 1063; omega, by show _ ≤ 9541; omega⟩ sx_noX (fun v3 μ3 h => ?_)
  refine sx_iload C 1 dd_L_law_600 rfl ?_
  refine sx_icmp_eq (tgt := 607) C dd_L_law_602 (by decide) h (fun h => ?_) (fun h => ?_)
  · refine sx_iload C 1 dd_L_law_607 rfl ?_
    refine sx_if_ne (tgt := 624) C dd_L_law_609 (by decide) h (fun h => ?_) (fun h => ?_)
    · refine sx_less (lu := [(0, .ref b), (1, .ref (ad 0)), (2, .ref (ad 19)), (3, .ref (ad 30)), (4, .int (sx_i x4))]) C [2, 3, 4, 5, 6] rfl ?_
      exact sm_L_law_624 C hZ hr hlk hlf hX hbl hLL hr43 hc hs h
    · refine sx_aload_n C 5 dd_L_law_612 rfl rfl ?_
      refine sx_iconst C dd_L_law_613 rfl ?_
      refine sx_lald (N := 1) C 30 rfl rfl (by decide) dd_L_law_614 h (fun h => ?_)
      refine sx_iload C 0 dd_L_law_615 rfl ?_
      refine sx_toL C dd_L_law_617 h (fun h => ?_)
      refine sx_cmpL C dd_L_law_618 h (fun h => ?_)
      refine sx_if_eq (tgt := 624) C dd_L_law_619 (by decide) h (fun h => ?_) (fun h => ?_)
      · refine sx_less (lu := [(0, .ref b), (1, .ref (ad 0)), (2, .ref (ad 19)), (3, .ref (ad 30)), (4, .int (sx_i x4))]) C [2, 3, 4, 5, 6] rfl ?_
        exact sm_L_law_624 C hZ hr hlk hlf hX hbl hLL hr43 hc hs h
      · refine sx_iconst C dd_L_law_622 rfl ?_
        exact sx_lret C hr hlk (fun _ h => h) (by omega) (by omega) dd_L_law_623 h
  · refine sx_iconst C dd_L_law_605 rfl ?_
    exact sx_lret C hr hlk (fun _ h => h) (by omega) (by omega) dd_L_law_606 h
set_option maxHeartbeats 4000000 in
set_option maxRecDepth 100000 in
theorem sm_L_law_523 (C : sx_C sr_lay sr_cl D cI cJ ad (fun q : Nat => s.heap.size ≤ q) 7 "StoneRingsLaw" code sr_ts p s m #[Value.ref b] c) (hZ : sx_Z (fun q : Nat => s.heap.size ≤ q) s s.heap) (hr : meth.sig.returnType = ret) (hlk : meth.locks = false) (hlf : l.stackTraces = false) (hX : va_X b L xs s s.heap) (hbl : b < s.heap.size) (hLL : L ≤ 2050) {n : Nat} {r43 : Int → sx_M → Prop} (hr43 : ∀ (x4 : Int) (μ : sx_M) (cells slots : Nat), cells + n ≤ 1063 → slots + 6 * n ≤ 9541 → r43 x4 μ → sx_V sr_lay sr_cl D cI cJ ad (fun q : Nat => s.heap.size ≤ q) 7 p l e room_1 s m #[Value.ref b] below meth c (lw_Z below #[Value.ref b] s) cells slots μ 43 [(0, .ref b), (1, .ref (ad 0)), (2, .ref (ad 19)), (3, .ref (ad 30)), (4, .int (sx_i x4))] []) {cells slots : Nat} (hc : cells + (n + 1) ≤ 1063) (hs : slots + 6 * (n + 1) ≤ 9541) {x4 : Int} {μ : sx_M} (h : sw_L_law_523 (sx_sc xs) (L : Int) r43 x4 μ) : sx_V sr_lay sr_cl D cI cJ ad (fun q : Nat => s.heap.size ≤ q) 7 p l e room_1 s m #[Value.ref b] below meth c (lw_Z below #[Value.ref b] s) cells slots μ 523 [(0, .ref b), (1, .ref (ad 0)), (2, .ref (ad 19)), (3, .ref (ad 30)), (4, .int (sx_i x4))] [] := by
  unfold sw_L_law_523 at h
  refine sx_aload_n C 1 dd_L_law_523 rfl rfl ?_
  refine sx_aload_n C 0 dd_L_law_524 rfl rfl ?_
  refine sx_iload C 4 dd_L_law_525 rfl ?_
  refine sx_iconst C dd_L_law_527 rfl ?_
  refine sx_iadd C dd_L_law_528 ?_
  refine sx_sld C hX hbl (Nat.not_le.mpr hbl) (by omega) dd_L_law_529 h (fun h => ?_)
  refine sx_aload_n C 0 dd_L_law_530 rfl rfl ?_
  refine sx_iload C 4 dd_L_law_531 rfl ?_
  refine sx_iconst C dd_L_law_533 rfl ?_
  refine sx_iadd C dd_L_law_534 ?_
  refine sx_sld C hX hbl (Nat.not_le.mpr hbl) (by omega) dd_L_law_535 h (fun h => ?_)
  refine sx_stcL C hZ [.ref (ad 0), .int (sx_i ((sx_sc xs) (x4 + 1))), .int (sx_i ((sx_sc xs) (x4 + 2)))] (fun sz2 => sm_L_rule hlf h sz2) (sx_cwL (n := 3) C.2.2.2.2.1 wd_386 wd_384 wd_385 wd_0 rfl rfl (by decide +kernel) ⟨by decide, by decide⟩) rfl rfl (Nat.le_of_ble_eq_true rfl) dd_L_law_536 ⟨by show _ ≤ 1063; omega, by show _ ≤ 9541; omega⟩ (fun v1 μ1 h => ?_)
  refine sx_istore (lu := [(5, .int (sx_i v1)), (0, .ref b), (1, .ref (ad 0)), (2, .ref (ad 19)), (3, .ref (ad 30)), (4, .int (sx_i x4))]) C dd_L_law_539 (by decide) rfl ?_
  refine sx_aload_n C 3 dd_L_law_541 rfl rfl ?_
  refine sx_aload_n C 1 dd_L_law_542 rfl rfl ?_
  refine sx_iload C 5 dd_L_law_543 rfl ?_
  refine sx_iconst C dd_L_law_545 rfl ?_
  refine sx_iadd C dd_L_law_546 ?_
  refine sx_sld C hX hbl (Nat.not_le.mpr hbl) (by omega) dd_L_law_547 h (fun h => ?_)
  refine sx_aload_n C 1 dd_L_law_548 rfl rfl ?_
  refine sx_iload C 5 dd_L_law_549 rfl ?_
  refine sx_iconst C dd_L_law_551 rfl ?_
  refine sx_iadd C dd_L_law_552 ?_
  refine sx_sld C hX hbl (Nat.not_le.mpr hbl) (by omega) dd_L_law_553 h (fun h => ?_)
  refine sx_invV (c0 := 19) C hZ [.int (sx_i ((sx_sc xs) (x4 + 1))), .int (sx_i ((sx_sc xs) (x4 + 2)))] (fun sz2 => sm_M_rule hlf h sz2) (sx_cwV (n := 2) C.2.2.2.2.1 wd_713 wd_710 wd_711 wd_712 wd_8 rfl rfl (by decide +kernel) ⟨by decide, by decide⟩) rfl (rfl : sr_cl[5]? = some ("StoneRingsModel", tt_M, 21)) rfl rfl (Nat.le_of_ble_eq_true rfl) dd_L_law_554 ⟨by show _ ≤ 1063; omega, by show _ ≤ 9541; omega⟩ sx_noX (fun v2 μ2 h => ?_)
  refine sx_aload_n C 3 dd_L_law_557 rfl rfl ?_
  refine sx_invI (c0 := 19) C hZ [] (fun sz2 => sm_M_thrown hlf h sz2) (sx_cwV (n := 0) C.2.2.2.2.1 wd_659 wd_656 wd_657 wd_658 wd_8 rfl rfl (by decide +kernel) ⟨by decide, by decide⟩) rfl (rfl : sr_cl[5]? = some ("StoneRingsModel", tt_M, 21)) rfl rfl (Nat.le_of_ble_eq_true rfl) dd_L_law_558 ⟨by show _ ≤ 1063; omega, by show _ ≤ 9541; omega⟩ sx_noX (fun v3 μ3 h => ?_)
  refine sx_iload C 0 dd_L_law_561 rfl ?_
  refine sx_icmp_eq (tgt := 568) C dd_L_law_563 (by decide) h (fun h => ?_) (fun h => ?_)
  · refine sx_goto (tgt := 1646) C dd_L_law_568 (by decide) ?_
    refine sx_less (lu := [(0, .ref b), (1, .ref (ad 0)), (2, .ref (ad 19)), (3, .ref (ad 30)), (4, .int (sx_i x4))]) C [1, 2, 3, 4, 5] rfl ?_
    exact sm_L_law_1646 C hZ hr hlk hlf hX hbl hLL hr43 hc hs h
  · refine sx_iconst C dd_L_law_566 rfl ?_
    exact sx_lret C hr hlk (fun _ h => h) (by omega) (by omega) dd_L_law_567 h
set_option maxHeartbeats 4000000 in
set_option maxRecDepth 100000 in
theorem sm_L_law_520 (C : sx_C sr_lay sr_cl D cI cJ ad (fun q : Nat => s.heap.size ≤ q) 7 "StoneRingsLaw" code sr_ts p s m #[Value.ref b] c) (hZ : sx_Z (fun q : Nat => s.heap.size ≤ q) s s.heap) (hr : meth.sig.returnType = ret) (hlk : meth.locks = false) (hlf : l.stackTraces = false) (hX : va_X b L xs s s.heap) (hbl : b < s.heap.size) (hLL : L ≤ 2050) {n : Nat} {r43 : Int → sx_M → Prop} (hr43 : ∀ (x4 : Int) (μ : sx_M) (cells slots : Nat), cells + n ≤ 1063 → slots + 6 * n ≤ 9541 → r43 x4 μ → sx_V sr_lay sr_cl D cI cJ ad (fun q : Nat => s.heap.size ≤ q) 7 p l e room_1 s m #[Value.ref b] below meth c (lw_Z below #[Value.ref b] s) cells slots μ 43 [(0, .ref b), (1, .ref (ad 0)), (2, .ref (ad 19)), (3, .ref (ad 30)), (4, .int (sx_i x4))] []) {cells slots : Nat} (hc : cells + (n + 1) ≤ 1063) (hs : slots + 6 * (n + 1) ≤ 9541) {x4 : Int} {μ : sx_M} (h : sw_L_law_520 (sx_sc xs) (L : Int) r43 x4 μ) : sx_V sr_lay sr_cl D cI cJ ad (fun q : Nat => s.heap.size ≤ q) 7 p l e room_1 s m #[Value.ref b] below meth c (lw_Z below #[Value.ref b] s) (cells + 1) (slots + 6) μ 520 [(0, .ref b), (1, .ref (ad 0)), (2, .ref (ad 19)), (3, .ref (ad 30)), (4, .int (sx_i x4))] [] := by
  unfold sw_L_law_520 at h
  refine sx_goto (tgt := 1646) C dd_L_law_520 (by decide) ?_
  exact sm_L_law_1646 C hZ hr hlk hlf hX hbl hLL hr43 hc hs h
set_option maxHeartbeats 4000000 in
set_option maxRecDepth 100000 in
theorem sm_L_law_487 (C : sx_C sr_lay sr_cl D cI cJ ad (fun q : Nat => s.heap.size ≤ q) 7 "StoneRingsLaw" code sr_ts p s m #[Value.ref b] c) (hZ : sx_Z (fun q : Nat => s.heap.size ≤ q) s s.heap) (hr : meth.sig.returnType = ret) (hlk : meth.locks = false) (hlf : l.stackTraces = false) (hX : va_X b L xs s s.heap) (hbl : b < s.heap.size) (hLL : L ≤ 2050) {n : Nat} {r43 : Int → sx_M → Prop} (hr43 : ∀ (x4 : Int) (μ : sx_M) (cells slots : Nat), cells + n ≤ 1063 → slots + 6 * n ≤ 9541 → r43 x4 μ → sx_V sr_lay sr_cl D cI cJ ad (fun q : Nat => s.heap.size ≤ q) 7 p l e room_1 s m #[Value.ref b] below meth c (lw_Z below #[Value.ref b] s) cells slots μ 43 [(0, .ref b), (1, .ref (ad 0)), (2, .ref (ad 19)), (3, .ref (ad 30)), (4, .int (sx_i x4))] []) {cells slots : Nat} (hc : cells + (n + 1) ≤ 1063) (hs : slots + 6 * (n + 1) ≤ 9541) {x4 x5 y1 y2 y3 : Int} {μ : sx_M} (h : sw_L_law_487 (sx_sc xs) (L : Int) r43 x4 x5 y1 y2 y3 μ) : sx_V sr_lay sr_cl D cI cJ ad (fun q : Nat => s.heap.size ≤ q) 7 p l e room_1 s m #[Value.ref b] below meth c (lw_Z below #[Value.ref b] s) (cells + 1) (slots + 6) μ 487 [(0, .ref b), (1, .ref (ad 0)), (2, .ref (ad 19)), (3, .ref (ad 30)), (4, .int (sx_i x4)), (5, .int (sx_i x5))] [.int (sx_i y3), .int (sx_i y2), .int (sx_i y1), .ref (ad 19)] := by
  unfold sw_L_law_487 at h
  refine sx_invI (c0 := 19) C hZ [.int (sx_i y1), .int (sx_i y2), .int (sx_i y3)] (fun sz2 => sm_M_sample hlf h sz2) (sx_cwV (n := 3) C.2.2.2.2.1 wd_708 wd_705 wd_706 wd_707 wd_8 rfl rfl (by decide +kernel) ⟨by decide, by decide⟩) rfl (rfl : sr_cl[5]? = some ("StoneRingsModel", tt_M, 21)) rfl rfl (Nat.le_of_ble_eq_true rfl) dd_L_law_487 ⟨by show _ ≤ 1063; omega, by show _ ≤ 9541; omega⟩ sx_noX (fun v1 μ1 h => ?_)
  refine sx_istore (lu := [(6, .int (sx_i v1)), (0, .ref b), (1, .ref (ad 0)), (2, .ref (ad 19)), (3, .ref (ad 30)), (4, .int (sx_i x4)), (5, .int (sx_i x5))]) C dd_L_law_490 (by decide) rfl ?_
  refine sx_aload_n C 3 dd_L_law_492 rfl rfl ?_
  refine sx_invI (c0 := 19) C hZ [] (fun sz2 => sm_M_thrown hlf h sz2) (sx_cwV (n := 0) C.2.2.2.2.1 wd_659 wd_656 wd_657 wd_658 wd_8 rfl rfl (by decide +kernel) ⟨by decide, by decide⟩) rfl (rfl : sr_cl[5]? = some ("StoneRingsModel", tt_M, 21)) rfl rfl (Nat.le_of_ble_eq_true rfl) dd_L_law_493 ⟨by show _ ≤ 1063; omega, by show _ ≤ 9541; omega⟩ sx_noX (fun v2 μ2 h => ?_)
  refine sx_iload C 6 dd_L_law_496 rfl ?_
  refine sx_icmp_eq (tgt := 503) C dd_L_law_498 (by decide) h (fun h => ?_) (fun h => ?_)
  · refine sx_iload C 6 dd_L_law_503 rfl ?_
    refine sx_if_ne (tgt := 520) C dd_L_law_505 (by decide) h (fun h => ?_) (fun h => ?_)
    · refine sx_less (lu := [(0, .ref b), (1, .ref (ad 0)), (2, .ref (ad 19)), (3, .ref (ad 30)), (4, .int (sx_i x4))]) C [1, 2, 3, 4, 5] rfl ?_
      exact sm_L_law_520 C hZ hr hlk hlf hX hbl hLL hr43 hc hs h
    · refine sx_aload_n C 4 dd_L_law_508 rfl rfl ?_
      refine sx_iconst C dd_L_law_509 rfl ?_
      refine sx_lald (N := 1) C 30 rfl rfl (by decide) dd_L_law_510 h (fun h => ?_)
      refine sx_iload C 0 dd_L_law_511 rfl ?_
      refine sx_toL C dd_L_law_513 h (fun h => ?_)
      refine sx_cmpL C dd_L_law_514 h (fun h => ?_)
      refine sx_if_eq (tgt := 520) C dd_L_law_515 (by decide) h (fun h => ?_) (fun h => ?_)
      · refine sx_less (lu := [(0, .ref b), (1, .ref (ad 0)), (2, .ref (ad 19)), (3, .ref (ad 30)), (4, .int (sx_i x4))]) C [1, 2, 3, 4, 5] rfl ?_
        exact sm_L_law_520 C hZ hr hlk hlf hX hbl hLL hr43 hc hs h
      · refine sx_iconst C dd_L_law_518 rfl ?_
        exact sx_lret C hr hlk (fun _ h => h) (by omega) (by omega) dd_L_law_519 h
  · refine sx_iconst C dd_L_law_501 rfl ?_
    exact sx_lret C hr hlk (fun _ h => h) (by omega) (by omega) dd_L_law_502 h
set_option maxHeartbeats 4000000 in
set_option maxRecDepth 100000 in
theorem sm_L_law_454 (C : sx_C sr_lay sr_cl D cI cJ ad (fun q : Nat => s.heap.size ≤ q) 7 "StoneRingsLaw" code sr_ts p s m #[Value.ref b] c) (hZ : sx_Z (fun q : Nat => s.heap.size ≤ q) s s.heap) (hr : meth.sig.returnType = ret) (hlk : meth.locks = false) (hlf : l.stackTraces = false) (hX : va_X b L xs s s.heap) (hbl : b < s.heap.size) (hLL : L ≤ 2050) {n : Nat} {r43 : Int → sx_M → Prop} (hr43 : ∀ (x4 : Int) (μ : sx_M) (cells slots : Nat), cells + n ≤ 1063 → slots + 6 * n ≤ 9541 → r43 x4 μ → sx_V sr_lay sr_cl D cI cJ ad (fun q : Nat => s.heap.size ≤ q) 7 p l e room_1 s m #[Value.ref b] below meth c (lw_Z below #[Value.ref b] s) cells slots μ 43 [(0, .ref b), (1, .ref (ad 0)), (2, .ref (ad 19)), (3, .ref (ad 30)), (4, .int (sx_i x4))] []) {cells slots : Nat} (hc : cells + (n + 1) ≤ 1063) (hs : slots + 6 * (n + 1) ≤ 9541) {x4 y1 y2 y3 : Int} {μ : sx_M} (h : sw_L_law_454 (sx_sc xs) (L : Int) r43 x4 y1 y2 y3 μ) : sx_V sr_lay sr_cl D cI cJ ad (fun q : Nat => s.heap.size ≤ q) 7 p l e room_1 s m #[Value.ref b] below meth c (lw_Z below #[Value.ref b] s) cells slots μ 454 [(0, .ref b), (1, .ref (ad 0)), (2, .ref (ad 19)), (3, .ref (ad 30)), (4, .int (sx_i x4))] [.int (sx_i y3), .int (sx_i y2), .int (sx_i y1), .ref (ad 0)] := by
  unfold sw_L_law_454 at h
  refine sx_aload_n C 3 dd_L_law_454 rfl rfl ?_
  refine sx_stcL C hZ [.ref (ad 0), .int (sx_i y1), .int (sx_i y2), .int (sx_i y3), .ref (ad 30)] (fun sz2 => sm_L_sample hlf h sz2) (sx_cwL (n := 5) C.2.2.2.2.1 wd_379 wd_377 wd_378 wd_0 rfl rfl (by decide +kernel) ⟨by decide, by decide⟩) rfl rfl (Nat.le_of_ble_eq_true rfl) dd_L_law_455 ⟨by show _ ≤ 1063; omega, by show _ ≤ 9541; omega⟩ (fun v1 μ1 h => ?_)
  refine sx_istore (lu := [(5, .int (sx_i v1)), (0, .ref b), (1, .ref (ad 0)), (2, .ref (ad 19)), (3, .ref (ad 30)), (4, .int (sx_i x4))]) C dd_L_law_458 (by decide) rfl ?_
  refine sx_aload_n C 3 dd_L_law_460 rfl rfl ?_
  refine sx_aload_n C 1 dd_L_law_461 rfl rfl ?_
  refine sx_iload C 5 dd_L_law_462 rfl ?_
  refine sx_iconst C dd_L_law_464 rfl ?_
  refine sx_iadd C dd_L_law_465 ?_
  refine sx_sld C hX hbl (Nat.not_le.mpr hbl) (by omega) dd_L_law_466 h (fun h => ?_)
  refine sx_aload_n C 1 dd_L_law_467 rfl rfl ?_
  refine sx_iload C 5 dd_L_law_468 rfl ?_
  refine sx_iconst C dd_L_law_470 rfl ?_
  refine sx_iadd C dd_L_law_471 ?_
  refine sx_sld C hX hbl (Nat.not_le.mpr hbl) (by omega) dd_L_law_472 h (fun h => ?_)
  refine sx_aload_n C 1 dd_L_law_473 rfl rfl ?_
  refine sx_iload C 5 dd_L_law_474 rfl ?_
  refine sx_iconst C dd_L_law_476 rfl ?_
  refine sx_iadd C dd_L_law_477 ?_
  refine sx_sld C hX hbl (Nat.not_le.mpr hbl) (by omega) dd_L_law_478 h (fun h => ?_)
  refine sx_if_eq (tgt := 486) C dd_L_law_479 (by decide) h (fun h => ?_) (fun h => ?_)
  · refine sx_iconst C dd_L_law_486 rfl ?_
    refine sx_less (lu := [(0, .ref b), (1, .ref (ad 0)), (2, .ref (ad 19)), (3, .ref (ad 30)), (4, .int (sx_i x4)), (5, .int (sx_i v1))]) C [1, 2, 3, 4, 5, 0] rfl ?_
    exact sm_L_law_487 C hZ hr hlk hlf hX hbl hLL hr43 hc hs h
  · refine sx_iconst C dd_L_law_482 rfl ?_
    refine sx_goto (tgt := 487) C dd_L_law_483 (by decide) ?_
    refine sx_less (lu := [(0, .ref b), (1, .ref (ad 0)), (2, .ref (ad 19)), (3, .ref (ad 30)), (4, .int (sx_i x4)), (5, .int (sx_i v1))]) C [1, 2, 3, 4, 5, 0] rfl ?_
    exact sm_L_law_487 C hZ hr hlk hlf hX hbl hLL hr43 hc hs h
set_option maxHeartbeats 4000000 in
set_option maxRecDepth 100000 in
theorem sm_L_law_427 (C : sx_C sr_lay sr_cl D cI cJ ad (fun q : Nat => s.heap.size ≤ q) 7 "StoneRingsLaw" code sr_ts p s m #[Value.ref b] c) (hZ : sx_Z (fun q : Nat => s.heap.size ≤ q) s s.heap) (hr : meth.sig.returnType = ret) (hlk : meth.locks = false) (hlf : l.stackTraces = false) (hX : va_X b L xs s s.heap) (hbl : b < s.heap.size) (hLL : L ≤ 2050) {n : Nat} {r43 : Int → sx_M → Prop} (hr43 : ∀ (x4 : Int) (μ : sx_M) (cells slots : Nat), cells + n ≤ 1063 → slots + 6 * n ≤ 9541 → r43 x4 μ → sx_V sr_lay sr_cl D cI cJ ad (fun q : Nat => s.heap.size ≤ q) 7 p l e room_1 s m #[Value.ref b] below meth c (lw_Z below #[Value.ref b] s) cells slots μ 43 [(0, .ref b), (1, .ref (ad 0)), (2, .ref (ad 19)), (3, .ref (ad 30)), (4, .int (sx_i x4))] []) {cells slots : Nat} (hc : cells + (n + 1) ≤ 1063) (hs : slots + 6 * (n + 1) ≤ 9541) {x4 : Int} {μ : sx_M} (h : sw_L_law_427 (sx_sc xs) (L : Int) r43 x4 μ) : sx_V sr_lay sr_cl D cI cJ ad (fun q : Nat => s.heap.size ≤ q) 7 p l e room_1 s m #[Value.ref b] below meth c (lw_Z below #[Value.ref b] s) cells slots μ 427 [(0, .ref b), (1, .ref (ad 0)), (2, .ref (ad 19)), (3, .ref (ad 30)), (4, .int (sx_i x4))] [] := by
  unfold sw_L_law_427 at h
  refine sx_aload_n C 1 dd_L_law_427 rfl rfl ?_
  refine sx_aload_n C 0 dd_L_law_428 rfl rfl ?_
  refine sx_iload C 4 dd_L_law_429 rfl ?_
  refine sx_iconst C dd_L_law_431 rfl ?_
  refine sx_iadd C dd_L_law_432 ?_
  refine sx_sld C hX hbl (Nat.not_le.mpr hbl) (by omega) dd_L_law_433 h (fun h => ?_)
  refine sx_aload_n C 0 dd_L_law_434 rfl rfl ?_
  refine sx_iload C 4 dd_L_law_435 rfl ?_
  refine sx_iconst C dd_L_law_437 rfl ?_
  refine sx_iadd C dd_L_law_438 ?_
  refine sx_sld C hX hbl (Nat.not_le.mpr hbl) (by omega) dd_L_law_439 h (fun h => ?_)
  refine sx_aload_n C 0 dd_L_law_440 rfl rfl ?_
  refine sx_iload C 4 dd_L_law_441 rfl ?_
  refine sx_iconst C dd_L_law_443 rfl ?_
  refine sx_iadd C dd_L_law_444 ?_
  refine sx_sld C hX hbl (Nat.not_le.mpr hbl) (by omega) dd_L_law_445 h (fun h => ?_)
  refine sx_if_eq (tgt := 453) C dd_L_law_446 (by decide) h (fun h => ?_) (fun h => ?_)
  · refine sx_iconst C dd_L_law_453 rfl ?_
    exact sm_L_law_454 C hZ hr hlk hlf hX hbl hLL hr43 hc hs h
  · refine sx_iconst C dd_L_law_449 rfl ?_
    refine sx_goto (tgt := 454) C dd_L_law_450 (by decide) ?_
    exact sm_L_law_454 C hZ hr hlk hlf hX hbl hLL hr43 hc hs h
set_option maxHeartbeats 4000000 in
set_option maxRecDepth 100000 in
theorem sm_L_law_424 (C : sx_C sr_lay sr_cl D cI cJ ad (fun q : Nat => s.heap.size ≤ q) 7 "StoneRingsLaw" code sr_ts p s m #[Value.ref b] c) (hZ : sx_Z (fun q : Nat => s.heap.size ≤ q) s s.heap) (hr : meth.sig.returnType = ret) (hlk : meth.locks = false) (hlf : l.stackTraces = false) (hX : va_X b L xs s s.heap) (hbl : b < s.heap.size) (hLL : L ≤ 2050) {n : Nat} {r43 : Int → sx_M → Prop} (hr43 : ∀ (x4 : Int) (μ : sx_M) (cells slots : Nat), cells + n ≤ 1063 → slots + 6 * n ≤ 9541 → r43 x4 μ → sx_V sr_lay sr_cl D cI cJ ad (fun q : Nat => s.heap.size ≤ q) 7 p l e room_1 s m #[Value.ref b] below meth c (lw_Z below #[Value.ref b] s) cells slots μ 43 [(0, .ref b), (1, .ref (ad 0)), (2, .ref (ad 19)), (3, .ref (ad 30)), (4, .int (sx_i x4))] []) {cells slots : Nat} (hc : cells + (n + 1) ≤ 1063) (hs : slots + 6 * (n + 1) ≤ 9541) {x4 : Int} {μ : sx_M} (h : sw_L_law_424 (sx_sc xs) (L : Int) r43 x4 μ) : sx_V sr_lay sr_cl D cI cJ ad (fun q : Nat => s.heap.size ≤ q) 7 p l e room_1 s m #[Value.ref b] below meth c (lw_Z below #[Value.ref b] s) (cells + 1) (slots + 6) μ 424 [(0, .ref b), (1, .ref (ad 0)), (2, .ref (ad 19)), (3, .ref (ad 30)), (4, .int (sx_i x4))] [] := by
  unfold sw_L_law_424 at h
  refine sx_goto (tgt := 1646) C dd_L_law_424 (by decide) ?_
  exact sm_L_law_1646 C hZ hr hlk hlf hX hbl hLL hr43 hc hs h
set_option maxHeartbeats 4000000 in
set_option maxRecDepth 100000 in
theorem sm_L_law_371 (C : sx_C sr_lay sr_cl D cI cJ ad (fun q : Nat => s.heap.size ≤ q) 7 "StoneRingsLaw" code sr_ts p s m #[Value.ref b] c) (hZ : sx_Z (fun q : Nat => s.heap.size ≤ q) s s.heap) (hr : meth.sig.returnType = ret) (hlk : meth.locks = false) (hlf : l.stackTraces = false) (hX : va_X b L xs s s.heap) (hbl : b < s.heap.size) (hLL : L ≤ 2050) {n : Nat} {r43 : Int → sx_M → Prop} (hr43 : ∀ (x4 : Int) (μ : sx_M) (cells slots : Nat), cells + n ≤ 1063 → slots + 6 * n ≤ 9541 → r43 x4 μ → sx_V sr_lay sr_cl D cI cJ ad (fun q : Nat => s.heap.size ≤ q) 7 p l e room_1 s m #[Value.ref b] below meth c (lw_Z below #[Value.ref b] s) cells slots μ 43 [(0, .ref b), (1, .ref (ad 0)), (2, .ref (ad 19)), (3, .ref (ad 30)), (4, .int (sx_i x4))] []) {cells slots : Nat} (hc : cells + (n + 1) ≤ 1063) (hs : slots + 6 * (n + 1) ≤ 9541) {x4 : Int} {μ : sx_M} (h : sw_L_law_371 (sx_sc xs) (L : Int) r43 x4 μ) : sx_V sr_lay sr_cl D cI cJ ad (fun q : Nat => s.heap.size ≤ q) 7 p l e room_1 s m #[Value.ref b] below meth c (lw_Z below #[Value.ref b] s) cells slots μ 371 [(0, .ref b), (1, .ref (ad 0)), (2, .ref (ad 19)), (3, .ref (ad 30)), (4, .int (sx_i x4))] [] := by
  unfold sw_L_law_371 at h
  refine sx_aload_n C 1 dd_L_law_371 rfl rfl ?_
  refine sx_aload_n C 0 dd_L_law_372 rfl rfl ?_
  refine sx_iload C 4 dd_L_law_373 rfl ?_
  refine sx_iconst C dd_L_law_375 rfl ?_
  refine sx_iadd C dd_L_law_376 ?_
  refine sx_sld C hX hbl (Nat.not_le.mpr hbl) (by omega) dd_L_law_377 h (fun h => ?_)
  refine sx_aload_n C 3 dd_L_law_378 rfl rfl ?_
  refine sx_stcL C hZ [.ref (ad 0), .int (sx_i ((sx_sc xs) (x4 + 1))), .ref (ad 30)] (fun sz2 => sm_L_samples hlf h sz2) (sx_cwL (n := 3) C.2.2.2.2.1 wd_346 wd_344 wd_345 wd_0 rfl rfl (by decide +kernel) ⟨by decide, by decide⟩) rfl rfl (Nat.le_of_ble_eq_true rfl) dd_L_law_379 ⟨by show _ ≤ 1063; omega, by show _ ≤ 9541; omega⟩ (fun v1 μ1 h => ?_)
  refine sx_istore (lu := [(5, .int (sx_i v1)), (0, .ref b), (1, .ref (ad 0)), (2, .ref (ad 19)), (3, .ref (ad 30)), (4, .int (sx_i x4))]) C dd_L_law_382 (by decide) rfl ?_
  refine sx_aload_n C 3 dd_L_law_384 rfl rfl ?_
  refine sx_aload_n C 1 dd_L_law_385 rfl rfl ?_
  refine sx_iload C 5 dd_L_law_386 rfl ?_
  refine sx_iconst C dd_L_law_388 rfl ?_
  refine sx_iadd C dd_L_law_389 ?_
  refine sx_sld C hX hbl (Nat.not_le.mpr hbl) (by omega) dd_L_law_390 h (fun h => ?_)
  refine sx_invI (c0 := 19) C hZ [.int (sx_i ((sx_sc xs) (x4 + 1)))] (fun sz2 => sm_M_samples hlf h sz2) (sx_cwV (n := 1) C.2.2.2.2.1 wd_690 wd_687 wd_688 wd_689 wd_8 rfl rfl (by decide +kernel) ⟨by decide, by decide⟩) rfl (rfl : sr_cl[5]? = some ("StoneRingsModel", tt_M, 21)) rfl rfl (Nat.le_of_ble_eq_true rfl) dd_L_law_391 ⟨by show _ ≤ 1063; omega, by show _ ≤ 9541; omega⟩ sx_noX (fun v2 μ2 h => ?_)
  refine sx_istore (lu := [(6, .int (sx_i v2)), (5, .int (sx_i v1)), (0, .ref b), (1, .ref (ad 0)), (2, .ref (ad 19)), (3, .ref (ad 30)), (4, .int (sx_i x4))]) C dd_L_law_394 (by decide) rfl ?_
  refine sx_aload_n C 4 dd_L_law_396 rfl rfl ?_
  refine sx_invI (c0 := 19) C hZ [] (fun sz2 => sm_M_thrown hlf h sz2) (sx_cwV (n := 0) C.2.2.2.2.1 wd_659 wd_656 wd_657 wd_658 wd_8 rfl rfl (by decide +kernel) ⟨by decide, by decide⟩) rfl (rfl : sr_cl[5]? = some ("StoneRingsModel", tt_M, 21)) rfl rfl (Nat.le_of_ble_eq_true rfl) dd_L_law_397 ⟨by show _ ≤ 1063; omega, by show _ ≤ 9541; omega⟩ sx_noX (fun v3 μ3 h => ?_)
  refine sx_iload C 1 dd_L_law_400 rfl ?_
  refine sx_icmp_eq (tgt := 407) C dd_L_law_402 (by decide) h (fun h => ?_) (fun h => ?_)
  · refine sx_iload C 1 dd_L_law_407 rfl ?_
    refine sx_if_ne (tgt := 424) C dd_L_law_409 (by decide) h (fun h => ?_) (fun h => ?_)
    · refine sx_less (lu := [(0, .ref b), (1, .ref (ad 0)), (2, .ref (ad 19)), (3, .ref (ad 30)), (4, .int (sx_i x4))]) C [2, 3, 4, 5, 6] rfl ?_
      exact sm_L_law_424 C hZ hr hlk hlf hX hbl hLL hr43 hc hs h
    · refine sx_aload_n C 5 dd_L_law_412 rfl rfl ?_
      refine sx_iconst C dd_L_law_413 rfl ?_
      refine sx_lald (N := 1) C 30 rfl rfl (by decide) dd_L_law_414 h (fun h => ?_)
      refine sx_iload C 0 dd_L_law_415 rfl ?_
      refine sx_toL C dd_L_law_417 h (fun h => ?_)
      refine sx_cmpL C dd_L_law_418 h (fun h => ?_)
      refine sx_if_eq (tgt := 424) C dd_L_law_419 (by decide) h (fun h => ?_) (fun h => ?_)
      · refine sx_less (lu := [(0, .ref b), (1, .ref (ad 0)), (2, .ref (ad 19)), (3, .ref (ad 30)), (4, .int (sx_i x4))]) C [2, 3, 4, 5, 6] rfl ?_
        exact sm_L_law_424 C hZ hr hlk hlf hX hbl hLL hr43 hc hs h
      · refine sx_iconst C dd_L_law_422 rfl ?_
        exact sx_lret C hr hlk (fun _ h => h) (by omega) (by omega) dd_L_law_423 h
  · refine sx_iconst C dd_L_law_405 rfl ?_
    exact sx_lret C hr hlk (fun _ h => h) (by omega) (by omega) dd_L_law_406 h
set_option maxHeartbeats 4000000 in
set_option maxRecDepth 100000 in
theorem sm_L_law_368 (C : sx_C sr_lay sr_cl D cI cJ ad (fun q : Nat => s.heap.size ≤ q) 7 "StoneRingsLaw" code sr_ts p s m #[Value.ref b] c) (hZ : sx_Z (fun q : Nat => s.heap.size ≤ q) s s.heap) (hr : meth.sig.returnType = ret) (hlk : meth.locks = false) (hlf : l.stackTraces = false) (hX : va_X b L xs s s.heap) (hbl : b < s.heap.size) (hLL : L ≤ 2050) {n : Nat} {r43 : Int → sx_M → Prop} (hr43 : ∀ (x4 : Int) (μ : sx_M) (cells slots : Nat), cells + n ≤ 1063 → slots + 6 * n ≤ 9541 → r43 x4 μ → sx_V sr_lay sr_cl D cI cJ ad (fun q : Nat => s.heap.size ≤ q) 7 p l e room_1 s m #[Value.ref b] below meth c (lw_Z below #[Value.ref b] s) cells slots μ 43 [(0, .ref b), (1, .ref (ad 0)), (2, .ref (ad 19)), (3, .ref (ad 30)), (4, .int (sx_i x4))] []) {cells slots : Nat} (hc : cells + (n + 1) ≤ 1063) (hs : slots + 6 * (n + 1) ≤ 9541) {x4 : Int} {μ : sx_M} (h : sw_L_law_368 (sx_sc xs) (L : Int) r43 x4 μ) : sx_V sr_lay sr_cl D cI cJ ad (fun q : Nat => s.heap.size ≤ q) 7 p l e room_1 s m #[Value.ref b] below meth c (lw_Z below #[Value.ref b] s) (cells + 1) (slots + 6) μ 368 [(0, .ref b), (1, .ref (ad 0)), (2, .ref (ad 19)), (3, .ref (ad 30)), (4, .int (sx_i x4))] [] := by
  unfold sw_L_law_368 at h
  refine sx_goto (tgt := 1646) C dd_L_law_368 (by decide) ?_
  exact sm_L_law_1646 C hZ hr hlk hlf hX hbl hLL hr43 hc hs h
set_option maxHeartbeats 4000000 in
set_option maxRecDepth 100000 in
theorem sm_L_law_303 (C : sx_C sr_lay sr_cl D cI cJ ad (fun q : Nat => s.heap.size ≤ q) 7 "StoneRingsLaw" code sr_ts p s m #[Value.ref b] c) (hZ : sx_Z (fun q : Nat => s.heap.size ≤ q) s s.heap) (hr : meth.sig.returnType = ret) (hlk : meth.locks = false) (hlf : l.stackTraces = false) (hX : va_X b L xs s s.heap) (hbl : b < s.heap.size) (hLL : L ≤ 2050) {n : Nat} {r43 : Int → sx_M → Prop} (hr43 : ∀ (x4 : Int) (μ : sx_M) (cells slots : Nat), cells + n ≤ 1063 → slots + 6 * n ≤ 9541 → r43 x4 μ → sx_V sr_lay sr_cl D cI cJ ad (fun q : Nat => s.heap.size ≤ q) 7 p l e room_1 s m #[Value.ref b] below meth c (lw_Z below #[Value.ref b] s) cells slots μ 43 [(0, .ref b), (1, .ref (ad 0)), (2, .ref (ad 19)), (3, .ref (ad 30)), (4, .int (sx_i x4))] []) {cells slots : Nat} (hc : cells + (n + 1) ≤ 1063) (hs : slots + 6 * (n + 1) ≤ 9541) {x4 : Int} {μ : sx_M} (h : sw_L_law_303 (sx_sc xs) (L : Int) r43 x4 μ) : sx_V sr_lay sr_cl D cI cJ ad (fun q : Nat => s.heap.size ≤ q) 7 p l e room_1 s m #[Value.ref b] below meth c (lw_Z below #[Value.ref b] s) cells slots μ 303 [(0, .ref b), (1, .ref (ad 0)), (2, .ref (ad 19)), (3, .ref (ad 30)), (4, .int (sx_i x4))] [] := by
  unfold sw_L_law_303 at h
  refine sx_aload_n C 1 dd_L_law_303 rfl rfl ?_
  refine sx_aload_n C 0 dd_L_law_304 rfl rfl ?_
  refine sx_iload C 4 dd_L_law_305 rfl ?_
  refine sx_iconst C dd_L_law_307 rfl ?_
  refine sx_iadd C dd_L_law_308 ?_
  refine sx_sld C hX hbl (Nat.not_le.mpr hbl) (by omega) dd_L_law_309 h (fun h => ?_)
  refine sx_aload_n C 0 dd_L_law_310 rfl rfl ?_
  refine sx_iload C 4 dd_L_law_311 rfl ?_
  refine sx_iconst C dd_L_law_313 rfl ?_
  refine sx_iadd C dd_L_law_314 ?_
  refine sx_sld C hX hbl (Nat.not_le.mpr hbl) (by omega) dd_L_law_315 h (fun h => ?_)
  refine sx_aload_n C 3 dd_L_law_316 rfl rfl ?_
  refine sx_stcL C hZ [.ref (ad 0), .int (sx_i ((sx_sc xs) (x4 + 1))), .int (sx_i ((sx_sc xs) (x4 + 2))), .ref (ad 30)] (fun sz2 => sm_L_ray hlf h sz2) (sx_cwL (n := 4) C.2.2.2.2.1 wd_321 wd_319 wd_320 wd_0 rfl rfl (by decide +kernel) ⟨by decide, by decide⟩) rfl rfl (Nat.le_of_ble_eq_true rfl) dd_L_law_317 ⟨by show _ ≤ 1063; omega, by show _ ≤ 9541; omega⟩ (fun v1 μ1 h => ?_)
  refine sx_istore (lu := [(5, .int (sx_i v1)), (0, .ref b), (1, .ref (ad 0)), (2, .ref (ad 19)), (3, .ref (ad 30)), (4, .int (sx_i x4))]) C dd_L_law_320 (by decide) rfl ?_
  refine sx_aload_n C 3 dd_L_law_322 rfl rfl ?_
  refine sx_aload_n C 1 dd_L_law_323 rfl rfl ?_
  refine sx_iload C 5 dd_L_law_324 rfl ?_
  refine sx_iconst C dd_L_law_326 rfl ?_
  refine sx_iadd C dd_L_law_327 ?_
  refine sx_sld C hX hbl (Nat.not_le.mpr hbl) (by omega) dd_L_law_328 h (fun h => ?_)
  refine sx_aload_n C 1 dd_L_law_329 rfl rfl ?_
  refine sx_iload C 5 dd_L_law_330 rfl ?_
  refine sx_iconst C dd_L_law_332 rfl ?_
  refine sx_iadd C dd_L_law_333 ?_
  refine sx_sld C hX hbl (Nat.not_le.mpr hbl) (by omega) dd_L_law_334 h (fun h => ?_)
  refine sx_invI (c0 := 19) C hZ [.int (sx_i ((sx_sc xs) (x4 + 1))), .int (sx_i ((sx_sc xs) (x4 + 2)))] (fun sz2 => sm_M_ray hlf h sz2) (sx_cwV (n := 2) C.2.2.2.2.1 wd_686 wd_683 wd_684 wd_685 wd_8 rfl rfl (by decide +kernel) ⟨by decide, by decide⟩) rfl (rfl : sr_cl[5]? = some ("StoneRingsModel", tt_M, 21)) rfl rfl (Nat.le_of_ble_eq_true rfl) dd_L_law_335 ⟨by show _ ≤ 1063; omega, by show _ ≤ 9541; omega⟩ sx_noX (fun v2 μ2 h => ?_)
  refine sx_istore (lu := [(6, .int (sx_i v2)), (5, .int (sx_i v1)), (0, .ref b), (1, .ref (ad 0)), (2, .ref (ad 19)), (3, .ref (ad 30)), (4, .int (sx_i x4))]) C dd_L_law_338 (by decide) rfl ?_
  refine sx_aload_n C 4 dd_L_law_340 rfl rfl ?_
  refine sx_invI (c0 := 19) C hZ [] (fun sz2 => sm_M_thrown hlf h sz2) (sx_cwV (n := 0) C.2.2.2.2.1 wd_659 wd_656 wd_657 wd_658 wd_8 rfl rfl (by decide +kernel) ⟨by decide, by decide⟩) rfl (rfl : sr_cl[5]? = some ("StoneRingsModel", tt_M, 21)) rfl rfl (Nat.le_of_ble_eq_true rfl) dd_L_law_341 ⟨by show _ ≤ 1063; omega, by show _ ≤ 9541; omega⟩ sx_noX (fun v3 μ3 h => ?_)
  refine sx_iload C 1 dd_L_law_344 rfl ?_
  refine sx_icmp_eq (tgt := 351) C dd_L_law_346 (by decide) h (fun h => ?_) (fun h => ?_)
  · refine sx_iload C 1 dd_L_law_351 rfl ?_
    refine sx_if_ne (tgt := 368) C dd_L_law_353 (by decide) h (fun h => ?_) (fun h => ?_)
    · refine sx_less (lu := [(0, .ref b), (1, .ref (ad 0)), (2, .ref (ad 19)), (3, .ref (ad 30)), (4, .int (sx_i x4))]) C [2, 3, 4, 5, 6] rfl ?_
      exact sm_L_law_368 C hZ hr hlk hlf hX hbl hLL hr43 hc hs h
    · refine sx_aload_n C 5 dd_L_law_356 rfl rfl ?_
      refine sx_iconst C dd_L_law_357 rfl ?_
      refine sx_lald (N := 1) C 30 rfl rfl (by decide) dd_L_law_358 h (fun h => ?_)
      refine sx_iload C 0 dd_L_law_359 rfl ?_
      refine sx_toL C dd_L_law_361 h (fun h => ?_)
      refine sx_cmpL C dd_L_law_362 h (fun h => ?_)
      refine sx_if_eq (tgt := 368) C dd_L_law_363 (by decide) h (fun h => ?_) (fun h => ?_)
      · refine sx_less (lu := [(0, .ref b), (1, .ref (ad 0)), (2, .ref (ad 19)), (3, .ref (ad 30)), (4, .int (sx_i x4))]) C [2, 3, 4, 5, 6] rfl ?_
        exact sm_L_law_368 C hZ hr hlk hlf hX hbl hLL hr43 hc hs h
      · refine sx_iconst C dd_L_law_366 rfl ?_
        exact sx_lret C hr hlk (fun _ h => h) (by omega) (by omega) dd_L_law_367 h
  · refine sx_iconst C dd_L_law_349 rfl ?_
    exact sx_lret C hr hlk (fun _ h => h) (by omega) (by omega) dd_L_law_350 h
set_option maxHeartbeats 4000000 in
set_option maxRecDepth 100000 in
theorem sm_L_law_300 (C : sx_C sr_lay sr_cl D cI cJ ad (fun q : Nat => s.heap.size ≤ q) 7 "StoneRingsLaw" code sr_ts p s m #[Value.ref b] c) (hZ : sx_Z (fun q : Nat => s.heap.size ≤ q) s s.heap) (hr : meth.sig.returnType = ret) (hlk : meth.locks = false) (hlf : l.stackTraces = false) (hX : va_X b L xs s s.heap) (hbl : b < s.heap.size) (hLL : L ≤ 2050) {n : Nat} {r43 : Int → sx_M → Prop} (hr43 : ∀ (x4 : Int) (μ : sx_M) (cells slots : Nat), cells + n ≤ 1063 → slots + 6 * n ≤ 9541 → r43 x4 μ → sx_V sr_lay sr_cl D cI cJ ad (fun q : Nat => s.heap.size ≤ q) 7 p l e room_1 s m #[Value.ref b] below meth c (lw_Z below #[Value.ref b] s) cells slots μ 43 [(0, .ref b), (1, .ref (ad 0)), (2, .ref (ad 19)), (3, .ref (ad 30)), (4, .int (sx_i x4))] []) {cells slots : Nat} (hc : cells + (n + 1) ≤ 1063) (hs : slots + 6 * (n + 1) ≤ 9541) {x4 : Int} {μ : sx_M} (h : sw_L_law_300 (sx_sc xs) (L : Int) r43 x4 μ) : sx_V sr_lay sr_cl D cI cJ ad (fun q : Nat => s.heap.size ≤ q) 7 p l e room_1 s m #[Value.ref b] below meth c (lw_Z below #[Value.ref b] s) (cells + 1) (slots + 6) μ 300 [(0, .ref b), (1, .ref (ad 0)), (2, .ref (ad 19)), (3, .ref (ad 30)), (4, .int (sx_i x4))] [] := by
  unfold sw_L_law_300 at h
  refine sx_goto (tgt := 1646) C dd_L_law_300 (by decide) ?_
  exact sm_L_law_1646 C hZ hr hlk hlf hX hbl hLL hr43 hc hs h
set_option maxHeartbeats 4000000 in
set_option maxRecDepth 100000 in
theorem sm_L_law_247 (C : sx_C sr_lay sr_cl D cI cJ ad (fun q : Nat => s.heap.size ≤ q) 7 "StoneRingsLaw" code sr_ts p s m #[Value.ref b] c) (hZ : sx_Z (fun q : Nat => s.heap.size ≤ q) s s.heap) (hr : meth.sig.returnType = ret) (hlk : meth.locks = false) (hlf : l.stackTraces = false) (hX : va_X b L xs s s.heap) (hbl : b < s.heap.size) (hLL : L ≤ 2050) {n : Nat} {r43 : Int → sx_M → Prop} (hr43 : ∀ (x4 : Int) (μ : sx_M) (cells slots : Nat), cells + n ≤ 1063 → slots + 6 * n ≤ 9541 → r43 x4 μ → sx_V sr_lay sr_cl D cI cJ ad (fun q : Nat => s.heap.size ≤ q) 7 p l e room_1 s m #[Value.ref b] below meth c (lw_Z below #[Value.ref b] s) cells slots μ 43 [(0, .ref b), (1, .ref (ad 0)), (2, .ref (ad 19)), (3, .ref (ad 30)), (4, .int (sx_i x4))] []) {cells slots : Nat} (hc : cells + (n + 1) ≤ 1063) (hs : slots + 6 * (n + 1) ≤ 9541) {x4 : Int} {μ : sx_M} (h : sw_L_law_247 (sx_sc xs) (L : Int) r43 x4 μ) : sx_V sr_lay sr_cl D cI cJ ad (fun q : Nat => s.heap.size ≤ q) 7 p l e room_1 s m #[Value.ref b] below meth c (lw_Z below #[Value.ref b] s) cells slots μ 247 [(0, .ref b), (1, .ref (ad 0)), (2, .ref (ad 19)), (3, .ref (ad 30)), (4, .int (sx_i x4))] [] := by
  unfold sw_L_law_247 at h
  refine sx_aload_n C 1 dd_L_law_247 rfl rfl ?_
  refine sx_aload_n C 0 dd_L_law_248 rfl rfl ?_
  refine sx_iload C 4 dd_L_law_249 rfl ?_
  refine sx_iconst C dd_L_law_251 rfl ?_
  refine sx_iadd C dd_L_law_252 ?_
  refine sx_sld C hX hbl (Nat.not_le.mpr hbl) (by omega) dd_L_law_253 h (fun h => ?_)
  refine sx_aload_n C 3 dd_L_law_254 rfl rfl ?_
  refine sx_stcL C hZ [.ref (ad 0), .int (sx_i ((sx_sc xs) (x4 + 1))), .ref (ad 30)] (fun sz2 => sm_L_middle hlf h sz2) (sx_cwL (n := 3) C.2.2.2.2.1 wd_296 wd_294 wd_295 wd_0 rfl rfl (by decide +kernel) ⟨by decide, by decide⟩) rfl rfl (Nat.le_of_ble_eq_true rfl) dd_L_law_255 ⟨by show _ ≤ 1063; omega, by show _ ≤ 9541; omega⟩ (fun v1 μ1 h => ?_)
  refine sx_istore (lu := [(5, .int (sx_i v1)), (0, .ref b), (1, .ref (ad 0)), (2, .ref (ad 19)), (3, .ref (ad 30)), (4, .int (sx_i x4))]) C dd_L_law_258 (by decide) rfl ?_
  refine sx_aload_n C 3 dd_L_law_260 rfl rfl ?_
  refine sx_aload_n C 1 dd_L_law_261 rfl rfl ?_
  refine sx_iload C 5 dd_L_law_262 rfl ?_
  refine sx_iconst C dd_L_law_264 rfl ?_
  refine sx_iadd C dd_L_law_265 ?_
  refine sx_sld C hX hbl (Nat.not_le.mpr hbl) (by omega) dd_L_law_266 h (fun h => ?_)
  refine sx_invI (c0 := 19) C hZ [.int (sx_i ((sx_sc xs) (x4 + 1)))] (fun sz2 => sm_M_middle hlf h sz2) (sx_cwV (n := 1) C.2.2.2.2.1 wd_674 wd_671 wd_672 wd_673 wd_8 rfl rfl (by decide +kernel) ⟨by decide, by decide⟩) rfl (rfl : sr_cl[5]? = some ("StoneRingsModel", tt_M, 21)) rfl rfl (Nat.le_of_ble_eq_true rfl) dd_L_law_267 ⟨by show _ ≤ 1063; omega, by show _ ≤ 9541; omega⟩ sx_noX (fun v2 μ2 h => ?_)
  refine sx_istore (lu := [(6, .int (sx_i v2)), (5, .int (sx_i v1)), (0, .ref b), (1, .ref (ad 0)), (2, .ref (ad 19)), (3, .ref (ad 30)), (4, .int (sx_i x4))]) C dd_L_law_270 (by decide) rfl ?_
  refine sx_aload_n C 4 dd_L_law_272 rfl rfl ?_
  refine sx_invI (c0 := 19) C hZ [] (fun sz2 => sm_M_thrown hlf h sz2) (sx_cwV (n := 0) C.2.2.2.2.1 wd_659 wd_656 wd_657 wd_658 wd_8 rfl rfl (by decide +kernel) ⟨by decide, by decide⟩) rfl (rfl : sr_cl[5]? = some ("StoneRingsModel", tt_M, 21)) rfl rfl (Nat.le_of_ble_eq_true rfl) dd_L_law_273 ⟨by show _ ≤ 1063; omega, by show _ ≤ 9541; omega⟩ sx_noX (fun v3 μ3 h => ?_)
  refine sx_iload C 1 dd_L_law_276 rfl ?_
  refine sx_icmp_eq (tgt := 283) C dd_L_law_278 (by decide) h (fun h => ?_) (fun h => ?_)
  · refine sx_iload C 1 dd_L_law_283 rfl ?_
    refine sx_if_ne (tgt := 300) C dd_L_law_285 (by decide) h (fun h => ?_) (fun h => ?_)
    · refine sx_less (lu := [(0, .ref b), (1, .ref (ad 0)), (2, .ref (ad 19)), (3, .ref (ad 30)), (4, .int (sx_i x4))]) C [2, 3, 4, 5, 6] rfl ?_
      exact sm_L_law_300 C hZ hr hlk hlf hX hbl hLL hr43 hc hs h
    · refine sx_aload_n C 5 dd_L_law_288 rfl rfl ?_
      refine sx_iconst C dd_L_law_289 rfl ?_
      refine sx_lald (N := 1) C 30 rfl rfl (by decide) dd_L_law_290 h (fun h => ?_)
      refine sx_iload C 0 dd_L_law_291 rfl ?_
      refine sx_toL C dd_L_law_293 h (fun h => ?_)
      refine sx_cmpL C dd_L_law_294 h (fun h => ?_)
      refine sx_if_eq (tgt := 300) C dd_L_law_295 (by decide) h (fun h => ?_) (fun h => ?_)
      · refine sx_less (lu := [(0, .ref b), (1, .ref (ad 0)), (2, .ref (ad 19)), (3, .ref (ad 30)), (4, .int (sx_i x4))]) C [2, 3, 4, 5, 6] rfl ?_
        exact sm_L_law_300 C hZ hr hlk hlf hX hbl hLL hr43 hc hs h
      · refine sx_iconst C dd_L_law_298 rfl ?_
        exact sx_lret C hr hlk (fun _ h => h) (by omega) (by omega) dd_L_law_299 h
  · refine sx_iconst C dd_L_law_281 rfl ?_
    exact sx_lret C hr hlk (fun _ h => h) (by omega) (by omega) dd_L_law_282 h
set_option maxHeartbeats 4000000 in
set_option maxRecDepth 100000 in
theorem sm_L_law_244 (C : sx_C sr_lay sr_cl D cI cJ ad (fun q : Nat => s.heap.size ≤ q) 7 "StoneRingsLaw" code sr_ts p s m #[Value.ref b] c) (hZ : sx_Z (fun q : Nat => s.heap.size ≤ q) s s.heap) (hr : meth.sig.returnType = ret) (hlk : meth.locks = false) (hlf : l.stackTraces = false) (hX : va_X b L xs s s.heap) (hbl : b < s.heap.size) (hLL : L ≤ 2050) {n : Nat} {r43 : Int → sx_M → Prop} (hr43 : ∀ (x4 : Int) (μ : sx_M) (cells slots : Nat), cells + n ≤ 1063 → slots + 6 * n ≤ 9541 → r43 x4 μ → sx_V sr_lay sr_cl D cI cJ ad (fun q : Nat => s.heap.size ≤ q) 7 p l e room_1 s m #[Value.ref b] below meth c (lw_Z below #[Value.ref b] s) cells slots μ 43 [(0, .ref b), (1, .ref (ad 0)), (2, .ref (ad 19)), (3, .ref (ad 30)), (4, .int (sx_i x4))] []) {cells slots : Nat} (hc : cells + (n + 1) ≤ 1063) (hs : slots + 6 * (n + 1) ≤ 9541) {x4 : Int} {μ : sx_M} (h : sw_L_law_244 (sx_sc xs) (L : Int) r43 x4 μ) : sx_V sr_lay sr_cl D cI cJ ad (fun q : Nat => s.heap.size ≤ q) 7 p l e room_1 s m #[Value.ref b] below meth c (lw_Z below #[Value.ref b] s) (cells + 1) (slots + 6) μ 244 [(0, .ref b), (1, .ref (ad 0)), (2, .ref (ad 19)), (3, .ref (ad 30)), (4, .int (sx_i x4))] [] := by
  unfold sw_L_law_244 at h
  refine sx_goto (tgt := 1646) C dd_L_law_244 (by decide) ?_
  exact sm_L_law_1646 C hZ hr hlk hlf hX hbl hLL hr43 hc hs h
set_option maxHeartbeats 4000000 in
set_option maxRecDepth 100000 in
theorem sm_L_law_238 (C : sx_C sr_lay sr_cl D cI cJ ad (fun q : Nat => s.heap.size ≤ q) 7 "StoneRingsLaw" code sr_ts p s m #[Value.ref b] c) (hZ : sx_Z (fun q : Nat => s.heap.size ≤ q) s s.heap) (hr : meth.sig.returnType = ret) (hlk : meth.locks = false) (hlf : l.stackTraces = false) (hX : va_X b L xs s s.heap) (hbl : b < s.heap.size) (hLL : L ≤ 2050) {n : Nat} {r43 : Int → sx_M → Prop} (hr43 : ∀ (x4 : Int) (μ : sx_M) (cells slots : Nat), cells + n ≤ 1063 → slots + 6 * n ≤ 9541 → r43 x4 μ → sx_V sr_lay sr_cl D cI cJ ad (fun q : Nat => s.heap.size ≤ q) 7 p l e room_1 s m #[Value.ref b] below meth c (lw_Z below #[Value.ref b] s) cells slots μ 43 [(0, .ref b), (1, .ref (ad 0)), (2, .ref (ad 19)), (3, .ref (ad 30)), (4, .int (sx_i x4))] []) {cells slots : Nat} (hc : cells + (n + 1) ≤ 1063) (hs : slots + 6 * (n + 1) ≤ 9541) {x4 y0 y1 : Int} {μ : sx_M} (h : sw_L_law_238 (sx_sc xs) (L : Int) r43 x4 y0 y1 μ) : sx_V sr_lay sr_cl D cI cJ ad (fun q : Nat => s.heap.size ≤ q) 7 p l e room_1 s m #[Value.ref b] below meth c (lw_Z below #[Value.ref b] s) (cells + 1) (slots + 6) μ 238 [(0, .ref b), (1, .ref (ad 0)), (2, .ref (ad 19)), (3, .ref (ad 30)), (4, .int (sx_i x4))] [.long (sx_j y1), .long (sx_j y0)] := by
  unfold sw_L_law_238 at h
  refine sx_cmpL C dd_L_law_238 h (fun h => ?_)
  refine sx_if_eq (tgt := 244) C dd_L_law_239 (by decide) h (fun h => ?_) (fun h => ?_)
  · exact sm_L_law_244 C hZ hr hlk hlf hX hbl hLL hr43 hc hs h
  · refine sx_iconst C dd_L_law_242 rfl ?_
    exact sx_lret C hr hlk (fun _ h => h) (by omega) (by omega) dd_L_law_243 h
set_option maxHeartbeats 4000000 in
set_option maxRecDepth 100000 in
theorem sm_L_law_160 (C : sx_C sr_lay sr_cl D cI cJ ad (fun q : Nat => s.heap.size ≤ q) 7 "StoneRingsLaw" code sr_ts p s m #[Value.ref b] c) (hZ : sx_Z (fun q : Nat => s.heap.size ≤ q) s s.heap) (hr : meth.sig.returnType = ret) (hlk : meth.locks = false) (hlf : l.stackTraces = false) (hX : va_X b L xs s s.heap) (hbl : b < s.heap.size) (hLL : L ≤ 2050) {n : Nat} {r43 : Int → sx_M → Prop} (hr43 : ∀ (x4 : Int) (μ : sx_M) (cells slots : Nat), cells + n ≤ 1063 → slots + 6 * n ≤ 9541 → r43 x4 μ → sx_V sr_lay sr_cl D cI cJ ad (fun q : Nat => s.heap.size ≤ q) 7 p l e room_1 s m #[Value.ref b] below meth c (lw_Z below #[Value.ref b] s) cells slots μ 43 [(0, .ref b), (1, .ref (ad 0)), (2, .ref (ad 19)), (3, .ref (ad 30)), (4, .int (sx_i x4))] []) {cells slots : Nat} (hc : cells + (n + 1) ≤ 1063) (hs : slots + 6 * (n + 1) ≤ 9541) {x4 : Int} {μ : sx_M} (h : sw_L_law_160 (sx_sc xs) (L : Int) r43 x4 μ) : sx_V sr_lay sr_cl D cI cJ ad (fun q : Nat => s.heap.size ≤ q) 7 p l e room_1 s m #[Value.ref b] below meth c (lw_Z below #[Value.ref b] s) cells slots μ 160 [(0, .ref b), (1, .ref (ad 0)), (2, .ref (ad 19)), (3, .ref (ad 30)), (4, .int (sx_i x4))] [] := by
  unfold sw_L_law_160 at h
  refine sx_aload_n C 1 dd_L_law_160 rfl rfl ?_
  refine sx_aload_n C 0 dd_L_law_161 rfl rfl ?_
  refine sx_iload C 4 dd_L_law_162 rfl ?_
  refine sx_iconst C dd_L_law_164 rfl ?_
  refine sx_iadd C dd_L_law_165 ?_
  refine sx_sld C hX hbl (Nat.not_le.mpr hbl) (by omega) dd_L_law_166 h (fun h => ?_)
  refine sx_aload_n C 0 dd_L_law_167 rfl rfl ?_
  refine sx_iload C 4 dd_L_law_168 rfl ?_
  refine sx_iconst C dd_L_law_170 rfl ?_
  refine sx_iadd C dd_L_law_171 ?_
  refine sx_sld C hX hbl (Nat.not_le.mpr hbl) (by omega) dd_L_law_172 h (fun h => ?_)
  refine sx_aload_n C 0 dd_L_law_173 rfl rfl ?_
  refine sx_iload C 4 dd_L_law_174 rfl ?_
  refine sx_iconst C dd_L_law_176 rfl ?_
  refine sx_iadd C dd_L_law_177 ?_
  refine sx_sld C hX hbl (Nat.not_le.mpr hbl) (by omega) dd_L_law_178 h (fun h => ?_)
  refine sx_aload_n C 3 dd_L_law_179 rfl rfl ?_
  refine sx_stcL C hZ [.ref (ad 0), .int (sx_i ((sx_sc xs) (x4 + 1))), .int (sx_i ((sx_sc xs) (x4 + 2))), .int (sx_i ((sx_sc xs) (x4 + 3))), .ref (ad 30)] (fun sz2 => sm_L_pixel hlf h sz2) (sx_cwL (n := 5) C.2.2.2.2.1 wd_187 wd_185 wd_186 wd_0 rfl rfl (by decide +kernel) ⟨by decide, by decide⟩) rfl rfl (Nat.le_of_ble_eq_true rfl) dd_L_law_180 ⟨by show _ ≤ 1063; omega, by show _ ≤ 9541; omega⟩ (fun v1 μ1 h => ?_)
  refine sx_istore (lu := [(5, .int (sx_i v1)), (0, .ref b), (1, .ref (ad 0)), (2, .ref (ad 19)), (3, .ref (ad 30)), (4, .int (sx_i x4))]) C dd_L_law_183 (by decide) rfl ?_
  refine sx_aload_n C 3 dd_L_law_185 rfl rfl ?_
  refine sx_aload_n C 1 dd_L_law_186 rfl rfl ?_
  refine sx_iload C 5 dd_L_law_187 rfl ?_
  refine sx_iconst C dd_L_law_189 rfl ?_
  refine sx_iadd C dd_L_law_190 ?_
  refine sx_sld C hX hbl (Nat.not_le.mpr hbl) (by omega) dd_L_law_191 h (fun h => ?_)
  refine sx_aload_n C 1 dd_L_law_192 rfl rfl ?_
  refine sx_iload C 5 dd_L_law_193 rfl ?_
  refine sx_iconst C dd_L_law_195 rfl ?_
  refine sx_iadd C dd_L_law_196 ?_
  refine sx_sld C hX hbl (Nat.not_le.mpr hbl) (by omega) dd_L_law_197 h (fun h => ?_)
  refine sx_aload_n C 1 dd_L_law_198 rfl rfl ?_
  refine sx_iload C 5 dd_L_law_199 rfl ?_
  refine sx_iconst C dd_L_law_201 rfl ?_
  refine sx_iadd C dd_L_law_202 ?_
  refine sx_sld C hX hbl (Nat.not_le.mpr hbl) (by omega) dd_L_law_203 h (fun h => ?_)
  refine sx_invI (c0 := 19) C hZ [.int (sx_i ((sx_sc xs) (x4 + 1))), .int (sx_i ((sx_sc xs) (x4 + 2))), .int (sx_i ((sx_sc xs) (x4 + 3)))] (fun sz2 => sm_M_pixel hlf h sz2) (sx_cwV (n := 3) C.2.2.2.2.1 wd_663 wd_660 wd_661 wd_662 wd_8 rfl rfl (by decide +kernel) ⟨by decide, by decide⟩) rfl (rfl : sr_cl[5]? = some ("StoneRingsModel", tt_M, 21)) rfl rfl (Nat.le_of_ble_eq_true rfl) dd_L_law_204 ⟨by show _ ≤ 1063; omega, by show _ ≤ 9541; omega⟩ sx_noX (fun v2 μ2 h => ?_)
  refine sx_istore (lu := [(6, .int (sx_i v2)), (5, .int (sx_i v1)), (0, .ref b), (1, .ref (ad 0)), (2, .ref (ad 19)), (3, .ref (ad 30)), (4, .int (sx_i x4))]) C dd_L_law_207 (by decide) rfl ?_
  refine sx_aload_n C 4 dd_L_law_209 rfl rfl ?_
  refine sx_invI (c0 := 19) C hZ [] (fun sz2 => sm_M_thrown hlf h sz2) (sx_cwV (n := 0) C.2.2.2.2.1 wd_659 wd_656 wd_657 wd_658 wd_8 rfl rfl (by decide +kernel) ⟨by decide, by decide⟩) rfl (rfl : sr_cl[5]? = some ("StoneRingsModel", tt_M, 21)) rfl rfl (Nat.le_of_ble_eq_true rfl) dd_L_law_210 ⟨by show _ ≤ 1063; omega, by show _ ≤ 9541; omega⟩ sx_noX (fun v3 μ3 h => ?_)
  refine sx_iload C 1 dd_L_law_213 rfl ?_
  refine sx_icmp_eq (tgt := 220) C dd_L_law_215 (by decide) h (fun h => ?_) (fun h => ?_)
  · refine sx_iload C 1 dd_L_law_220 rfl ?_
    refine sx_if_ne (tgt := 244) C dd_L_law_222 (by decide) h (fun h => ?_) (fun h => ?_)
    · refine sx_less (lu := [(0, .ref b), (1, .ref (ad 0)), (2, .ref (ad 19)), (3, .ref (ad 30)), (4, .int (sx_i x4))]) C [2, 3, 4, 5, 6] rfl ?_
      exact sm_L_law_244 C hZ hr hlk hlf hX hbl hLL hr43 hc hs h
    · refine sx_aload_n C 5 dd_L_law_225 rfl rfl ?_
      refine sx_iconst C dd_L_law_226 rfl ?_
      refine sx_lald (N := 1) C 30 rfl rfl (by decide) dd_L_law_227 h (fun h => ?_)
      refine sx_iload C 0 dd_L_law_228 rfl ?_
      refine sx_if_eq (tgt := 237) C dd_L_law_230 (by decide) h (fun h => ?_) (fun h => ?_)
      · refine sx_lconst (v := 0) C dd_L_law_237 (by decide +kernel) ?_
        refine sx_less (lu := [(0, .ref b), (1, .ref (ad 0)), (2, .ref (ad 19)), (3, .ref (ad 30)), (4, .int (sx_i x4))]) C [2, 3, 4, 5, 6] rfl ?_
        exact sm_L_law_238 C hZ hr hlk hlf hX hbl hLL hr43 hc hs h
      · refine sx_lconst (v := 1) C dd_L_law_233 (by decide +kernel) ?_
        refine sx_goto (tgt := 238) C dd_L_law_234 (by decide) ?_
        refine sx_less (lu := [(0, .ref b), (1, .ref (ad 0)), (2, .ref (ad 19)), (3, .ref (ad 30)), (4, .int (sx_i x4))]) C [2, 3, 4, 5, 6] rfl ?_
        exact sm_L_law_238 C hZ hr hlk hlf hX hbl hLL hr43 hc hs h
  · refine sx_iconst C dd_L_law_218 rfl ?_
    exact sx_lret C hr hlk (fun _ h => h) (by omega) (by omega) dd_L_law_219 h
set_option maxHeartbeats 4000000 in
set_option maxRecDepth 100000 in
theorem sm_L_law_43 (C : sx_C sr_lay sr_cl D cI cJ ad (fun q : Nat => s.heap.size ≤ q) 7 "StoneRingsLaw" code sr_ts p s m #[Value.ref b] c) (hZ : sx_Z (fun q : Nat => s.heap.size ≤ q) s s.heap) (hr : meth.sig.returnType = ret) (hlk : meth.locks = false) (hlf : l.stackTraces = false) (hX : va_X b L xs s s.heap) (hbl : b < s.heap.size) (hLL : L ≤ 2050) : ∀ (n : Nat) (x4 : Int) (μ : sx_M) (cells slots : Nat), cells + n ≤ 1063 → slots + 6 * n ≤ 9541 → sw_L_law_43 (sx_sc xs) (L : Int) n x4 μ → sx_V sr_lay sr_cl D cI cJ ad (fun q : Nat => s.heap.size ≤ q) 7 p l e room_1 s m #[Value.ref b] below meth c (lw_Z below #[Value.ref b] s) cells slots μ 43 [(0, .ref b), (1, .ref (ad 0)), (2, .ref (ad 19)), (3, .ref (ad 30)), (4, .int (sx_i x4))] [] := by
  intro n
  induction n with
  | zero =>
    intro x4 μ cells slots hc hs h
    exact h.elim
  | succ n ih =>
    intro x4 μ cells slots hc hs h
    have hr43 := ih
    unfold sw_L_law_43 at h
    refine sx_iload C 4 dd_L_law_43 rfl ?_
    refine sx_aload_n C 0 dd_L_law_45 rfl rfl ?_
    refine sx_slen C hX hbl (Nat.not_le.mpr hbl) dd_L_law_46 ?_
    refine sx_iconst C dd_L_law_47 rfl ?_
    refine sx_isub C dd_L_law_48 ?_
    refine sx_icmp_gt (tgt := 1652) C dd_L_law_49 (by decide) h (fun h => ?_) (fun h => ?_)
    · refine sx_iconst C dd_L_law_1652 rfl ?_
      exact sx_lret C hr hlk (fun _ h => h) (by omega) (by omega) dd_L_law_1653 h
    · refine sx_aload_n C 0 dd_L_law_52 rfl rfl ?_
      refine sx_iload C 4 dd_L_law_53 rfl ?_
      refine sx_sld C hX hbl (Nat.not_le.mpr hbl) (by omega) dd_L_law_55 h (fun h => ?_)
      refine sx_bipush (v := 31) C dd_L_law_56 (by decide +kernel) ?_
      refine sx_iand C dd_L_law_58 ?_
      obtain ⟨hR9, h_0, h_1, h_2, h_3, h_4, h_5, h_6, h_7, h_8, h_9, h_10, h_11, h_12, h_13, h_14, h_15, h_16, h_17, h_18, h_19, h_20, h_21, h_d⟩ := h
      rcases (show (sx_and ((sx_sc xs) x4) 31) = 0 ∨ (sx_and ((sx_sc xs) x4) 31) = 1 ∨ (sx_and ((sx_sc xs) x4) 31) = 2 ∨ (sx_and ((sx_sc xs) x4) 31) = 3 ∨ (sx_and ((sx_sc xs) x4) 31) = 4 ∨ (sx_and ((sx_sc xs) x4) 31) = 5 ∨ (sx_and ((sx_sc xs) x4) 31) = 6 ∨ (sx_and ((sx_sc xs) x4) 31) = 7 ∨ (sx_and ((sx_sc xs) x4) 31) = 8 ∨ (sx_and ((sx_sc xs) x4) 31) = 9 ∨ (sx_and ((sx_sc xs) x4) 31) = 10 ∨ (sx_and ((sx_sc xs) x4) 31) = 11 ∨ (sx_and ((sx_sc xs) x4) 31) = 12 ∨ (sx_and ((sx_sc xs) x4) 31) = 13 ∨ (sx_and ((sx_sc xs) x4) 31) = 14 ∨ (sx_and ((sx_sc xs) x4) 31) = 15 ∨ (sx_and ((sx_sc xs) x4) 31) = 16 ∨ (sx_and ((sx_sc xs) x4) 31) = 17 ∨ (sx_and ((sx_sc xs) x4) 31) = 18 ∨ (sx_and ((sx_sc xs) x4) 31) = 19 ∨ (sx_and ((sx_sc xs) x4) 31) = 20 ∨ (sx_and ((sx_sc xs) x4) 31) = 21 ∨ ((sx_and ((sx_sc xs) x4) 31) < 0 ∨ 21 < (sx_and ((sx_sc xs) x4) 31)) by omega) with q9 | q9 | q9 | q9 | q9 | q9 | q9 | q9 | q9 | q9 | q9 | q9 | q9 | q9 | q9 | q9 | q9 | q9 | q9 | q9 | q9 | q9 | q9
      · have h := h_0 q9
        refine sx_tableIn (tgt := 160) C dd_L_law_59 hR9 (by omega) (by omega) (by rw [q9]; rfl) (by decide) ?_
        exact sm_L_law_160 C hZ hr hlk hlf hX hbl hLL hr43 hc hs h
      · have h := h_1 q9
        refine sx_tableIn (tgt := 247) C dd_L_law_59 hR9 (by omega) (by omega) (by rw [q9]; rfl) (by decide) ?_
        exact sm_L_law_247 C hZ hr hlk hlf hX hbl hLL hr43 hc hs h
      · have h := h_2 q9
        refine sx_tableIn (tgt := 303) C dd_L_law_59 hR9 (by omega) (by omega) (by rw [q9]; rfl) (by decide) ?_
        exact sm_L_law_303 C hZ hr hlk hlf hX hbl hLL hr43 hc hs h
      · have h := h_3 q9
        refine sx_tableIn (tgt := 371) C dd_L_law_59 hR9 (by omega) (by omega) (by rw [q9]; rfl) (by decide) ?_
        exact sm_L_law_371 C hZ hr hlk hlf hX hbl hLL hr43 hc hs h
      · have h := h_4 q9
        refine sx_tableIn (tgt := 427) C dd_L_law_59 hR9 (by omega) (by omega) (by rw [q9]; rfl) (by decide) ?_
        exact sm_L_law_427 C hZ hr hlk hlf hX hbl hLL hr43 hc hs h
      · have h := h_5 q9
        refine sx_tableIn (tgt := 523) C dd_L_law_59 hR9 (by omega) (by omega) (by rw [q9]; rfl) (by decide) ?_
        exact sm_L_law_523 C hZ hr hlk hlf hX hbl hLL hr43 hc hs h
      · have h := h_6 q9
        refine sx_tableIn (tgt := 571) C dd_L_law_59 hR9 (by omega) (by omega) (by rw [q9]; rfl) (by decide) ?_
        exact sm_L_law_571 C hZ hr hlk hlf hX hbl hLL hr43 hc hs h
      · have h := h_7 q9
        refine sx_tableIn (tgt := 627) C dd_L_law_59 hR9 (by omega) (by omega) (by rw [q9]; rfl) (by decide) ?_
        exact sm_L_law_627 C hZ hr hlk hlf hX hbl hLL hr43 hc hs h
      · have h := h_8 q9
        refine sx_tableIn (tgt := 707) C dd_L_law_59 hR9 (by omega) (by omega) (by rw [q9]; rfl) (by decide) ?_
        exact sm_L_law_707 C hZ hr hlk hlf hX hbl hLL hr43 hc hs h
      · have h := h_9 q9
        refine sx_tableIn (tgt := 787) C dd_L_law_59 hR9 (by omega) (by omega) (by rw [q9]; rfl) (by decide) ?_
        exact sm_L_law_787 C hZ hr hlk hlf hX hbl hLL hr43 hc hs h
      · have h := h_10 q9
        refine sx_tableIn (tgt := 843) C dd_L_law_59 hR9 (by omega) (by omega) (by rw [q9]; rfl) (by decide) ?_
        exact sm_L_law_843 C hZ hr hlk hlf hX hbl hLL hr43 hc hs h
      · have h := h_11 q9
        refine sx_tableIn (tgt := 923) C dd_L_law_59 hR9 (by omega) (by omega) (by rw [q9]; rfl) (by decide) ?_
        exact sm_L_law_923 C hZ hr hlk hlf hX hbl hLL hr43 hc hs h
      · have h := h_12 q9
        refine sx_tableIn (tgt := 983) C dd_L_law_59 hR9 (by omega) (by omega) (by rw [q9]; rfl) (by decide) ?_
        exact sm_L_law_983 C hZ hr hlk hlf hX hbl hLL hr43 hc hs h
      · have h := h_13 q9
        refine sx_tableIn (tgt := 1058) C dd_L_law_59 hR9 (by omega) (by omega) (by rw [q9]; rfl) (by decide) ?_
        exact sm_L_law_1058 C hZ hr hlk hlf hX hbl hLL hr43 hc hs h
      · have h := h_14 q9
        refine sx_tableIn (tgt := 1138) C dd_L_law_59 hR9 (by omega) (by omega) (by rw [q9]; rfl) (by decide) ?_
        exact sm_L_law_1138 C hZ hr hlk hlf hX hbl hLL hr43 hc hs h
      · have h := h_15 q9
        refine sx_tableIn (tgt := 1218) C dd_L_law_59 hR9 (by omega) (by omega) (by rw [q9]; rfl) (by decide) ?_
        exact sm_L_law_1218 C hZ hr hlk hlf hX hbl hLL hr43 hc hs h
      · have h := h_16 q9
        refine sx_tableIn (tgt := 1298) C dd_L_law_59 hR9 (by omega) (by omega) (by rw [q9]; rfl) (by decide) ?_
        exact sm_L_law_1298 C hZ hr hlk hlf hX hbl hLL hr43 hc hs h
      · have h := h_17 q9
        refine sx_tableIn (tgt := 1354) C dd_L_law_59 hR9 (by omega) (by omega) (by rw [q9]; rfl) (by decide) ?_
        exact sm_L_law_1354 C hZ hr hlk hlf hX hbl hLL hr43 hc hs h
      · have h := h_18 q9
        refine sx_tableIn (tgt := 1410) C dd_L_law_59 hR9 (by omega) (by omega) (by rw [q9]; rfl) (by decide) ?_
        exact sm_L_law_1410 C hZ hr hlk hlf hX hbl hLL hr43 hc hs h
      · have h := h_19 q9
        refine sx_tableIn (tgt := 1466) C dd_L_law_59 hR9 (by omega) (by omega) (by rw [q9]; rfl) (by decide) ?_
        exact sm_L_law_1466 C hZ hr hlk hlf hX hbl hLL hr43 hc hs h
      · have h := h_20 q9
        refine sx_tableIn (tgt := 1546) C dd_L_law_59 hR9 (by omega) (by omega) (by rw [q9]; rfl) (by decide) ?_
        exact sm_L_law_1546 C hZ hr hlk hlf hX hbl hLL hr43 hc hs h
      · have h := h_21 q9
        refine sx_tableIn (tgt := 1621) C dd_L_law_59 hR9 (by omega) (by omega) (by rw [q9]; rfl) (by decide) ?_
        exact sm_L_law_1621 C hZ hr hlk hlf hX hbl hLL hr43 hc hs h
      · have h := h_d q9
        refine sx_tableOut (tgt := 1646) C dd_L_law_59 hR9 q9 (by decide) ?_
        refine sx_wide (cells2 := cells + 1) (slots2 := slots + 6) C (by omega) (by omega) ?_
        exact sm_L_law_1646 C hZ hr hlk hlf hX hbl hLL hr43 hc hs h
end SXG
