variable {Q : Int → sx_M → Prop} {X : String → sx_M → Prop} {μ : sx_M}
theorem sI_T {t : Nat} {μ1 : sx_M} (ht : t = 5 ∨ t = 9) (h : sI μ) (hf : frT t μ μ1) : sI μ1 :=
  sI_fr h (fun c hc => hf c (by unfold coreC at hc; omega)) (fun k _ => by rw [hf 19 (by omega)])
theorem sI_L {μ1 : sx_M} (h : sI μ) (hf : frL μ μ1) : sI μ1 :=
  sI_fr h (fun c hc => hf.1 c (by unfold coreC at hc; omega) (by unfold coreC at hc; omega) (by unfold coreC at hc; omega) (by unfold coreC at hc; omega)) (fun k hk => hf.2 k (by unfold coreK at hk; omega) (by unfold coreK at hk; omega))
def trM (μ μ1 : sx_M) (r : Int) : Prop := sI μ1 ∧ μ1 19 0 = 0 ∧ μ1 30 = μ 30 ∧ μ1 19 9 = LN μ r ∧ μ1 19 12 = NF μ r ∧ (∀ i : Int, 0 ≤ i → i < LN μ r → μ1 23 i = VL μ r i ∧ μ1 24 i = EV μ r i) ∧ (∀ j : Int, 0 ≤ j → j < NF μ r → μ1 25 j = PL μ r j)
theorem sp_samplesM {r : Int} (hI : sI μ) (hr : sx_R r) (bad : r < 0 ∨ μ 0 7 ≤ r → Q 0 (sx_up μ 19 0 1)) (good : ∀ μ1, 0 ≤ r → r < μ 0 7 → trM μ μ1 r → Q (LN μ r) μ1) : sw_M_samples Q μ r := by
  have r1 := hI.2.1.1
  have r2 := hI.2.1.2.1
  have r3 := hI.2.1.2.2.1
  have hT := sI_th hI 0
  unfold sw_M_samples sw_M_samples_14
  refine sp_noRay hr (by omega) (fun e => ⟨by omega, fun q => by omega, fun _ => thP (by omega) (bad (by omega))⟩) (fun e1 e2 => ⟨by omega, fun _ => thZ ?_, fun q => absurd rfl q⟩)
  obtain ⟨w1, w2, w3, w4, w5⟩ := tr_congr (μ := μ) (μ1 := sx_up μ 19 0 0) (th_c _ _ (by omega)) (th_c _ _ (by omega)) (th_c _ _ (by omega)) (th_c _ _ (by omega)) (th_c _ _ (by omega))
  refine sp_lay hT.1 hT.2.1 hT.2.2.1 ⟨e1, by rw [th_c _ _ (by omega)]; omega⟩ (fun μ1 f1 l1 n1 v1 p1 => ?_)
  rw [w1] at l1 v1
  rw [w4] at n1 p1
  rw [w2, w3] at v1
  rw [w5] at p1
  rw [l1]
  refine good μ1 e1 (by omega) ⟨sI_L hT f1, ?_, ?_, l1, n1, v1, p1⟩
  · rw [f1.2 0 (by omega) (by omega), th_0]
  · rw [f1.1 30 (by omega) (by omega) (by omega) (by omega), th_c _ _ (by omega)]
theorem sp_ringsM {r : Int} (hI : sI μ) (hr : sx_R r) (bad : r < 0 ∨ μ 0 7 ≤ r → Q 0 (sx_up μ 19 0 1)) (good : ∀ μ1, 0 ≤ r → r < μ 0 7 → trM μ μ1 r → Q (NF μ r) μ1) : sw_M_rings Q μ r := by
  unfold sw_M_rings sw_M_rings_21
  refine sp_samplesM hI hr (fun e => ?_) (fun μ1 e1 e2 h => ?_)
  · rw [th_0]
    exact ⟨by omega, fun q => by omega, fun _ => bad e⟩
  · have h0 := h.2.1
    rw [h0, h.2.2.2.2.1]
    exact ⟨by omega, fun _ => good μ1 e1 e2 h, fun q => by omega⟩
/-- the memory behind the class's call: a trace and the answer -/
theorem sI_M {μ1 : sx_M} (hI : sI μ) (hf : frT 5 μ μ1) (v : Int) : sI (sx_up μ1 30 0 v) ∧ sx_up μ1 30 0 v 0 = μ 0 ∧ LN (sx_up μ1 30 0 v) = LN μ ∧ VL (sx_up μ1 30 0 v) = VL μ ∧ EV (sx_up μ1 30 0 v) = EV μ ∧ NF (sx_up μ1 30 0 v) = NF μ ∧ PL (sx_up μ1 30 0 v) = PL μ ∧ sx_up μ1 30 0 v 30 0 = v := by
  have g : ∀ c, c < 5 → sx_up μ1 30 0 v c = μ c := fun c hc => by rw [out_c _ _ (by omega), hf c (by omega)]
  obtain ⟨w1, w2, w3, w4, w5⟩ := tr_congr (μ := μ) (μ1 := sx_up μ1 30 0 v) (g 0 (by omega)) (g 1 (by omega)) (g 2 (by omega)) (g 3 (by omega)) (g 4 (by omega))
  exact ⟨sI_out (sI_T (.inl rfl) hI hf) v, g 0 (by omega), w1, w2, w3, w4, w5, out_0 _ _⟩
section
variable {sc : Int → Int} {Lz : Int} {r43 : Int → sx_M → Prop} {x4 : Int}
theorem tu_samples (hI : sI μ) (hx : 0 ≤ x4 ∧ x4 + 3 < Lz) (hsc : ∀ j, sx_R (sc j)) (hk : ∀ μ1, sI μ1 → r43 (x4 + 4) μ1) : sw_L_law_371 sc Lz r43 x4 μ := by
  unfold sw_L_law_371 sw_L_samples sw_S_samples
  refine ⟨by omega, sp_follow (.inl rfl) hI.1 hI.2.1 hI.2.2.1 (hsc _) (fun e => ⟨rfl, fun _ => ⟨by omega, sp_samplesM hI (hsc _) (fun _ => ?_) (fun _ q1 q2 => by omega)⟩⟩) (fun μ1 e1 e2 f1 l1 n1 v1 p1 => ?_)⟩
  · unfold sw_M_thrown
    exact endA (R := fun μ => r43 (x4 + 4) μ) (by omega) (th_0 _ _) (by omega) (hk _ (sI_th hI 1))
  · obtain ⟨t1, t2, t3, t4⟩ := tr_bd hI.1 hI.2.1 ⟨e1, e2⟩
    obtain ⟨m1, m2, m3, m4, m5, m6, m7, m8⟩ := sI_M hI f1 (LN μ (sc (x4 + 1)))
    rw [l1]
    refine ⟨by omega, by omega, by omega, sp_samplesM m1 (hsc _) (fun q => by rw [m2] at q; omega) (fun μ2 _ _ h => ?_)⟩
    rw [m3]
    unfold sw_M_thrown
    refine endA (R := fun μ => r43 (x4 + 4) μ) (by omega) h.2.1 (fun _ => ⟨by omega, ?_⟩) (hk _ h.1)
    rw [h.2.2.1, m8]
theorem tu_rings (hI : sI μ) (hx : 0 ≤ x4 ∧ x4 + 3 < Lz) (hsc : ∀ j, sx_R (sc j)) (hk : ∀ μ1, sI μ1 → r43 (x4 + 4) μ1) : sw_L_law_571 sc Lz r43 x4 μ := by
  unfold sw_L_law_571 sw_L_rings sw_S_rings
  refine ⟨by omega, sp_follow (.inl rfl) hI.1 hI.2.1 hI.2.2.1 (hsc _) (fun e => ⟨rfl, fun _ => ⟨by omega, sp_ringsM hI (hsc _) (fun _ => ?_) (fun _ q1 q2 => by omega)⟩⟩) (fun μ1 e1 e2 f1 l1 n1 v1 p1 => ?_)⟩
  · unfold sw_M_thrown
    exact endA (R := fun μ => r43 (x4 + 4) μ) (by omega) (th_0 _ _) (by omega) (hk _ (sI_th hI 1))
  · obtain ⟨t1, t2, t3, t4⟩ := tr_bd hI.1 hI.2.1 ⟨e1, e2⟩
    obtain ⟨m1, m2, m3, m4, m5, m6, m7, m8⟩ := sI_M hI f1 (NF μ (sc (x4 + 1)))
    rw [n1]
    refine ⟨by omega, by omega, by omega, sp_ringsM m1 (hsc _) (fun q => by rw [m2] at q; omega) (fun μ2 _ _ h => ?_)⟩
    rw [m6]
    unfold sw_M_thrown
    refine endA (R := fun μ => r43 (x4 + 4) μ) (by omega) h.2.1 (fun _ => ⟨by omega, ?_⟩) (hk _ h.1)
    rw [h.2.2.1, m8]
theorem tu_sample1 {y : Int} (hI : sI μ) (hx : 0 ≤ x4 ∧ x4 + 3 < Lz) (hsc : ∀ j, sx_R (sc j)) (hy : y = 0 ∨ y = 1) (hys : sc (x4 + 3) = 0 ↔ y = 0) (hk : ∀ μ1, sI μ1 → r43 (x4 + 4) μ1) : sw_L_law_454 sc Lz r43 x4 (sc (x4 + 1)) (sc (x4 + 2)) y μ := by
  -- the law goes on with the model's call
  have fork : ∀ (k : Int) (M : sx_M), sw_L_law_487 sc Lz r43 x4 k (sc (x4 + 1)) (sc (x4 + 2)) y M → (0 ≤ x4 + 1 ∧ x4 + 1 < Lz) ∧ (0 ≤ x4 + 2 ∧ x4 + 2 < Lz) ∧ (0 ≤ x4 + 3 ∧ x4 + 3 < Lz) ∧ sx_R (sc (x4 + 3)) ∧ (sc (x4 + 3) = 0 → sw_L_law_487 sc Lz r43 x4 k (sc (x4 + 1)) (sc (x4 + 2)) 0 M) ∧ (¬ sc (x4 + 3) = 0 → sw_L_law_487 sc Lz r43 x4 k (sc (x4 + 1)) (sc (x4 + 2)) 1 M) := by
    intro k M h
    refine ⟨by omega, by omega, by omega, hsc _, fun q => ?_, fun q => ?_⟩
    · rw [hys.mp q] at h
      exact h
    · have : y = 1 := by
        rcases hy with e | e
        · exact absurd (hys.mpr e) q
        · exact e
      rw [this] at h
      exact h
  have bad : ∀ M : sx_M, sI M → (sc (x4 + 1) < 0 ∨ M 0 7 ≤ sc (x4 + 1) ∨ (0 ≤ sc (x4 + 1) ∧ sc (x4 + 1) < M 0 7 ∧ (sc (x4 + 2) < 0 ∨ LN M (sc (x4 + 1)) ≤ sc (x4 + 2)))) → sw_L_law_487 sc Lz r43 x4 1 (sc (x4 + 1)) (sc (x4 + 2)) y M := by
    intro M hM hb
    unfold sw_L_law_487 sw_M_sample sw_M_sample_27 sw_M_sample_32 sw_M_sample_65 sw_M_thrown
    refine sp_samplesM hM (hsc _) (fun e => ?_) (fun μ1 e1 e2 h => ?_)
    · rw [th_0]
      refine ⟨by omega, fun _ => thP (by omega) ?_, fun q => by omega⟩
      exact endA (R := fun μ => r43 (x4 + 4) μ) (by omega) (th_0 _ _) (by omega) (hk _ (sI_th (sI_th hM 1) 1))
    · have h0 := h.2.1
      obtain ⟨t1, t2, t3, t4⟩ := tr_bd hM.1 hM.2.1 ⟨e1, e2⟩
      refine ⟨by omega, fun q => by omega, fun _ => sp_isIn (hsc _) (by omega) (by omega) (fun _ => ⟨by omega, fun q => absurd rfl q, fun _ => thP (by omega) ?_⟩) (fun q1 q2 => by omega)⟩
      exact endA (R := fun μ => r43 (x4 + 4) μ) (by omega) (th_0 _ _) (by omega) (hk _ (sI_th h.1 1))
  unfold sw_L_law_454 sw_L_sample sw_S_sample sw_S_sample_45
  refine sp_follow (.inl rfl) hI.1 hI.2.1 hI.2.2.1 (hsc _) (fun e => ⟨rfl, fun _ => fork _ _ (bad μ hI (by omega))⟩) (fun μ1 e1 e2 f1 l1 n1 v1 p1 => ?_)
  obtain ⟨t1, t2, t3, t4⟩ := tr_bd hI.1 hI.2.1 ⟨e1, e2⟩
  rw [l1]
  have hI1 := sI_T (.inl rfl) hI f1
  have c0 := f1 0 (by omega)
  obtain ⟨w1, w2, w3, w4, w5⟩ := tr_congr (μ := μ) (μ1 := μ1) c0 (f1 1 (by omega)) (f1 2 (by omega)) (f1 3 (by omega)) (f1 4 (by omega))
  refine sp_needPlace (hsc _) (by omega) (fun e => ⟨rfl, fun _ => fork _ _ (bad μ1 hI1 (by rw [c0, w1]; omega))⟩) (fun e3 e4 => ?_)
  have vv := v1 (sc (x4 + 2)) e3 e4
  have vb := t2 (sc (x4 + 2)) e3 e4
  have good : ∀ v : Int, v = (if y = 0 then VL μ (sc (x4 + 1)) (sc (x4 + 2)) else EV μ (sc (x4 + 1)) (sc (x4 + 2))) → sw_L_law_487 sc Lz r43 x4 0 (sc (x4 + 1)) (sc (x4 + 2)) y (sx_up μ1 30 0 v) := by
    intro v hv
    obtain ⟨m1, m2, m3, m4, m5, m6, m7, m8⟩ := sI_M hI f1 v
    have vR : sx_R v := by
      rw [hv]
      split <;> omega
    unfold sw_L_law_487 sw_M_sample sw_M_sample_27 sw_M_sample_32 sw_M_sample_65 sw_M_thrown
    refine sp_samplesM m1 (hsc _) (fun q => by rw [m2] at q; omega) (fun μ2 _ _ h => ?_)
    have h0 := h.2.1
    have h23 := h.2.2.2.2.2.1 (sc (x4 + 2)) e3 (by rw [m3]; exact e4)
    rw [m4, m5] at h23
    rw [m3]
    refine ⟨by omega, fun q => by omega, fun _ => sp_isIn (hsc _) (by omega) (by omega) (fun q => by omega) (fun q1 q2 => ⟨by omega, fun _ => thZ ?_, fun q => by omega⟩)⟩
    rw [th_c _ _ (show 23 ≠ 19 by omega), th_c _ _ (show 24 ≠ 19 by omega), h23.1, h23.2]
    have fin := endA (μ := sx_up μ2 19 0 0) (v := v) (R := fun μ => r43 (x4 + 4) μ) (k := 0) (by omega) (th_0 _ _) (fun _ => ⟨vR, by rw [th_c _ _ (by omega), h.2.2.1, m8]⟩) (hk _ (sI_th h.1 0))
    refine ⟨by omega, fun q => ⟨by omega, ?_⟩, fun q => ⟨by omega, ?_⟩⟩
    · rw [if_pos q] at hv
      rw [← hv]
      exact fin
    · rw [if_neg q] at hv
      rw [← hv]
      exact fin
  rw [vv.1, vv.2]
  refine ⟨by omega, fun q => ⟨by omega, by omega, by omega, fork _ _ (good _ (by rw [if_pos q]))⟩, fun q => ⟨by omega, by omega, by omega, fork _ _ (good _ (by rw [if_neg q]))⟩⟩
theorem tu_sample (hI : sI μ) (hx : 0 ≤ x4 ∧ x4 + 3 < Lz) (hsc : ∀ j, sx_R (sc j)) (hk : ∀ μ1, sI μ1 → r43 (x4 + 4) μ1) : sw_L_law_427 sc Lz r43 x4 μ := by
  unfold sw_L_law_427
  exact ⟨by omega, by omega, by omega, hsc _, fun q => tu_sample1 hI hx hsc (.inl rfl) (by omega) hk, fun q => tu_sample1 hI hx hsc (.inr rfl) (by omega) hk⟩
theorem tu_back (hI : sI μ) (hx : 0 ≤ x4 ∧ x4 + 3 < Lz) (hsc : ∀ j, sx_R (sc j)) (hk : ∀ μ1, sI μ1 → r43 (x4 + 4) μ1) : sw_L_law_843 sc Lz r43 x4 μ := by
  -- a refused call
  have bad : ∀ (k : Int) (M : sx_M), (k = 1 ∨ k = 2) → sI M → (k = 1 ∧ (sc (x4 + 1) < 0 ∨ M 0 7 ≤ sc (x4 + 1))) ∨ (0 ≤ sc (x4 + 1) ∧ sc (x4 + 1) < M 0 7 ∧ ((k = 1 ∧ (sc (x4 + 2) < 0 ∨ NF M (sc (x4 + 1)) ≤ sc (x4 + 2))) ∨ (k = 2 ∧ 0 ≤ sc (x4 + 2) ∧ sc (x4 + 2) < NF M (sc (x4 + 1)) ∧ (sc (x4 + 3) < 0 ∨ 100000 < sc (x4 + 3))))) → (0 ≤ x4 + 1 ∧ x4 + 1 < Lz) ∧ (0 ≤ x4 + 2 ∧ x4 + 2 < Lz) ∧ (0 ≤ x4 + 3 ∧ x4 + 3 < Lz) ∧ sw_M_back (fun v2 μ2 => (sw_M_thrown (fun v3 μ3 => ((sx_R v3 ∧ sx_R k) ∧ (v3 = k → (sx_R k ∧ (¬ k = 0 → (sw_L_law_920 sc Lz r43 x4 μ3)) ∧ (k = 0 → ((0 ≤ (0 : Int) ∧ (0 : Int) < 1) ∧ (sx_R v2 ∧ ((sx_R (μ3 30 0) ∧ sx_R v2) ∧ (sx_R (sx_cmp (μ3 30 0) v2) ∧ ((sx_cmp (μ3 30 0) v2) = 0 → (sw_L_law_920 sc Lz r43 x4 μ3)) ∧ (¬ (sx_cmp (μ3 30 0) v2) = 0 → ((0 : Int) = 1))))))))) ∧ (¬ v3 = k → ((0 : Int) = 1)))) μ2)) M (sc (x4 + 1)) (sc (x4 + 2)) (sc (x4 + 3)) := by
    intro k M k1 hM hb
    refine ⟨by omega, by omega, by omega, ?_⟩
    unfold sw_M_back sw_M_back_27 sw_M_back_46 sw_M_back_75 sw_M_thrown
    refine sp_ringsM hM (hsc _) (fun e => ?_) (fun μ1 e1 e2 h => ?_)
    · have : k = 1 := by omega
      subst this
      rw [th_0]
      refine ⟨by omega, fun _ => thP (by omega) ?_, fun q => by omega⟩
      exact endA (R := fun μ => r43 (x4 + 4) μ) (by omega) (th_0 _ _) (by omega) (hk _ (sI_th (sI_th hM 1) 1))
    · have h0 := h.2.1
      obtain ⟨t1, t2, t3, t4⟩ := tr_bd hM.1 hM.2.1 ⟨e1, e2⟩
      refine ⟨by omega, fun q => by omega, fun _ => sp_isIn (hsc _) (by omega) (by omega) (fun e => ⟨by omega, fun q => absurd rfl q, fun _ => thP (by omega) ?_⟩) (fun q1 q2 => ⟨by omega, fun _ => ?_, fun q => by omega⟩)⟩
      · have : k = 1 := by omega
        subst this
        exact endA (R := fun μ => r43 (x4 + 4) μ) (by omega) (th_0 _ _) (by omega) (hk _ (sI_th h.1 1))
      · have : k = 2 := by omega
        subst this
        refine sp_isIn (hsc _) (by omega) (by omega) (fun e => ⟨by omega, fun q => absurd rfl q, fun _ => thP (by omega) ?_⟩) (fun q3 q4 => by omega)
        exact endA (R := fun μ => r43 (x4 + 4) μ) (by omega) (th_0 _ _) (by omega) (hk _ (sI_th h.1 2))
  unfold sw_L_law_843 sw_L_back sw_S_back
  refine ⟨by omega, by omega, by omega, sp_follow (.inl rfl) hI.1 hI.2.1 hI.2.2.1 (hsc _) (fun e => ⟨.inl rfl, fun _ => bad 1 μ (by omega) hI (by omega), fun q => absurd q (by decide)⟩) (fun μ1 e1 e2 f1 l1 n1 v1 p1 => ?_)⟩
  obtain ⟨t1, t2, t3, t4⟩ := tr_bd hI.1 hI.2.1 ⟨e1, e2⟩
  have hI1 := sI_T (.inl rfl) hI f1
  have c0 := f1 0 (by omega)
  obtain ⟨w1, w2, w3, w4, w5⟩ := tr_congr (μ := μ) (μ1 := μ1) c0 (f1 1 (by omega)) (f1 2 (by omega)) (f1 3 (by omega)) (f1 4 (by omega))
  rw [n1]
  refine sp_needPlace (hsc _) (by omega) (fun e => ⟨.inl rfl, fun _ => bad 1 μ1 (by omega) hI1 (by rw [c0, w4]; omega), fun q => absurd q (by decide)⟩) (fun e3 e4 => ?_)
  refine sp_needNumber (hsc _) (by omega) (by omega) (fun e => ⟨.inr rfl, fun q => absurd q (by decide), fun _ => bad 2 μ1 (by omega) hI1 (by rw [c0, w4]; omega)⟩) (fun e5 e6 => ⟨by omega, ?_⟩)
  have pb := t4 (sc (x4 + 2)) e3 e4
  have mb := mulB (a := PL μ (sc (x4 + 1)) (sc (x4 + 2))) (i := sc (x4 + 3)) (A := 16) (B := 100000) (by omega) (by omega) e5 e6 (by omega)
  rw [Int.mul_comm (PL μ (sc (x4 + 1)) (sc (x4 + 2)))] at mb
  have nn : 0 ≤ sc (x4 + 3) * PL μ (sc (x4 + 1)) (sc (x4 + 2)) := Int.mul_nonneg e5 (by omega)
  rw [l1, p1 (sc (x4 + 2)) e3 e4]
  have db := divB (a := sc (x4 + 3) * PL μ (sc (x4 + 1)) (sc (x4 + 2))) (b := LN μ (sc (x4 + 1)) - 1) (B := 1600000) (by omega) (by omega) (by omega) (by omega)
  refine sp_floorOf (by omega) (by omega) (by omega) (by omega) ⟨by omega, by omega, by omega, by omega, by omega, ?_⟩
  obtain ⟨m1, m2, m3, m4, m5, m6, m7, m8⟩ := sI_M hI f1 (sc (x4 + 3) * PL μ (sc (x4 + 1)) (sc (x4 + 2)) / (LN μ (sc (x4 + 1)) - 1))
  unfold sw_M_back sw_M_back_27 sw_M_back_46 sw_M_back_75 sw_M_thrown
  refine sp_ringsM m1 (hsc _) (fun q => by rw [m2] at q; omega) (fun μ2 _ _ h => ?_)
  have h0 := h.2.1
  have h9 := h.2.2.2.1
  have h25 := h.2.2.2.2.2.2 (sc (x4 + 2)) e3 (by rw [m6]; exact e4)
  rw [m7] at h25
  rw [m3] at h9
  rw [m6]
  refine ⟨by omega, fun q => by omega, fun _ => sp_isIn (hsc _) (by omega) (by omega) (fun q => by omega) (fun q1 q2 => ⟨by omega, fun _ => ?_, fun q => by omega⟩)⟩
  refine sp_isIn (hsc _) (by omega) (by omega) (fun q => by omega) (fun q3 q4 => ⟨by omega, fun _ => thZ ⟨by omega, ?_⟩, fun q => by omega⟩)
  rw [th_c _ _ (show 25 ≠ 19 by omega), th_k _ _ (by omega), h25, h9]
  refine ⟨by omega, ?_⟩
  rw [fl_pos nn]
  refine endA (R := fun μ => r43 (x4 + 4) μ) (by omega) (th_0 _ _) (fun _ => ⟨by omega, ?_⟩) (hk _ (sI_th h.1 0))
  rw [th_c _ _ (by omega), h.2.2.1, m8]
end
