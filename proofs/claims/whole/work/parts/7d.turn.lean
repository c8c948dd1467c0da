variable {Q : Int → sx_M → Prop} {X : String → sx_M → Prop} {μ : sx_M}
theorem sT_up' {f g : Int → Int} {k0 n : Int} (h : ∀ k : Int, 0 ≤ k → k < n → k ≠ k0 → g k = f k) (h0 : 0 ≤ k0) (h1 : k0 < n) : sT g n = sT f n + (g k0 - f k0) := by
  have e : sT g n = sT (fun k => if k = k0 then g k0 else f k) n := by
    refine sT_congr (fun k q0 q1 => ?_)
    by_cases e : k = k0
    · simp only [e, if_true]
    · simp only [e, if_false]
      exact h k q0 q1 e
  rw [e, sT_up (f := f) (k0 := k0) (fun k q => by simp only [q, if_false]) h0 h1]
  simp
section
variable {sc : Int → Int} {Lz : Int} {r43 : Int → sx_M → Prop} {x4 : Int}
theorem tu_may (hI : sI μ) (hx : 0 ≤ x4 ∧ x4 + 3 < Lz) (hsc : ∀ j, sx_R (sc j)) (hk : ∀ μ1, sI μ1 → r43 (x4 + 4) μ1) : sw_L_law_983 sc Lz r43 x4 μ := by
  have hK := hI.2.2.2.1.1
  unfold sw_L_law_983 sw_L_may sw_S_may sw_L_may_16
  have hS : ∀ μ1, sI μ1 → ∀ a : Int, (a = 0 ∨ a = 1) → sw_L_law_1049 sc Lz r43 x4 a a μ1 := by
    intro μ1 h1 a ha
    exact cmpS (R := fun μ => r43 (x4 + 4) μ) ha (hk μ1 h1)
  have bad : ¬ (0 ≤ sc (x4 + 1) ∧ sc (x4 + 1) < 4 ∧ 0 ≤ sc (x4 + 2) ∧ sc (x4 + 2) < 20) → sw_M_may (fun v2 μ2 => (sw_M_thrown (fun v3 μ3 => ((sx_R v3 ∧ sx_R 1) ∧ (v3 = 1 → (sx_R 1 ∧ (¬ (1 : Int) = 0 → (sw_L_law_1055 sc Lz r43 x4 μ3)) ∧ ((1 : Int) = 0 → ((0 ≤ (0 : Int) ∧ (0 : Int) < 1) ∧ (sx_R v2 ∧ (v2 = 0 → (sw_L_law_1049 sc Lz r43 x4 (μ3 30 0) 0 μ3)) ∧ (¬ v2 = 0 → (sw_L_law_1049 sc Lz r43 x4 (μ3 30 0) 1 μ3))))))) ∧ (¬ v3 = 1 → ((0 : Int) = 1)))) μ2)) μ (sc (x4 + 1)) (sc (x4 + 2)) := by
    intro e
    unfold sw_M_may sw_M_may_14 sw_M_may_42 sw_M_may_43 sw_M_thrown
    refine sp_noOne (hsc _) (hsc _) (fun _ => ⟨by omega, fun q => by omega, fun _ => thP' (by omega) ⟨.inl rfl, ?_⟩⟩) (fun q1 q2 q3 q4 => by omega)
    exact endB (R := fun μ => r43 (x4 + 4) μ) (S := fun a b μ => sw_L_law_1049 sc Lz r43 x4 a b μ) (hS _ (sI_th hI 1)) (by omega) (th_0 _ _) (by omega) (hk _ (sI_th hI 1))
  have good : 0 ≤ sc (x4 + 1) → sc (x4 + 1) < 4 → 0 ≤ sc (x4 + 2) → sc (x4 + 2) < 20 → ∀ v : Int, v = (if μ 17 (20 * sc (x4 + 1) + sc (x4 + 2)) = -1 then 0 else 1) → sw_M_may (fun v2 μ2 => (sw_M_thrown (fun v3 μ3 => ((sx_R v3 ∧ sx_R 0) ∧ (v3 = 0 → (sx_R 0 ∧ (¬ (0 : Int) = 0 → (sw_L_law_1055 sc Lz r43 x4 μ3)) ∧ ((0 : Int) = 0 → ((0 ≤ (0 : Int) ∧ (0 : Int) < 1) ∧ (sx_R v2 ∧ (v2 = 0 → (sw_L_law_1049 sc Lz r43 x4 (μ3 30 0) 0 μ3)) ∧ (¬ v2 = 0 → (sw_L_law_1049 sc Lz r43 x4 (μ3 30 0) 1 μ3))))))) ∧ (¬ v3 = 0 → ((0 : Int) = 1)))) μ2)) (sx_up μ 30 0 v) (sc (x4 + 1)) (sc (x4 + 2)) := by
    intro e1 e2 e3 e4 v hv
    have hO := sI_out hI v
    have hT := sI_th hO 0
    have a1 := hK (20 * sc (x4 + 1) + sc (x4 + 2)) (by omega) (by omega)
    unfold sw_M_may sw_M_may_14 sw_M_may_42 sw_M_may_43 sw_M_thrown
    refine sp_noOne (hsc _) (hsc _) (fun q => by omega) (fun q1 q2 q3 q4 => ⟨by omega, fun _ => thZ' ⟨by omega, ?_⟩, fun q => absurd rfl q⟩)
    rw [th_c _ _ (show 29 ≠ 19 by omega), out_c _ _ (show 29 ≠ 30 by omega)]
    have fin := endB (μ := sx_up (sx_up μ 30 0 v) 19 0 0) (R := fun μ => r43 (x4 + 4) μ) (S := fun a b μ => sw_L_law_1049 sc Lz r43 x4 a b μ) (k := 0) (v := v) (hS _ hT) (by omega) (th_0 _ _) (fun _ => ⟨by rw [hv]; split <;> omega, by rw [th_c _ _ (by omega), out_0]⟩) (hk _ hT)
    refine ⟨by omega, fun q => ⟨.inl rfl, ?_⟩, fun q => ⟨.inr rfl, ?_⟩⟩
    · have v0 : v = 0 := by rw [hv, if_pos (by omega)]
      subst v0
      exact fin
    · have v1 : v = 1 := by rw [hv, if_neg (by omega)]
      subst v1
      exact fin
  refine ⟨by omega, by omega, sp_needPlace (hsc _) (by omega) (fun e => ⟨rfl, fun _ => ⟨by omega, by omega, bad (by omega)⟩⟩) (fun e1 e2 => sp_needPlace (hsc _) (by omega) (fun e => ⟨rfl, fun _ => ⟨by omega, by omega, bad (by omega)⟩⟩) (fun e3 e4 => ?_))⟩
  refine sp_has hK ⟨e1, e2⟩ ⟨e3, e4⟩ (fun q => ⟨.inl rfl, by omega, fun _ => ⟨by omega, by omega, by omega, good e1 e2 e3 e4 0 (by rw [if_pos q])⟩, fun q => absurd rfl q⟩) (fun q => ⟨.inr rfl, by omega, fun q => by omega, fun _ => ⟨by omega, by omega, by omega, good e1 e2 e3 e4 1 (by rw [if_neg q])⟩⟩)
theorem tu_seen (hI : sI μ) (hx : 0 ≤ x4 ∧ x4 + 3 < Lz) (hsc : ∀ j, sx_R (sc j)) (hk : ∀ μ1, sI μ1 → r43 (x4 + 4) μ1) : sw_L_law_1058 sc Lz r43 x4 μ := by
  have hK := hI.2.2.2.1.1
  unfold sw_L_law_1058 sw_L_seen sw_S_seen
  have bad1 : ¬ (0 ≤ sc (x4 + 1) ∧ sc (x4 + 1) < 4 ∧ 0 ≤ sc (x4 + 2) ∧ sc (x4 + 2) < 4 ∧ 0 ≤ sc (x4 + 3) ∧ sc (x4 + 3) < 20) → (0 ≤ x4 + 1 ∧ x4 + 1 < Lz) ∧ (0 ≤ x4 + 2 ∧ x4 + 2 < Lz) ∧ (0 ≤ x4 + 3 ∧ x4 + 3 < Lz) ∧ sw_M_seen (fun v2 μ2 => (sw_M_thrown (fun v3 μ3 => ((sx_R v3 ∧ sx_R 1) ∧ (v3 = 1 → (sx_R 1 ∧ (¬ (1 : Int) = 0 → (sw_L_law_1135 sc Lz r43 x4 μ3)) ∧ ((1 : Int) = 0 → ((0 ≤ (0 : Int) ∧ (0 : Int) < 1) ∧ (sx_R v2 ∧ ((sx_R (μ3 30 0) ∧ sx_R v2) ∧ (sx_R (sx_cmp (μ3 30 0) v2) ∧ ((sx_cmp (μ3 30 0) v2) = 0 → (sw_L_law_1135 sc Lz r43 x4 μ3)) ∧ (¬ (sx_cmp (μ3 30 0) v2) = 0 → ((0 : Int) = 1))))))))) ∧ (¬ v3 = 1 → ((0 : Int) = 1)))) μ2)) μ (sc (x4 + 1)) (sc (x4 + 2)) (sc (x4 + 3)) := by
    intro e
    refine ⟨by omega, by omega, by omega, ?_⟩
    unfold sw_M_seen sw_M_seen_17 sw_M_seen_40 sw_M_seen_67 sw_M_thrown
    have fin := endA (μ := sx_up μ 19 0 1) (R := fun μ => r43 (x4 + 4) μ) (k := 1) (v := 0) (by omega) (th_0 _ _) (by omega) (hk _ (sI_th hI 1))
    refine sp_noOne (hsc _) (hsc _) (fun _ => ⟨by omega, fun _ => thP (by omega) fin, fun q => by omega⟩) (fun q1 q2 q3 q4 => ⟨by omega, fun q => absurd rfl q, fun _ => ?_⟩)
    exact sp_noOne (hsc _) (hsc _) (fun _ => ⟨by omega, fun q => by omega, fun _ => thP (by omega) fin⟩) (fun q5 q6 q7 q8 => by omega)
  refine ⟨by omega, by omega, by omega, sp_needPlace (hsc _) (by omega) (fun e => ⟨.inl rfl, fun _ => bad1 (by omega), fun q => absurd q (by decide)⟩) (fun e1 e2 => sp_needPlace (hsc _) (by omega) (fun e => ⟨.inl rfl, fun _ => bad1 (by omega), fun q => absurd q (by decide)⟩) (fun e3 e4 => sp_needPlace (hsc _) (by omega) (fun e => ⟨.inl rfl, fun _ => bad1 (by omega), fun q => absurd q (by decide)⟩) (fun e5 e6 => ?_)))⟩
  have a1 := hK (20 * sc (x4 + 1) + sc (x4 + 3)) (by omega) (by omega)
  have a2 := hK (20 * sc (x4 + 2) + sc (x4 + 3)) (by omega) (by omega)
  refine sp_has hK ⟨e1, e2⟩ ⟨e5, e6⟩ (fun e => ⟨by omega, fun q => absurd rfl q, fun _ => ⟨.inr rfl, fun q => absurd q (by decide), fun _ => ⟨by omega, by omega, by omega, ?_⟩⟩⟩) (fun e => ⟨by omega, fun _ => sp_of ⟨e3, e4⟩ ⟨e5, e6⟩ ⟨by omega, by omega, by omega, by omega, by omega, ?_⟩, fun q => by omega⟩)
  · unfold sw_M_seen sw_M_seen_17 sw_M_seen_40 sw_M_seen_67 sw_M_thrown
    have fin := endA (μ := sx_up μ 19 0 2) (R := fun μ => r43 (x4 + 4) μ) (k := 2) (v := 0) (by omega) (th_0 _ _) (by omega) (hk _ (sI_th hI 2))
    refine sp_noOne (hsc _) (hsc _) (fun q => by omega) (fun q1 q2 q3 q4 => ⟨by omega, fun q => absurd rfl q, fun _ => ?_⟩)
    exact sp_noOne (hsc _) (hsc _) (fun q => by omega) (fun q5 q6 q7 q8 => ⟨by omega, fun _ => ⟨by omega, by omega, fun q => by omega, fun _ => thP (by omega) fin⟩, fun q => absurd rfl q⟩)
  · have hO := sI_out hI (μ 17 (20 * sc (x4 + 2) + sc (x4 + 3)))
    have hT := sI_th hO 0
    unfold sw_M_seen sw_M_seen_17 sw_M_seen_40 sw_M_seen_67 sw_M_thrown
    refine sp_noOne (hsc _) (hsc _) (fun q => by omega) (fun q1 q2 q3 q4 => ⟨by omega, fun q => absurd rfl q, fun _ => ?_⟩)
    refine sp_noOne (hsc _) (hsc _) (fun q => by omega) (fun q5 q6 q7 q8 => ⟨by omega, fun _ => ⟨by omega, ?_⟩, fun q => absurd rfl q⟩)
    rw [out_c _ _ (show 29 ≠ 30 by omega)]
    refine ⟨by omega, fun _ => thZ ⟨by omega, ?_⟩, fun q => by omega⟩
    have ev : sx_up (sx_up μ 30 0 (μ 17 (20 * sc (x4 + 2) + sc (x4 + 3)))) 19 0 0 29 (20 * sc (x4 + 2) + sc (x4 + 3)) - 1 = μ 17 (20 * sc (x4 + 2) + sc (x4 + 3)) := by
      rw [th_c _ _ (show 29 ≠ 19 by omega), out_c _ _ (show 29 ≠ 30 by omega)]
      omega
    rw [ev]
    refine endA (R := fun μ => r43 (x4 + 4) μ) (by omega) (th_0 _ _) (fun _ => ⟨by omega, ?_⟩) (hk _ hT)
    rw [th_c _ _ (by omega), out_0]
theorem tu_joined (hI : sI μ) (hx : 0 ≤ x4 ∧ x4 + 3 < Lz) (hsc : ∀ j, sx_R (sc j)) (hk : ∀ μ1, sI μ1 → r43 (x4 + 4) μ1) : sw_L_law_787 sc Lz r43 x4 μ := by
  obtain ⟨j1, j2, j3, j4, j5, j6⟩ := hI.2.2.2.2
  unfold sw_L_law_787 sw_L_joined sw_S_joined
  refine ⟨by omega, by omega, fun e => ?_, fun e => ⟨.inl rfl, fun _ => ⟨by omega, ?_⟩, fun q => absurd q (by decide)⟩⟩
  · refine sp_needPlace (hsc _) (by omega) (fun e => ⟨.inr rfl, fun q => absurd q (by decide), fun _ => ⟨by omega, ?_⟩⟩) (fun e1 e2 => ?_)
    · unfold sw_M_joined sw_M_joined_31 sw_M_joined_51 sw_M_thrown
      refine ⟨by omega, fun _ => sp_isIn (hsc _) (by omega) (by omega) (fun _ => ⟨by omega, fun q => absurd rfl q, fun _ => thP (by omega) ?_⟩) (fun q1 q2 => by omega), fun q => by omega⟩
      exact endA (R := fun μ => r43 (x4 + 4) μ) (by omega) (th_0 _ _) (by omega) (hk _ (sI_th hI 2))
    · have k1 := j6 (sc (x4 + 1)) e1 e2
      have hO := sI_out hI (μ 15 (sc (x4 + 1)))
      have hT := sI_th hO 0
      refine ⟨by omega, by omega, by omega, by omega, ?_⟩
      unfold sw_M_joined sw_M_joined_31 sw_M_joined_51 sw_M_thrown
      rw [out_c _ _ (show 19 ≠ 30 by omega)]
      refine ⟨by omega, fun _ => sp_isIn (hsc _) (by omega) (by omega) (fun q => by omega) (fun q1 q2 => ⟨by omega, fun _ => thZ ⟨by omega, ?_⟩, fun q => by omega⟩), fun q => by omega⟩
      rw [th_c _ _ (show 28 ≠ 19 by omega), out_c _ _ (show 28 ≠ 30 by omega), k1.1]
      refine endA (R := fun μ => r43 (x4 + 4) μ) (by omega) (th_0 _ _) (fun _ => ⟨by omega, ?_⟩) (hk _ hT)
      rw [th_c _ _ (by omega), out_0]
  · unfold sw_M_joined sw_M_joined_31 sw_M_joined_51 sw_M_thrown
    refine ⟨by omega, fun q => by omega, fun _ => thP (by omega) ?_⟩
    exact endA (R := fun μ => r43 (x4 + 4) μ) (by omega) (th_0 _ _) (by omega) (hk _ (sI_th hI 1))
noncomputable def cntV (μ : sx_M) (a : Int) : Int := if a = 0 then μ 0 7 else if a = 1 then sT (swF (μ 17)) 20 else if a = 2 then sT (haF (μ 17)) 20 else if a = 3 then μ 3 3 else -1
theorem sp_countC {a : Int} (hI : sI μ) (ha : sx_R a) (h : Q (cntV μ a) μ) : sw_S_count Q μ a := by
  obtain ⟨hp, hR, hU, hC, hJ⟩ := hI
  unfold sw_S_count
  unfold cntV at h
  refine ⟨ha, fun e => ?_, fun e => ?_, fun e => ?_, fun e => ?_, fun e => ?_⟩
  · rw [if_pos e] at h
    exact h
  · rw [if_neg (by omega), if_pos e] at h
    exact lp_stones hC.1 h 600 0 0 (by omega) (by omega) (by omega) rfl
  · rw [if_neg (by omega), if_neg (by omega), if_pos e] at h
    rw [hC.2]
    exact h
  · rw [if_neg (by omega), if_neg (by omega), if_neg (by omega), if_pos e] at h
    exact h
  · rw [if_neg (by omega), if_neg (by omega), if_neg (by omega), if_neg (by omega)] at h
    exact h
theorem sp_countM {a : Int} (hI : sI μ) (ha : sx_R a) (h : Q (cntV μ a) (sx_up μ 19 0 0)) : sw_M_count Q μ a := by
  have hT := sI_th hI 0
  obtain ⟨hp, hR, hU, hC, hJ⟩ := hT
  unfold sw_M_count
  unfold cntV at h
  have e17 : sx_up μ 19 0 0 17 = μ 17 := th_c _ _ (by omega)
  refine lp_count hC.1 (fun n => ?_) 600 0 0 0 (by omega) (by omega) (by omega) rfl rfl
  rw [sw_M_count_12, e17, th_k _ _ (by omega)]
  refine ⟨by omega, fun _ => ⟨ha, fun e => ?_, fun e => ?_, fun e => ?_, fun e => ?_, fun e => ?_⟩, fun q => by omega⟩
  · rw [if_pos e] at h
    rw [hI.2.1.2.2.1]
    exact h
  · rw [if_neg (by omega), if_pos e] at h
    exact h
  · rw [if_neg (by omega), if_neg (by omega), if_pos e] at h
    exact h
  · rw [if_neg (by omega), if_neg (by omega), if_neg (by omega), if_pos e] at h
    refine sp_sumOf (by omega) hp ?_
    rw [← hp.2.2.2.1, th_c _ _ (by omega)]
    exact h
  · rw [if_neg (by omega), if_neg (by omega), if_neg (by omega), if_neg (by omega)] at h
    exact h
theorem tu_count (hI : sI μ) (hx : 0 ≤ x4 ∧ x4 + 3 < Lz) (hsc : ∀ j, sx_R (sc j)) (hk : ∀ μ1, sI μ1 → r43 (x4 + 4) μ1) : sw_L_law_1621 sc Lz r43 x4 μ := by
  have vR : sx_R (cntV μ (sc (x4 + 1))) := by
    have b1 := swB (μ 17)
    have b2 := haB (μ 17)
    have b3 := iP_bd hI.1
    have b4 := hI.2.1.1
    have b5 := hI.2.1.2.1
    unfold cntV
    (repeat' split) <;> omega
  unfold sw_L_law_1621
  refine ⟨by omega, sp_countC hI (hsc _) ⟨by omega, sp_countM hI (hsc _) ⟨⟨vR, vR⟩, fun _ => hk _ (sI_th hI 0), fun q => absurd rfl q⟩⟩⟩
end
