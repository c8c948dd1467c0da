variable {Q : Int → sx_M → Prop} {X : String → sx_M → Prop} {μ : sx_M}
section
variable {sc : Int → Int} {Lz : Int} {r43 : Int → sx_M → Prop} {x4 : Int}
theorem tu_agree (hI : sI μ) (hx : 0 ≤ x4 ∧ x4 + 3 < Lz) (hsc : ∀ j, sx_R (sc j)) (hk : ∀ μ1, sI μ1 → r43 (x4 + 4) μ1) : sw_L_law_1138 sc Lz r43 x4 μ := by
  have hK := hI.2.2.2.1.1
  unfold sw_L_law_1138 sw_L_agree sw_S_agree
  refine ⟨by omega, by omega, by omega, sp_needPair (hsc _) (hsc _) (hsc _) (fun e => ⟨rfl, fun _ => ⟨by omega, by omega, by omega, ?_⟩⟩) (fun e1 e2 e3 e4 e5 e6 => ?_)⟩
  · unfold sw_M_agree sw_M_agree_16 sw_M_thrown
    refine sp_noTwo (hsc _) (hsc _) (hsc _) (fun _ => ⟨by omega, fun q => by omega, fun _ => ?_⟩) (fun q1 q2 q3 q4 q5 q6 => by omega)
    rw [show (600 : Nat) = 599 + 1 from rfl, sw_M_agree_28]
    unfold sw_M_agree_117 sw_M_agree_136
    rw [th_0]
    exact ⟨by omega, fun _ => by omega, fun _ => ⟨by omega, fun _ => ⟨by omega, fun _ => by omega, fun _ => endA (R := fun μ => r43 (x4 + 4) μ) (by omega) (th_0 _ _) (by omega) (hk _ (sI_th hI 1))⟩, fun q => by omega⟩⟩
  · have b1 := alB (μ 17) (sc (x4 + 1)) (sc (x4 + 2))
    have b2 := shB (μ 17) (sc (x4 + 1)) (sc (x4 + 2))
    have fb := fP_bd (a := sT (alF (μ 17) (sc (x4 + 1)) (sc (x4 + 2))) 20) (b := sT (shF (μ 17) (sc (x4 + 1)) (sc (x4 + 2))) 20) (p := sc (x4 + 3)) (by omega) b2 ⟨e5, e6⟩
    unfold sw_D_alike sw_D_shared
    refine lp_alike hK ⟨e1, e2⟩ ⟨e3, e4⟩ ?_ 600 0 0 (by omega) (by omega) (by omega) rfl
    refine lp_shared hK ⟨e1, e2⟩ ⟨e3, e4⟩ ?_ 600 0 0 (by omega) (by omega) (by omega) rfl
    refine sp_fractionPart (by omega) b2 ⟨e5, e6⟩ ⟨fb, by omega, by omega, by omega, by omega, ?_⟩
    have hO := sI_out hI (fP (sT (alF (μ 17) (sc (x4 + 1)) (sc (x4 + 2))) 20) (sT (shF (μ 17) (sc (x4 + 1)) (sc (x4 + 2))) 20) (sc (x4 + 3)))
    have hT := sI_th hO 0
    unfold sw_M_agree sw_M_agree_16 sw_M_thrown
    refine sp_noTwo (hsc _) (hsc _) (hsc _) (fun q => by omega) (fun _ _ _ _ _ _ => ⟨by omega, fun _ => ?_, fun q => absurd rfl q⟩)
    refine lp_agreeM hT.2.2.2.1.1 (th_0 _ _) ⟨e1, e2⟩ ⟨e3, e4⟩ ⟨e5, e6⟩ ?_ 600 0 0 0 (by omega) (by omega) (by omega) rfl rfl
    rw [th_c _ _ (show 17 ≠ 19 by omega), out_c _ _ (show 17 ≠ 30 by omega)]
    refine endA (R := fun μ => r43 (x4 + 4) μ) (by omega) (th_0 _ _) (fun _ => ⟨fb, ?_⟩) (hk _ hT)
    rw [th_c _ _ (by omega), out_0]
theorem tu_bias (hI : sI μ) (hx : 0 ≤ x4 ∧ x4 + 3 < Lz) (hsc : ∀ j, sx_R (sc j)) (hk : ∀ μ1, sI μ1 → r43 (x4 + 4) μ1) : sw_L_law_1218 sc Lz r43 x4 μ := by
  have hK := hI.2.2.2.1.1
  unfold sw_L_law_1218 sw_L_bias sw_S_bias
  refine ⟨by omega, by omega, by omega, sp_needPair (hsc _) (hsc _) (hsc _) (fun e => ⟨rfl, fun _ => ⟨by omega, by omega, by omega, ?_⟩⟩) (fun e1 e2 e3 e4 e5 e6 => ?_)⟩
  · unfold sw_M_bias sw_M_bias_16 sw_M_thrown
    refine sp_noTwo (hsc _) (hsc _) (hsc _) (fun _ => ⟨by omega, fun q => by omega, fun _ => ?_⟩) (fun q1 q2 q3 q4 q5 q6 => by omega)
    rw [show (600 : Nat) = 599 + 1 from rfl, sw_M_bias_28]
    unfold sw_M_bias_114 sw_M_bias_133
    rw [th_0]
    exact ⟨by omega, fun _ => by omega, fun _ => ⟨by omega, fun _ => ⟨by omega, fun _ => by omega, fun _ => endA (R := fun μ => r43 (x4 + 4) μ) (by omega) (th_0 _ _) (by omega) (hk _ (sI_th hI 1))⟩, fun q => by omega⟩⟩
  · have b1 := exB hK ⟨e1, e2⟩ ⟨e3, e4⟩
    have b2 := shB (μ 17) (sc (x4 + 1)) (sc (x4 + 2))
    have fb := fP_bd (a := sT (exF (μ 17) (sc (x4 + 1)) (sc (x4 + 2))) 20) (b := sT (shF (μ 17) (sc (x4 + 1)) (sc (x4 + 2))) 20) (p := sc (x4 + 3)) (by omega) b2 ⟨e5, e6⟩
    unfold sw_D_excess sw_D_shared
    refine lp_excess hK ⟨e1, e2⟩ ⟨e3, e4⟩ ?_ 600 0 0 (by omega) (by omega) (by omega) rfl
    refine lp_shared hK ⟨e1, e2⟩ ⟨e3, e4⟩ ?_ 600 0 0 (by omega) (by omega) (by omega) rfl
    refine sp_fractionPart (by omega) b2 ⟨e5, e6⟩ ⟨fb, by omega, by omega, by omega, by omega, ?_⟩
    have hO := sI_out hI (fP (sT (exF (μ 17) (sc (x4 + 1)) (sc (x4 + 2))) 20) (sT (shF (μ 17) (sc (x4 + 1)) (sc (x4 + 2))) 20) (sc (x4 + 3)))
    have hT := sI_th hO 0
    unfold sw_M_bias sw_M_bias_16 sw_M_thrown
    refine sp_noTwo (hsc _) (hsc _) (hsc _) (fun q => by omega) (fun _ _ _ _ _ _ => ⟨by omega, fun _ => ?_, fun q => absurd rfl q⟩)
    refine lp_biasM hT.2.2.2.1.1 (th_0 _ _) ⟨e1, e2⟩ ⟨e3, e4⟩ ⟨e5, e6⟩ ?_ 600 0 0 0 (by omega) (by omega) (by omega) rfl rfl
    rw [th_c _ _ (show 17 ≠ 19 by omega), out_c _ _ (show 17 ≠ 30 by omega)]
    refine endA (R := fun μ => r43 (x4 + 4) μ) (by omega) (th_0 _ _) (fun _ => ⟨fb, ?_⟩) (hk _ hT)
    rw [th_c _ _ (by omega), out_0]
theorem sp_ageM {a b c k v : Int} (hI : sI μ) (ha : sx_R a) (hb : sx_R b) (hc : sx_R c) (hk : k = if ¬ (0 ≤ a ∧ a < 20) then 1 else if ¬ (0 ≤ b ∧ b ≤ 364 ∧ 0 ≤ c ∧ c ≤ 364) then 2 else 0) (hv : k = 0 → v = if 0 < toldF (μ 17) a ∧ b < c then toldF (μ 17) a - 1 else toldF (μ 17) a) (h : k = 0 → Q v (sx_up μ 19 0 0)) (h' : 0 < k → Q 0 (sx_up μ 19 0 k)) : sw_M_age Q μ a b c := by
  have hT := sI_th hI 0
  unfold sw_M_age sw_M_age_37 sw_M_age_42 sw_M_age_78 sw_M_age_80
  have b2 : 0 ≤ a → a < 20 → ¬ (0 ≤ b ∧ b ≤ 364 ∧ 0 ≤ c ∧ c ≤ 364) → k = 2 := by
    intro q1 q2 q3
    rw [hk, if_neg (by omega), if_pos q3]
  have g0 : 0 ≤ a → a < 20 → (0 ≤ b ∧ b ≤ 364 ∧ 0 ≤ c ∧ c ≤ 364) → k = 0 := by
    intro q1 q2 q3
    rw [hk, if_neg (by omega), if_neg (by omega)]
  refine sp_isIn ha (by omega) (by omega) (fun e => ⟨by omega, fun q => absurd rfl q, fun _ => thP (by omega) ?_⟩) (fun e1 e2 => ⟨by omega, fun _ => ?_, fun q => by omega⟩)
  · have : k = 1 := by rw [hk, if_pos (by omega)]
    rw [this] at h'
    exact h' (by omega)
  · refine sp_isIn hb (by omega) (by omega) (fun e => ⟨by omega, fun _ => thP (by omega) ?_, fun q => absurd rfl q⟩) (fun e3 e4 => ⟨by omega, fun q => by omega, fun _ => ?_⟩)
    · rw [b2 e1 (by omega) (by omega)] at h'
      exact h' (by omega)
    · refine sp_isIn hc (by omega) (by omega) (fun e => ⟨by omega, fun q => absurd rfl q, fun _ => thP (by omega) ?_⟩) (fun e5 e6 => ⟨by omega, fun _ => thZ ?_, fun q => by omega⟩)
      · rw [b2 e1 (by omega) (by omega)] at h'
        exact h' (by omega)
      · have k0 := g0 e1 (by omega) ⟨e3, e4, e5, e6⟩
        have hv0 := hv k0
        have hq := h k0
        refine sp_toldOf hT.2.2.2.1.1 ⟨e1, by omega⟩ (fun t ht t1 t2 => ?_)
        rw [th_c _ _ (by omega)] at ht
        rw [← ht] at hv0
        refine ⟨by omega, fun q => ?_, fun q => ⟨by omega, fun q2 => ?_, fun q2 => ?_⟩⟩
        · rw [if_neg (by omega)] at hv0
          rw [← hv0]
          exact hq
        · rw [if_neg (by omega)] at hv0
          rw [← hv0]
          exact hq
        · rw [if_pos ⟨q, q2⟩] at hv0
          rw [← hv0]
          exact hq
theorem tu_age (hI : sI μ) (hx : 0 ≤ x4 ∧ x4 + 3 < Lz) (hsc : ∀ j, sx_R (sc j)) (hk : ∀ μ1, sI μ1 → r43 (x4 + 4) μ1) : sw_L_law_1466 sc Lz r43 x4 μ := by
  have hK := hI.2.2.2.1.1
  unfold sw_L_law_1466 sw_L_age sw_S_age sw_S_age_58
  have bad : ∀ k : Int, 0 < k ∧ k ≤ 3 → k = (if ¬ (0 ≤ sc (x4 + 1) ∧ sc (x4 + 1) < 20) then 1 else if ¬ (0 ≤ sc (x4 + 2) ∧ sc (x4 + 2) ≤ 364 ∧ 0 ≤ sc (x4 + 3) ∧ sc (x4 + 3) ≤ 364) then 2 else 0) → sw_M_age (fun v2 μ2 => sw_M_thrown (fun v3 μ3 => ((sx_R v3 ∧ sx_R k) ∧ (v3 = k → (sx_R k ∧ (¬ k = 0 → (sw_L_law_1543 sc Lz r43 x4 μ3)) ∧ (k = 0 → ((0 ≤ (0 : Int) ∧ (0 : Int) < 1) ∧ (sx_R v2 ∧ ((sx_R (μ3 30 0) ∧ sx_R v2) ∧ (sx_R (sx_cmp (μ3 30 0) v2) ∧ ((sx_cmp (μ3 30 0) v2) = 0 → (sw_L_law_1543 sc Lz r43 x4 μ3)) ∧ (¬ (sx_cmp (μ3 30 0) v2) = 0 → ((0 : Int) = 1))))))))) ∧ (¬ v3 = k → ((0 : Int) = 1)))) μ2) μ (sc (x4 + 1)) (sc (x4 + 2)) (sc (x4 + 3)) := by
    intro k kb ke
    refine sp_ageM (v := 0) hI (hsc _) (hsc _) (hsc _) ke (by omega) (by omega) (fun _ => ?_)
    unfold sw_M_thrown
    exact endA (R := fun μ => r43 (x4 + 4) μ) (by omega) (th_0 _ _) (by omega) (hk _ (sI_th hI k))
  have good : 0 ≤ sc (x4 + 1) → sc (x4 + 1) < 20 → 0 ≤ sc (x4 + 2) → sc (x4 + 2) ≤ 364 → 0 ≤ sc (x4 + 3) → sc (x4 + 3) ≤ 364 → ∀ v : Int, sx_R v → v = (if 0 < toldF (μ 17) (sc (x4 + 1)) ∧ sc (x4 + 2) < sc (x4 + 3) then toldF (μ 17) (sc (x4 + 1)) - 1 else toldF (μ 17) (sc (x4 + 1))) → sw_M_age (fun v2 μ2 => sw_M_thrown (fun v3 μ3 => ((sx_R v3 ∧ sx_R 0) ∧ (v3 = 0 → (sx_R 0 ∧ (¬ (0 : Int) = 0 → (sw_L_law_1543 sc Lz r43 x4 μ3)) ∧ ((0 : Int) = 0 → ((0 ≤ (0 : Int) ∧ (0 : Int) < 1) ∧ (sx_R v2 ∧ ((sx_R (μ3 30 0) ∧ sx_R v2) ∧ (sx_R (sx_cmp (μ3 30 0) v2) ∧ ((sx_cmp (μ3 30 0) v2) = 0 → (sw_L_law_1543 sc Lz r43 x4 μ3)) ∧ (¬ (sx_cmp (μ3 30 0) v2) = 0 → ((0 : Int) = 1))))))))) ∧ (¬ v3 = 0 → ((0 : Int) = 1)))) μ2) (sx_up μ 30 0 v) (sc (x4 + 1)) (sc (x4 + 2)) (sc (x4 + 3)) := by
    intro e1 e2 e3 e4 e5 e6 v vR hv
    have hO := sI_out hI v
    refine sp_ageM (k := 0) (v := v) hO (hsc _) (hsc _) (hsc _) (by rw [if_neg (by omega), if_neg (by omega)]) (fun _ => by rw [out_c _ _ (by omega)]; exact hv) (fun _ => ?_) (by omega)
    unfold sw_M_thrown
    refine endA (R := fun μ => r43 (x4 + 4) μ) (by omega) (th_0 _ _) (fun _ => ⟨vR, ?_⟩) (hk _ (sI_th hO 0))
    rw [th_c _ _ (by omega), out_0]
  refine ⟨by omega, by omega, by omega, sp_needPlace (hsc _) (by omega) (fun e => ⟨.inl rfl, fun _ => ⟨by omega, by omega, by omega, bad 1 (by omega) (by rw [if_pos (by omega)])⟩, fun q => absurd q (by decide)⟩) (fun e1 e2 => ?_)⟩
  refine sp_needNumber (hsc _) (by omega) (by omega) (fun e => ⟨.inr rfl, fun q => absurd q (by decide), fun _ => ⟨by omega, by omega, by omega, bad 2 (by omega) (by rw [if_neg (by omega), if_pos (by omega)])⟩⟩) (fun e3 e4 => ?_)
  refine sp_needNumber (hsc _) (by omega) (by omega) (fun e => ⟨.inr rfl, fun q => absurd q (by decide), fun _ => ⟨by omega, by omega, by omega, bad 2 (by omega) (by rw [if_neg (by omega), if_pos (by omega)])⟩⟩) (fun e5 e6 => ?_)
  refine sp_mostTold hK ⟨e1, e2⟩ (fun b hb b1 b2 => ⟨by omega, fun q => ⟨by omega, fun q2 => ⟨by omega, by omega, by omega, by omega, by omega, ?_⟩, fun q2 => ⟨by omega, ?_⟩⟩, fun q => ⟨by omega, by omega, by omega, by omega, by omega, ?_⟩⟩)
  · exact good e1 e2 e3 e4 e5 e6 b (by omega) (by rw [← hb, if_neg (by omega)])
  · have hm : sx_R (if b - 1 < 0 then 0 else b - 1) := by split <;> omega
    refine ⟨hm, by omega, by omega, by omega, by omega, good e1 e2 e3 e4 e5 e6 _ hm ?_⟩
    rw [← hb]
    split <;> split <;> omega
  · exact good e1 e2 e3 e4 e5 e6 (-1) (by omega) (by rw [← hb, if_neg (by omega)]; omega)
end
