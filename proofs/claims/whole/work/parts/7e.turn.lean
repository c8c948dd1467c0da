variable {Q : Int → sx_M → Prop} {X : String → sx_M → Prop} {μ : sx_M}
theorem sp_ray32 {a b : Int} (h0 : 0 ≤ μ 0 7) (h8 : μ 0 7 ≤ 8) (hX : 8 ≤ μ 0 7 → X "java/lang/IllegalStateException" μ) (hQ : μ 0 7 < 8 → Q (μ 0 7) (sx_up (sx_up (sx_up μ 1 (μ 0 7) a) 2 (μ 0 7) b) 0 7 (μ 0 7 + 1))) : sw_S_ray_32 Q X a b μ := by
  unfold sw_S_ray_32
  have c1 : sx_up μ 1 (μ 0 7) a 0 = μ 0 := sx_up_ne _ _ (by omega)
  have c2 : ∀ p q : Int, sx_up (sx_up μ 1 (μ 0 7) a) 2 p q 0 = μ 0 := fun p q => by rw [sx_up_ne _ _ (by omega), c1]
  simp only [c1, c2]
  have c3 : sx_up (sx_up (sx_up μ 1 (μ 0 7) a) 2 (μ 0 7) b) 0 7 (μ 0 7 + 1) 0 7 - 1 = μ 0 7 := by
    rw [sx_up_self]
    simp
  rw [c3]
  exact ⟨by omega, fun q => ⟨by omega, by omega, hQ q⟩, fun q => hX q⟩
section
variable {sc : Int → Int} {Lz : Int} {r43 : Int → sx_M → Prop} {x4 : Int}
theorem tu_rule (hI : sI μ) (hx : 0 ≤ x4 ∧ x4 + 3 < Lz) (hsc : ∀ j, sx_R (sc j)) (hk : ∀ μ1, sI μ1 → r43 (x4 + 4) μ1) : sw_L_law_523 sc Lz r43 x4 μ := by
  unfold sw_L_law_523 sw_L_rule sw_S_rule
  have bad : ¬ (1 ≤ sc (x4 + 1) ∧ sc (x4 + 1) ≤ 10 ∧ 0 ≤ sc (x4 + 2) ∧ sc (x4 + 2) ≤ 255) → (0 ≤ x4 + 1 ∧ x4 + 1 < Lz) ∧ (0 ≤ x4 + 2 ∧ x4 + 2 < Lz) ∧ sw_M_rule (fun v2 μ2 => (sw_M_thrown (fun v3 μ3 => ((sx_R v3 ∧ sx_R 1) ∧ (v3 = 1 → (sw_L_law_1646 sc Lz r43 x4 μ3)) ∧ (¬ v3 = 1 → ((0 : Int) = 1)))) μ2)) μ (sc (x4 + 1)) (sc (x4 + 2)) := by
    intro e
    refine ⟨by omega, by omega, ?_⟩
    unfold sw_M_rule sw_M_rule_22 sw_M_rule_27 sw_M_rule_47 sw_M_thrown
    have fin := endV (μ := sx_up μ 19 0 1) (R := fun μ => r43 (x4 + 4) μ) (k := 1) (by omega) (th_0 _ _) (hk _ (sI_th hI 1))
    refine sp_isIn (hsc _) (by omega) (by omega) (fun _ => ⟨by omega, fun _ => thP' (by omega) fin, fun q => absurd rfl q⟩) (fun q1 q2 => ⟨by omega, fun q => by omega, fun _ => ?_⟩)
    exact sp_isIn (hsc _) (by omega) (by omega) (fun _ => ⟨by omega, fun q => absurd rfl q, fun _ => thP' (by omega) fin⟩) (fun q3 q4 => by omega)
  refine ⟨by omega, by omega, sp_needNumber (hsc _) (by omega) (by omega) (fun e => ⟨rfl, fun _ => bad (by omega)⟩) (fun e1 e2 => sp_needNumber (hsc _) (by omega) (by omega) (fun e => ⟨rfl, fun _ => bad (by omega)⟩) (fun e3 e4 => ⟨by omega, by omega, ?_⟩))⟩
  unfold sw_M_rule sw_M_rule_22 sw_M_rule_27 sw_M_rule_47 sw_M_thrown
  refine sp_isIn (hsc _) (by omega) (by omega) (fun q => by omega) (fun q1 q2 => ⟨by omega, fun q => by omega, fun _ => ?_⟩)
  refine sp_isIn (hsc _) (by omega) (by omega) (fun q => by omega) (fun q3 q4 => ⟨by omega, fun _ => thZ' ?_, fun q => by omega⟩)
  refine endV (R := fun μ => r43 (x4 + 4) μ) (by omega) (by simp [sx_up]) (hk _ ?_)
  obtain ⟨hp, hR, hU, hC, hJ⟩ := hI
  refine ⟨?_, ?_, ?_, ?_, ?_⟩
  · exact iP_fr hp (by funext k; simp [sx_up]) (by funext k; simp [sx_up]) (by funext k; simp [sx_up]) (by simp [sx_up]) (by simp [sx_up])
  · unfold iR at hR ⊢
    simpa [sx_up] using hR
  · unfold iU
    simp [sx_up]
    omega
  · refine ⟨iK_fr hC.1 (by funext k; simp [sx_up]) (by funext k; simp [sx_up]), ?_⟩
    have e := hC.2
    have e17 : ∀ a b c d : Int, sx_up (sx_up (sx_up (sx_up (sx_up μ 0 8 a) 0 9 b) 19 0 0) 19 7 c) 19 8 d 17 = μ 17 := fun a b c d => by funext k; simp [sx_up]
    rw [e17]
    simpa [sx_up] using e
  · unfold iJ at hJ ⊢
    simpa [sx_up] using hJ
theorem tu_ray (hI : sI μ) (hx : 0 ≤ x4 ∧ x4 + 3 < Lz) (hsc : ∀ j, sx_R (sc j)) (hk : ∀ μ1, sI μ1 → r43 (x4 + 4) μ1) : sw_L_law_303 sc Lz r43 x4 μ := by
  unfold sw_L_law_303 sw_L_ray sw_S_ray
  have r1 := hI.2.1.1
  have r2 := hI.2.1.2.1
  have r3 := hI.2.1.2.2.1
  have bad1 : ¬ (-5 ≤ sc (x4 + 1) ∧ sc (x4 + 1) ≤ 5 ∧ -5 ≤ sc (x4 + 2) ∧ sc (x4 + 2) ≤ 5 ∧ ¬ (sc (x4 + 1) = 0 ∧ sc (x4 + 2) = 0)) → (0 ≤ x4 + 1 ∧ x4 + 1 < Lz) ∧ (0 ≤ x4 + 2 ∧ x4 + 2 < Lz) ∧ sw_M_ray (fun v2 μ2 => (sw_M_thrown (fun v3 μ3 => ((sx_R v3 ∧ sx_R 1) ∧ (v3 = 1 → (sx_R 1 ∧ (¬ (1 : Int) = 0 → (sw_L_law_368 sc Lz r43 x4 μ3)) ∧ ((1 : Int) = 0 → ((0 ≤ (0 : Int) ∧ (0 : Int) < 1) ∧ (sx_R v2 ∧ ((sx_R (μ3 30 0) ∧ sx_R v2) ∧ (sx_R (sx_cmp (μ3 30 0) v2) ∧ ((sx_cmp (μ3 30 0) v2) = 0 → (sw_L_law_368 sc Lz r43 x4 μ3)) ∧ (¬ (sx_cmp (μ3 30 0) v2) = 0 → ((0 : Int) = 1))))))))) ∧ (¬ v3 = 1 → ((0 : Int) = 1)))) μ2)) μ (sc (x4 + 1)) (sc (x4 + 2)) := by
    intro e
    refine ⟨by omega, by omega, ?_⟩
    unfold sw_M_ray sw_M_ray_29 sw_M_ray_33 sw_M_ray_47 sw_M_thrown
    have fin := endA (μ := sx_up μ 19 0 1) (R := fun μ => r43 (x4 + 4) μ) (k := 1) (v := 0) (by omega) (th_0 _ _) (by omega) (hk _ (sI_th hI 1))
    refine sp_isIn (hsc _) (by omega) (by omega) (fun _ => ⟨by omega, fun _ => thP (by omega) fin, fun q => absurd rfl q⟩) (fun q1 q2 => ⟨by omega, fun q => by omega, fun _ => ?_⟩)
    refine sp_isIn (hsc _) (by omega) (by omega) (fun _ => ⟨by omega, fun _ => thP (by omega) fin, fun q => absurd rfl q⟩) (fun q3 q4 => ⟨by omega, fun q => by omega, fun _ => ⟨hsc _, fun q => by omega, fun q => ⟨hsc _, fun q => by omega, fun _ => thP (by omega) fin⟩⟩⟩)
  have fits : -5 ≤ sc (x4 + 1) → sc (x4 + 1) ≤ 5 → -5 ≤ sc (x4 + 2) → sc (x4 + 2) ≤ 5 → ¬ (sc (x4 + 1) = 0 ∧ sc (x4 + 2) = 0) → ∀ (μ1 : sx_M) (Q : Int → sx_M → Prop), sw_M_ray_33 Q (sc (x4 + 1)) (sc (x4 + 2)) μ1 → sw_M_ray Q μ1 (sc (x4 + 1)) (sc (x4 + 2)) := by
    intro e1 e2 e3 e4 e5 μ1 Q h
    unfold sw_M_ray
    refine sp_isIn (hsc _) (by omega) (by omega) (fun q => by omega) (fun q1 q2 => ⟨by omega, fun q => by omega, fun _ => ?_⟩)
    exact sp_isIn (hsc _) (by omega) (by omega) (fun q => by omega) (fun q3 q4 => ⟨by omega, fun q => by omega, fun _ => ⟨hsc _, fun _ => h, fun q => ⟨hsc _, fun _ => h, fun q => by omega⟩⟩⟩)
  have full : -5 ≤ sc (x4 + 1) → sc (x4 + 1) ≤ 5 → -5 ≤ sc (x4 + 2) → sc (x4 + 2) ≤ 5 → ¬ (sc (x4 + 1) = 0 ∧ sc (x4 + 2) = 0) → 8 ≤ μ 0 7 → (0 ≤ x4 + 1 ∧ x4 + 1 < Lz) ∧ (0 ≤ x4 + 2 ∧ x4 + 2 < Lz) ∧ sw_M_ray (fun v2 μ2 => (sw_M_thrown (fun v3 μ3 => ((sx_R v3 ∧ sx_R 2) ∧ (v3 = 2 → (sx_R 2 ∧ (¬ (2 : Int) = 0 → (sw_L_law_368 sc Lz r43 x4 μ3)) ∧ ((2 : Int) = 0 → ((0 ≤ (0 : Int) ∧ (0 : Int) < 1) ∧ (sx_R v2 ∧ ((sx_R (μ3 30 0) ∧ sx_R v2) ∧ (sx_R (sx_cmp (μ3 30 0) v2) ∧ ((sx_cmp (μ3 30 0) v2) = 0 → (sw_L_law_368 sc Lz r43 x4 μ3)) ∧ (¬ (sx_cmp (μ3 30 0) v2) = 0 → ((0 : Int) = 1))))))))) ∧ (¬ v3 = 2 → ((0 : Int) = 1)))) μ2)) μ (sc (x4 + 1)) (sc (x4 + 2)) := by
    intro e1 e2 e3 e4 e5 e6
    refine ⟨by omega, by omega, fits e1 e2 e3 e4 e5 _ _ ?_⟩
    unfold sw_M_ray_33 sw_M_ray_47 sw_M_thrown
    exact ⟨by omega, fun q => by omega, fun _ => thP (by omega) (endA (R := fun μ => r43 (x4 + 4) μ) (by omega) (th_0 _ _) (by omega) (hk _ (sI_th hI 2)))⟩
  have ok : -5 ≤ sc (x4 + 1) → sc (x4 + 1) ≤ 5 → -5 ≤ sc (x4 + 2) → sc (x4 + 2) ≤ 5 → ¬ (sc (x4 + 1) = 0 ∧ sc (x4 + 2) = 0) → μ 0 7 < 8 → ∀ v : Int, v = μ 0 7 → (0 ≤ x4 + 1 ∧ x4 + 1 < Lz) ∧ (0 ≤ x4 + 2 ∧ x4 + 2 < Lz) ∧ sw_M_ray (fun v2 μ2 => (sw_M_thrown (fun v3 μ3 => ((sx_R v3 ∧ sx_R 0) ∧ (v3 = 0 → (sx_R 0 ∧ (¬ (0 : Int) = 0 → (sw_L_law_368 sc Lz r43 x4 μ3)) ∧ ((0 : Int) = 0 → ((0 ≤ (0 : Int) ∧ (0 : Int) < 1) ∧ (sx_R v2 ∧ ((sx_R (μ3 30 0) ∧ sx_R v2) ∧ (sx_R (sx_cmp (μ3 30 0) v2) ∧ ((sx_cmp (μ3 30 0) v2) = 0 → (sw_L_law_368 sc Lz r43 x4 μ3)) ∧ (¬ (sx_cmp (μ3 30 0) v2) = 0 → ((0 : Int) = 1))))))))) ∧ (¬ v3 = 0 → ((0 : Int) = 1)))) μ2)) (sx_up (sx_up (sx_up (sx_up μ 1 (μ 0 7) (sc (x4 + 1))) 2 (μ 0 7) (sc (x4 + 2))) 0 7 (μ 0 7 + 1)) 30 0 v) (sc (x4 + 1)) (sc (x4 + 2)) := by
    intro e1 e2 e3 e4 e5 e6 v hv
    refine ⟨by omega, by omega, fits e1 e2 e3 e4 e5 _ _ ?_⟩
    unfold sw_M_ray_33 sw_M_ray_47 sw_M_thrown
    have z4 : sx_up (sx_up (sx_up (sx_up μ 1 (μ 0 7) (sc (x4 + 1))) 2 (μ 0 7) (sc (x4 + 2))) 0 7 (μ 0 7 + 1)) 30 0 v 19 4 = μ 0 7 := by
      simp [sx_up]
      exact r3
    generalize hM : sx_up (sx_up (sx_up (sx_up μ 1 (μ 0 7) (sc (x4 + 1))) 2 (μ 0 7) (sc (x4 + 2))) 0 7 (μ 0 7 + 1)) 30 0 v = M at z4 ⊢
    have y4 : sx_up M 19 0 0 19 4 = μ 0 7 := by rw [th_k _ _ (by omega), z4]
    have y5 : ∀ a b : Int, sx_up (sx_up M 19 0 0) 21 a b 19 4 = μ 0 7 := fun a b => by rw [sx_up_ne _ _ (by omega), y4]
    have y6 : ∀ a b c d : Int, sx_up (sx_up (sx_up M 19 0 0) 21 a b) 22 c d 19 4 = μ 0 7 := fun a b c d => by rw [sx_up_ne _ _ (by omega), y5]
    rw [z4]
    refine ⟨by omega, fun _ => thZ ?_, fun q => by omega⟩
    rw [y4, y5, y6]
    refine ⟨by omega, by omega, ?_⟩
    have vv : sx_up (sx_up (sx_up (sx_up M 19 0 0) 21 (μ 0 7) (sc (x4 + 1))) 22 (μ 0 7) (sc (x4 + 2))) 19 4 (μ 0 7 + 1) 19 4 - 1 = μ 0 7 := by
      rw [sx_up_self]
      simp
    rw [vv]
    refine endA (μ := sx_up (sx_up (sx_up (sx_up M 19 0 0) 21 (μ 0 7) (sc (x4 + 1))) 22 (μ 0 7) (sc (x4 + 2))) 19 4 (μ 0 7 + 1)) (v := μ 0 7) (R := fun μ => r43 (x4 + 4) μ) (k := 0) (by omega) (by simp [sx_up]) (fun _ => ⟨by omega, ?_⟩) (hk _ ?_)
    · subst hM
      simp [sx_up]
      exact hv
    · subst hM
      obtain ⟨hp, hR, hU, hC, hJ⟩ := hI
      refine ⟨?_, ?_, ?_, ?_, ?_⟩
      · exact iP_fr hp (by funext k; simp [sx_up]) (by funext k; simp [sx_up]) (by funext k; simp [sx_up]) (by simp [sx_up]) (by simp [sx_up])
      · refine ⟨by simp [sx_up]; omega, by simp [sx_up]; omega, by simp [sx_up], fun k k0 k1 => ?_⟩
        have k1' : k < μ 0 7 + 1 := by simpa [sx_up] using k1
        by_cases ek : k = μ 0 7
        · simp [sx_up, ek]
          omega
        · have := hR.2.2.2 k k0 (by omega)
          simpa [sx_up, ek] using this
      · unfold iU at hU ⊢
        simpa [sx_up] using hU
      · refine ⟨iK_fr hC.1 (by funext k; simp [sx_up]) (by funext k; simp [sx_up]), ?_⟩
        have e := hC.2
        have e17 : ∀ a b c d e f g : Int, sx_up (sx_up (sx_up (sx_up (sx_up (sx_up (sx_up (sx_up μ 1 (μ 0 7) a) 2 (μ 0 7) b) 0 7 c) 30 0 d) 19 0 0) 21 (μ 0 7) e) 22 (μ 0 7) f) 19 4 g 17 = μ 17 := fun a b c d e f g => by funext k; simp [sx_up]
        rw [e17]
        simpa [sx_up] using e
      · unfold iJ at hJ ⊢
        simpa [sx_up] using hJ
  refine ⟨by omega, by omega, sp_needNumber (hsc _) (by omega) (by omega) (fun e => ⟨.inl rfl, fun _ => bad1 (by omega), fun q => absurd q (by decide)⟩) (fun e1 e2 => sp_needNumber (hsc _) (by omega) (by omega) (fun e => ⟨.inl rfl, fun _ => bad1 (by omega), fun q => absurd q (by decide)⟩) (fun e3 e4 => ?_))⟩
  refine ⟨hsc _, fun q => sp_ray32 r1 r2 (fun q2 => ⟨.inr rfl, fun q => absurd q (by decide), fun _ => full e1 e2 e3 e4 (by omega) q2⟩) (fun q2 => ⟨by omega, by omega, ok e1 e2 e3 e4 (by omega) q2 _ rfl⟩), fun q => ⟨hsc _, fun q3 => sp_ray32 r1 r2 (fun q2 => ⟨.inr rfl, fun q => absurd q (by decide), fun _ => full e1 e2 e3 e4 (by omega) q2⟩) (fun q2 => ⟨by omega, by omega, ok e1 e2 e3 e4 (by omega) q2 _ rfl⟩), fun q3 => ⟨.inl rfl, fun _ => bad1 (by omega), fun q => absurd q (by decide)⟩⟩⟩
end
