variable {Q : Int → sx_M → Prop} {X : String → sx_M → Prop} {μ : sx_M}
theorem sp_putD {r s c : Int} (hr : 0 ≤ r ∧ r < 4) (hs : 0 ≤ s ∧ s < 20) (h : Q 0 (sx_up (sx_up μ 17 (20 * r + s) c) 16 2 (μ 16 2 + 1))) : sw_D_put Q μ r s c := by
  unfold sw_D_put
  rw [show r * 20 + s = 20 * r + s by omega, sx_up_ne _ _ (show 16 ≠ 17 by omega)]
  exact ⟨by omega, h⟩
theorem haF_up {c : Int → Int} {r s v : Int} (hr : 0 ≤ r ∧ r < 4) (hs : 0 ≤ s ∧ s < 20) (h : c (20 * r + s) = -1) (hv : v ≠ -1) : sT (haF (fun q => if q = 20 * r + s then v else c q)) 20 = sT (haF c) 20 + 1 := by
  rw [sT_up' (f := haF c) (k0 := s) (fun k k0 k1 kn => ?_) hs.1 hs.2]
  · have : haF (fun q => if q = 20 * r + s then v else c q) s = haF c s + 1 := by
      unfold haF
      rw [sT_up' (f := haT c s) (k0 := r) (fun k k0 k1 kn => ?_) hr.1 hr.2]
      · have e1 : haT (fun q => if q = 20 * r + s then v else c q) s r = 1 := by
          unfold haT
          simp only [if_true]
          rw [if_neg hv]
        have e2 : haT c s r = 0 := by
          unfold haT
          rw [if_pos h]
        rw [e1, e2]
        omega
      · unfold haT
        have : ¬ (20 * k + s = 20 * r + s) := by omega
        simp only [this, if_false]
    rw [this]
    omega
  · unfold haF
    refine sT_congr (fun q q0 q1 => ?_)
    unfold haT
    have : ¬ (20 * q + k = 20 * r + s) := by omega
    simp only [this, if_false]
section
variable {sc : Int → Int} {Lz : Int} {r43 : Int → sx_M → Prop} {x4 : Int}
theorem tu_tell (hI : sI μ) (hx : 0 ≤ x4 ∧ x4 + 3 < Lz) (hsc : ∀ j, sx_R (sc j)) (hk : ∀ μ1, sI μ1 → r43 (x4 + 4) μ1) : sw_L_law_923 sc Lz r43 x4 μ := by
  have hK := hI.2.2.2.1.1
  unfold sw_L_law_923 sw_L_tell sw_S_tell
  have bad1 : ¬ (0 ≤ sc (x4 + 1) ∧ sc (x4 + 1) < 4 ∧ 0 ≤ sc (x4 + 2) ∧ sc (x4 + 2) < 20) → (0 ≤ x4 + 1 ∧ x4 + 1 < Lz) ∧ (0 ≤ x4 + 2 ∧ x4 + 2 < Lz) ∧ (0 ≤ x4 + 3 ∧ x4 + 3 < Lz) ∧ sw_M_tell (fun v2 μ2 => (sw_M_thrown (fun v3 μ3 => ((sx_R v3 ∧ sx_R 1) ∧ (v3 = 1 → (sw_L_law_1646 sc Lz r43 x4 μ3)) ∧ (¬ v3 = 1 → ((0 : Int) = 1)))) μ2)) μ (sc (x4 + 1)) (sc (x4 + 2)) (sc (x4 + 3)) := by
    intro e
    refine ⟨by omega, by omega, by omega, ?_⟩
    unfold sw_M_tell sw_M_tell_46 sw_M_tell_70 sw_M_thrown
    exact sp_noOne (hsc _) (hsc _) (fun _ => ⟨by omega, fun q => by omega, fun _ => thP' (by omega) (endV (R := fun μ => r43 (x4 + 4) μ) (by omega) (th_0 _ _) (hk _ (sI_th hI 1)))⟩) (fun q1 q2 q3 q4 => by omega)
  refine ⟨by omega, by omega, by omega, sp_needPlace (hsc _) (by omega) (fun e => ⟨.inl rfl, fun _ => bad1 (by omega), fun q => absurd q (by decide), fun q => absurd q (by decide)⟩) (fun e1 e2 => sp_needPlace (hsc _) (by omega) (fun e => ⟨.inl rfl, fun _ => bad1 (by omega), fun q => absurd q (by decide), fun q => absurd q (by decide)⟩) (fun e3 e4 => sp_needNumber (hsc _) (by omega) (by omega) (fun e => ⟨.inr (.inl rfl), fun q => absurd q (by decide), fun _ => ⟨by omega, by omega, by omega, ?_⟩, fun q => absurd q (by decide)⟩) (fun e5 e6 => ?_)))⟩
  · unfold sw_M_tell sw_M_tell_46 sw_M_tell_70 sw_M_thrown
    refine sp_noOne (hsc _) (hsc _) (fun q => by omega) (fun q1 q2 q3 q4 => ⟨by omega, fun _ => ?_, fun q => absurd rfl q⟩)
    exact sp_isIn (hsc _) (by omega) (by omega) (fun _ => ⟨by omega, fun q => absurd rfl q, fun _ => thP' (by omega) (endV (R := fun μ => r43 (x4 + 4) μ) (by omega) (th_0 _ _) (hk _ (sI_th hI 2)))⟩) (fun q5 q6 => by omega)
  · have a1 := hK (20 * sc (x4 + 1) + sc (x4 + 2)) (by omega) (by omega)
    refine sp_has hK ⟨e1, e2⟩ ⟨e3, e4⟩ (fun e => ⟨by omega, fun _ => sp_putD ⟨e1, e2⟩ ⟨e3, e4⟩ ⟨by omega, by omega, by omega, ?_⟩, fun q => absurd rfl q⟩) (fun e => ⟨by omega, fun q => by omega, fun _ => ⟨.inr (.inr rfl), fun q => absurd q (by decide), fun q => absurd q (by decide), fun _ => ⟨by omega, by omega, by omega, ?_⟩⟩⟩)
    · unfold sw_M_tell sw_M_tell_46 sw_M_tell_70 sw_M_thrown
      refine sp_noOne (hsc _) (hsc _) (fun q => by omega) (fun q1 q2 q3 q4 => ⟨by omega, fun _ => ?_, fun q => absurd rfl q⟩)
      refine sp_isIn (hsc _) (by omega) (by omega) (fun q => by omega) (fun q5 q6 => ⟨by omega, fun _ => ⟨by omega, ?_⟩, fun q => by omega⟩)
      rw [sx_up_ne _ _ (show 29 ≠ 16 by omega), sx_up_ne _ _ (show 29 ≠ 17 by omega)]
      refine ⟨by omega, fun _ => thZ' ⟨by omega, ?_⟩, fun q => by omega⟩
      refine endV (R := fun μ => r43 (x4 + 4) μ) (by omega) (by simp [sx_up]) (hk _ ?_)
      obtain ⟨hp, hR, hU, hC, hJ⟩ := hI
      have e17 : sx_up (sx_up (sx_up (sx_up μ 17 (20 * sc (x4 + 1) + sc (x4 + 2)) (sc (x4 + 3))) 16 2 (μ 16 2 + 1)) 19 0 0) 29 (20 * sc (x4 + 1) + sc (x4 + 2)) (sc (x4 + 3) + 1) 17 = fun q => if q = 20 * sc (x4 + 1) + sc (x4 + 2) then sc (x4 + 3) else μ 17 q := by
        funext q
        simp [sx_up]
      refine ⟨?_, ?_, ?_, ?_, ?_⟩
      · exact iP_fr hp (by funext k; simp [sx_up]) (by funext k; simp [sx_up]) (by funext k; simp [sx_up]) (by simp [sx_up]) (by simp [sx_up])
      · exact iR_fr hR (by funext k; simp [sx_up]) (by funext k; simp [sx_up]) (by funext k; simp [sx_up]) (by funext k; simp [sx_up]) (by funext k; simp [sx_up]) (by simp [sx_up])
      · exact iU_fr hU (by funext k; simp [sx_up]) (by simp [sx_up]) (by simp [sx_up])
      · refine ⟨fun k k0 k1 => ?_, ?_⟩
        · have h1 := hC.1 k k0 k1
          by_cases ek : k = 20 * sc (x4 + 1) + sc (x4 + 2)
          · simp [sx_up, ek]
            omega
          · simpa [sx_up, ek] using h1
        · rw [e17, haF_up ⟨e1, e2⟩ ⟨e3, e4⟩ e (by omega), ← hC.2]
          simp [sx_up]
      · unfold iJ at hJ ⊢
        simpa [sx_up] using hJ
    · unfold sw_M_tell sw_M_tell_46 sw_M_tell_70 sw_M_thrown
      refine sp_noOne (hsc _) (hsc _) (fun q => by omega) (fun q1 q2 q3 q4 => ⟨by omega, fun _ => ?_, fun q => absurd rfl q⟩)
      exact sp_isIn (hsc _) (by omega) (by omega) (fun q => by omega) (fun q5 q6 => ⟨by omega, fun _ => ⟨by omega, by omega, fun q => by omega, fun _ => thP' (by omega) (endV (R := fun μ => r43 (x4 + 4) μ) (by omega) (th_0 _ _) (hk _ (sI_th hI 3)))⟩, fun q => by omega⟩)
theorem sM_up (a : Int) (P : Int → Int) {k0 : Int} (v : Int) (h0 : 0 ≤ k0) (h1 : k0 < 256) : sM a (fun q => if q = k0 then v else P q) = sM a P + wt a k0 * (v - P k0) := by
  unfold sM
  rw [sT_up (f := fun k => wt a k * P k) (k0 := k0) (fun k q => by simp only [q, if_false]) h0 h1]
  simp only [if_true]
  rw [Int.mul_sub]
theorem sp_putP {x y v : Int} (hp : iP μ) (hx : 0 ≤ x ∧ x < μ 3 0) (hy : 0 ≤ y ∧ y < μ 3 1) (hv : 0 ≤ v ∧ v ≤ 255) (h0 : v = μ 4 (16 * y + x) → Q 0 μ) (h1 : v ≠ μ 4 (16 * y + x) → Q 1 (sx_up (sx_up (sx_up (sx_up μ 4 (16 * y + x) v) 3 3 (μ 3 3 + (v - μ 4 (16 * y + x)))) 3 4 (μ 3 4 + x * (v - μ 4 (16 * y + x)))) 3 5 (μ 3 5 + y * (v - μ 4 (16 * y + x))))) : sw_P_put Q μ x y v := by
  unfold sw_P_put sw_P_put_24
  have w := hp.1
  have hh := hp.2.1
  have a1 := hp.2.2.1 (16 * y + x) (by omega) (by omega)
  refine sp_at hx hy (by omega) (by omega) ⟨by omega, fun e => ⟨.inl rfl, h0 (by omega)⟩, fun e => sp_holds (by omega) (by omega) (by omega) (by omega) (fun q => by omega) (fun _ _ _ _ => ⟨by omega, fun _ => ⟨by omega, .inr rfl, ?_⟩, fun q => by omega⟩)⟩
  rw [show y * 16 + x = 16 * y + x by omega]
  have c1 : sx_up μ 4 (16 * y + x) v 3 3 = μ 3 3 := by rw [sx_up_ne _ _ (by omega)]
  rw [c1]
  have c2 : ∀ p : Int, sx_up (sx_up μ 4 (16 * y + x) v) 3 3 p 3 4 = μ 3 4 := fun p => by simp [sx_up]
  rw [c2]
  have c3 : ∀ p q : Int, sx_up (sx_up (sx_up μ 4 (16 * y + x) v) 3 3 p) 3 4 q 3 5 = μ 3 5 := fun p q => by simp [sx_up]
  rw [c3]
  exact h1 (by omega)
theorem tu_pixel (hI : sI μ) (hx : 0 ≤ x4 ∧ x4 + 3 < Lz) (hsc : ∀ j, sx_R (sc j)) (hk : ∀ μ1, sI μ1 → r43 (x4 + 4) μ1) : sw_L_law_160 sc Lz r43 x4 μ := by
  have hp := hI.1
  have w := hp.1
  have hh := hp.2.1
  unfold sw_L_law_160 sw_L_pixel sw_S_pixel sw_L_pixel_18
  have hS : ∀ μ1, sI μ1 → ∀ a : Int, (a = 0 ∨ a = 1) → sw_L_law_238 sc Lz r43 x4 a a μ1 := by
    intro μ1 h1 a ha
    exact cmpS (R := fun μ => r43 (x4 + 4) μ) ha (hk μ1 h1)
  refine ⟨by omega, by omega, by omega, sp_holds (hsc _) (hsc _) (by omega) (by omega) (fun e => ⟨by omega, fun q => absurd rfl q, fun _ => ⟨.inl rfl, fun _ => ⟨by omega, by omega, by omega, ?_⟩, fun q => absurd q (by decide)⟩⟩) (fun e1 e2 e3 e4 => ⟨by omega, fun _ => sp_needNumber (hsc _) (by omega) (by omega) (fun e => ⟨.inr rfl, fun q => absurd q (by decide), fun _ => ⟨by omega, by omega, by omega, ?_⟩⟩) (fun e5 e6 => ?_), fun q => by omega⟩)⟩
  · unfold sw_M_pixel sw_M_pixel_30 sw_M_pixel_62 sw_M_thrown
    refine sp_isThere (hsc _) (hsc _) (by omega) (by omega) (fun _ => ⟨by omega, fun q => absurd rfl q, fun _ => thP (by omega) ⟨.inl rfl, ?_⟩⟩) (fun q1 q2 q3 q4 => by omega)
    exact endB (R := fun μ => r43 (x4 + 4) μ) (S := fun a b μ => sw_L_law_238 sc Lz r43 x4 a b μ) (hS _ (sI_th hI 1)) (by omega) (th_0 _ _) (by omega) (hk _ (sI_th hI 1))
  · unfold sw_M_pixel sw_M_pixel_30 sw_M_pixel_62 sw_M_thrown
    refine sp_isThere (hsc _) (hsc _) (by omega) (by omega) (fun q => by omega) (fun q1 q2 q3 q4 => ⟨by omega, fun _ => ?_, fun q => by omega⟩)
    refine sp_isIn (hsc _) (by omega) (by omega) (fun _ => ⟨by omega, fun q => absurd rfl q, fun _ => thP (by omega) ⟨.inl rfl, ?_⟩⟩) (fun q5 q6 => by omega)
    exact endB (R := fun μ => r43 (x4 + 4) μ) (S := fun a b μ => sw_L_law_238 sc Lz r43 x4 a b μ) (hS _ (sI_th hI 2)) (by omega) (th_0 _ _) (by omega) (hk _ (sI_th hI 2))
  · have a1 := hp.2.2.1 (16 * sc (x4 + 2) + sc (x4 + 1)) (by omega) (by omega)
    -- the model, from a memory that holds what it looks at
    have mo : ∀ (M : sx_M) (b : Int), M 19 1 = μ 3 0 → M 19 2 = μ 3 1 → M 20 = μ 20 → M 30 0 = b → (b = if μ 4 (16 * sc (x4 + 2) + sc (x4 + 1)) = sc (x4 + 3) then 0 else 1) → sI (sx_up (sx_up M 19 0 0) 20 (16 * sc (x4 + 2) + sc (x4 + 1)) (sc (x4 + 3))) → (0 ≤ x4 + 1 ∧ x4 + 1 < Lz) ∧ (0 ≤ x4 + 2 ∧ x4 + 2 < Lz) ∧ (0 ≤ x4 + 3 ∧ x4 + 3 < Lz) ∧ sw_M_pixel (fun v2 μ2 => (sw_M_thrown (fun v3 μ3 => ((sx_R v3 ∧ sx_R 0) ∧ (v3 = 0 → (sx_R 0 ∧ (¬ (0 : Int) = 0 → (sw_L_law_244 sc Lz r43 x4 μ3)) ∧ ((0 : Int) = 0 → ((0 ≤ (0 : Int) ∧ (0 : Int) < 1) ∧ (sx_R v2 ∧ (v2 = 0 → (sw_L_law_238 sc Lz r43 x4 (μ3 30 0) 0 μ3)) ∧ (¬ v2 = 0 → (sw_L_law_238 sc Lz r43 x4 (μ3 30 0) 1 μ3))))))) ∧ (¬ v3 = 0 → ((0 : Int) = 1)))) μ2)) M (sc (x4 + 1)) (sc (x4 + 2)) (sc (x4 + 3)) := by
      intro M b m1 m2 m20 m30 hb hM
      refine ⟨by omega, by omega, by omega, ?_⟩
      have fin := endB (μ := sx_up (sx_up M 19 0 0) 20 (16 * sc (x4 + 2) + sc (x4 + 1)) (sc (x4 + 3))) (R := fun μ => r43 (x4 + 4) μ) (S := fun a b μ => sw_L_law_238 sc Lz r43 x4 a b μ) (k := 0) (v := b) (hS _ hM) (by omega) (by simp [sx_up]) (fun _ => ⟨by rw [hb]; split <;> omega, by rw [sx_up_ne _ _ (by omega), th_c _ _ (by omega), m30]⟩) (hk _ hM)
      unfold sw_M_pixel sw_M_pixel_30 sw_M_pixel_62 sw_M_thrown
      refine sp_isThere (hsc _) (hsc _) (by omega) (by omega) (fun q => by omega) (fun q1 q2 q3 q4 => ⟨by omega, fun _ => ?_, fun q => by omega⟩)
      refine sp_isIn (hsc _) (by omega) (by omega) (fun q => by omega) (fun q5 q6 => ⟨by omega, fun _ => thZ ⟨by omega, ?_⟩, fun q => by omega⟩)
      rw [th_c _ _ (show 20 ≠ 19 by omega), m20, a1.1]
      refine ⟨⟨by omega, hsc _⟩, fun q => ⟨by omega, .inl rfl, ?_⟩, fun q => ⟨by omega, .inr rfl, ?_⟩⟩
      · have b0 : b = 0 := by rw [hb, if_pos q]
        subst b0
        exact fin
      · have b0 : b = 1 := by rw [hb, if_neg q]
        rw [b0] at fin
        exact fin
    refine sp_putP hp ⟨e1, e2⟩ ⟨e3, e4⟩ ⟨e5, e6⟩ (fun q => ⟨.inl rfl, by omega, fun _ => ⟨by omega, ?_⟩, fun q => absurd rfl q⟩) (fun q => ⟨.inr rfl, by omega, fun q => by omega, fun _ => ⟨by omega, ?_⟩⟩)
    · refine mo _ 0 ?_ ?_ ?_ ?_ ?_ ?_
      · rw [out_c _ _ (by omega)]
        exact w.2.2
      · rw [out_c _ _ (by omega)]
        exact hh.2.2
      · rw [out_c _ _ (by omega)]
      · rw [out_0]
      · rw [if_pos (by omega)]
      · have hT := sI_th (sI_out hI 0) 0
        refine sI_fr hT (fun c hc => ?_) (fun k _ => by rw [sx_up_ne _ _ (by omega)])
        by_cases ec : c = 20
        · subst ec
          rw [sx_up_self]
          funext p
          by_cases ep : p = 16 * sc (x4 + 2) + sc (x4 + 1)
          · simp only [ep, if_true]
            rw [th_c _ _ (by omega), out_c _ _ (by omega)]
            omega
          · simp only [ep, if_false]
        · rw [sx_up_ne _ _ ec]
    · refine mo _ 1 ?_ ?_ ?_ ?_ ?_ ?_
      · simp [sx_up]
        exact w.2.2
      · simp [sx_up]
        exact hh.2.2
      · funext p
        simp [sx_up]
      · rw [out_0]
      · rw [if_neg (by omega)]
      · obtain ⟨_, hR, hU, hC, hJ⟩ := hI
        generalize hM : sx_up (sx_up (sx_up (sx_up (sx_up (sx_up (sx_up μ 4 (16 * sc (x4 + 2) + sc (x4 + 1)) (sc (x4 + 3))) 3 3 (μ 3 3 + (sc (x4 + 3) - μ 4 (16 * sc (x4 + 2) + sc (x4 + 1))))) 3 4 (μ 3 4 + sc (x4 + 1) * (sc (x4 + 3) - μ 4 (16 * sc (x4 + 2) + sc (x4 + 1))))) 3 5 (μ 3 5 + sc (x4 + 2) * (sc (x4 + 3) - μ 4 (16 * sc (x4 + 2) + sc (x4 + 1))))) 30 0 1) 19 0 0) 20 (16 * sc (x4 + 2) + sc (x4 + 1)) (sc (x4 + 3)) = M
        have g4 : M 4 = fun q => if q = 16 * sc (x4 + 2) + sc (x4 + 1) then sc (x4 + 3) else μ 4 q := by
          subst hM
          funext q
          simp [sx_up]
        have g20 : M 20 = fun q => if q = 16 * sc (x4 + 2) + sc (x4 + 1) then sc (x4 + 3) else μ 20 q := by
          subst hM
          funext q
          simp [sx_up]
        have g30 : M 3 0 = μ 3 0 := by
          subst hM
          simp [sx_up]
        have g31 : M 3 1 = μ 3 1 := by
          subst hM
          simp [sx_up]
        have g33 : M 3 3 = μ 3 3 + (sc (x4 + 3) - μ 4 (16 * sc (x4 + 2) + sc (x4 + 1))) := by
          subst hM
          simp [sx_up]
        have g34 : M 3 4 = μ 3 4 + sc (x4 + 1) * (sc (x4 + 3) - μ 4 (16 * sc (x4 + 2) + sc (x4 + 1))) := by
          subst hM
          simp [sx_up]
        have g35 : M 3 5 = μ 3 5 + sc (x4 + 2) * (sc (x4 + 3) - μ 4 (16 * sc (x4 + 2) + sc (x4 + 1))) := by
          subst hM
          simp [sx_up]
        have gk : ∀ k : Int, k ≠ 0 → M 19 k = μ 19 k := by
          intro k k0
          subst hM
          simp [sx_up, k0]
        have gc : ∀ c, c ≠ 3 → c ≠ 4 → c ≠ 19 → c ≠ 20 → c ≠ 30 → M c = μ c := by
          intro c c1 c2 c3 c4 c5
          subst hM
          funext k
          simp [sx_up, c1, c2, c3, c4, c5]
        refine ⟨⟨?_, ?_, fun k k0 k1 => ?_, ?_, ?_, ?_⟩, ?_, ?_, ?_, ?_⟩
        · rw [g30, gk 1 (by omega)]
          exact w
        · rw [g31, gk 2 (by omega)]
          exact hh
        · rw [g4, g20]
          have := hp.2.2.1 k k0 k1
          dsimp only
          by_cases ek : k = 16 * sc (x4 + 2) + sc (x4 + 1)
          · rw [if_pos ek, if_pos ek]
            exact ⟨rfl, e5, e6⟩
          · rw [if_neg ek, if_neg ek]
            exact this
        · rw [g33, g4, sM_up 2 _ _ (by omega) (by omega), hp.2.2.2.1, show wt 2 (16 * sc (x4 + 2) + sc (x4 + 1)) = 1 from rfl]
          omega
        · rw [g34, g4, sM_up 0 _ _ (by omega) (by omega), hp.2.2.2.2.1, show wt 0 (16 * sc (x4 + 2) + sc (x4 + 1)) = sc (x4 + 1) by
            show (16 * sc (x4 + 2) + sc (x4 + 1)) % 16 = sc (x4 + 1)
            omega]
        · rw [g35, g4, sM_up 1 _ _ (by omega) (by omega), hp.2.2.2.2.2, show wt 1 (16 * sc (x4 + 2) + sc (x4 + 1)) = sc (x4 + 2) by
            show (16 * sc (x4 + 2) + sc (x4 + 1)) / 16 = sc (x4 + 2)
            omega]
        · exact iR_fr hR (gc 0 (by omega) (by omega) (by omega) (by omega) (by omega)) (gc 1 (by omega) (by omega) (by omega) (by omega) (by omega)) (gc 2 (by omega) (by omega) (by omega) (by omega) (by omega)) (gc 21 (by omega) (by omega) (by omega) (by omega) (by omega)) (gc 22 (by omega) (by omega) (by omega) (by omega) (by omega)) (gk 4 (by omega))
        · exact iU_fr hU (gc 0 (by omega) (by omega) (by omega) (by omega) (by omega)) (gk 7 (by omega)) (gk 8 (by omega))
        · refine ⟨iK_fr hC.1 (gc 17 (by omega) (by omega) (by omega) (by omega) (by omega)) (gc 29 (by omega) (by omega) (by omega) (by omega) (by omega)), ?_⟩
          rw [gc 16 (by omega) (by omega) (by omega) (by omega) (by omega), gc 17 (by omega) (by omega) (by omega) (by omega) (by omega)]
          exact hC.2
        · unfold iJ
          rw [gc 13 (by omega) (by omega) (by omega) (by omega) (by omega), gc 15 (by omega) (by omega) (by omega) (by omega) (by omega), gc 28 (by omega) (by omega) (by omega) (by omega) (by omega), gk 17 (by omega), gk 18 (by omega)]
          exact hJ
end
