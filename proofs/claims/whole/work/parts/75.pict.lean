variable {Q : Int → sx_M → Prop} {X : String → sx_M → Prop} {μ : sx_M}
/-! The picture and its middle. -/
def wt (a k : Int) : Int := if a = 0 then k % 16 else if a = 1 then k / 16 else 1
def sM (a : Int) (P : Int → Int) : Int := sT (fun k => wt a k * P k) 256
def iP (μ : sx_M) : Prop := (1 ≤ μ 3 0 ∧ μ 3 0 ≤ 16 ∧ μ 19 1 = μ 3 0) ∧ (1 ≤ μ 3 1 ∧ μ 3 1 ≤ 16 ∧ μ 19 2 = μ 3 1) ∧ (∀ k : Int, 0 ≤ k → k < 256 → μ 20 k = μ 4 k ∧ 0 ≤ μ 4 k ∧ μ 4 k ≤ 255) ∧ μ 3 3 = sM 2 (μ 4) ∧ μ 3 4 = sM 0 (μ 4) ∧ μ 3 5 = sM 1 (μ 4)
theorem iP_fr {μ1 : sx_M} (h : iP μ) (h1 : μ1 3 = μ 3) (h2 : μ1 4 = μ 4) (h3 : μ1 20 = μ 20) (h4 : μ1 19 1 = μ 19 1) (h5 : μ1 19 2 = μ 19 2) : iP μ1 := by
  unfold iP
  rw [h1, h2, h3, h4, h5]
  exact h
theorem iP_bd (h : iP μ) : (0 ≤ μ 3 3 ∧ μ 3 3 ≤ 65280) ∧ (0 ≤ μ 3 4 ∧ μ 3 4 ≤ 15 * μ 3 3) ∧ (0 ≤ μ 3 5 ∧ μ 3 5 ≤ 15 * μ 3 3) := by
  obtain ⟨_, _, hp, h3, h4, h5⟩ := h
  have e : sM 2 (μ 4) = sT (μ 4) 256 := sT_congr (fun k _ _ => by
    show wt 2 k * μ 4 k = μ 4 k
    rw [show wt 2 k = 1 from rfl, Int.one_mul])
  have b1 := sT_bd (f := μ 4) (A := 0) (B := 255) (n := 256) (by omega) (fun k k0 k1 => (hp k k0 k1).2)
  have g : ∀ a : Int, (a = 0 ∨ a = 1) → 0 ≤ sM a (μ 4) ∧ sM a (μ 4) ≤ 15 * sT (μ 4) 256 := by
    intro a ha
    have w : ∀ k : Int, 0 ≤ k → k < 256 → 0 ≤ wt a k ∧ wt a k ≤ 15 := by
      intro k k0 k1
      unfold wt
      rcases ha with e | e <;> subst e <;> simp <;> omega
    constructor
    · have := sT_le (f := fun k => 0 * μ 4 k) (g := fun k => wt a k * μ 4 k) (n := 256) (fun k k0 k1 => Int.mul_le_mul_of_nonneg_right (w k k0 k1).1 (hp k k0 k1).2.1)
      rw [sT_mul] at this
      unfold sM
      omega
    · have := sT_le (f := fun k => wt a k * μ 4 k) (g := fun k => 15 * μ 4 k) (n := 256) (fun k k0 k1 => Int.mul_le_mul_of_nonneg_right (w k k0 k1).2 (hp k k0 k1).2.1)
      rw [sT_mul] at this
      exact this
  have g0 := g 0 (.inl rfl)
  have g1 := g 1 (.inr rfl)
  rw [h3, h4, h5, e]
  omega
theorem lp_sumOf {a : Int} (ha : sx_R a) (hp : iP μ) (h : Q (sM a (μ 4)) μ) : ∀ (n : Nat) (i acc : Int), 0 ≤ i → i ≤ 256 → 256 - i < (n : Int) → acc = sT (fun k => wt a k * μ 4 k) i → sw_M_sumOf_4 Q n a acc i μ
  | 0, i, acc, _, _, _, _ => by omega
  | n + 1, i, acc, h0, h4, hn, hac => by
    rw [sw_M_sumOf_4]
    refine ⟨by omega, fun e => ?_, fun e => ?_⟩
    · have : i = 256 := by omega
      subst this
      rw [hac]
      exact h
    · have hk := (hp.2.2.1 i h0 e).1
      have go : ∀ y : Int, y = wt a i → sw_M_sumOf_36 Q (sw_M_sumOf_4 Q n) a i acc y μ := by
        intro y hy
        unfold sw_M_sumOf_36
        refine ⟨by omega, lp_sumOf ha hp h n (i + 1) _ (by omega) (by omega) (by omega) ?_⟩
        rw [sT_succ _ h0, hac, hk, hy]
      refine ⟨ha, fun k => ⟨by omega, fun k2 => ?_, fun k2 => ⟨by omega, ?_⟩⟩, fun k => ⟨by omega, ?_⟩⟩
      · refine go 1 ?_
        unfold wt
        rw [if_neg k, if_neg k2]
      · refine go _ ?_
        unfold wt
        rw [if_neg k, if_pos k2, fl_pos h0]
      · refine go _ ?_
        unfold wt
        rw [if_pos k, fl_tm h0]
theorem sp_sumOf {a : Int} (ha : sx_R a) (hp : iP μ) (h : Q (sM a (μ 4)) μ) : sw_M_sumOf Q μ a := lp_sumOf ha hp h 600 0 0 (by omega) (by omega) (by omega) rfl
def cX (z : Int → Int) : Int := if z 3 < 1 then -1 else z 4 / z 3
def cY (z : Int → Int) : Int := if z 3 < 1 then -1 else z 5 / z 3
theorem divQ {a b : Int} (ha : 0 ≤ a) (h : a ≤ 15 * b) (hb : 1 ≤ b) : 0 ≤ a / b ∧ a / b ≤ 15 := by
  constructor
  · exact Int.ediv_nonneg ha (by omega)
  · have : a / b < 16 := by
      rw [Int.ediv_lt_iff_lt_mul (by omega)]
      omega
    omega
theorem cX_bd (hp : iP μ) : (μ 3 3 < 1 → cX (μ 3) = -1) ∧ (1 ≤ μ 3 3 → 0 ≤ cX (μ 3) ∧ cX (μ 3) ≤ 15) := by
  have b := iP_bd hp
  unfold cX
  refine ⟨fun e => by rw [if_pos e], fun e => ?_⟩
  rw [if_neg (by omega)]
  exact divQ (by omega) (by omega) e
theorem cY_bd (hp : iP μ) : (μ 3 3 < 1 → cY (μ 3) = -1) ∧ (1 ≤ μ 3 3 → 0 ≤ cY (μ 3) ∧ cY (μ 3) ≤ 15) := by
  have b := iP_bd hp
  unfold cY
  refine ⟨fun e => by rw [if_pos e], fun e => ?_⟩
  rw [if_neg (by omega)]
  exact divQ (by omega) (by omega) e
theorem sp_centreX (hp : iP μ) (h : Q (cX (μ 3)) μ) : sw_P_centreX Q μ := by
  have b := iP_bd hp
  unfold sw_P_centreX sw_P_centreX_23
  unfold cX at h
  refine ⟨by omega, fun e => ?_, fun e => ?_⟩
  · rw [if_neg (by omega)] at h
    exact sp_floorOf (by omega) (by omega) (by omega) (by omega) h
  · rw [if_pos e] at h
    exact h
theorem sp_centreY (hp : iP μ) (h : Q (cY (μ 3)) μ) : sw_P_centreY Q μ := by
  have b := iP_bd hp
  unfold sw_P_centreY sw_P_centreY_23
  unfold cY at h
  refine ⟨by omega, fun e => ?_, fun e => ?_⟩
  · rw [if_neg (by omega)] at h
    exact sp_floorOf (by omega) (by omega) (by omega) (by omega) h
  · rw [if_pos e] at h
    exact h
theorem sp_middle0 (hp : iP μ) (h : Q (cX (μ 3)) μ) : sw_M_middleOf Q μ 0 := by
  have b := iP_bd hp
  unfold sw_M_middleOf sw_M_middleOf_21
  unfold cX at h
  refine sp_sumOf (by omega) hp ?_
  rw [← hp.2.2.2.1]
  refine ⟨by omega, fun e => ?_, fun e => ?_⟩
  · refine sp_sumOf (by omega) hp ?_
    rw [← hp.2.2.2.2.1]
    refine ⟨by omega, ?_⟩
    rw [if_neg (by omega)] at h
    rw [fl_pos (by omega)]
    exact h
  · rw [if_pos (by omega)] at h
    exact h
theorem sp_middle1 (hp : iP μ) (h : Q (cY (μ 3)) μ) : sw_M_middleOf Q μ 1 := by
  have b := iP_bd hp
  unfold sw_M_middleOf sw_M_middleOf_21
  unfold cY at h
  refine sp_sumOf (by omega) hp ?_
  rw [← hp.2.2.2.1]
  refine ⟨by omega, fun e => ?_, fun e => ?_⟩
  · refine sp_sumOf (by omega) hp ?_
    rw [← hp.2.2.2.2.2]
    refine ⟨by omega, ?_⟩
    rw [if_neg (by omega)] at h
    rw [fl_pos (by omega)]
    exact h
  · rw [if_pos (by omega)] at h
    exact h
