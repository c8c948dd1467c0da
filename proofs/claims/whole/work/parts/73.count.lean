variable {Q : Int → sx_M → Prop} {X : String → sx_M → Prop} {μ : sx_M}
theorem natTm (p q : Nat) : ((p : Int).tmod (q : Int)) = ((p % q : Nat) : Int) := rfl
theorem lp_gcd {P0 Q0 : Nat} (h : Q ((Nat.gcd P0 Q0 : Nat) : Int) μ) : ∀ (n p q : Nat) (i : Int), p ≤ 5000 → q ≤ 5000 → 0 ≤ i → i + q < 64 → q < n → Nat.gcd p q = Nat.gcd P0 Q0 → sw_S_commonDivisor_7 Q n p q i μ
  | 0, p, q, i, _, _, _, _, _, _ => by omega
  | n + 1, p, q, i, h1, h2, h3, h4, h5, h6 => by
    rw [sw_S_commonDivisor_7]
    unfold sw_S_commonDivisor_34
    refine ⟨by omega, fun e => by omega, fun e => ⟨by omega, fun k => ?_, fun k => ⟨by omega, ?_⟩⟩⟩
    · have : q = 0 := by omega
      subst this
      rw [Nat.gcd_zero_right] at h6
      rw [h6]
      exact h
    · rw [natTm]
      have hq : 0 < q := by omega
      have hm := Nat.mod_lt p hq
      refine lp_gcd h n q (p % q) (i + 1) h2 (by omega) (by omega) (by omega) (by omega) ?_
      rw [← h6, Nat.gcd_comm p q, Nat.gcd_rec q p, Nat.gcd_comm]
def fP (a b p : Int) : Int := if b < 1 then p else (if p = 0 then a else b).tdiv ((Nat.gcd a.natAbs b.toNat : Nat) : Int)
theorem absN (a : Int) : (if 0 ≤ a then a else -a) = ((a.natAbs : Nat) : Int) := by
  split <;> omega
theorem sp_fractionPart {a b p : Int} (ha : -2000 ≤ a ∧ a ≤ 2000) (hb : 0 ≤ b ∧ b ≤ 20) (hp : 0 ≤ p ∧ p < 2) (h : Q (fP a b p) μ) : sw_S_fractionPart Q μ a b p := by
  unfold sw_S_fractionPart sw_S_fractionPart_14
  refine ⟨by omega, fun e => ⟨by omega, ?_⟩, fun e => ⟨by omega, fun k => ?_, fun k => ?_⟩⟩
  · unfold sw_S_commonDivisor
    rw [absN]
    have eb : b = ((b.toNat : Nat) : Int) := by omega
    rw [eb]
    have hg : 0 < Nat.gcd a.natAbs b.toNat := Nat.gcd_pos_of_pos_right _ (by omega)
    have hg2 : Nat.gcd a.natAbs b.toNat ≤ b.toNat := Nat.gcd_le_right _ (by omega)
    refine lp_gcd (P0 := a.natAbs) (Q0 := b.toNat) ?_ 600 a.natAbs b.toNat 0 (by omega) (by omega) (by omega) (by omega) (by omega) rfl
    unfold fP at h
    rw [if_neg (by omega)] at h
    unfold sw_S_fractionPart_33 sw_S_fractionPart_49
    refine ⟨by omega, fun k => ⟨by omega, fun _ => ⟨by omega, ?_⟩, fun k2 => by omega⟩, fun k => ⟨by omega, fun _ => ⟨by omega, ?_⟩, fun k2 => by omega⟩⟩
    · rw [if_neg k] at h
      rw [← eb]
      exact h
    · rw [if_pos k] at h
      exact h
  · unfold fP at h
    rw [if_pos e, show p = 1 by omega] at h
    exact h
  · unfold fP at h
    rw [if_pos e, k] at h
    exact h
theorem lp_part {P0 Q0 : Nat} {a b p : Int} (hg : 0 < Nat.gcd P0 Q0) (hg2 : Nat.gcd P0 Q0 ≤ 5000) (ha : -2000 ≤ a ∧ a ≤ 2000) (hb : 0 ≤ b ∧ b ≤ 20) (hp : 0 ≤ p ∧ p < 2) (h : Q ((if p = 0 then a else b).tdiv ((Nat.gcd P0 Q0 : Nat) : Int)) μ) : ∀ (n x y : Nat), x ≤ 5000 → y ≤ 5000 → (x ≤ y → x < n) → (y < x → y + 1 < n) → Nat.gcd y x = Nat.gcd P0 Q0 → sw_M_part_14 Q n a b p x y μ
  | 0, x, y, _, _, h3, h4, _ => by omega
  | n + 1, x, y, h1, h2, h3, h4, h6 => by
    rw [sw_M_part_14]
    unfold sw_M_part_48
    refine ⟨by omega, fun k => ?_, fun k => ⟨by omega, ?_⟩⟩
    · have : x = 0 := by omega
      subst this
      rw [Nat.gcd_zero_right] at h6
      subst h6
      refine ⟨by omega, fun k => ⟨by omega, ?_⟩, fun k => ⟨by omega, ?_⟩⟩
      · rw [if_neg k] at h
        exact h
      · rw [if_pos k] at h
        exact h
    · rw [natTm]
      have hx : 0 < x := by omega
      have hm := Nat.mod_lt y hx
      have hm2 := Nat.mod_le y x
      refine lp_part hg hg2 ha hb hp h n (y % x) x (by omega) h1 (fun _ => ?_) (fun _ => by omega) ?_
      · by_cases q : x ≤ y
        · have := h3 q
          omega
        · have := h4 (by omega)
          omega
      · rw [← h6, Nat.gcd_comm y x, Nat.gcd_rec x y, Nat.gcd_comm]
theorem sp_part {a b p : Int} (ha : -2000 ≤ a ∧ a ≤ 2000) (hb : 0 ≤ b ∧ b ≤ 20) (hp : 0 ≤ p ∧ p < 2) (h : Q (fP a b p) μ) : sw_M_part Q μ a b p := by
  unfold sw_M_part
  unfold fP at h
  refine ⟨by omega, fun e => ?_, fun e => ?_⟩
  · refine sp_size (by omega) ?_
    rw [absN, if_neg (by omega)] at *
    have eb : b = ((b.toNat : Nat) : Int) := by omega
    have hg : 0 < Nat.gcd a.natAbs b.toNat := Nat.gcd_pos_of_pos_right _ (by omega)
    have hg2 : Nat.gcd a.natAbs b.toNat ≤ b.toNat := Nat.gcd_le_right _ (by omega)
    have := lp_part (Q := Q) (μ := μ) (P0 := a.natAbs) (Q0 := b.toNat) hg (by omega) ha hb hp h 600 a.natAbs b.toNat (by omega) (by omega) (by omega) (by omega) (Nat.gcd_comm _ _)
    rwa [← eb] at this
  · rw [if_pos (by omega)] at h
    exact h
theorem fP_bd {a b p : Int} (ha : -2000 ≤ a ∧ a ≤ 2000) (hb : 0 ≤ b ∧ b ≤ 20) (hp : 0 ≤ p ∧ p < 2) : sx_R (fP a b p) := by
  unfold fP
  split
  · omega
  · have hg : 0 < Nat.gcd a.natAbs b.toNat := Nat.gcd_pos_of_pos_right _ (by omega)
    refine sx_divR ?_ (by omega) ?_
    · split <;> omega
    · split <;> omega
/-! shared, alike, excess -/
def shF (c : Int → Int) (r o s : Int) : Int := if c (20 * r + s) ≠ -1 ∧ c (20 * o + s) ≠ -1 then 1 else 0
def alF (c : Int → Int) (r o s : Int) : Int := if (c (20 * r + s) ≠ -1 ∧ c (20 * o + s) ≠ -1) ∧ c (20 * r + s) = c (20 * o + s) then 1 else 0
def exF (c : Int → Int) (r o s : Int) : Int := if c (20 * r + s) ≠ -1 ∧ c (20 * o + s) ≠ -1 then c (20 * r + s) - c (20 * o + s) else 0
theorem shB (c : Int → Int) (r o : Int) : 0 ≤ sT (shF c r o) 20 ∧ sT (shF c r o) 20 ≤ 20 := by
  have := sT_bd (f := shF c r o) (A := 0) (B := 1) (n := 20) (by omega) (fun k _ _ => by unfold shF; split <;> omega)
  omega
theorem alB (c : Int → Int) (r o : Int) : 0 ≤ sT (alF c r o) 20 ∧ sT (alF c r o) 20 ≤ 20 := by
  have := sT_bd (f := alF c r o) (A := 0) (B := 1) (n := 20) (by omega) (fun k _ _ => by unfold alF; split <;> omega)
  omega
theorem exB {r o : Int} (hK : iK μ) (hr : 0 ≤ r ∧ r < 4) (ho : 0 ≤ o ∧ o < 4) : -1300 ≤ sT (exF (μ 17) r o) 20 ∧ sT (exF (μ 17) r o) 20 ≤ 1300 := by
  have := sT_bd (f := exF (μ 17) r o) (A := -61) (B := 61) (n := 20) (by omega) (fun k k0 k1 => by
    have a1 := hK (20 * r + k) (by omega) (by omega)
    have a2 := hK (20 * o + k) (by omega) (by omega)
    unfold exF; split <;> omega)
  omega
theorem lp_shared {r o : Int} (hK : iK μ) (hr : 0 ≤ r ∧ r < 4) (ho : 0 ≤ o ∧ o < 4) (h : Q (sT (shF (μ 17) r o) 20) μ) : ∀ (n : Nat) (i acc : Int), 0 ≤ i → i ≤ 20 → 20 - i < (n : Int) → acc = sT (shF (μ 17) r o) i → sw_D_shared_5 Q n r o acc i μ
  | 0, i, acc, _, _, _, _ => by omega
  | n + 1, i, acc, h0, h4, hn, ha => by
    rw [sw_D_shared_5]
    unfold sw_D_shared_26
    refine ⟨by omega, fun e => ?_, fun e => ?_⟩
    · have : i = 20 := by omega
      subst this
      rw [ha]
      exact h
    · refine sp_bothTold hK hr ho ⟨h0, e⟩ (fun k => ⟨by omega, fun _ => ?_, fun k2 => absurd rfl k2⟩) (fun k => ⟨by omega, fun k2 => by omega, fun _ => ?_⟩)
      · refine lp_shared hK hr ho h n (i + 1) acc (by omega) (by omega) (by omega) ?_
        rw [sT_succ _ h0, ha, show shF (μ 17) r o i = 0 from if_neg k]
        omega
      · refine lp_shared hK hr ho h n (i + 1) (acc + 1) (by omega) (by omega) (by omega) ?_
        rw [sT_succ _ h0, ha, show shF (μ 17) r o i = 1 from if_pos k]
theorem lp_alike {r o : Int} (hK : iK μ) (hr : 0 ≤ r ∧ r < 4) (ho : 0 ≤ o ∧ o < 4) (h : Q (sT (alF (μ 17) r o) 20) μ) : ∀ (n : Nat) (i acc : Int), 0 ≤ i → i ≤ 20 → 20 - i < (n : Int) → acc = sT (alF (μ 17) r o) i → sw_D_alike_5 Q n r o acc i μ
  | 0, i, acc, _, _, _, _ => by omega
  | n + 1, i, acc, h0, h4, hn, ha => by
    rw [sw_D_alike_5]
    unfold sw_D_alike_43
    refine ⟨by omega, fun e => ?_, fun e => ?_⟩
    · have : i = 20 := by omega
      subst this
      rw [ha]
      exact h
    · have a1 := hK (20 * r + i) (by omega) (by omega)
      have a2 := hK (20 * o + i) (by omega) (by omega)
      refine sp_bothTold hK hr ho ⟨h0, e⟩ (fun k => ⟨by omega, fun _ => ?_, fun k2 => absurd rfl k2⟩) (fun k => ⟨by omega, fun k2 => by omega, fun _ => ?_⟩)
      · refine lp_alike hK hr ho h n (i + 1) acc (by omega) (by omega) (by omega) ?_
        rw [sT_succ _ h0, ha, show alF (μ 17) r o i = 0 from if_neg (by omega)]
        omega
      · refine sp_of hr ⟨h0, e⟩ (sp_of ho ⟨h0, e⟩ ⟨by omega, fun k2 => ?_, fun k2 => ?_⟩)
        · refine lp_alike hK hr ho h n (i + 1) acc (by omega) (by omega) (by omega) ?_
          rw [sT_succ _ h0, ha, show alF (μ 17) r o i = 0 from if_neg (by omega)]
          omega
        · refine lp_alike hK hr ho h n (i + 1) (acc + 1) (by omega) (by omega) (by omega) ?_
          rw [sT_succ _ h0, ha, show alF (μ 17) r o i = 1 from if_pos (by omega)]
theorem lp_excess {r o : Int} (hK : iK μ) (hr : 0 ≤ r ∧ r < 4) (ho : 0 ≤ o ∧ o < 4) (h : Q (sT (exF (μ 17) r o) 20) μ) : ∀ (n : Nat) (i acc : Int), 0 ≤ i → i ≤ 20 → 20 - i < (n : Int) → acc = sT (exF (μ 17) r o) i → sw_D_excess_5 Q n r o acc i μ
  | 0, i, acc, _, _, _, _ => by omega
  | n + 1, i, acc, h0, h4, hn, ha => by
    rw [sw_D_excess_5]
    unfold sw_D_excess_41
    refine ⟨by omega, fun e => ?_, fun e => ?_⟩
    · have : i = 20 := by omega
      subst this
      rw [ha]
      exact h
    · refine sp_bothTold hK hr ho ⟨h0, e⟩ (fun k => ⟨by omega, fun _ => ?_, fun k2 => absurd rfl k2⟩) (fun k => ⟨by omega, fun k2 => by omega, fun _ => ?_⟩)
      · refine lp_excess hK hr ho h n (i + 1) acc (by omega) (by omega) (by omega) ?_
        rw [sT_succ _ h0, ha, show exF (μ 17) r o i = 0 from if_neg k]
        omega
      · refine sp_of hr ⟨h0, e⟩ (sp_of ho ⟨h0, e⟩ ?_)
        refine lp_excess hK hr ho h n (i + 1) _ (by omega) (by omega) (by omega) ?_
        rw [sT_succ _ h0, ha, show exF (μ 17) r o i = _ from if_pos k]
theorem lp_agreeM {r o p : Int} (hK : iK μ) (hz : μ 19 0 = 0) (hr : 0 ≤ r ∧ r < 4) (ho : 0 ≤ o ∧ o < 4) (hp : 0 ≤ p ∧ p < 2) (h : Q (fP (sT (alF (μ 17) r o) 20) (sT (shF (μ 17) r o) 20) p) μ) : ∀ (n : Nat) (i al sh : Int), 0 ≤ i → i ≤ 20 → 20 - i < (n : Int) → al = sT (alF (μ 17) r o) i → sh = sT (shF (μ 17) r o) i → sw_M_agree_28 Q n r o p al sh i μ
  | 0, i, al, sh, _, _, _, _, _ => by omega
  | n + 1, i, al, sh, h0, h4, hn, ha, hs => by
    rw [sw_M_agree_28]
    unfold sw_M_agree_117 sw_M_agree_136
    refine ⟨by omega, fun e => ?_, fun e => ⟨by omega, fun k => absurd hz k, fun _ => ?_⟩⟩
    · have : i = 20 := by omega
      subst this
      have b1 := alB (μ 17) r o
      have b2 := shB (μ 17) r o
      rw [ha, hs]
      exact ⟨by omega, fun _ => sp_part (by omega) b2 hp h, fun k => by omega⟩
    · have a1 := hK (20 * r + i) (by omega) (by omega)
      have a2 := hK (20 * o + i) (by omega) (by omega)
      unfold sw_M_agree_66 sw_M_agree_107 sw_M_agree_109
      refine sp_both hK hr ho ⟨h0, e⟩ (fun k => ⟨by omega, fun _ => ⟨by omega, fun _ => ?_, fun k2 => absurd rfl k2⟩, fun k2 => absurd rfl k2⟩) (fun k => ⟨by omega, fun k2 => by omega, fun _ => ⟨by omega, fun k2 => by omega, fun _ => ⟨by omega, by omega, by omega, fun k2 => ?_, fun k2 => ?_⟩⟩⟩)
      · refine lp_agreeM hK hz hr ho hp h n (i + 1) al sh (by omega) (by omega) (by omega) ?_ ?_
        · rw [sT_succ _ h0, ha, show alF (μ 17) r o i = 0 from if_neg (by omega)]
          omega
        · rw [sT_succ _ h0, hs, show shF (μ 17) r o i = 0 from if_neg k]
          omega
      · refine lp_agreeM hK hz hr ho hp h n (i + 1) al (sh + 1) (by omega) (by omega) (by omega) ?_ ?_
        · rw [sT_succ _ h0, ha, show alF (μ 17) r o i = 0 from if_neg (by omega)]
          omega
        · rw [sT_succ _ h0, hs, show shF (μ 17) r o i = 1 from if_pos k]
      · refine lp_agreeM hK hz hr ho hp h n (i + 1) (al + 1) (sh + 1) (by omega) (by omega) (by omega) ?_ ?_
        · rw [sT_succ _ h0, ha, show alF (μ 17) r o i = 1 from if_pos (by omega)]
        · rw [sT_succ _ h0, hs, show shF (μ 17) r o i = 1 from if_pos k]
theorem lp_biasM {r o p : Int} (hK : iK μ) (hz : μ 19 0 = 0) (hr : 0 ≤ r ∧ r < 4) (ho : 0 ≤ o ∧ o < 4) (hp : 0 ≤ p ∧ p < 2) (h : Q (fP (sT (exF (μ 17) r o) 20) (sT (shF (μ 17) r o) 20) p) μ) : ∀ (n : Nat) (i al sh : Int), 0 ≤ i → i ≤ 20 → 20 - i < (n : Int) → al = sT (exF (μ 17) r o) i → sh = sT (shF (μ 17) r o) i → sw_M_bias_28 Q n r o p al sh i μ
  | 0, i, al, sh, _, _, _, _, _ => by omega
  | n + 1, i, al, sh, h0, h4, hn, ha, hs => by
    rw [sw_M_bias_28]
    unfold sw_M_bias_114 sw_M_bias_133
    refine ⟨by omega, fun e => ?_, fun e => ⟨by omega, fun k => absurd hz k, fun _ => ?_⟩⟩
    · have : i = 20 := by omega
      subst this
      have b1 := exB hK hr ho
      have b2 := shB (μ 17) r o
      rw [ha, hs]
      exact ⟨by omega, fun _ => sp_part (by omega) b2 hp h, fun k => by omega⟩
    · have a1 := hK (20 * r + i) (by omega) (by omega)
      have a2 := hK (20 * o + i) (by omega) (by omega)
      unfold sw_M_bias_66 sw_M_bias_106
      refine sp_both hK hr ho ⟨h0, e⟩ (fun k => ⟨by omega, fun _ => ⟨by omega, fun _ => ?_, fun k2 => absurd rfl k2⟩, fun k2 => absurd rfl k2⟩) (fun k => ⟨by omega, fun k2 => by omega, fun _ => ⟨by omega, fun k2 => by omega, fun _ => ⟨by omega, by omega, ?_⟩⟩⟩)
      · refine lp_biasM hK hz hr ho hp h n (i + 1) al sh (by omega) (by omega) (by omega) ?_ ?_
        · rw [sT_succ _ h0, ha, show exF (μ 17) r o i = 0 from if_neg k]
          omega
        · rw [sT_succ _ h0, hs, show shF (μ 17) r o i = 0 from if_neg k]
          omega
      · refine lp_biasM hK hz hr ho hp h n (i + 1) _ (sh + 1) (by omega) (by omega) (by omega) ?_ ?_
        · rw [sT_succ _ h0, ha, show exF (μ 17) r o i = _ from if_pos k]
          omega
        · rw [sT_succ _ h0, hs, show shF (μ 17) r o i = 1 from if_pos k]
/-! who is right, who is best -/
noncomputable def riF (c : Int → Int) (r s : Int) : Int := if c (20 * r + s) ≠ -1 ∧ c (20 * r + s) = toldF c s then 1 else 0
noncomputable def rF (c : Int → Int) (r : Int) : Int := sT (riF c r) 20
theorem rF_bd (c : Int → Int) (r : Int) : 0 ≤ rF c r ∧ rF c r ≤ 20 := by
  have := sT_bd (f := riF c r) (A := 0) (B := 1) (n := 20) (by omega) (fun k _ _ => by unfold riF; split <;> omega)
  unfold rF
  omega
theorem lp_hits {r : Int} (hK : iK μ) (hr : 0 ≤ r ∧ r < 4) (h : Q (rF (μ 17) r) μ) : ∀ (n : Nat) (i acc : Int), 0 ≤ i → i ≤ 20 → 20 - i < (n : Int) → acc = sT (riF (μ 17) r) i → sw_D_hits_4 Q n r acc i μ
  | 0, i, acc, _, _, _, _ => by omega
  | n + 1, i, acc, h0, h4, hn, ha => by
    rw [sw_D_hits_4]
    unfold sw_D_hits_36
    refine ⟨by omega, fun e => ?_, fun e => ?_⟩
    · have : i = 20 := by omega
      subst this
      rw [ha]
      exact h
    · have a1 := hK (20 * r + i) (by omega) (by omega)
      refine sp_has hK hr ⟨h0, e⟩ (fun k => ⟨by omega, fun _ => ?_, fun k2 => absurd rfl k2⟩) (fun k => ⟨by omega, fun k2 => by omega, fun _ => ?_⟩)
      · refine lp_hits hK hr h n (i + 1) acc (by omega) (by omega) (by omega) ?_
        rw [sT_succ _ h0, ha, show riF (μ 17) r i = 0 from if_neg (by omega)]
        omega
      · refine sp_of hr ⟨h0, e⟩ (sp_mostTold hK ⟨h0, e⟩ (fun b hb b1 b2 => ⟨by omega, fun k2 => ?_, fun k2 => ?_⟩))
        · refine lp_hits hK hr h n (i + 1) acc (by omega) (by omega) (by omega) ?_
          rw [sT_succ _ h0, ha, show riF (μ 17) r i = 0 from if_neg (by rw [← hb]; omega)]
          omega
        · refine lp_hits hK hr h n (i + 1) (acc + 1) (by omega) (by omega) (by omega) ?_
          rw [sT_succ _ h0, ha, show riF (μ 17) r i = 1 from if_pos (by rw [← hb]; omega)]
theorem sp_hits {r : Int} (hK : iK μ) (hr : 0 ≤ r ∧ r < 4) (h : Q (rF (μ 17) r) μ) : sw_D_hits Q μ r := lp_hits hK hr h 600 0 0 (by omega) (by omega) (by omega) rfl
theorem lp_rightOf {r : Int} (hK : iK μ) (hr : 0 ≤ r ∧ r < 4) (h : Q (rF (μ 17) r) μ) : ∀ (n : Nat) (i acc : Int), 0 ≤ i → i ≤ 20 → 20 - i < (n : Int) → acc = sT (riF (μ 17) r) i → sw_M_rightOf_4 Q n r acc i μ
  | 0, i, acc, _, _, _, _ => by omega
  | n + 1, i, acc, h0, h4, hn, ha => by
    rw [sw_M_rightOf_4]
    unfold sw_M_rightOf_46 sw_M_rightOf_47
    refine ⟨by omega, fun e => ?_, fun e => ?_⟩
    · have : i = 20 := by omega
      subst this
      rw [ha]
      exact h
    · have a1 := hK (20 * r + i) (by omega) (by omega)
      refine ⟨by omega, by omega, fun k => ?_, fun k => ?_⟩
      · refine lp_rightOf hK hr h n (i + 1) acc (by omega) (by omega) (by omega) ?_
        rw [sT_succ _ h0, ha, show riF (μ 17) r i = 0 from if_neg (by omega)]
        omega
      · refine sp_toldOf hK ⟨h0, e⟩ (fun b hb b1 b2 => ⟨by omega, fun k2 => ?_, fun k2 => ?_⟩)
        · refine lp_rightOf hK hr h n (i + 1) acc (by omega) (by omega) (by omega) ?_
          rw [sT_succ _ h0, ha, show riF (μ 17) r i = 0 from if_neg (by rw [← hb]; omega)]
          omega
        · refine lp_rightOf hK hr h n (i + 1) (acc + 1) (by omega) (by omega) (by omega) ?_
          rw [sT_succ _ h0, ha, show riF (μ 17) r i = 1 from if_pos (by rw [← hb]; omega)]
theorem sp_rightOf {r : Int} (hK : iK μ) (hr : 0 ≤ r ∧ r < 4) (h : Q (rF (μ 17) r) μ) : sw_M_rightOf Q μ r := lp_rightOf hK hr h 600 0 0 (by omega) (by omega) (by omega) rfl
/-- how many readers stand before r -/
def beF (k : Int → Int) (r o : Int) : Int := if k r < k o ∨ (k o = k r ∧ o < r) then 1 else 0
def bF (k : Int → Int) (r : Int) : Int := sT (beF k r) 4
theorem bF_all (k : Int → Int) {p : Int} (h0 : 0 ≤ p) (h4 : p < 4) : bF k 0 = p ∨ bF k 1 = p ∨ bF k 2 = p ∨ bF k 3 = p := by
  unfold bF
  simp only [sT4]
  unfold beF
  by_cases e1 : k 0 < k 1 <;> by_cases e2 : k 0 < k 2 <;> by_cases e3 : k 0 < k 3 <;> by_cases e4 : k 1 < k 2 <;> by_cases e5 : k 1 < k 3 <;> by_cases e6 : k 2 < k 3 <;> (repeat rw [if_pos (by omega)]) <;> (repeat rw [if_neg (by omega)]) <;> omega
