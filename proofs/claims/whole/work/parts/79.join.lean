variable {Q : Int → sx_M → Prop} {X : String → sx_M → Prop} {μ : sx_M}
theorem iR_fr {μ1 : sx_M} (h : iR μ) (h0 : μ1 0 = μ 0) (h1 : μ1 1 = μ 1) (h2 : μ1 2 = μ 2) (h3 : μ1 21 = μ 21) (h4 : μ1 22 = μ 22) (h5 : μ1 19 4 = μ 19 4) : iR μ1 := by
  unfold iR
  rw [h0, h1, h2, h3, h4, h5]
  exact h
theorem iU_fr {μ1 : sx_M} (h : iU μ) (h0 : μ1 0 = μ 0) (h1 : μ1 19 7 = μ 19 7) (h2 : μ1 19 8 = μ 19 8) : iU μ1 := by
  unfold iU
  rw [h0, h1, h2]
  exact h
/-! The least cost of the rings that are left. -/
def tC (d : Int → Int → Int) (m n s : Int) : Nat → Nat → Int
  | 0, b => (b : Int) * s
  | a + 1, 0 => ((a : Int) + 1) * s
  | a + 1, b + 1 => min (d (m - ((a : Int) + 1)) (n - ((b : Int) + 1)) + tC d m n s a b) (s + min (tC d m n s a (b + 1)) (tC d m n s (a + 1) b))
def tI (d : Int → Int → Int) (m n s i j : Int) : Int := tC d m n s (m - i).toNat (n - j).toNat
def pC (d : Int → Int → Int) (m n s : Int) : Nat → Nat → Int → Int
  | 0, _, _ => 0
  | a + 1, 0, q => if q = m - ((a : Int) + 1) then -1 else pC d m n s a 0 q
  | a + 1, b + 1, q => if d (m - ((a : Int) + 1)) (n - ((b : Int) + 1)) + tC d m n s a b = tC d m n s (a + 1) (b + 1) then (if q = m - ((a : Int) + 1) then n - ((b : Int) + 1) else pC d m n s a b q) else if s + tC d m n s a (b + 1) = tC d m n s (a + 1) (b + 1) then (if q = m - ((a : Int) + 1) then -1 else pC d m n s a (b + 1) q) else pC d m n s (a + 1) b q
def pI (d : Int → Int → Int) (m n s i j q : Int) : Int := pC d m n s (m - i).toNat (n - j).toNat q
section
variable {d : Int → Int → Int} {m n s : Int}
theorem tC_bd (hs : 0 ≤ s ∧ s ≤ 50) (hd : ∀ i j, 0 ≤ d i j) : ∀ a b : Nat, 0 ≤ tC d m n s a b ∧ tC d m n s a b ≤ 50 * ((a : Int) + b)
  | 0, b => by
    rw [tC]
    have h1 := Int.mul_nonneg (show (0 : Int) ≤ b by omega) hs.1
    have h2 := Int.mul_le_mul_of_nonneg_left hs.2 (show (0 : Int) ≤ b by omega)
    omega
  | a + 1, 0 => by
    rw [tC]
    have h1 := Int.mul_nonneg (show (0 : Int) ≤ (a : Int) + 1 by omega) hs.1
    have h2 := Int.mul_le_mul_of_nonneg_left hs.2 (show (0 : Int) ≤ (a : Int) + 1 by omega)
    omega
  | a + 1, b + 1 => by
    rw [tC]
    have h1 := tC_bd hs hd a b
    have h2 := tC_bd hs hd a (b + 1)
    have h3 := tC_bd hs hd (a + 1) b
    have h4 := hd (m - ((a : Int) + 1)) (n - ((b : Int) + 1))
    omega
theorem tI_bd (hs : 0 ≤ s ∧ s ≤ 50) (hd : ∀ i j, 0 ≤ d i j) {i j : Int} (hi : i ≤ m) (hj : j ≤ n) : 0 ≤ tI d m n s i j ∧ tI d m n s i j ≤ 50 * ((m - i) + (n - j)) := by
  have := tC_bd (m := m) (n := n) hs hd (m - i).toNat (n - j).toNat
  unfold tI
  omega
theorem tI_m {i j : Int} (hi : i = m) (hj : j ≤ n) : tI d m n s i j = (n - j) * s := by
  unfold tI
  rw [show (m - i).toNat = 0 by omega, tC, show (((n - j).toNat : Nat) : Int) = n - j by omega]
theorem tI_n {i j : Int} (hi : i ≤ m) (hj : j = n) : tI d m n s i j = (m - i) * s := by
  unfold tI
  rw [show (n - j).toNat = 0 by omega]
  by_cases e : i = m
  · rw [show (m - i).toNat = 0 by omega, tC, show m - i = 0 by omega]
    simp
  · obtain ⟨a, ha⟩ : ∃ a : Nat, (m - i).toNat = a + 1 := ⟨(m - i).toNat - 1, by omega⟩
    rw [ha, tC, show (a : Int) + 1 = m - i by omega]
theorem tI_mz {i j : Int} (hi : i = m) (hj : j = n) : tI d m n s i j = 0 := by
  rw [tI_m hi (by omega), show n - j = 0 by omega, Int.zero_mul]
theorem tI_ms {i j : Int} (hi : i = m) (hj : j < n) : tI d m n s i j = s + tI d m n s i (j + 1) := by
  rw [tI_m hi (by omega), tI_m hi (by omega), show n - j = (n - (j + 1)) + 1 by omega, Int.add_mul]
  omega
theorem tI_ns {i j : Int} (hi : i < m) (hj : j = n) : tI d m n s i j = s + tI d m n s (i + 1) j := by
  rw [tI_n (by omega) hj, tI_n (by omega) hj, show m - i = (m - (i + 1)) + 1 by omega, Int.add_mul]
  omega
theorem tI_st {i j : Int} (hi : i < m) (hj : j < n) : tI d m n s i j = min (d i j + tI d m n s (i + 1) (j + 1)) (s + min (tI d m n s (i + 1) j) (tI d m n s i (j + 1))) := by
  obtain ⟨a, ha⟩ : ∃ a : Nat, (m - i).toNat = a + 1 := ⟨(m - i).toNat - 1, by omega⟩
  obtain ⟨b, hb⟩ : ∃ b : Nat, (n - j).toNat = b + 1 := ⟨(n - j).toNat - 1, by omega⟩
  unfold tI
  rw [ha, hb, show (m - (i + 1)).toNat = a by omega, show (n - (j + 1)).toNat = b by omega]
  rw [tC, show m - ((a : Int) + 1) = i by omega, show n - ((b : Int) + 1) = j by omega]
theorem pI_n {i j : Int} (hi : i < m) (hj : j = n) (q : Int) : pI d m n s i j q = if q = i then -1 else pI d m n s (i + 1) j q := by
  obtain ⟨a, ha⟩ : ∃ a : Nat, (m - i).toNat = a + 1 := ⟨(m - i).toNat - 1, by omega⟩
  unfold pI
  rw [ha, show (m - (i + 1)).toNat = a by omega, show (n - j).toNat = 0 by omega, pC, show m - ((a : Int) + 1) = i by omega]
theorem pI_st {i j : Int} (hi : i < m) (hj : j < n) (q : Int) : pI d m n s i j q = if d i j + tI d m n s (i + 1) (j + 1) = tI d m n s i j then (if q = i then j else pI d m n s (i + 1) (j + 1) q) else if s + tI d m n s (i + 1) j = tI d m n s i j then (if q = i then -1 else pI d m n s (i + 1) j q) else pI d m n s i (j + 1) q := by
  obtain ⟨a, ha⟩ : ∃ a : Nat, (m - i).toNat = a + 1 := ⟨(m - i).toNat - 1, by omega⟩
  obtain ⟨b, hb⟩ : ∃ b : Nat, (n - j).toNat = b + 1 := ⟨(n - j).toNat - 1, by omega⟩
  unfold pI tI
  rw [ha, hb, show (m - (i + 1)).toNat = a by omega, show (n - (j + 1)).toNat = b by omega]
  rw [pC, show m - ((a : Int) + 1) = i by omega, show n - ((b : Int) + 1) = j by omega]
theorem pC_bd (hn : 0 ≤ n) : ∀ (a b : Nat) (q : Int), (b : Int) ≤ n → -1 ≤ pC d m n s a b q ∧ pC d m n s a b q ≤ n
  | 0, _, _, _ => by
    rw [pC]
    omega
  | a + 1, 0, q, hb => by
    rw [pC]
    have := pC_bd hn a 0 q hb
    split <;> omega
  | a + 1, b + 1, q, hb => by
    rw [pC]
    have h1 := pC_bd hn a b q (by omega)
    have h2 := pC_bd hn a (b + 1) q hb
    have h3 := pC_bd hn (a + 1) b q (by omega)
    split
    · split <;> omega
    · split
      · split <;> omega
      · exact h3
theorem pI_bd (hn : 0 ≤ n) (q : Int) : -1 ≤ pI d m n s 0 0 q ∧ pI d m n s 0 0 q ≤ n := pC_bd hn _ _ q (by omega)
end
def aD (f g : Int → Int) (i j : Int) : Int := if 0 ≤ f i - g j then f i - g j else -(f i - g j)
theorem aD_nn (f g : Int → Int) (i j : Int) : 0 ≤ aD f g i j := by
  unfold aD
  split <;> omega
/-! The class's join. -/
section
variable {f g : Int → Int} {m n s : Int} {μ0 : sx_M}
theorem sp_togetherG {i j : Int} (hm : 0 ≤ m ∧ m ≤ 7) (hn : 0 ≤ n ∧ n ≤ 7) (hs : 0 ≤ s ∧ s ≤ 50) (hf : ∀ i : Int, 0 ≤ i → i < m → μ 8 i = f i ∧ 0 ≤ f i ∧ f i ≤ 16) (hg : ∀ i : Int, 0 ≤ i → i < n → μ 12 i = g i ∧ 0 ≤ g i ∧ g i ≤ 16) (hi : 0 ≤ i ∧ i < m) (hj : 0 ≤ j ∧ j < n) (ht : μ 14 ((i + 1) * 9 + (j + 1)) = tI (aD f g) m n s (i + 1) (j + 1)) (h : Q (aD f g i j + tI (aD f g) m n s (i + 1) (j + 1)) μ) : sw_G_together Q μ i j := by
  unfold sw_G_together
  have f1 := hf i hi.1 hi.2
  have g1 := hg j hj.1 hj.2
  rw [show (i + 1) * 9 + j + 1 = (i + 1) * 9 + (j + 1) by omega, ht, f1.1, g1.1]
  exact ⟨by omega, by omega, by omega, by omega, h⟩
theorem sp_leastFrom {i j : Int} (hm : 0 ≤ m ∧ m ≤ 7) (hn : 0 ≤ n ∧ n ≤ 7) (hs : 0 ≤ s ∧ s ≤ 50) (em : μ 5 4 = m) (en : μ 9 4 = n) (hf : ∀ i : Int, 0 ≤ i → i < m → μ 8 i = f i ∧ 0 ≤ f i ∧ f i ≤ 16) (hg : ∀ i : Int, 0 ≤ i → i < n → μ 12 i = g i ∧ 0 ≤ g i ∧ g i ≤ 16) (hi : 0 ≤ i ∧ i ≤ m) (hj : 0 ≤ j ∧ j ≤ n) (ht : ∀ i' j' : Int, 0 ≤ i' → i' ≤ m → 0 ≤ j' → j' ≤ n → (i < i' ∨ (i = i' ∧ j < j')) → μ 14 (i' * 9 + j') = tI (aD f g) m n s i' j') (h : Q (tI (aD f g) m n s i j) μ) : sw_G_leastFrom Q μ i j s := by
  unfold sw_G_leastFrom
  rw [em, en]
  refine ⟨by omega, fun e => ⟨by omega, fun e2 => ⟨by omega, by omega, ?_⟩, fun e2 => ?_⟩, fun e => ?_⟩
  · rw [show i * 9 + j + 1 = i * 9 + (j + 1) by omega, ht (i + 1) j (by omega) (by omega) (by omega) (by omega) (by omega), ht i (j + 1) (by omega) (by omega) (by omega) (by omega) (by omega)]
    have b1 := tI_bd (m := m) (n := n) hs (aD_nn f g) (i := i + 1) (j := j) (by omega) (by omega)
    have b2 := tI_bd (m := m) (n := n) hs (aD_nn f g) (i := i) (j := j + 1) (by omega) (by omega)
    have b3 := tI_bd (m := m) (n := n) hs (aD_nn f g) (i := i + 1) (j := j + 1) (by omega) (by omega)
    have st := tI_st (d := aD f g) (s := s) e e2
    have f1 := hf i hi.1 e
    have g1 := hg j hj.1 e2
    have a1 : 0 ≤ aD f g i j ∧ aD f g i j ≤ 16 := by
      unfold aD
      split <;> omega
    refine ⟨⟨by omega, by omega⟩, sp_togetherG hm hn hs hf hg ⟨hi.1, e⟩ ⟨hj.1, e2⟩ (ht (i + 1) (j + 1) (by omega) (by omega) (by omega) (by omega) (by omega)) ?_⟩
    rw [st] at h
    generalize tI (aD f g) m n s (i + 1) j = A at *
    generalize tI (aD f g) m n s i (j + 1) = B at *
    generalize tI (aD f g) m n s (i + 1) (j + 1) = C at *
    generalize aD f g i j = D at *
    have e1 : (if B < A then B else A) = min A B := by
      split <;> omega
    rw [e1]
    refine ⟨by omega, ?_⟩
    have e3 : (if s + min A B < D + C then s + min A B else D + C) = min (D + C) (s + min A B) := by
      split <;> omega
    rw [e3]
    exact h
  · rw [tI_n (by omega) (by omega)] at h
    exact h
  · rw [tI_m (by omega) (by omega)] at h
    exact h
theorem lp_fill1 {r6 : Int → Int → sx_M → Prop} {i : Int} (hm : 0 ≤ m ∧ m ≤ 7) (hn : 0 ≤ n ∧ n ≤ 7) (hs : 0 ≤ s ∧ s ≤ 50) (em : μ0 5 4 = m) (en : μ0 9 4 = n) (hf : ∀ i : Int, 0 ≤ i → i < m → μ0 8 i = f i ∧ 0 ≤ f i ∧ f i ≤ 16) (hg : ∀ i : Int, 0 ≤ i → i < n → μ0 12 i = g i ∧ 0 ≤ g i ∧ g i ≤ 16) (hi : 0 ≤ i ∧ i ≤ m) (h : ∀ μ1 : sx_M, (∀ c, c ≠ 14 → μ1 c = μ0 c) → (∀ i' j' : Int, 0 ≤ i' → i' ≤ m → 0 ≤ j' → j' ≤ n → i - 1 < i' → μ1 14 (i' * 9 + j') = tI (aD f g) m n s i' j') → r6 s (i + (-1)) μ1) : ∀ (k : Nat) (j : Int) (μ : sx_M), -1 ≤ j → j ≤ n → j + 1 < (k : Int) → (∀ c, c ≠ 14 → μ c = μ0 c) → (∀ i' j' : Int, 0 ≤ i' → i' ≤ m → 0 ≤ j' → j' ≤ n → (i < i' ∨ (i = i' ∧ j < j')) → μ 14 (i' * 9 + j') = tI (aD f g) m n s i' j') → sw_G_fillCosts_17 Q r6 k s i j μ
  | 0, j, μ, _, _, _, _, _ => by omega
  | k + 1, j, μ, h0, h1, hk, hfr, ht => by
    rw [sw_G_fillCosts_17]
    refine ⟨by omega, fun e => h μ hfr (fun i' j' q1 q2 q3 q4 q5 => ht i' j' q1 q2 q3 q4 (by omega)), fun e => ?_⟩
    have e5 := hfr 5 (by omega)
    have e9 := hfr 9 (by omega)
    have e8 := hfr 8 (by omega)
    have e12 := hfr 12 (by omega)
    refine sp_leastFrom (f := f) (g := g) hm hn hs (by rw [e5]; exact em) (by rw [e9]; exact en) (by rw [e8]; exact hf) (by rw [e12]; exact hg) hi ⟨e, h1⟩ ht ⟨by omega, ?_⟩
    refine lp_fill1 hm hn hs em en hf hg hi h k (j + (-1)) _ (by omega) (by omega) (by omega) (fun c hc => ?_) (fun i' j' q1 q2 q3 q4 q5 => ?_)
    · rw [sx_up_ne _ _ hc]
      exact hfr c hc
    · rw [sx_up_self]
      simp only
      by_cases ee : i' * 9 + j' = i * 9 + j
      · rw [if_pos ee, show i' = i by omega, show j' = j by omega]
      · rw [if_neg ee]
        exact ht i' j' q1 q2 q3 q4 (by omega)
theorem lp_fill (hm : 0 ≤ m ∧ m ≤ 7) (hn : 0 ≤ n ∧ n ≤ 7) (hs : 0 ≤ s ∧ s ≤ 50) (em : μ0 5 4 = m) (en : μ0 9 4 = n) (hf : ∀ i : Int, 0 ≤ i → i < m → μ0 8 i = f i ∧ 0 ≤ f i ∧ f i ≤ 16) (hg : ∀ i : Int, 0 ≤ i → i < n → μ0 12 i = g i ∧ 0 ≤ g i ∧ g i ≤ 16) (h : ∀ μ1 : sx_M, (∀ c, c ≠ 14 → μ1 c = μ0 c) → (∀ i' j' : Int, 0 ≤ i' → i' ≤ m → 0 ≤ j' → j' ≤ n → μ1 14 (i' * 9 + j') = tI (aD f g) m n s i' j') → Q 0 μ1) : ∀ (k : Nat) (i : Int) (μ : sx_M), -1 ≤ i → i ≤ m → i + 1 < (k : Int) → (∀ c, c ≠ 14 → μ c = μ0 c) → (∀ i' j' : Int, 0 ≤ i' → i' ≤ m → 0 ≤ j' → j' ≤ n → i < i' → μ 14 (i' * 9 + j') = tI (aD f g) m n s i' j') → sw_G_fillCosts_6 Q k s i μ
  | 0, i, μ, _, _, _, _, _ => by omega
  | k + 1, i, μ, h0, h1, hk, hfr, ht => by
    rw [sw_G_fillCosts_6]
    refine ⟨by omega, fun e => h μ hfr (fun i' j' q1 q2 q3 q4 => ht i' j' q1 q2 q3 q4 (by omega)), fun e => ?_⟩
    rw [hfr 9 (by omega), en]
    refine lp_fill1 (f := f) (g := g) (μ0 := μ0) hm hn hs em en hf hg ⟨e, h1⟩ (fun μ1 f1 t1 => ?_) 600 n μ (by omega) (by omega) (by omega) hfr (fun i' j' q1 q2 q3 q4 q5 => ht i' j' q1 q2 q3 q4 (by omega))
    exact lp_fill hm hn hs em en hf hg h k (i + (-1)) μ1 (by omega) (by omega) (by omega) f1 (fun i' j' q1 q2 q3 q4 q5 => t1 i' j' q1 q2 q3 q4 (by omega))
theorem lp_choose (hm : 0 ≤ m ∧ m ≤ 7) (hn : 0 ≤ n ∧ n ≤ 7) (hs : 0 ≤ s ∧ s ≤ 50) (em : μ0 5 4 = m) (en : μ0 9 4 = n) (hf : ∀ i : Int, 0 ≤ i → i < m → μ0 8 i = f i ∧ 0 ≤ f i ∧ f i ≤ 16) (hg : ∀ i : Int, 0 ≤ i → i < n → μ0 12 i = g i ∧ 0 ≤ g i ∧ g i ≤ 16) (ht : ∀ i' j' : Int, 0 ≤ i' → i' ≤ m → 0 ≤ j' → j' ≤ n → μ0 14 (i' * 9 + j') = tI (aD f g) m n s i' j') (h : ∀ μ1 : sx_M, (∀ c, c ≠ 15 → μ1 c = μ0 c) → (∀ q : Int, 0 ≤ q → q < m → μ1 15 q = pI (aD f g) m n s 0 0 q) → Q 0 μ1) : ∀ (k : Nat) (i j st : Int) (μ : sx_M), 0 ≤ i → i ≤ m → 0 ≤ j → j ≤ n → 0 ≤ st → st ≤ i + j → m + n - st < (k : Int) → (∀ c, c ≠ 15 → μ c = μ0 c) → (∀ q : Int, 0 ≤ q → q < i → μ 15 q = pI (aD f g) m n s 0 0 q) → (∀ q : Int, i ≤ q → q < m → pI (aD f g) m n s i j q = pI (aD f g) m n s 0 0 q) → sw_G_choosePartners_9 Q k s i j st μ
  | 0, i, j, st, μ, _, _, _, _, _, _, _, _, _, _ => by omega
  | k + 1, i, j, st, μ, i0, i1, j0, j1, s0, s1, hk, hfr, hq, hr => by
    have e5 := hfr 5 (by omega)
    have e9 := hfr 9 (by omega)
    have e8 := hfr 8 (by omega)
    have e12 := hfr 12 (by omega)
    have e14 := hfr 14 (by omega)
    rw [sw_G_choosePartners_9]
    unfold sw_G_choosePartners_143 sw_G_choosePartners_137
    rw [e5, e9, em, en]
    refine ⟨by omega, fun e => h μ hfr (fun q q0 q1 => hq q q0 (by omega)), fun e => ⟨by omega, fun e2 => h μ hfr (fun q q0 q1 => hq q q0 (by omega)), fun e2 => ⟨by omega, ?_⟩⟩⟩
    rw [e14, ht i j i0 i1 j0 j1]
    have b0 := tI_bd (m := m) (n := n) hs (aD_nn f g) (i := i) (j := j) (by omega) (by omega)
    have up : ∀ (v j' : Int) (μ' : sx_M), j ≤ j' → j' ≤ n → st + 1 ≤ i + 1 + j' → (∀ q : Int, i ≤ q → q < m → (if q = i then v else pI (aD f g) m n s (i + 1) j' q) = pI (aD f g) m n s 0 0 q) → μ' = sx_up μ 15 i v → sw_G_choosePartners_9 Q k s (i + 1) j' (st + 1) μ' := by
      intro v j' μ' jj jn sj hv hμ
      subst hμ
      refine lp_choose hm hn hs em en hf hg ht h k (i + 1) j' (st + 1) _ (by omega) (by omega) (by omega) jn (by omega) (by omega) (by omega) (fun c hc => ?_) (fun q q0 q1 => ?_) (fun q q0 q1 => ?_)
      · rw [sx_up_ne _ _ hc]
        exact hfr c hc
      · rw [sx_up_self]
        simp only
        by_cases eq : q = i
        · rw [if_pos eq]
          have := hv q (by omega) (by omega)
          rwa [if_pos eq] at this
        · rw [if_neg eq]
          exact hq q q0 (by omega)
      · have := hv q (by omega) q1
        rwa [if_neg (by omega)] at this
    have s120 : j = n ∨ (j < n ∧ aD f g i j + tI (aD f g) m n s (i + 1) (j + 1) ≠ tI (aD f g) m n s i j ∧ s + tI (aD f g) m n s (i + 1) j = tI (aD f g) m n s i j) → sw_G_choosePartners_120 Q (sw_G_choosePartners_9 Q k) s i j st μ := by
      intro hc
      unfold sw_G_choosePartners_120 sw_G_choosePartners_137
      refine ⟨by omega, up (-1) j _ (by omega) j1 (by omega) (fun q q0 q1 => ?_) rfl⟩
      rw [← hr q q0 q1]
      rcases hc with c | ⟨c1, c2, c3⟩
      · rw [pI_n e2 c]
      · rw [pI_st e2 c1, if_neg c2, if_pos c3]
    have s89 : (j < n → aD f g i j + tI (aD f g) m n s (i + 1) (j + 1) ≠ tI (aD f g) m n s i j) → sw_G_choosePartners_89 Q (sw_G_choosePartners_9 Q k) s i j st (tI (aD f g) m n s i j) μ := by
      intro hc
      unfold sw_G_choosePartners_89 sw_G_choosePartners_137
      rw [e9, en, e14, ht (i + 1) j (by omega) (by omega) j0 j1]
      have b1 := tI_bd (m := m) (n := n) hs (aD_nn f g) (i := i + 1) (j := j) (by omega) (by omega)
      refine ⟨by omega, fun q => s120 (.inl (by omega)), fun q => ⟨by omega, by omega, fun q2 => ?_, fun q2 => s120 (.inr ⟨q, hc q, q2⟩)⟩⟩
      refine lp_choose hm hn hs em en hf hg ht h k i (j + 1) (st + 1) μ i0 i1 (by omega) (by omega) (by omega) (by omega) (by omega) hfr hq (fun p p0 p1 => ?_)
      rw [← hr p p0 p1, pI_st e2 q, if_neg (hc q), if_neg q2]
    refine ⟨by omega, fun q => s89 (fun q2 => by omega), fun q => ?_⟩
    have f1 := hf i i0 e2
    have g1 := hg j j0 q
    have a1 : 0 ≤ aD f g i j ∧ aD f g i j ≤ 16 := by
      unfold aD
      split <;> omega
    have b3 := tI_bd (m := m) (n := n) hs (aD_nn f g) (i := i + 1) (j := j + 1) (by omega) (by omega)
    refine sp_togetherG (f := f) (g := g) (m := m) (n := n) (s := s) hm hn hs (by rw [e8]; exact hf) (by rw [e12]; exact hg) ⟨i0, e2⟩ ⟨j0, q⟩ (by rw [e14]; exact ht (i + 1) (j + 1) (by omega) (by omega) (by omega) (by omega)) ⟨by omega, fun q2 => s89 (fun _ => q2), fun q2 => ⟨by omega, ?_⟩⟩
    refine up j (j + 1) _ (by omega) (by omega) (by omega) (fun p p0 p1 => ?_) rfl
    rw [← hr p p0 p1, pI_st e2 q, if_pos q2]
theorem sp_pair (hm : 0 ≤ m ∧ m ≤ 7) (hn : 0 ≤ n ∧ n ≤ 7) (hs : 0 ≤ s ∧ s ≤ 50) (em : μ 5 4 = m) (en : μ 9 4 = n) (hf : ∀ i : Int, 0 ≤ i → i < m → μ 8 i = f i ∧ 0 ≤ f i ∧ f i ≤ 16) (hg : ∀ i : Int, 0 ≤ i → i < n → μ 12 i = g i ∧ 0 ≤ g i ∧ g i ≤ 16) (h : ∀ μ1 : sx_M, (∀ c, c ≠ 13 → c ≠ 14 → c ≠ 15 → μ1 c = μ c) → μ1 13 3 = 1 → μ1 13 2 = m → (∀ q : Int, 0 ≤ q → q < m → μ1 15 q = pI (aD f g) m n s 0 0 q) → Q (tI (aD f g) m n s 0 0) μ1) : sw_G_pair Q μ s := by
  unfold sw_G_pair sw_G_fillCosts sw_G_choosePartners
  have z : ∀ c, c ≠ 13 → sx_up (sx_up μ 13 3 1) 13 2 (sx_up μ 13 3 1 5 4) c = μ c := fun c hc => by
    rw [sx_up_ne _ _ hc, sx_up_ne _ _ hc]
  rw [z 5 (by omega), em]
  refine lp_fill (f := f) (g := g) (n := n) (μ0 := sx_up (sx_up μ 13 3 1) 13 2 (sx_up μ 13 3 1 5 4)) hm hn hs (by rw [z 5 (by omega)]; exact em) (by rw [z 9 (by omega)]; exact en) (by rw [z 8 (by omega)]; exact hf) (by rw [z 12 (by omega)]; exact hg) (fun μ1 f1 t1 => ?_) 600 m _ (by omega) (by omega) (by omega) (fun _ _ => rfl) (fun i' j' q1 q2 q3 q4 q5 => by omega)
  have w : ∀ c, c ≠ 13 → c ≠ 14 → μ1 c = μ c := fun c c1 c2 => by
    rw [f1 c c2, z c c1]
  refine lp_choose (f := f) (g := g) (m := m) (n := n) (μ0 := μ1) hm hn hs (by rw [w 5 (by omega) (by omega)]; exact em) (by rw [w 9 (by omega) (by omega)]; exact en) (by rw [w 8 (by omega) (by omega)]; exact hf) (by rw [w 12 (by omega) (by omega)]; exact hg) t1 (fun μ2 f2 p2 => ⟨by omega, ?_⟩) 600 0 0 0 μ1 (by omega) (by omega) (by omega) (by omega) (by omega) (by omega) (by omega) (fun _ _ => rfl) (fun q q0 q1 => by omega) (fun q q0 q1 => rfl)
  have e0 : μ2 14 0 = tI (aD f g) m n s 0 0 := by
    rw [f2 14 (by omega)]
    exact t1 0 0 (by omega) (by omega) (by omega) (by omega)
  rw [e0]
  refine h μ2 (fun c c1 c2 c3 => ?_) ?_ ?_ p2
  · rw [f2 c c3, w c c1 c2]
  · rw [f2 13 (by omega), f1 13 (by omega), sx_up_self]
    simp only [show (3 : Int) = 2 ↔ False by decide, if_false]
    rw [sx_up_self]
    simp
  · rw [f2 13 (by omega), f1 13 (by omega), sx_up_self]
    simp only [if_true]
    rw [sx_up_ne _ _ (by omega)]
    exact em
end
