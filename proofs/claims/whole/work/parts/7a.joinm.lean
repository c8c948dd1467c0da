variable {Q : Int → sx_M → Prop} {X : String → sx_M → Prop} {μ : sx_M}
section
variable {f g : Int → Int} {m n s : Int} {μ0 : sx_M}
theorem sp_togetherM {i j : Int} (hm : 0 ≤ m ∧ m ≤ 7) (hn : 0 ≤ n ∧ n ≤ 7) (hs : 0 ≤ s ∧ s ≤ 50) (hf : ∀ i : Int, 0 ≤ i → i < m → μ 25 i = f i ∧ 0 ≤ f i ∧ f i ≤ 16) (hg : ∀ i : Int, 0 ≤ i → i < n → μ 26 i = g i ∧ 0 ≤ g i ∧ g i ≤ 16) (hi : 0 ≤ i ∧ i < m) (hj : 0 ≤ j ∧ j < n) (ht : μ 27 (17 * (i + 1) + (j + 1)) = tI (aD f g) m n s (i + 1) (j + 1)) (h : Q (aD f g i j + tI (aD f g) m n s (i + 1) (j + 1)) μ) : sw_M_together Q μ i j := by
  unfold sw_M_together
  have f1 := hf i hi.1 hi.2
  have g1 := hg j hj.1 hj.2
  rw [f1.1, g1.1]
  refine ⟨by omega, by omega, sp_size (by omega) ⟨by omega, ?_⟩⟩
  rw [show 17 * (i + 1) + j + 1 = 17 * (i + 1) + (j + 1) by omega, ht]
  exact h
theorem lp_fill1M {r104 : Int → Int → sx_M → Prop} {i : Int} (hm : 0 ≤ m ∧ m ≤ 7) (hn : 0 ≤ n ∧ n ≤ 7) (hs : 0 ≤ s ∧ s ≤ 50) (em : μ0 19 12 = m) (en : μ0 19 14 = n) (hf : ∀ i : Int, 0 ≤ i → i < m → μ0 25 i = f i ∧ 0 ≤ f i ∧ f i ≤ 16) (hg : ∀ i : Int, 0 ≤ i → i < n → μ0 26 i = g i ∧ 0 ≤ g i ∧ g i ≤ 16) (hi : 0 ≤ i ∧ i ≤ m) (h : ∀ μ1 : sx_M, (∀ c, c ≠ 27 → μ1 c = μ0 c) → (∀ i' j' : Int, 0 ≤ i' → i' ≤ m → 0 ≤ j' → j' ≤ n → i - 1 < i' → μ1 27 (17 * i' + j') = tI (aD f g) m n s i' j') → r104 s (i + (-1)) μ1) : ∀ (k : Nat) (j : Int) (μ : sx_M), -1 ≤ j → j ≤ n → j + 1 < (k : Int) → (∀ c, c ≠ 27 → μ c = μ0 c) → (∀ i' j' : Int, 0 ≤ i' → i' ≤ m → 0 ≤ j' → j' ≤ n → (i < i' ∨ (i = i' ∧ j < j')) → μ 27 (17 * i' + j') = tI (aD f g) m n s i' j') → sw_M_join_115 Q r104 k s i j μ
  | 0, j, μ, _, _, _, _, _ => by omega
  | k + 1, j, μ, h0, h1, hk, hfr, ht => by
    rw [sw_M_join_115]
    refine ⟨by omega, fun e => h μ hfr (fun i' j' q1 q2 q3 q4 q5 => ht i' j' q1 q2 q3 q4 (by omega)), fun e => ?_⟩
    have e19 := hfr 19 (by omega)
    have e25 := hfr 25 (by omega)
    have e26 := hfr 26 (by omega)
    have b0 := tI_bd (m := m) (n := n) hs (aD_nn f g) (i := i) (j := j) (by omega) (by omega)
    have s300 : ∀ y : Int, y = tI (aD f g) m n s i j → sw_M_join_300 Q r104 (sw_M_join_115 Q r104 k) s i j y μ := by
      intro y hy
      unfold sw_M_join_300
      refine ⟨by omega, lp_fill1M hm hn hs em en hf hg hi h k (j + (-1)) _ (by omega) (by omega) (by omega) (fun c hc => ?_) (fun i' j' q1 q2 q3 q4 q5 => ?_)⟩
      · rw [sx_up_ne _ _ hc]
        exact hfr c hc
      · rw [sx_up_self]
        simp only
        by_cases ee : 17 * i' + j' = 17 * i + j
        · rw [if_pos ee, show i' = i by omega, show j' = j by omega]
          exact hy
        · rw [if_neg ee]
          exact ht i' j' q1 q2 q3 q4 (by omega)
    have s245 : ∀ y : Int, (0 ≤ y ∧ y ≤ 1000000) → (j = n → y = tI (aD f g) m n s i j) → (j < n → min y (s + tI (aD f g) m n s i (j + 1)) = tI (aD f g) m n s i j) → sw_M_join_245 Q r104 (sw_M_join_115 Q r104 k) s i j y μ := by
      intro y yb y1 y2
      unfold sw_M_join_245 sw_M_join_298
      rw [e19, en]
      refine ⟨by omega, fun q => s300 y (y1 (by omega)), fun q => ⟨by omega, ?_⟩⟩
      rw [show 17 * i + j + 1 = 17 * i + (j + 1) by omega, ht i (j + 1) (by omega) (by omega) (by omega) (by omega) (by omega)]
      have b1 := tI_bd (m := m) (n := n) hs (aD_nn f g) (i := i) (j := j + 1) (by omega) (by omega)
      have y2' := y2 q
      exact ⟨by omega, fun q2 => s300 y (by omega), fun q2 => ⟨by omega, s300 _ (by omega)⟩⟩
    have s190 : ∀ y : Int, (0 ≤ y ∧ y ≤ 1000000) → (i = m → j = n → y = tI (aD f g) m n s i j) → (i = m → j < n → min y (s + tI (aD f g) m n s i (j + 1)) = tI (aD f g) m n s i j) → (i < m → j = n → min y (s + tI (aD f g) m n s (i + 1) j) = tI (aD f g) m n s i j) → (i < m → j < n → min (min y (s + tI (aD f g) m n s (i + 1) j)) (s + tI (aD f g) m n s i (j + 1)) = tI (aD f g) m n s i j) → sw_M_join_190 Q r104 (sw_M_join_115 Q r104 k) s i j y μ := by
      intro y yb y1 y2 y3 y4
      unfold sw_M_join_190 sw_M_join_243
      rw [e19, em]
      refine ⟨by omega, fun q => s245 y yb (y1 (by omega)) (y2 (by omega)), fun q => ⟨by omega, ?_⟩⟩
      rw [ht (i + 1) j (by omega) (by omega) (by omega) (by omega) (by omega)]
      have b1 := tI_bd (m := m) (n := n) hs (aD_nn f g) (i := i + 1) (j := j) (by omega) (by omega)
      refine ⟨by omega, fun q2 => s245 y yb (fun q3 => ?_) (fun q3 => ?_), fun q2 => ⟨by omega, s245 _ (by omega) (fun q3 => ?_) (fun q3 => ?_)⟩⟩
      · have := y3 q q3
        omega
      · have := y4 q q3
        rw [show min y (s + tI (aD f g) m n s (i + 1) j) = y by omega] at this
        exact this
      · have := y3 q q3
        omega
      · have := y4 q q3
        rw [show min y (s + tI (aD f g) m n s (i + 1) j) = s + tI (aD f g) m n s (i + 1) j by omega] at this
        exact this
    have s144 : ∀ y : Int, (i = m ∧ j = n ∧ y = 0) ∨ (¬ (i = m ∧ j = n) ∧ y = 1000000) → sw_M_join_144 Q r104 (sw_M_join_115 Q r104 k) s i j y μ := by
      intro y hy
      have yb : 0 ≤ y ∧ y ≤ 1000000 := by omega
      have c1 : i = m → j = n → tI (aD f g) m n s i j = 0 := fun q1 q2 => tI_mz q1 q2
      have c2 : i = m → j < n → tI (aD f g) m n s i j = s + tI (aD f g) m n s i (j + 1) := fun q1 q2 => tI_ms q1 q2
      have c3 : i < m → j = n → tI (aD f g) m n s i j = s + tI (aD f g) m n s (i + 1) j := fun q1 q2 => tI_ns q1 q2
      unfold sw_M_join_144 sw_M_join_188
      rw [e19, em, en]
      refine ⟨by omega, fun q => ?_, fun q => ⟨by omega, fun q2 => ?_, fun q2 => ?_⟩⟩
      · refine s190 y yb (fun q1 q2 => ?_) (fun q1 q2 => ?_) (fun q1 q2 => by omega) (fun q1 q2 => by omega)
        · have := c1 q1 q2
          omega
        · have := c2 q1 q2
          omega
      · refine s190 y yb (fun q1 q2 => by omega) (fun q1 q2 => by omega) (fun q1 q2 => ?_) (fun q1 q2 => by omega)
        have := c3 q1 q2
        omega
      · have st := tI_st (d := aD f g) (s := s) q q2
        have f1 := hf i hi.1 q
        have g1 := hg j e q2
        have a1 : 0 ≤ aD f g i j ∧ aD f g i j ≤ 16 := by
          unfold aD
          split <;> omega
        have b1 := tI_bd (m := m) (n := n) hs (aD_nn f g) (i := i + 1) (j := j) (by omega) (by omega)
        have b2 := tI_bd (m := m) (n := n) hs (aD_nn f g) (i := i) (j := j + 1) (by omega) (by omega)
        have b3 := tI_bd (m := m) (n := n) hs (aD_nn f g) (i := i + 1) (j := j + 1) (by omega) (by omega)
        have tt := ht (i + 1) (j + 1) (by omega) (by omega) (by omega) (by omega) (by omega)
        refine sp_togetherM (f := f) (g := g) (m := m) (n := n) (s := s) hm hn hs (by rw [e25]; exact hf) (by rw [e26]; exact hg) ⟨hi.1, q⟩ ⟨e, q2⟩ tt ⟨by omega, fun q3 => by omega, fun q3 => ?_⟩
        refine sp_togetherM (f := f) (g := g) (m := m) (n := n) (s := s) hm hn hs (by rw [e25]; exact hf) (by rw [e26]; exact hg) ⟨hi.1, q⟩ ⟨e, q2⟩ tt ?_
        refine s190 _ (by omega) (fun q1 q2 => by omega) (fun q1 q2 => by omega) (fun q1 q2 => by omega) (fun q1 q2 => ?_)
        omega
    unfold sw_M_join_142
    rw [e19, em, en]
    exact ⟨by omega, fun q => s144 _ (by omega), fun q => ⟨by omega, fun q2 => s144 _ (by omega), fun q2 => s144 _ (by omega)⟩⟩
theorem lp_fillM (hm : 0 ≤ m ∧ m ≤ 7) (hn : 0 ≤ n ∧ n ≤ 7) (hs : 0 ≤ s ∧ s ≤ 50) (em : μ0 19 12 = m) (en : μ0 19 14 = n) (hf : ∀ i : Int, 0 ≤ i → i < m → μ0 25 i = f i ∧ 0 ≤ f i ∧ f i ≤ 16) (hg : ∀ i : Int, 0 ≤ i → i < n → μ0 26 i = g i ∧ 0 ≤ g i ∧ g i ≤ 16) (h : ∀ μ1 : sx_M, (∀ c, c ≠ 27 → μ1 c = μ0 c) → (∀ i' j' : Int, 0 ≤ i' → i' ≤ m → 0 ≤ j' → j' ≤ n → μ1 27 (17 * i' + j') = tI (aD f g) m n s i' j') → sw_M_join_335 Q 600 s 0 0 μ1) : ∀ (k : Nat) (i : Int) (μ : sx_M), -1 ≤ i → i ≤ m → i + 1 < (k : Int) → (∀ c, c ≠ 27 → μ c = μ0 c) → (∀ i' j' : Int, 0 ≤ i' → i' ≤ m → 0 ≤ j' → j' ≤ n → i < i' → μ 27 (17 * i' + j') = tI (aD f g) m n s i' j') → sw_M_join_104 Q k s i μ
  | 0, i, μ, _, _, _, _, _ => by omega
  | k + 1, i, μ, h0, h1, hk, hfr, ht => by
    rw [sw_M_join_104]
    refine ⟨by omega, fun e => h μ hfr (fun i' j' q1 q2 q3 q4 => ht i' j' q1 q2 q3 q4 (by omega)), fun e => ?_⟩
    rw [hfr 19 (by omega), en]
    refine lp_fill1M (f := f) (g := g) (μ0 := μ0) hm hn hs em en hf hg ⟨e, h1⟩ (fun μ1 f1 t1 => ?_) 600 n μ (by omega) (by omega) (by omega) hfr (fun i' j' q1 q2 q3 q4 q5 => ht i' j' q1 q2 q3 q4 (by omega))
    exact lp_fillM hm hn hs em en hf hg h k (i + (-1)) μ1 (by omega) (by omega) (by omega) f1 (fun i' j' q1 q2 q3 q4 q5 => t1 i' j' q1 q2 q3 q4 (by omega))
theorem lp_chooseM (hm : 0 ≤ m ∧ m ≤ 7) (hn : 0 ≤ n ∧ n ≤ 7) (hs : 0 ≤ s ∧ s ≤ 50) (em : μ0 19 12 = m) (en : μ0 19 14 = n) (hf : ∀ i : Int, 0 ≤ i → i < m → μ0 25 i = f i ∧ 0 ≤ f i ∧ f i ≤ 16) (hg : ∀ i : Int, 0 ≤ i → i < n → μ0 26 i = g i ∧ 0 ≤ g i ∧ g i ≤ 16) (ht : ∀ i' j' : Int, 0 ≤ i' → i' ≤ m → 0 ≤ j' → j' ≤ n → μ0 27 (17 * i' + j') = tI (aD f g) m n s i' j') (h : ∀ μ1 : sx_M, (∀ c, c ≠ 19 → c ≠ 28 → μ1 c = μ0 c) → (∀ k : Int, k ≠ 17 → k ≠ 18 → μ1 19 k = μ0 19 k) → μ1 19 17 = 1 → μ1 19 18 = m → (∀ q : Int, 0 ≤ q → q < m → μ1 28 q = pI (aD f g) m n s 0 0 q) → Q (tI (aD f g) m n s 0 0) μ1) : ∀ (k : Nat) (i j : Int) (μ : sx_M), 0 ≤ i → i ≤ m → 0 ≤ j → j ≤ n → (m - i) + (n - j) < (k : Int) → (∀ c, c ≠ 28 → μ c = μ0 c) → (∀ q : Int, 0 ≤ q → q < i → μ 28 q = pI (aD f g) m n s 0 0 q) → (∀ q : Int, i ≤ q → q < m → pI (aD f g) m n s i j q = pI (aD f g) m n s 0 0 q) → sw_M_join_335 Q k s i j μ
  | 0, i, j, μ, _, _, _, _, _, _, _, _ => by omega
  | k + 1, i, j, μ, i0, i1, j0, j1, hk, hfr, hq, hr => by
    have e19 := hfr 19 (by omega)
    have e25 := hfr 25 (by omega)
    have e26 := hfr 26 (by omega)
    have e27 := hfr 27 (by omega)
    have b0 := tI_bd (m := m) (n := n) hs (aD_nn f g) (i := i) (j := j) (by omega) (by omega)
    have up : ∀ (v j' : Int) (μ' : sx_M), i < m → j ≤ j' → j' ≤ n → (∀ q : Int, i ≤ q → q < m → (if q = i then v else pI (aD f g) m n s (i + 1) j' q) = pI (aD f g) m n s 0 0 q) → μ' = sx_up μ 28 i v → sw_M_join_335 Q k s (i + 1) j' μ' := by
      intro v j' μ' im jj jn hv hμ
      subst hμ
      refine lp_chooseM hm hn hs em en hf hg ht h k (i + 1) j' _ (by omega) (by omega) (by omega) jn (by omega) (fun c hc => ?_) (fun q q0 q1 => ?_) (fun q q0 q1 => ?_)
      · rw [sx_up_ne _ _ hc]
        exact hfr c hc
      · rw [sx_up_self]
        simp only
        by_cases eq : q = i
        · rw [if_pos eq]
          have := hv q (by omega) (by omega)
          rwa [if_pos eq] at this
        · rw [if_neg eq]
          exact hq q q0 (by omega)
      · have := hv q (by omega) q1
        rwa [if_neg (by omega)] at this
    have s417 : (i < m ∨ j < n) → (i < m → j < n → aD f g i j + tI (aD f g) m n s (i + 1) (j + 1) ≠ tI (aD f g) m n s i j) → sw_M_join_417 Q (sw_M_join_335 Q k) s i j (tI (aD f g) m n s i j) μ := by
      intro hor hc
      unfold sw_M_join_417 sw_M_join_462 sw_M_join_465
      rw [e19, em]
      refine ⟨by omega, fun q => ?_, fun q => ⟨by omega, ?_⟩⟩
      · exact lp_chooseM hm hn hs em en hf hg ht h k i (j + 1) μ i0 i1 (by omega) (by omega) (by omega) hfr hq (fun p p0 p1 => by omega)
      · rw [e27, ht (i + 1) j (by omega) (by omega) j0 j1]
        have b1 := tI_bd (m := m) (n := n) hs (aD_nn f g) (i := i + 1) (j := j) (by omega) (by omega)
        refine ⟨by omega, fun q2 => ?_, fun q2 => ⟨by omega, ?_⟩⟩
        · have jn : j < n := by
            by_cases jj : j = n
            · exact absurd (tI_ns q jj).symm q2
            · omega
          refine lp_chooseM hm hn hs em en hf hg ht h k i (j + 1) μ i0 i1 (by omega) (by omega) (by omega) hfr hq (fun p p0 p1 => ?_)
          rw [← hr p p0 p1, pI_st q jn, if_neg (hc q jn), if_neg q2]
        · refine up (-1) j _ q (by omega) j1 (fun p p0 p1 => ?_) rfl
          rw [← hr p p0 p1]
          by_cases jj : j = n
          · rw [pI_n q jj]
          · rw [pI_st q (by omega), if_neg (hc q (by omega)), if_pos q2]
    have s353 : (i < m ∨ j < n) → sw_M_join_353 Q (sw_M_join_335 Q k) s i j μ := by
      intro hor
      unfold sw_M_join_353 sw_M_join_465
      rw [e19, em, en, e27, ht i j i0 i1 j0 j1]
      refine ⟨by omega, by omega, fun q => s417 hor (fun q2 => by omega), fun q => ⟨by omega, fun q2 => s417 hor (fun _ q3 => by omega), fun q2 => ?_⟩⟩
      have f1 := hf i i0 q
      have g1 := hg j j0 q2
      have a1 : 0 ≤ aD f g i j ∧ aD f g i j ≤ 16 := by
        unfold aD
        split <;> omega
      have b3 := tI_bd (m := m) (n := n) hs (aD_nn f g) (i := i + 1) (j := j + 1) (by omega) (by omega)
      refine sp_togetherM (f := f) (g := g) (m := m) (n := n) (s := s) hm hn hs (by rw [e25]; exact hf) (by rw [e26]; exact hg) ⟨i0, q⟩ ⟨j0, q2⟩ (by rw [e27]; exact ht (i + 1) (j + 1) (by omega) (by omega) (by omega) (by omega)) ⟨by omega, fun q3 => s417 hor (fun _ _ => q3), fun q3 => ⟨by omega, ?_⟩⟩
      refine up j (j + 1) _ q (by omega) (by omega) (fun p p0 p1 => ?_) rfl
      rw [← hr p p0 p1, pI_st q q2, if_pos q3]
    rw [sw_M_join_335, e19, em, en]
    refine ⟨by omega, fun q => s353 (.inl q), fun q => ⟨by omega, fun q2 => ⟨by omega, ?_⟩, fun q2 => s353 (.inr q2)⟩⟩
    have z27 : ∀ a b : Int, sx_up (sx_up μ 19 17 a) 19 18 b 27 0 = tI (aD f g) m n s 0 0 := fun a b => by
      rw [sx_up_ne _ _ (by omega), sx_up_ne _ _ (by omega), e27]
      exact ht 0 0 (by omega) (by omega) (by omega) (by omega)
    rw [z27]
    have z12 : sx_up μ 19 17 1 19 12 = m := by
      rw [sx_up_self]
      simp only [show (12 : Int) = 17 ↔ False by decide, if_false]
      rw [e19, em]
    rw [z12]
    refine h _ (fun c c1 c2 => ?_) (fun p p1 p2 => ?_) ?_ ?_ (fun p p0 p1 => ?_)
    · rw [sx_up_ne _ _ c1, sx_up_ne _ _ c1]
      exact hfr c c2
    · rw [sx_up_self]
      simp only [p2, if_false]
      rw [sx_up_self]
      simp only [p1, if_false]
      rw [e19]
    · rw [sx_up_self]
      simp only [show (17 : Int) = 18 ↔ False by decide, if_false]
      rw [sx_up_self]
      simp
    · rw [sx_up_self]
      simp
    · rw [sx_up_ne _ _ (by omega), sx_up_ne _ _ (by omega)]
      exact hq p p0 (by omega)
end
/-! The model's join behind its two rays. -/
theorem lp_join64 {r o s : Int} {μ0 : sx_M} (hp : iP μ0) (hR : iR μ0) (hU : iU μ0) (hr : 0 ≤ r ∧ r < μ0 0 7) (ho : 0 ≤ o ∧ o < μ0 0 7) (hs : 0 ≤ s ∧ s ≤ 50) (h : ∀ μ1 : sx_M, (∀ c, c < 19 ∨ (19 < c ∧ c < 23) ∨ 28 < c → μ1 c = μ0 c) → (∀ k : Int, k ≠ 9 → k ≠ 12 → k ≠ 14 → k ≠ 17 → k ≠ 18 → μ1 19 k = μ0 19 k) → μ1 19 17 = 1 → μ1 19 18 = NF μ0 r → (∀ q : Int, 0 ≤ q → q < NF μ0 r → μ1 28 q = pI (aD (PL μ0 r) (PL μ0 o)) (NF μ0 r) (NF μ0 o) s 0 0 q) → Q (tI (aD (PL μ0 r) (PL μ0 o)) (NF μ0 r) (NF μ0 o) s 0 0) μ1) : ∀ (k : Nat) (i : Int) (μ : sx_M), 0 ≤ i → i ≤ NF μ0 o → NF μ0 o - i < (k : Int) → (∀ c, c < 19 ∨ (19 < c ∧ c < 23) ∨ 26 < c → μ c = μ0 c) → (∀ k : Int, k ≠ 9 → k ≠ 12 → k ≠ 14 → μ 19 k = μ0 19 k) → μ 19 14 = NF μ0 o → (∀ q : Int, 0 ≤ q → q < NF μ0 o → μ 25 q = PL μ0 o q) → (∀ q : Int, 0 ≤ q → q < i → μ 26 q = PL μ0 o q) → sw_M_join_64 Q k r s i μ
  | 0, i, μ, _, _, _, _, _, _, _, _ => by omega
  | k + 1, i, μ, h0, h1, hk, hfr, hz, hn, h25, h26 => by
    obtain ⟨t1, t2, t3, t4⟩ := tr_bd hp hR hr
    obtain ⟨u1, u2, u3, u4⟩ := tr_bd hp hR ho
    rw [sw_M_join_64, hn]
    refine ⟨by omega, fun e => ?_, fun e => ⟨by omega, by omega, ?_⟩⟩
    · have ei : i = NF μ0 o := by omega
      have c0 := hfr 0 (by omega)
      have c1 := hfr 1 (by omega)
      have c2 := hfr 2 (by omega)
      have c3 := hfr 3 (by omega)
      have c4 := hfr 4 (by omega)
      obtain ⟨w1, w2, w3, w4, w5⟩ := tr_congr c0 c1 c2 c3 c4
      have hp1 : iP μ := iP_fr hp c3 c4 (hfr 20 (by omega)) (hz 1 (by omega) (by omega) (by omega)) (hz 2 (by omega) (by omega) (by omega))
      have hR1 : iR μ := iR_fr hR c0 c1 c2 (hfr 21 (by omega)) (hfr 22 (by omega)) (hz 4 (by omega) (by omega) (by omega))
      have hU1 : iU μ := iU_fr hU c0 (hz 7 (by omega) (by omega) (by omega)) (hz 8 (by omega) (by omega) (by omega))
      refine sp_lay hp1 hR1 hU1 (by rw [c0]; exact hr) (fun μ1 f1 l1 n1 v1 p1 => ?_)
      rw [w4] at n1
      rw [w4, w5] at p1
      rw [n1]
      refine lp_fillM (f := PL μ0 r) (g := PL μ0 o) (m := NF μ0 r) (n := NF μ0 o) (μ0 := μ1) t3 u3 hs n1 (by rw [f1.2 14 (by omega) (by omega)]; exact hn) (fun q q0 q1 => ⟨p1 q q0 q1, by have := t4 q q0 q1; omega⟩) (fun q q0 q1 => ⟨by rw [f1.1 26 (by omega) (by omega) (by omega) (by omega)]; exact h26 q q0 (by omega), by have := u4 q q0 q1; omega⟩) (fun μ2 f2 t2' => ?_) 600 (NF μ0 r) μ1 (by omega) (by omega) (by omega) (fun _ _ => rfl) (fun i' j' q1 q2 q3 q4 q5 => by omega)
      refine lp_chooseM (f := PL μ0 r) (g := PL μ0 o) (m := NF μ0 r) (n := NF μ0 o) (μ0 := μ2) t3 u3 hs (by rw [f2 19 (by omega)]; exact n1) (by rw [f2 19 (by omega), f1.2 14 (by omega) (by omega)]; exact hn) (fun q q0 q1 => ⟨by rw [f2 25 (by omega)]; exact p1 q q0 q1, by have := t4 q q0 q1; omega⟩) (fun q q0 q1 => ⟨by rw [f2 26 (by omega), f1.1 26 (by omega) (by omega) (by omega) (by omega)]; exact h26 q q0 (by omega), by have := u4 q q0 q1; omega⟩) t2' (fun μ3 f3 z3 a3 b3 p3 => ?_) 600 0 0 μ2 (by omega) (by omega) (by omega) (by omega) (by omega) (fun _ _ => rfl) (fun q q0 q1 => by omega) (fun q q0 q1 => rfl)
      refine h μ3 (fun c hc => ?_) (fun q q1 q2 q3 q4 q5 => ?_) a3 b3 p3
      · rw [f3 c (by omega) (by omega), f2 c (by omega), f1.1 c (by omega) (by omega) (by omega) (by omega)]
        exact hfr c (by omega)
      · rw [z3 q q4 q5, f2 19 (by omega), f1.2 q q1 q2]
        exact hz q q1 q2 q3
    · refine lp_join64 hp hR hU hr ho hs h k (i + 1) _ (by omega) (by omega) (by omega) (fun c hc => ?_) (fun q q1 q2 q3 => ?_) ?_ (fun q q0 q1 => ?_) (fun q q0 q1 => ?_)
      · rw [sx_up_ne _ _ (by omega)]
        exact hfr c hc
      · rw [sx_up_ne _ _ (by omega)]
        exact hz q q1 q2 q3
      · rw [sx_up_ne _ _ (by omega)]
        exact hn
      · rw [sx_up_ne _ _ (by omega)]
        exact h25 q q0 q1
      · rw [sx_up_self]
        simp only
        by_cases eq : q = i
        · rw [if_pos eq, eq]
          exact h25 i h0 e
        · rw [if_neg eq]
          exact h26 q q0 (by omega)
