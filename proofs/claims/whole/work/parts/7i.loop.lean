variable {μ : sx_M}
/-! The start and the law's loop. -/
theorem near_bd (a : Int) : 1 ≤ sr_near a ∧ sr_near a ≤ 16 := by
  unfold sr_near
  split
  · omega
  · split
    · omega
    · omega
theorem sf_zero (f : Int → Int) (h : ∀ i : Int, f i = 0) (n : Int) (hn : 0 ≤ n) : sT f n = 0 := by
  have := sT_bd (f := f) (A := 0) (B := 0) (n := n) hn (fun q _ _ => by rw [h q]; omega)
  omega
theorem sI_0 {w h : Int} (hw : 1 ≤ w ∧ w ≤ 16) (hh : 1 ≤ h ∧ h ≤ 16) : sI (sr_mu0 w h) := by
  have c4 : sr_mu0 w h 4 = fun _ => 0 := by
    funext k
    simp [sr_mu0]
  have c17 : ∀ k : Int, k < 80 → sr_mu0 w h 17 k = -1 := fun k hk => by
    simp [sr_mu0, hk]
  have s0 : ∀ a : Int, sM a (fun _ => 0) = 0 := fun a => by
    unfold sM
    exact sf_zero _ (fun i => by simp) 256 (by omega)
  refine ⟨⟨?_, ?_, ?_, ?_, ?_, ?_⟩, ⟨?_, ?_, ?_, ?_⟩, ⟨?_, ?_, ?_, ?_, ?_, ?_⟩, ⟨?_, ?_⟩, ⟨?_, ?_, ?_, ?_, ?_, ?_⟩⟩
  · simp [sr_mu0]
    omega
  · simp [sr_mu0]
    omega
  · intro k _ _
    simp [sr_mu0]
  · rw [c4, s0]
    simp [sr_mu0]
  · rw [c4, s0]
    simp [sr_mu0]
  · rw [c4, s0]
    simp [sr_mu0]
  · simp [sr_mu0]
  · simp [sr_mu0]
  · simp [sr_mu0]
  · intro k h0 h1
    simp [sr_mu0] at h1
    omega
  · simp [sr_mu0]
  · simp [sr_mu0]
  · simp [sr_mu0]
  · simp [sr_mu0]
  · simp [sr_mu0]
  · simp [sr_mu0]
  · intro k h0 h1
    rw [c17 k h1]
    simp [sr_mu0]
  · have z : ∀ s : Int, 0 ≤ s → s < 20 → haF (sr_mu0 w h 17) s = 0 := fun s h0 h1 => by
      unfold haF
      have := sT_bd (f := haT (sr_mu0 w h 17) s) (A := 0) (B := 0) (n := 4) (by omega) (fun q q0 q1 => by unfold haT; rw [c17 _ (by omega)]; simp)
      omega
    have := sT_bd (f := haF (sr_mu0 w h 17)) (A := 0) (B := 0) (n := 20) (by omega) (fun q q0 q1 => by rw [z q q0 q1]; omega)
    have e : sr_mu0 w h 16 2 = 0 := by simp [sr_mu0]
    omega
  · left
    simp [sr_mu0]
  · simp [sr_mu0]
  · simp [sr_mu0]
  · simp [sr_mu0]
  · simp [sr_mu0]
  · intro k h0 h1
    simp [sr_mu0] at h1
    omega
theorem lp_law {sc : Int → Int} {Lz : Int} (hsc : ∀ j, sx_R (sc j)) (hL : 0 ≤ Lz ∧ Lz ≤ 2050) : ∀ (n : Nat) (x4 : Int) (μ : sx_M), 0 ≤ x4 → x4 ≤ 2050 → 2050 - x4 < 4 * (n : Int) → sI μ → sw_L_law_43 sc Lz n x4 μ
  | 0, x4, μ, _, _, h, _ => by omega
  | n + 1, x4, μ, h0, h1, h2, hI => by
    rw [sw_L_law_43]
    refine ⟨by omega, fun _ => rfl, fun e => ?_⟩
    have hx : 0 ≤ x4 ∧ x4 + 3 < Lz := by omega
    have hk : ∀ μ1, sI μ1 → sw_L_law_43 sc Lz n (x4 + 4) μ1 := fun μ1 h => lp_law hsc hL n (x4 + 4) μ1 (by omega) (by omega) (by omega) h
    exact ⟨by omega, sx_rg _, fun _ => tu_pixel hI hx hsc hk, fun _ => tu_middle hI hx hsc hk, fun _ => tu_ray hI hx hsc hk, fun _ => tu_samples hI hx hsc hk, fun _ => tu_sample hI hx hsc hk, fun _ => tu_rule hI hx hsc hk, fun _ => tu_rings hI hx hsc hk, fun _ => tu_ring hI hx hsc hk, fun _ => tu_join hI hx hsc hk, fun _ => tu_joined hI hx hsc hk, fun _ => tu_back hI hx hsc hk, fun _ => tu_tell hI hx hsc hk, fun _ => tu_may hI hx hsc hk, fun _ => tu_seen hI hx hsc hk, fun _ => tu_agree hI hx hsc hk, fun _ => tu_bias hI hx hsc hk, fun _ => tu_told hI hx hsc hk, fun _ => tu_right hI hx hsc hk, fun _ => tu_best hI hx hsc hk, fun _ => tu_age hI hx hsc hk, fun _ => tu_twin hI hx hsc hk, fun _ => tu_count hI hx hsc hk, fun _ => hk μ hI⟩
theorem pure_whole {L : Nat} {xs : Nat → Int32} (hL : L ≤ 2050) : sw_L_law_43 (sx_sc xs) (L : Int) 514 2 (sr_mu0 (sr_near (sr_cell L xs 0)) (sr_near (sr_cell L xs 1))) :=
  lp_law (fun _ => sx_rg _) (by omega) 514 2 _ (by omega) (by omega) (by omega) (sI_0 (near_bd _) (near_bd _))
