variable {Q : Int → sx_M → Prop} {X : String → sx_M → Prop} {μ : sx_M}
/-! What holds between the calls. -/
def iC (μ : sx_M) : Prop := iK μ ∧ μ 16 2 = sT (haF (μ 17)) 20
def iJ (μ : sx_M) : Prop := (μ 13 3 = 0 ∨ μ 13 3 = 1) ∧ μ 19 17 = μ 13 3 ∧ 0 ≤ μ 13 2 ∧ μ 13 2 ≤ 8 ∧ μ 19 18 = μ 13 2 ∧ ∀ k : Int, 0 ≤ k → k < μ 13 2 → μ 28 k = μ 15 k ∧ -1 ≤ μ 15 k ∧ μ 15 k ≤ 16
def sI (μ : sx_M) : Prop := iP μ ∧ iR μ ∧ iU μ ∧ iC μ ∧ iJ μ
def coreC (c : Nat) : Prop := c < 5 ∨ c = 13 ∨ c = 15 ∨ c = 16 ∨ c = 17 ∨ c = 20 ∨ c = 21 ∨ c = 22 ∨ c = 28 ∨ c = 29
def coreK (k : Int) : Prop := k = 1 ∨ k = 2 ∨ k = 4 ∨ k = 7 ∨ k = 8 ∨ k = 17 ∨ k = 18
theorem sI_fr {μ1 : sx_M} (h : sI μ) (h1 : ∀ c, coreC c → μ1 c = μ c) (h2 : ∀ k, coreK k → μ1 19 k = μ 19 k) : sI μ1 := by
  obtain ⟨a1, a2, a3, a4, a5⟩ := h
  have g : ∀ c, coreC c → μ1 c = μ c := h1
  unfold coreC at h1
  unfold coreK at h2
  refine ⟨iP_fr a1 (h1 3 (by omega)) (h1 4 (by omega)) (h1 20 (by omega)) (h2 1 (by omega)) (h2 2 (by omega)), iR_fr a2 (h1 0 (by omega)) (h1 1 (by omega)) (h1 2 (by omega)) (h1 21 (by omega)) (h1 22 (by omega)) (h2 4 (by omega)), iU_fr a3 (h1 0 (by omega)) (h2 7 (by omega)) (h2 8 (by omega)), ⟨iK_fr a4.1 (h1 17 (by omega)) (h1 29 (by omega)), ?_⟩, ?_⟩
  · rw [h1 16 (by omega), h1 17 (by omega)]
    exact a4.2
  · unfold iJ
    rw [h1 13 (by omega), h1 15 (by omega), h1 28 (by omega), h2 17 (by omega), h2 18 (by omega)]
    exact a5
theorem sI_th (h : sI μ) (y : Int) : sI (sx_up μ 19 0 y) := by
  refine sI_fr h (fun c hc => sx_up_ne _ _ (by unfold coreC at hc; omega)) (fun k hk => ?_)
  rw [sx_up_self]
  have : k ≠ 0 := by
    unfold coreK at hk
    omega
  simp only [this, if_false]
theorem sI_out (h : sI μ) (y : Int) : sI (sx_up μ 30 0 y) := by
  refine sI_fr h (fun c hc => sx_up_ne _ _ (by unfold coreC at hc; omega)) (fun k hk => ?_)
  rw [sx_up_ne _ _ (by omega)]
theorem th_0 (μ : sx_M) (y : Int) : sx_up μ 19 0 y 19 0 = y := by
  rw [sx_up_self]
  simp
theorem th_c (μ : sx_M) (y : Int) {c : Nat} (h : c ≠ 19) : sx_up μ 19 0 y c = μ c := sx_up_ne _ _ h
theorem th_k (μ : sx_M) (y : Int) {k : Int} (h : k ≠ 0) : sx_up μ 19 0 y 19 k = μ 19 k := by
  rw [sx_up_self]
  simp only [h, if_false]
theorem out_0 (μ : sx_M) (y : Int) : sx_up μ 30 0 y 30 0 = y := by
  rw [sx_up_self]
  simp
theorem out_c (μ : sx_M) (y : Int) {c : Nat} (h : c ≠ 30) : sx_up μ 30 0 y c = μ c := sx_up_ne _ _ h
theorem thP {A B : Prop} {y : Int} (h : 0 < y ∧ y ≤ 3) (b : B) : sx_R ((sx_up μ 19 0 y) 19 0) ∧ (((sx_up μ 19 0 y) 19 0) ≤ 0 → A) ∧ (0 < ((sx_up μ 19 0 y) 19 0) → B) := by
  rw [th_0]
  exact ⟨by omega, fun q => by omega, fun _ => b⟩
theorem thZ {A B : Prop} (a : A) : sx_R ((sx_up μ 19 0 0) 19 0) ∧ (((sx_up μ 19 0 0) 19 0) ≤ 0 → A) ∧ (0 < ((sx_up μ 19 0 0) 19 0) → B) := by
  rw [th_0]
  exact ⟨by omega, fun _ => a, fun q => by omega⟩
theorem thP' {A B : Prop} {y : Int} (h : 0 < y ∧ y ≤ 3) (b : B) : sx_R ((sx_up μ 19 0 y) 19 0) ∧ (¬ ((sx_up μ 19 0 y) 19 0) = 0 → B) ∧ (((sx_up μ 19 0 y) 19 0) = 0 → A) := by
  rw [th_0]
  exact ⟨by omega, fun _ => b, fun q => by omega⟩
theorem thZ' {A B : Prop} (a : A) : sx_R ((sx_up μ 19 0 0) 19 0) ∧ (¬ ((sx_up μ 19 0 0) 19 0) = 0 → B) ∧ (((sx_up μ 19 0 0) 19 0) = 0 → A) := by
  rw [th_0]
  exact ⟨by omega, fun q => absurd rfl q, fun _ => a⟩
theorem cmp_eq (a : Int) : sx_cmp a a = 0 := by
  unfold sx_cmp
  simp
/-- the end of a turn: an int was answered -/
theorem endA {R : sx_M → Prop} {k v : Int} (hk : 0 ≤ k ∧ k ≤ 3) (ht : μ 19 0 = k) (hv : k = 0 → sx_R v ∧ μ 30 0 = v) (hR : R μ) : (sx_R (μ 19 0) ∧ sx_R k) ∧ (μ 19 0 = k → (sx_R k ∧ (¬ k = 0 → R μ) ∧ (k = 0 → ((0 ≤ (0 : Int) ∧ (0 : Int) < 1) ∧ (sx_R v ∧ ((sx_R (μ 30 0) ∧ sx_R v) ∧ (sx_R (sx_cmp (μ 30 0) v) ∧ ((sx_cmp (μ 30 0) v) = 0 → R μ) ∧ (¬ (sx_cmp (μ 30 0) v) = 0 → ((0 : Int) = 1))))))))) ∧ (¬ μ 19 0 = k → ((0 : Int) = 1)) := by
  refine ⟨by omega, fun _ => ⟨by omega, fun _ => hR, fun q => ?_⟩, fun q => absurd ht q⟩
  obtain ⟨h1, h2⟩ := hv q
  rw [h2, cmp_eq]
  exact ⟨by omega, h1, ⟨h1, h1⟩, by omega, fun _ => hR, fun q => absurd rfl q⟩
/-- the end of a turn: nothing was answered -/
theorem endV {R : sx_M → Prop} {k : Int} (hk : 0 ≤ k ∧ k ≤ 3) (ht : μ 19 0 = k) (hR : R μ) : (sx_R (μ 19 0) ∧ sx_R k) ∧ (μ 19 0 = k → R μ) ∧ (¬ μ 19 0 = k → ((0 : Int) = 1)) :=
  ⟨by omega, fun _ => hR, fun q => absurd ht q⟩
/-- the end of a turn: a boolean was answered -/
theorem endB {R : sx_M → Prop} {S : Int → Int → sx_M → Prop} {k v : Int} (hS : ∀ a : Int, (a = 0 ∨ a = 1) → S a a μ) (hk : 0 ≤ k ∧ k ≤ 3) (ht : μ 19 0 = k) (hv : k = 0 → (v = 0 ∨ v = 1) ∧ μ 30 0 = v) (hR : R μ) : (sx_R (μ 19 0) ∧ sx_R k) ∧ (μ 19 0 = k → (sx_R k ∧ (¬ k = 0 → R μ) ∧ (k = 0 → ((0 ≤ (0 : Int) ∧ (0 : Int) < 1) ∧ (sx_R v ∧ (v = 0 → S (μ 30 0) 0 μ) ∧ (¬ v = 0 → S (μ 30 0) 1 μ)))))) ∧ (¬ μ 19 0 = k → ((0 : Int) = 1)) := by
  refine ⟨by omega, fun _ => ⟨by omega, fun _ => hR, fun q => ?_⟩, fun q => absurd ht q⟩
  obtain ⟨h1, h2⟩ := hv q
  refine ⟨by omega, by omega, fun e => ?_, fun e => ?_⟩
  · rw [h2, e]
    exact hS 0 (.inl rfl)
  · rw [h2, show v = 1 by omega]
    exact hS 1 (.inr rfl)
theorem cmpS {R : sx_M → Prop} {a : Int} (ha : a = 0 ∨ a = 1) (hR : R μ) : (sx_R a ∧ sx_R a) ∧ (sx_R (sx_cmp a a) ∧ ((sx_cmp a a) = 0 → R μ) ∧ (¬ (sx_cmp a a) = 0 → ((0 : Int) = 1))) := by
  rw [cmp_eq]
  exact ⟨by omega, by omega, fun _ => hR, fun q => absurd rfl q⟩
/-! The turns. -/
section
variable {sc : Int → Int} {Lz : Int} {r43 : Int → sx_M → Prop} {x4 : Int}
theorem tu_middle (hI : sI μ) (hx : 0 ≤ x4 ∧ x4 + 3 < Lz) (hsc : ∀ j, sx_R (sc j)) (hk : ∀ μ1, sI μ1 → r43 (x4 + 4) μ1) : sw_L_law_247 sc Lz r43 x4 μ := by
  have hp := hI.1
  unfold sw_L_law_247 sw_L_middle sw_S_middle sw_S_middle_26
  have xb := cX_bd hp
  have yb := cY_bd hp
  refine ⟨by omega, sp_needPlace (hsc _) (by omega) (fun e => ⟨rfl, fun _ => ⟨by omega, ?_⟩⟩) (fun e1 e2 => ⟨hsc _, fun e => ?_, fun e => ?_⟩)⟩
  · unfold sw_M_middle sw_M_middle_15 sw_M_middle_34 sw_M_thrown
    refine sp_isIn (hsc _) (by omega) (by omega) (fun _ => ⟨by omega, fun q => absurd rfl q, fun _ => thP (by omega) ?_⟩) (fun q1 q2 => by omega)
    exact endA (R := fun μ => r43 (x4 + 4) μ) (by omega) (th_0 _ _) (by omega) (hk _ (sI_th hI 1))
  · have vR : sx_R (cY (μ 3)) := by
      by_cases q : μ 3 3 < 1
      · have := yb.1 q
        omega
      · have := yb.2 (by omega)
        omega
    refine sp_centreY hp ⟨vR, by omega, by omega, ?_⟩
    have hO := sI_out hI (cY (μ 3))
    unfold sw_M_middle sw_M_middle_15 sw_M_middle_34 sw_M_thrown
    refine sp_isIn (hsc _) (by omega) (by omega) (fun _ => by omega) (fun q1 q2 => ⟨by omega, fun _ => thZ ?_, fun q => by omega⟩)
    rw [show sc (x4 + 1) = 1 by omega]
    refine sp_middle1 (sI_th hO 0).1 ?_
    rw [th_c _ _ (by omega), out_c _ _ (by omega)]
    refine endA (R := fun μ => r43 (x4 + 4) μ) (by omega) (th_0 _ _) (fun _ => ⟨vR, ?_⟩) (hk _ (sI_th hO 0))
    rw [th_c _ _ (by omega), out_0]
  · have vR : sx_R (cX (μ 3)) := by
      by_cases q : μ 3 3 < 1
      · have := xb.1 q
        omega
      · have := xb.2 (by omega)
        omega
    refine sp_centreX hp ⟨vR, by omega, by omega, ?_⟩
    have hO := sI_out hI (cX (μ 3))
    unfold sw_M_middle sw_M_middle_15 sw_M_middle_34 sw_M_thrown
    refine sp_isIn (hsc _) (by omega) (by omega) (fun _ => by omega) (fun q1 q2 => ⟨by omega, fun _ => thZ ?_, fun q => by omega⟩)
    rw [e]
    refine sp_middle0 (sI_th hO 0).1 ?_
    rw [th_c _ _ (by omega), out_c _ _ (by omega)]
    refine endA (R := fun μ => r43 (x4 + 4) μ) (by omega) (th_0 _ _) (fun _ => ⟨vR, ?_⟩) (hk _ (sI_th hO 0))
    rw [th_c _ _ (by omega), out_0]
theorem tu_told (hI : sI μ) (hx : 0 ≤ x4 ∧ x4 + 3 < Lz) (hsc : ∀ j, sx_R (sc j)) (hk : ∀ μ1, sI μ1 → r43 (x4 + 4) μ1) : sw_L_law_1298 sc Lz r43 x4 μ := by
  have hK := hI.2.2.2.1.1
  unfold sw_L_law_1298 sw_L_told sw_S_told
  refine ⟨by omega, sp_needPlace (hsc _) (by omega) (fun e => ⟨rfl, fun _ => ⟨by omega, ?_⟩⟩) (fun e1 e2 => sp_mostTold hK ⟨e1, e2⟩ (fun b hb b1 b2 => ⟨by omega, by omega, by omega, ?_⟩))⟩
  · unfold sw_M_told sw_M_told_16 sw_M_told_35 sw_M_thrown
    refine sp_isIn (hsc _) (by omega) (by omega) (fun _ => ⟨by omega, fun q => absurd rfl q, fun _ => thP (by omega) ?_⟩) (fun q1 q2 => by omega)
    exact endA (R := fun μ => r43 (x4 + 4) μ) (by omega) (th_0 _ _) (by omega) (hk _ (sI_th hI 1))
  · have hO := sI_out hI b
    have hT := sI_th hO 0
    unfold sw_M_told sw_M_told_16 sw_M_told_35 sw_M_thrown
    refine sp_isIn (hsc _) (by omega) (by omega) (fun _ => by omega) (fun q1 q2 => ⟨by omega, fun _ => thZ ?_, fun q => by omega⟩)
    refine sp_toldOf hT.2.2.2.1.1 ⟨e1, e2⟩ (fun b' hb' _ _ => ?_)
    rw [th_c _ _ (by omega), out_c _ _ (by omega), ← hb] at hb'
    refine endA (R := fun μ => r43 (x4 + 4) μ) (by omega) (th_0 _ _) (fun _ => ⟨by omega, ?_⟩) (hk _ hT)
    rw [th_c _ _ (by omega), out_0, hb']
theorem tu_right (hI : sI μ) (hx : 0 ≤ x4 ∧ x4 + 3 < Lz) (hsc : ∀ j, sx_R (sc j)) (hk : ∀ μ1, sI μ1 → r43 (x4 + 4) μ1) : sw_L_law_1354 sc Lz r43 x4 μ := by
  have hK := hI.2.2.2.1.1
  unfold sw_L_law_1354 sw_L_right sw_S_right
  have rb := rF_bd (μ 17) (sc (x4 + 1))
  refine ⟨by omega, sp_needPlace (hsc _) (by omega) (fun e => ⟨rfl, fun _ => ⟨by omega, ?_⟩⟩) (fun e1 e2 => sp_hits hK ⟨e1, e2⟩ ⟨by omega, by omega, by omega, ?_⟩)⟩
  · unfold sw_M_right sw_M_right_15 sw_M_right_34 sw_M_thrown
    refine sp_isIn (hsc _) (by omega) (by omega) (fun _ => ⟨by omega, fun q => absurd rfl q, fun _ => thP (by omega) ?_⟩) (fun q1 q2 => by omega)
    exact endA (R := fun μ => r43 (x4 + 4) μ) (by omega) (th_0 _ _) (by omega) (hk _ (sI_th hI 1))
  · have hO := sI_out hI (rF (μ 17) (sc (x4 + 1)))
    have hT := sI_th hO 0
    unfold sw_M_right sw_M_right_15 sw_M_right_34 sw_M_thrown
    refine sp_isIn (hsc _) (by omega) (by omega) (fun _ => by omega) (fun q1 q2 => ⟨by omega, fun _ => thZ ?_, fun q => by omega⟩)
    refine sp_rightOf hT.2.2.2.1.1 ⟨e1, e2⟩ ?_
    rw [th_c _ _ (show 17 ≠ 19 by omega), out_c _ _ (by omega)]
    refine endA (R := fun μ => r43 (x4 + 4) μ) (by omega) (th_0 _ _) (fun _ => ⟨by omega, ?_⟩) (hk _ hT)
    rw [th_c _ _ (by omega), out_0]
theorem tu_best (hI : sI μ) (hx : 0 ≤ x4 ∧ x4 + 3 < Lz) (hsc : ∀ j, sx_R (sc j)) (hk : ∀ μ1, sI μ1 → r43 (x4 + 4) μ1) : sw_L_law_1410 sc Lz r43 x4 μ := by
  have hK := hI.2.2.2.1.1
  unfold sw_L_law_1410 sw_L_best sw_S_best
  have rb := fsF_bd (rF (μ 17)) (sc (x4 + 1))
  refine ⟨by omega, sp_needPlace (hsc _) (by omega) (fun e => ⟨rfl, fun _ => ⟨by omega, ?_⟩⟩) (fun e1 e2 => sp_readerAt ⟨e1, e2⟩ hK (fun μ1 f1 => ⟨by omega, by omega, by omega, ?_⟩))⟩
  · unfold sw_M_best sw_M_best_15 sw_M_thrown
    refine sp_isIn (hsc _) (by omega) (by omega) (fun _ => ⟨by omega, fun q => absurd rfl q, fun _ => ?_⟩) (fun q1 q2 => by omega)
    rw [show (600 : Nat) = 599 + 1 from rfl, sw_M_best_20]
    unfold sw_M_best_104
    rw [th_0]
    exact ⟨by omega, fun _ => by omega, fun _ => ⟨by omega, fun _ => endA (R := fun μ => r43 (x4 + 4) μ) (by omega) (th_0 _ _) (by omega) (hk _ (sI_th hI 1)), fun q => by omega⟩⟩
  · have h1 : sI μ1 := sI_fr hI (fun c hc => f1 c (by unfold coreC at hc; omega)) (fun k _ => by rw [f1 19 (by omega)])
    have hO := sI_out h1 (fsF (rF (μ 17)) (sc (x4 + 1)))
    have hT := sI_th hO 0
    unfold sw_M_best sw_M_best_15 sw_M_thrown
    refine sp_isIn (hsc _) (by omega) (by omega) (fun _ => by omega) (fun q1 q2 => ⟨by omega, fun _ => ?_, fun q => by omega⟩)
    refine lp_best hT.2.2.2.1.1 (th_0 _ _) ⟨e1, e2⟩ ?_ 600 0 (by omega) (by omega) (by omega) (fun q q0 q1 => by omega)
    rw [th_c _ _ (show 17 ≠ 19 by omega), out_c _ _ (show 17 ≠ 30 by omega), f1 17 (by omega)]
    refine endA (R := fun μ => r43 (x4 + 4) μ) (by omega) (th_0 _ _) (fun _ => ⟨by omega, ?_⟩) (hk _ hT)
    rw [th_c _ _ (by omega), out_0]
end
