variable {Q : Int → sx_M → Prop} {X : String → sx_M → Prop} {μ : sx_M}
/-! What the readers told. -/
def iK (μ : sx_M) : Prop := ∀ k : Int, 0 ≤ k → k < 80 → μ 29 k = μ 17 k + 1 ∧ -1 ≤ μ 17 k ∧ μ 17 k ≤ 60
theorem sp_of {r s : Int} (hr : 0 ≤ r ∧ r < 4) (hs : 0 ≤ s ∧ s < 20) (h : Q (μ 17 (20 * r + s)) μ) : sw_D_of Q μ r s := by
  unfold sw_D_of
  rw [show r * 20 + s = 20 * r + s by omega]
  exact ⟨by omega, h⟩
theorem sp_has {r s : Int} (hK : iK μ) (hr : 0 ≤ r ∧ r < 4) (hs : 0 ≤ s ∧ s < 20) (h1 : μ 17 (20 * r + s) = -1 → Q 0 μ) (h2 : μ 17 (20 * r + s) ≠ -1 → Q 1 μ) : sw_D_has Q μ r s := by
  unfold sw_D_has sw_D_has_15
  have := hK (20 * r + s) (by omega) (by omega)
  exact sp_of hr hs ⟨by omega, fun e => ⟨.inl rfl, h1 e⟩, fun e => ⟨.inr rfl, h2 e⟩⟩
theorem sp_bothTold {r o s : Int} (hK : iK μ) (hr : 0 ≤ r ∧ r < 4) (ho : 0 ≤ o ∧ o < 4) (hs : 0 ≤ s ∧ s < 20) (h1 : ¬ (μ 17 (20 * r + s) ≠ -1 ∧ μ 17 (20 * o + s) ≠ -1) → Q 0 μ) (h2 : μ 17 (20 * r + s) ≠ -1 ∧ μ 17 (20 * o + s) ≠ -1 → Q 1 μ) : sw_D_bothTold Q μ r o s := by
  unfold sw_D_bothTold sw_D_bothTold_22 sw_D_bothTold_23
  refine sp_has hK hr hs (fun e => ⟨by omega, fun _ => ⟨.inl rfl, h1 (by omega)⟩, fun e2 => absurd rfl e2⟩) (fun e => ⟨by omega, by omega, fun _ => ?_⟩)
  exact sp_has hK ho hs (fun e => ⟨by omega, fun _ => ⟨.inl rfl, h1 (by omega)⟩, fun e2 => absurd rfl e2⟩) (fun e => ⟨by omega, by omega, fun _ => ⟨.inr rfl, h2 (by omega)⟩⟩)
theorem sp_both {r o s : Int} (hK : iK μ) (hr : 0 ≤ r ∧ r < 4) (ho : 0 ≤ o ∧ o < 4) (hs : 0 ≤ s ∧ s < 20) (h1 : ¬ (μ 17 (20 * r + s) ≠ -1 ∧ μ 17 (20 * o + s) ≠ -1) → Q 0 μ) (h2 : μ 17 (20 * r + s) ≠ -1 ∧ μ 17 (20 * o + s) ≠ -1 → Q 1 μ) : sw_M_both Q μ r o s := by
  unfold sw_M_both sw_M_both_32 sw_M_both_33
  have a1 := hK (20 * r + s) (by omega) (by omega)
  have a2 := hK (20 * o + s) (by omega) (by omega)
  exact ⟨by omega, by omega, fun e => ⟨.inl rfl, h1 (by omega)⟩, fun e => ⟨by omega, by omega, fun e2 => ⟨.inl rfl, h1 (by omega)⟩, fun e2 => ⟨.inr rfl, h2 (by omega)⟩⟩⟩
/-- how many readers told v of stone s -/
def tV (c : Int → Int) (s v : Int) : Int := sT (fun r => if c (20 * r + s) = v then 1 else 0) 4
theorem tV_bd (c : Int → Int) (s v : Int) : 0 ≤ tV c s v ∧ tV c s v ≤ 4 := by
  have := sT_bd (f := fun r => if c (20 * r + s) = v then (1 : Int) else 0) (A := 0) (B := 1) (n := 4) (by omega) (fun k _ _ => by split <;> omega)
  unfold tV
  omega
theorem tV_in {c : Int → Int} {s q : Int} (h0 : 0 ≤ q) (h4 : q < 4) : 1 ≤ tV c s (c (20 * q + s)) := by
  unfold tV
  rw [sT4]
  have : q = 0 ∨ q = 1 ∨ q = 2 ∨ q = 3 := by omega
  rcases this with e | e | e | e <;> subst e <;> simp only [if_true] <;> (repeat' split) <;> omega
theorem tV_out {c : Int → Int} {s v : Int} (h : ∀ q : Int, 0 ≤ q → q < 4 → c (20 * q + s) ≠ v) : tV c s v = 0 := by
  unfold tV
  rw [sT4, if_neg (h 0 (by omega) (by omega)), if_neg (h 1 (by omega) (by omega)), if_neg (h 2 (by omega) (by omega)), if_neg (h 3 (by omega) (by omega))]
  rfl
def isTold (c : Int → Int) (s b : Int) : Prop := (b = -1 ∧ ∀ v : Int, 0 ≤ v → v ≤ 60 → tV c s v = 0) ∨ (0 ≤ b ∧ b ≤ 60 ∧ 1 ≤ tV c s b ∧ ∀ v : Int, 0 ≤ v → v ≤ 60 → tV c s v < tV c s b ∨ (tV c s v = tV c s b ∧ b ≤ v))
theorem isTold_one {c : Int → Int} {s b b' : Int} (h : isTold c s b) (h' : isTold c s b') : b = b' := by
  rcases h with ⟨h1, h2⟩ | ⟨h1, h2, h3, h4⟩ <;> rcases h' with ⟨k1, k2⟩ | ⟨k1, k2, k3, k4⟩
  · omega
  · have := h2 b' k1 k2
    omega
  · have := k2 b h1 h2
    omega
  · have a1 := h4 b' k1 k2
    have a2 := k4 b h1 h2
    omega
noncomputable def toldF (c : Int → Int) (s : Int) : Int := Classical.epsilon (fun b => isTold c s b)
theorem toldF_eq {c : Int → Int} {s b : Int} (h : isTold c s b) : b = toldF c s := by
  have q : ∃ b, isTold c s b := ⟨b, h⟩
  exact isTold_one h (Classical.epsilon_spec q)
theorem isTold_bd {c : Int → Int} {s b : Int} (h : isTold c s b) : -1 ≤ b ∧ b ≤ 60 := by
  rcases h with ⟨h1, h2⟩ | ⟨h1, h2, h3, h4⟩ <;> omega
theorem lp_votesFor {s v : Int} (hK : iK μ) (hv : sx_R v) (hs : 0 ≤ s ∧ s < 20) (h : Q (tV (μ 17) s v) μ) : ∀ (n : Nat) (i acc : Int), 0 ≤ i → i ≤ 4 → 4 - i < (n : Int) → acc = sT (fun r => if (μ 17) (20 * r + s) = v then 1 else 0) i → sw_D_votesFor_5 Q n s v acc i μ
  | 0, i, acc, _, _, _, _ => by omega
  | n + 1, i, acc, h0, h4, hn, ha => by
    rw [sw_D_votesFor_5]
    refine ⟨by omega, fun e => ?_, fun e => ?_⟩
    · have : i = 4 := by omega
      subst this
      rw [ha]
      exact h
    · have := hK (20 * i + s) (by omega) (by omega)
      refine sp_of (by omega) hs ⟨⟨by omega, hv⟩, fun e => ?_, fun e => ?_⟩
      · unfold sw_D_votesFor_25
        refine lp_votesFor hK hv hs h n (i + 1) acc (by omega) (by omega) (by omega) ?_
        rw [sT_succ _ h0, if_neg e, ha]
        omega
      · unfold sw_D_votesFor_25
        refine lp_votesFor hK hv hs h n (i + 1) (acc + 1) (by omega) (by omega) (by omega) ?_
        rw [sT_succ _ h0, if_pos e, ha]
theorem sp_votesFor {s v : Int} (hK : iK μ) (hv : sx_R v) (hs : 0 ≤ s ∧ s < 20) (h : Q (tV (μ 17) s v) μ) : sw_D_votesFor Q μ s v := lp_votesFor hK hv hs h 600 0 0 (by omega) (by omega) (by omega) rfl
def mtI (c : Int → Int) (s i ch vt : Int) : Prop := (ch = -1 ∧ vt = 0 ∧ ∀ q : Int, 0 ≤ q → q < i → c (20 * q + s) = -1) ∨ (0 ≤ ch ∧ ch ≤ 60 ∧ 1 ≤ vt ∧ vt = tV c s ch ∧ ∀ q : Int, 0 ≤ q → q < i → c (20 * q + s) = -1 ∨ tV c s (c (20 * q + s)) < vt ∨ (tV c s (c (20 * q + s)) = vt ∧ ch ≤ c (20 * q + s)))
theorem mtI_end {c : Int → Int} {s ch vt : Int} (h : mtI c s 4 ch vt) : isTold c s ch := by
  rcases h with ⟨h1, h2, h3⟩ | ⟨h1, h2, h3, h4, h5⟩
  · left
    refine ⟨h1, fun v v0 _ => tV_out (fun q q0 q4 => ?_)⟩
    have := h3 q q0 q4
    omega
  · right
    refine ⟨h1, h2, by omega, fun v v0 v6 => ?_⟩
    by_cases e : ∃ q : Int, 0 ≤ q ∧ q < 4 ∧ c (20 * q + s) = v
    · obtain ⟨q, q0, q4, e⟩ := e
      have := h5 q q0 q4
      rw [e] at this
      omega
    · left
      rw [tV_out (fun q q0 q4 k => e ⟨q, q0, q4, k⟩)]
      omega
theorem lp_mostTold {s : Int} (hK : iK μ) (hs : 0 ≤ s ∧ s < 20) (h : ∀ b, b = toldF (μ 17) s → -1 ≤ b → b ≤ 60 → Q b μ) : ∀ (n : Nat) (i ch vt : Int), 0 ≤ i → i ≤ 4 → 4 - i < (n : Int) → mtI (μ 17) s i ch vt → sw_D_mostTold_7 Q n s ch vt i μ
  | 0, i, ch, vt, _, _, _, _ => by omega
  | n + 1, i, ch, vt, h0, h4, hn, hI => by
    rw [sw_D_mostTold_7]
    have hvt : 0 ≤ vt ∧ vt ≤ 4 := by
      rcases hI with ⟨h1, h2, h3⟩ | ⟨h1, h2, h3, h4, h5⟩
      · omega
      · have := tV_bd (μ 17) s ch
        omega
    have hch : -1 ≤ ch ∧ ch ≤ 60 := by
      rcases hI with ⟨h1, h2, h3⟩ | ⟨h1, h2, h3, h4, h5⟩ <;> omega
    refine ⟨by omega, fun e => ?_, fun e => ?_⟩
    · have : i = 4 := by omega
      subst this
      have t := mtI_end hI
      exact h ch (toldF_eq t) (isTold_bd t).1 (isTold_bd t).2
    · have hk := hK (20 * i + s) (by omega) (by omega)
      refine sp_of (by omega) hs ⟨⟨by omega, by omega⟩, fun e1 => ?_, fun e1 => ?_⟩
      · refine sp_votesFor hK (by omega) hs ?_
        have hb := tV_bd (μ 17) s ((μ 17) (20 * i + s))
        have hb1 := tV_in (c := μ 17) (s := s) h0 e
        unfold sw_D_mostTold_39 sw_D_mostTold_64 sw_D_mostTold_70
        have step1 : (vt < tV (μ 17) s ((μ 17) (20 * i + s)) ∨ (tV (μ 17) s ((μ 17) (20 * i + s)) = vt ∧ (μ 17) (20 * i + s) < ch)) → sw_D_mostTold_7 Q n s ((μ 17) (20 * i + s)) (tV (μ 17) s ((μ 17) (20 * i + s))) (i + 1) μ := by
          intro k
          refine lp_mostTold hK hs h n (i + 1) _ _ (by omega) (by omega) (by omega) (.inr ⟨by omega, by omega, by omega, rfl, fun q q0 q1 => ?_⟩)
          by_cases qi : q = i
          · subst qi
            right; right
            exact ⟨rfl, Int.le_refl _⟩
          · rcases hI with ⟨h1, h2, h3⟩ | ⟨h1, h2, h3, h4, h5⟩
            · exact .inl (h3 q q0 (by omega))
            · have := h5 q q0 (by omega)
              omega
        have step0 : ¬ (vt < tV (μ 17) s ((μ 17) (20 * i + s)) ∨ (tV (μ 17) s ((μ 17) (20 * i + s)) = vt ∧ (μ 17) (20 * i + s) < ch)) → sw_D_mostTold_7 Q n s ch vt (i + 1) μ := by
          intro k
          refine lp_mostTold hK hs h n (i + 1) _ _ (by omega) (by omega) (by omega) ?_
          rcases hI with ⟨h1, h2, h3⟩ | ⟨h1, h2, h3, h4, h5⟩
          · exfalso
            omega
          · refine .inr ⟨h1, h2, h3, h4, fun q q0 q1 => ?_⟩
            by_cases qi : q = i
            · subst qi
              omega
            · exact h5 q q0 (by omega)
        refine ⟨by omega, fun k => step1 (.inl k), fun k => ⟨by omega, by omega, fun _ => ⟨by omega, fun k2 => step0 (by omega), fun k2 => ⟨by omega, fun k3 => step0 (by omega), fun k3 => step1 (by omega)⟩⟩⟩⟩
      · unfold sw_D_mostTold_39 sw_D_mostTold_64 sw_D_mostTold_70
        have step0 : sw_D_mostTold_7 Q n s ch vt (i + 1) μ := by
          refine lp_mostTold hK hs h n (i + 1) _ _ (by omega) (by omega) (by omega) ?_
          rcases hI with ⟨h1, h2, h3⟩ | ⟨h1, h2, h3, h4, h5⟩
          · refine .inl ⟨h1, h2, fun q q0 q1 => ?_⟩
            by_cases qi : q = i
            · subst qi
              exact e1
            · exact h3 q q0 (by omega)
          · refine .inr ⟨h1, h2, h3, h4, fun q q0 q1 => ?_⟩
            by_cases qi : q = i
            · subst qi
              exact .inl e1
            · exact h5 q q0 (by omega)
        exact ⟨by omega, fun k => by omega, fun k => ⟨by omega, fun _ => step0, fun k2 => by omega⟩⟩
theorem sp_mostTold {s : Int} (hK : iK μ) (hs : 0 ≤ s ∧ s < 20) (h : ∀ b, b = toldF (μ 17) s → -1 ≤ b → b ≤ 60 → Q b μ) : sw_D_mostTold Q μ s :=
  lp_mostTold hK hs h 600 0 (-1) 0 (by omega) (by omega) (by omega) (.inl ⟨rfl, rfl, fun q q0 q1 => by omega⟩)
theorem lp_toldOf1 {r7 : Int → Int → Int → Int → sx_M → Prop} {s b m v : Int} (hK : iK μ) (hs : 0 ≤ s ∧ s < 20) (hv : 0 ≤ v ∧ v ≤ 60) (hm : 0 ≤ m ∧ m ≤ 4) (h : r7 s (if m < tV (μ 17) s v then v else b) (if m < tV (μ 17) s v then tV (μ 17) s v else m) (v + 1) μ) : ∀ (n : Nat) (i acc : Int), 0 ≤ i → i ≤ 4 → 4 - i < (n : Int) → acc = sT (fun r => if (μ 17) (20 * r + s) = v then 1 else 0) i → sw_M_toldOf_20 Q r7 n s b m v acc i μ
  | 0, i, acc, _, _, _, _ => by omega
  | n + 1, i, acc, h0, h4, hn, ha => by
    rw [sw_M_toldOf_20]
    refine ⟨by omega, fun e => ?_, fun e => ?_⟩
    · have : i = 4 := by omega
      subst this
      have hb := tV_bd (μ 17) s v
      have ha' : acc = tV (μ 17) s v := ha
      subst ha'
      unfold sw_M_toldOf_74 sw_M_toldOf_87
      refine ⟨by omega, fun k => ⟨by omega, fun k2 => ?_, fun k2 => by omega⟩, fun k => ⟨by omega, fun k2 => by omega, fun k2 => ?_⟩⟩
      · rw [if_neg (by omega), if_neg (by omega)] at h
        exact h
      · rw [if_pos k2, if_pos k2] at h
        exact h
    · have := hK (20 * i + s) (by omega) (by omega)
      refine ⟨by omega, by omega, fun e => ?_, fun e => ?_⟩
      · unfold sw_M_toldOf_54
        refine lp_toldOf1 hK hs hv hm h n (i + 1) acc (by omega) (by omega) (by omega) ?_
        rw [sT_succ _ h0, if_neg (by omega), ha]
        omega
      · unfold sw_M_toldOf_54
        refine lp_toldOf1 hK hs hv hm h n (i + 1) (acc + 1) (by omega) (by omega) (by omega) ?_
        rw [sT_succ _ h0, if_pos (by omega), ha]
def toI (c : Int → Int) (s i b m : Int) : Prop := (b = -1 ∧ m = 0 ∧ ∀ v : Int, 0 ≤ v → v < i → tV c s v = 0) ∨ (0 ≤ b ∧ b < i ∧ 1 ≤ m ∧ m = tV c s b ∧ ∀ v : Int, 0 ≤ v → v < i → tV c s v < m ∨ (tV c s v = m ∧ b ≤ v))
theorem lp_toldOf {s : Int} (hK : iK μ) (hs : 0 ≤ s ∧ s < 20) (h : ∀ b, b = toldF (μ 17) s → -1 ≤ b → b ≤ 60 → Q b μ) : ∀ (n : Nat) (i b m : Int), 0 ≤ i → i ≤ 61 → 61 - i < (n : Int) → toI (μ 17) s i b m → sw_M_toldOf_7 Q n s b m i μ
  | 0, i, b, m, _, _, _, _ => by omega
  | n + 1, i, b, m, h0, h4, hn, hI => by
    rw [sw_M_toldOf_7]
    refine ⟨by omega, fun e => ?_, fun e => ?_⟩
    · have : i = 61 := by omega
      subst this
      have t : isTold (μ 17) s b := by
        rcases hI with ⟨h1, h2, h3⟩ | ⟨h1, h2, h3, h4, h5⟩
        · exact .inl ⟨h1, fun v v0 v1 => h3 v v0 (by omega)⟩
        · refine .inr ⟨h1, by omega, by omega, fun v v0 v1 => ?_⟩
          have := h5 v v0 (by omega)
          omega
      exact h b (toldF_eq t) (isTold_bd t).1 (isTold_bd t).2
    · have hm : 0 ≤ m ∧ m ≤ 4 := by
        rcases hI with ⟨h1, h2, h3⟩ | ⟨h1, h2, h3, h4, h5⟩
        · omega
        · have := tV_bd (μ 17) s b
          omega
      refine lp_toldOf1 hK hs ⟨h0, e⟩ hm ?_ 600 0 0 (by omega) (by omega) (by omega) rfl
      refine lp_toldOf hK hs h n (i + 1) _ _ (by omega) (by omega) (by omega) ?_
      by_cases k : m < tV (μ 17) s i
      · rw [if_pos k, if_pos k]
        refine .inr ⟨h0, by omega, by omega, rfl, fun v v0 v1 => ?_⟩
        by_cases vi : v = i
        · subst vi
          right
          exact ⟨rfl, Int.le_refl _⟩
        · rcases hI with ⟨h1, h2, h3⟩ | ⟨h1, h2, h3, h4, h5⟩
          · have := h3 v v0 (by omega)
            omega
          · have := h5 v v0 (by omega)
            omega
      · rw [if_neg k, if_neg k]
        have hb := tV_bd (μ 17) s i
        rcases hI with ⟨h1, h2, h3⟩ | ⟨h1, h2, h3, h4, h5⟩
        · refine .inl ⟨h1, h2, fun v v0 v1 => ?_⟩
          by_cases vi : v = i
          · subst vi
            omega
          · exact h3 v v0 (by omega)
        · refine .inr ⟨h1, by omega, h3, h4, fun v v0 v1 => ?_⟩
          by_cases vi : v = i
          · subst vi
            omega
          · exact h5 v v0 (by omega)
theorem sp_toldOf {s : Int} (hK : iK μ) (hs : 0 ≤ s ∧ s < 20) (h : ∀ b, b = toldF (μ 17) s → -1 ≤ b → b ≤ 60 → Q b μ) : sw_M_toldOf Q μ s :=
  lp_toldOf hK hs h 600 0 (-1) 0 (by omega) (by omega) (by omega) (.inl ⟨rfl, rfl, fun q q0 q1 => by omega⟩)
