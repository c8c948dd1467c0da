variable {Q : Int → sx_M → Prop} {X : String → sx_M → Prop} {μ : sx_M}
theorem sp_floorDiv {a b : Int} (ha : sx_R a) (hm : -2147483648 < a) (hb : sx_R b) (h0 : 0 < b) (h : Q (a / b) μ) : sw_H_floorDiv Q μ a b := by
  unfold sw_H_floorDiv sw_H_floorDiv_21
  obtain ⟨r1, r2⟩ := xorS ha hb h0
  have r3 := tdR ha h0
  refine ⟨⟨ha, hb, h0, hm⟩, r1, ?_, ?_⟩
  · intro q
    have : 0 ≤ a := by omega
    rwa [← fl_pos this] at h
  · intro q
    refine ⟨⟨r3, ha⟩, ?_, ?_⟩
    · intro e
      rcases fl_cases (a := a) h0 with ⟨c1, c2⟩ | ⟨c1, c2, c3⟩
      · rwa [c2] at h
      · omega
    · intro e
      rcases fl_cases (a := a) h0 with ⟨c1, c2⟩ | ⟨c1, c2, c3⟩
      · exfalso
        have := Int.mul_tdiv_add_tmod a b
        rw [Int.mul_comm] at this
        have h3 : a.tmod b ≤ 0 := by
          have := Int.tmod_nonneg b (a := -a) (by omega)
          rw [Int.neg_tmod] at this
          omega
        omega
      · rwa [c3] at h
theorem sp_floorOf {a b : Int} (ha : sx_R a) (hm : -2147483648 < a) (hb : sx_R b) (h0 : 0 < b) (h : Q (a / b) μ) : sw_S_floorOf Q μ a b := by
  unfold sw_S_floorOf sw_S_floorOf_14
  refine ⟨⟨hb, by omega⟩, ?_, ?_⟩
  · intro _
    exact sp_floorDiv ha hm hb h0 h
  · omega
theorem sp_down {a b : Int} (ha : sx_R a) (hm : -2147483648 < a) (hb : sx_R b) (h0 : 0 < b) (h : Q (a / b) μ) : sw_M_down Q μ a b := by
  unfold sw_M_down sw_M_down_18
  refine ⟨⟨ha, hb, h0, hm⟩, ⟨tdR ha h0, ha⟩, ?_, ?_⟩
  · intro e
    rcases fl_cases (a := a) h0 with ⟨c1, c2⟩ | ⟨c1, c2, c3⟩
    · rwa [c2] at h
    · omega
  · intro e
    rcases fl_cases (a := a) h0 with ⟨c1, c2⟩ | ⟨c1, c2, c3⟩
    · omega
    · rwa [c3] at h
theorem sp_size {a : Int} (ha : sx_R a) (h : Q (if 0 ≤ a then a else -a) μ) : sw_M_size Q μ a := by
  unfold sw_M_size sw_M_size_10
  refine ⟨ha, ?_, ?_⟩
  · intro e
    rwa [if_pos e] at h
  · intro e
    rwa [if_neg (by omega)] at h
theorem sp_needPlace {a n : Int} (ha : sx_R a) (hn : sx_R n) (h1 : a < 0 ∨ n ≤ a → X "java/lang/IndexOutOfBoundsException" μ) (h2 : 0 ≤ a → a < n → Q 0 μ) : sw_S_needPlace Q X μ a n := by
  unfold sw_S_needPlace sw_S_needPlace_9
  exact ⟨ha, fun e => h1 (.inl e), fun e => ⟨⟨ha, hn⟩, fun e2 => h2 e e2, fun e2 => h1 (.inr e2)⟩⟩
theorem sp_needNumber {a b c : Int} (ha : sx_R a) (hb : sx_R b) (hc : sx_R c) (h1 : a < b ∨ c < a → X "java/lang/IllegalArgumentException" μ) (h2 : b ≤ a → a ≤ c → Q 0 μ) : sw_S_needNumber Q X μ a b c := by
  unfold sw_S_needNumber sw_S_needNumber_10
  exact ⟨⟨ha, hb⟩, fun e => h1 (.inl e), fun e => ⟨⟨ha, hc⟩, fun e2 => h2 e e2, fun e2 => h1 (.inr e2)⟩⟩
theorem sp_needPair {a b c : Int} (ha : sx_R a) (hb : sx_R b) (hc : sx_R c) (h1 : ¬ (0 ≤ a ∧ a < 4 ∧ 0 ≤ b ∧ b < 4 ∧ 0 ≤ c ∧ c < 2) → X "java/lang/IndexOutOfBoundsException" μ) (h2 : 0 ≤ a → a < 4 → 0 ≤ b → b < 4 → 0 ≤ c → c < 2 → Q 0 μ) : sw_S_needPair Q X μ a b c := by
  unfold sw_S_needPair
  refine sp_needPlace ha (by omega) (fun e => h1 (by omega)) (fun e1 e2 => ?_)
  refine sp_needPlace hb (by omega) (fun e => h1 (by omega)) (fun e3 e4 => ?_)
  exact sp_needPlace hc (by omega) (fun e => h1 (by omega)) (fun e5 e6 => h2 e1 e2 e3 e4 e5 e6)
theorem sp_isIn {a b c : Int} (ha : sx_R a) (hb : sx_R b) (hc : sx_R c) (h1 : a < b ∨ c < a → Q 0 μ) (h2 : b ≤ a → a ≤ c → Q 1 μ) : sw_M_isIn Q μ a b c := by
  unfold sw_M_isIn sw_M_isIn_14 sw_M_isIn_15
  exact ⟨⟨ha, hb⟩, fun e => ⟨.inl rfl, h1 (.inl e)⟩, fun e => ⟨⟨ha, hc⟩, fun e2 => ⟨.inl rfl, h1 (.inr e2)⟩, fun e2 => ⟨.inr rfl, h2 e e2⟩⟩⟩
theorem sp_noRay {a : Int} (ha : sx_R a) (hr : sx_R (μ 19 4 - 1)) (h1 : a < 0 ∨ μ 19 4 ≤ a → Q 1 μ) (h2 : 0 ≤ a → a < μ 19 4 → Q 0 μ) : sw_M_noRay Q μ a := by
  unfold sw_M_noRay sw_M_noRay_19
  refine sp_isIn ha (by omega) hr (fun e => ⟨by omega, fun e2 => ?_, fun _ => ⟨.inr rfl, h1 (by omega)⟩⟩) (fun e1 e2 => ⟨by omega, fun _ => ⟨.inl rfl, h2 e1 (by omega)⟩, fun e2 => ?_⟩)
  · exact absurd rfl e2
  · omega
theorem sp_noOne {a b : Int} (ha : sx_R a) (hb : sx_R b) (h1 : ¬ (0 ≤ a ∧ a < 4 ∧ 0 ≤ b ∧ b < 20) → Q 1 μ) (h2 : 0 ≤ a → a < 4 → 0 ≤ b → b < 20 → Q 0 μ) : sw_M_noOne Q μ a b := by
  unfold sw_M_noOne sw_M_noOne_19 sw_M_noOne_24
  refine sp_isIn ha (by omega) (by omega) (fun e => ⟨by omega, fun _ => ⟨.inr rfl, h1 (by omega)⟩, fun e2 => absurd rfl e2⟩) (fun e1 e2 => ⟨by omega, by omega, fun _ => ?_⟩)
  exact sp_isIn hb (by omega) (by omega) (fun e => ⟨by omega, fun e2 => absurd rfl e2, fun _ => ⟨.inr rfl, h1 (by omega)⟩⟩) (fun e3 e4 => ⟨by omega, fun _ => ⟨.inl rfl, h2 e1 (by omega) e3 (by omega)⟩, by omega⟩)
theorem sp_noTwo {a b c : Int} (ha : sx_R a) (hb : sx_R b) (hc : sx_R c) (h1 : ¬ (0 ≤ a ∧ a < 4 ∧ 0 ≤ b ∧ b < 4 ∧ 0 ≤ c ∧ c < 2) → Q 1 μ) (h2 : 0 ≤ a → a < 4 → 0 ≤ b → b < 4 → 0 ≤ c → c < 2 → Q 0 μ) : sw_M_noTwo Q μ a b c := by
  unfold sw_M_noTwo sw_M_noTwo_27 sw_M_noTwo_32
  refine sp_isIn ha (by omega) (by omega) (fun e => ⟨by omega, fun _ => ⟨.inr rfl, h1 (by omega)⟩, fun e2 => absurd rfl e2⟩) (fun e1 e2 => ⟨by omega, by omega, fun _ => ?_⟩)
  refine sp_isIn hb (by omega) (by omega) (fun e => ⟨by omega, fun _ => ⟨.inr rfl, h1 (by omega)⟩, fun e2 => absurd rfl e2⟩) (fun e3 e4 => ⟨by omega, by omega, fun _ => ?_⟩)
  exact sp_isIn hc (by omega) (by omega) (fun e => ⟨by omega, fun e2 => absurd rfl e2, fun _ => ⟨.inr rfl, h1 (by omega)⟩⟩) (fun e5 e6 => ⟨by omega, fun _ => ⟨.inl rfl, h2 e1 (by omega) e3 (by omega) e5 (by omega)⟩, by omega⟩)
theorem sp_holds {a b : Int} (ha : sx_R a) (hb : sx_R b) (hw : sx_R (μ 3 0)) (hh : sx_R (μ 3 1)) (h1 : ¬ (0 ≤ a ∧ a < μ 3 0 ∧ 0 ≤ b ∧ b < μ 3 1) → Q 0 μ) (h2 : 0 ≤ a → a < μ 3 0 → 0 ≤ b → b < μ 3 1 → Q 1 μ) : sw_P_holds Q μ a b := by
  unfold sw_P_holds sw_P_holds_28 sw_P_holds_29
  exact ⟨ha, fun e => ⟨.inl rfl, h1 (by omega)⟩, fun e1 => ⟨⟨ha, hw⟩, fun e => ⟨.inl rfl, h1 (by omega)⟩, fun e2 => ⟨hb, fun e => ⟨.inl rfl, h1 (by omega)⟩, fun e3 => ⟨⟨hb, hh⟩, fun e => ⟨.inl rfl, h1 (by omega)⟩, fun e4 => ⟨.inr rfl, h2 e1 e2 e3 e4⟩⟩⟩⟩⟩
theorem sp_isThere {a b : Int} (ha : sx_R a) (hb : sx_R b) (hw : sx_R (μ 19 1 - 1)) (hh : sx_R (μ 19 2 - 1)) (h1 : ¬ (0 ≤ a ∧ a < μ 19 1 ∧ 0 ≤ b ∧ b < μ 19 2) → Q 0 μ) (h2 : 0 ≤ a → a < μ 19 1 → 0 ≤ b → b < μ 19 2 → Q 1 μ) : sw_M_isThere Q μ a b := by
  unfold sw_M_isThere sw_M_isThere_32 sw_M_isThere_33
  refine sp_isIn ha (by omega) hw (fun e => ⟨by omega, fun _ => ⟨.inl rfl, h1 (by omega)⟩, fun e2 => absurd rfl e2⟩) (fun e1 e2 => ⟨by omega, by omega, fun _ => ?_⟩)
  exact sp_isIn hb (by omega) hh (fun e => ⟨by omega, fun _ => ⟨.inl rfl, h1 (by omega)⟩, fun e2 => absurd rfl e2⟩) (fun e3 e4 => ⟨by omega, by omega, fun _ => ⟨.inr rfl, h2 e1 (by omega) e3 (by omega)⟩⟩)
theorem sp_at {a b : Int} (ha : 0 ≤ a ∧ a < μ 3 0) (hb : 0 ≤ b ∧ b < μ 3 1) (hw : μ 3 0 ≤ 16) (hh : μ 3 1 ≤ 16) (h : Q (μ 4 (16 * b + a)) μ) : sw_P_at Q μ a b := by
  unfold sw_P_at sw_P_at_24
  refine sp_holds (by omega) (by omega) (by omega) (by omega) (by omega) (fun _ _ _ _ => ⟨by omega, by omega, fun _ => ⟨by omega, ?_⟩⟩)
  rwa [show b * 16 + a = 16 * b + a by omega]
