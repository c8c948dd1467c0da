variable {Q : Int → sx_M → Prop} {X : String → sx_M → Prop} {μ : sx_M}
theorem lp_even {t : Nat} {v : Int → Int} {l : Int} {μ0 : sx_M} (hl : μ0 t 3 = l) (hlb : 0 ≤ l ∧ l ≤ 16) (hv : ∀ i : Int, 0 ≤ i → i < l → μ0 (t + 1) i = v i ∧ 0 ≤ v i ∧ v i ≤ 255) (h : ∀ μ1 : sx_M, (∀ c, c ≠ t + 2 → μ1 c = μ0 c) → (∀ i : Int, 0 ≤ i → i < l → μ1 (t + 2) i = evF v l i) → Q 0 μ1) : ∀ (n : Nat) (i : Int) (μ : sx_M), 0 ≤ i → i ≤ l → l - i < (n : Int) → (∀ c, c ≠ t + 2 → μ c = μ0 c) → (∀ j : Int, 0 ≤ j → j < i → μ (t + 2) j = evF v l j) → sw_T_evenOut_2 Q t n i μ
  | 0, i, μ, _, _, _, _, _ => by omega
  | n + 1, i, μ, h0, h4, hn, hf, hj => by
    have e0 : μ t = μ0 t := hf t (by omega)
    have e1 : μ (t + 1) = μ0 (t + 1) := hf (t + 1) (by omega)
    rw [sw_T_evenOut_2, e0, e1, hl]
    refine ⟨by omega, fun e => ?_, fun e => ?_⟩
    · have : i = l := by omega
      subst this
      exact h μ hf hj
    · have v1 := hv i h0 e
      have s59 : ∀ y b : Int, y = (if i ≤ 0 then v i else v (i - 1)) → b = (if l - 1 ≤ i then v i else v (i + 1)) → (0 ≤ y ∧ y ≤ 255) → (0 ≤ b ∧ b ≤ 255) → sw_T_evenOut_59 Q t (sw_T_evenOut_2 Q t n) i y b μ := by
        intro y b hy hb y1 b1
        unfold sw_T_evenOut_59
        rw [e1, v1.1]
        refine ⟨by omega, sp_floorOf (by omega) (by omega) (by omega) (by omega) ⟨by omega, ?_⟩⟩
        refine lp_even hl hlb hv h n (i + 1) _ (by omega) (by omega) (by omega) (fun c c1 => ?_) (fun j j0 j1 => ?_)
        · rw [sx_up_ne _ _ c1]
          exact hf c c1
        · rw [sx_up_self]
          by_cases ej : j = i
          · subst ej
            simp only [if_true]
            rw [hy, hb]
            rfl
          · simp only [ej, if_false]
            exact hj j j0 (by omega)
      have s31 : ∀ y : Int, y = (if i ≤ 0 then v i else v (i - 1)) → (0 ≤ y ∧ y ≤ 255) → sw_T_evenOut_31 Q t (sw_T_evenOut_2 Q t n) i y μ := by
        intro y hy y1
        unfold sw_T_evenOut_31
        rw [e0, e1, hl]
        refine ⟨by omega, fun k => ⟨by omega, s59 y _ hy ?_ y1 ?_⟩, fun k => ⟨by omega, s59 y _ hy ?_ y1 ?_⟩⟩
        · rw [if_pos k, v1.1]
        · rw [v1.1]
          exact v1.2
        · rw [if_neg (by omega), (hv (i + 1) (by omega) (by omega)).1]
        · rw [(hv (i + 1) (by omega) (by omega)).1]
          exact (hv (i + 1) (by omega) (by omega)).2
      refine ⟨by omega, fun k => ⟨by omega, s31 _ ?_ ?_⟩, fun k => ⟨by omega, s31 _ ?_ ?_⟩⟩
      · rw [if_pos k, v1.1]
      · rw [v1.1]
        exact v1.2
      · rw [if_neg (by omega), (hv (i - 1) (by omega) (by omega)).1]
      · rw [(hv (i - 1) (by omega) (by omega)).1]
        exact (hv (i - 1) (by omega) (by omega)).2
theorem lp_rings {t : Nat} {e : Int → Int} {l a hh : Int} {μ0 : sx_M} (ha : 1 ≤ a ∧ a ≤ 10) (hhb : 0 ≤ hh ∧ hh ≤ 255) (hlb : 0 ≤ l ∧ l ≤ 16) (hv : ∀ i : Int, 0 ≤ i → i < l → μ0 (t + 2) i = e i ∧ 0 ≤ e i ∧ e i ≤ 255) (h : ∀ μ1 : sx_M, (∀ c, c ≠ t → c ≠ t + 3 → μ1 c = μ0 c) → μ1 t 3 = l → μ1 t 4 = (rgF e a hh (l - 2).toNat).1 → (∀ j : Int, 0 ≤ j → j < (rgF e a hh (l - 2).toNat).1 → μ1 (t + 3) j = (rgF e a hh (l - 2).toNat).2.2.2 j) → Q 0 μ1) : ∀ (n m : Nat) (k la le : Int) (μ : sx_M), k = (m : Int) + 1 → m ≤ (l - 2).toNat → l - k < (n : Int) → 0 < n → (∀ c, c ≠ t → c ≠ t + 3 → μ c = μ0 c) → μ t 3 = l → μ t 4 = (rgF e a hh m).1 → la = (rgF e a hh m).2.1 → (1 ≤ l → le = (rgF e a hh m).2.2.1) → (∀ j : Int, 0 ≤ j → j < (rgF e a hh m).1 → μ (t + 3) j = (rgF e a hh m).2.2.2 j) → sw_T_findRings_29 Q t n a hh la le k μ
  | 0, m, k, la, le, μ, _, _, _, _, _, _, _, _, _, _ => by omega
  | n + 1, m, k, la, le, μ, hk, hm, hn, _, hf, hl, hfo, hla, hle, hj => by
    rw [sw_T_findRings_29]
    unfold sw_T_findRings_174 sw_T_findRings_105 sw_T_findRings_106 sw_T_findRings_168
    rw [hl]
    refine ⟨by omega, fun q => ?_, fun q => ?_⟩
    · have em : m = (l - 2).toNat := by omega
      rw [em] at hfo hj
      exact h μ hf hl hfo hj
    · have hle' := hle (by omega)
      have e2 : μ (t + 2) = μ0 (t + 2) := hf (t + 2) (by omega) (by omega)
      have v0 := hv (k - 1) (by omega) (by omega)
      have v1 := hv k (by omega) (by omega)
      have v2 := hv (k + 1) (by omega) (by omega)
      have b := rg_bd (a := a) (hh := hh) (l := l) (e := e) (fun i i0 i1 => (hv i i0 i1).2) m (by omega)
      have b' := rg_bd (a := a) (hh := hh) (l := l) (e := e) (fun i i0 i1 => (hv i i0 i1).2) (m + 1) (by omega)
      have hc : ((m + 1 : Nat) : Int) = (m : Int) + 1 := by omega
      have hs : rgF e a hh (m + 1) = if rgC e a hh k la le then ((rgF e a hh m).1 + 1, k, e k, fun j => if j = (rgF e a hh m).1 then k else (rgF e a hh m).2.2.2 j) else ((rgF e a hh m).1, la, (if e k < le then e k else le), (rgF e a hh m).2.2.2) := by
        rw [rgF, ← hk, ← hla, ← hle']
      rw [e2, v0.1, v1.1, v2.1]
      rw [← hla, ← hle', ← hfo] at b
      obtain ⟨b1, b2, b3, b4, b5, b6⟩ := b
      have s1 : rgC e a hh k la le → sw_T_findRings_29 Q t n a hh k ((sx_up (sx_up μ (t + 3) (μ t 4) k) t 4 (((sx_up μ (t + 3) (μ t 4) k) t 4) + 1)) (t + 2) k) (k + 1) (sx_up (sx_up μ (t + 3) (μ t 4) k) t 4 (((sx_up μ (t + 3) (μ t 4) k) t 4) + 1)) := by
        intro hC
        rw [if_pos hC] at hs
        rw [sx_up_ne _ _ (show t + 2 ≠ t by omega), sx_up_ne _ _ (show t + 2 ≠ t + 3 by omega), sx_up_ne _ _ (show t ≠ t + 3 by omega)]
        refine lp_rings ha hhb hlb hv h n (m + 1) (k + 1) _ _ _ (by omega) (by omega) (by omega) (by omega) (fun c c1 c2 => ?_) ?_ ?_ ?_ (fun _ => ?_) (fun j j0 j1 => ?_)
        · rw [sx_up_ne _ _ c1, sx_up_ne _ _ c2]
          exact hf c c1 c2
        · rw [sx_up_self]
          simp only [show (3 : Int) = 4 ↔ False by decide, if_false]
          rw [sx_up_ne _ _ (show t ≠ t + 3 by omega)]
          exact hl
        · rw [sx_up_self, hs]
          simp only [if_true]
          rw [hfo]
        · rw [hs]
        · rw [hs, e2, v1.1]
        · rw [hs] at j1 ⊢
          simp only at j1 ⊢
          rw [sx_up_ne _ _ (show t + 3 ≠ t by omega), sx_up_self, hfo]
          simp only
          by_cases ej : j = (rgF e a hh m).1
          · rw [if_pos ej, if_pos ej]
          · rw [if_neg ej, if_neg ej]
            exact hj j j0 (by omega)
      have s0 : ¬ rgC e a hh k la le → sw_T_findRings_29 Q t n a hh la (if e k < le then e k else le) (k + 1) μ := by
        intro hC
        rw [if_neg hC] at hs
        refine lp_rings ha hhb hlb hv h n (m + 1) (k + 1) _ _ _ (by omega) (by omega) (by omega) (by omega) hf hl ?_ ?_ (fun _ => ?_) (fun j j0 j1 => ?_)
        · rw [hs]
          exact hfo
        · rw [hs]
        · rw [hs]
        · rw [hs] at j1 ⊢
          exact hj j j0 j1
      refine ⟨by omega, fun q2 => by omega, fun q2 => ⟨by omega, by omega, by omega, by omega, by omega, fun q3 => ⟨by omega, fun _ => s0 (fun c => by have := c.1; omega), fun q4 => absurd rfl q4⟩, fun q3 => ⟨by omega, by omega, by omega, fun q4 => ⟨by omega, fun _ => s0 (fun c => by have := c.2.1; omega), fun q4 => absurd rfl q4⟩, fun q4 => ⟨by omega, fun q5 => by omega, fun _ => ⟨by omega, fun q5 => s0 (fun c => by have := c.2.2.1; omega), fun q5 => ⟨by omega, ⟨⟨by split <;> omega, by split <;> omega⟩, by omega⟩, fun q6 => s0 (fun c => by have := c.2.2.2; omega), fun q6 => ⟨by omega, by omega, s1 ⟨q3, q4, q5, q6⟩⟩⟩⟩⟩⟩⟩⟩
theorem sp_findRings {t : Nat} {e : Int → Int} {l a hh : Int} (hl : μ t 3 = l) (ha : 1 ≤ a ∧ a ≤ 10) (hhb : 0 ≤ hh ∧ hh ≤ 255) (hlb : 0 ≤ l ∧ l ≤ 16) (hv : ∀ i : Int, 0 ≤ i → i < l → μ (t + 2) i = e i ∧ 0 ≤ e i ∧ e i ≤ 255) (h : ∀ μ1 : sx_M, (∀ c, c ≠ t → c ≠ t + 3 → μ1 c = μ c) → μ1 t 3 = l → μ1 t 4 = (rgF e a hh (l - 2).toNat).1 → (∀ j : Int, 0 ≤ j → j < (rgF e a hh (l - 2).toNat).1 → μ1 (t + 3) j = (rgF e a hh (l - 2).toNat).2.2.2 j) → Q 0 μ1) : sw_T_findRings Q t μ a hh := by
  have e3 : sx_up μ t 4 0 t 3 = l := by
    rw [sx_up_self]
    simp only [show (3 : Int) = 4 ↔ False by decide, if_false]
    exact hl
  have e4 : sx_up μ t 4 0 t 4 = 0 := by
    rw [sx_up_self]
    simp
  have e2 : sx_up μ t 4 0 (t + 2) = μ (t + 2) := sx_up_ne _ _ (by omega)
  unfold sw_T_findRings sw_T_findRings_24
  rw [e3, e2]
  have go : ∀ le : Int, (1 ≤ l → le = e 0) → sw_T_findRings_29 Q t 600 a hh 0 le 1 (sx_up μ t 4 0) := by
    intro le hle
    refine lp_rings ha hhb hlb hv h 600 0 1 0 le _ (by omega) (by omega) (by omega) (by omega) (fun c c1 c2 => sx_up_ne _ _ c1) e3 e4 rfl hle (fun j j0 j1 => ?_)
    simp [rgF] at j1
    omega
  exact ⟨by omega, fun q => go 0 (fun _ => by omega), fun q => ⟨by omega, go _ (fun _ => (hv 0 (by omega) (by omega)).1)⟩⟩
def frT (t : Nat) (μ μ1 : sx_M) : Prop := ∀ c, c < t ∨ t + 3 < c → μ1 c = μ c
theorem sp_follow {t : Nat} {r : Int} (ht : t = 5 ∨ t = 9) (hp : iP μ) (hR : iR μ) (hU : iU μ) (hr : sx_R r) (hX : r < 0 ∨ μ 0 7 ≤ r → X "java/lang/IndexOutOfBoundsException" μ) (h : ∀ μ1 : sx_M, 0 ≤ r → r < μ 0 7 → frT t μ μ1 → μ1 t 3 = LN μ r → μ1 t 4 = NF μ r → (∀ i : Int, 0 ≤ i → i < LN μ r → μ1 (t + 1) i = VL μ r i ∧ μ1 (t + 2) i = EV μ r i) → (∀ j : Int, 0 ≤ j → j < NF μ r → μ1 (t + 3) j = PL μ r j) → Q 0 μ1) : sw_S_follow Q X t μ r := by
  have r1 := hR.1
  have r2 := hR.2.1
  unfold sw_S_follow
  refine sp_needPlace hr (by omega) hX (fun q1 q2 => ⟨by omega, by omega, ?_⟩)
  obtain ⟨t1, t2, t3, t4⟩ := tr_bd hp hR ⟨q1, q2⟩
  refine sp_walk ht hp hR ⟨q1, q2⟩ (fun μ1 f1 l1 v1 => ?_)
  unfold sw_T_evenOut
  refine lp_even (v := VL μ r) (l := LN μ r) l1 t1 (fun i i0 i1 => ⟨v1 i i0 i1, (t2 i i0 i1).2.1⟩) (fun μ2 f2 v2 => ?_) 600 0 μ1 (by omega) (by omega) (by omega) (fun _ _ => rfl) (fun j j0 j1 => by omega)
  have ez : μ2 0 = μ 0 := by rw [f2 0 (by omega), f1 0 (by omega) (by omega)]
  rw [ez]
  obtain ⟨u1, u2, u3, u4, u5, u6⟩ := hU
  refine sp_findRings (e := EV μ r) (l := LN μ r) (by rw [f2 t (by omega)]; exact l1) ⟨u2, u3⟩ ⟨u5, u6⟩ t1 (fun i i0 i1 => ⟨v2 i i0 i1, (t2 i i0 i1).2.2⟩) (fun μ3 f3 l3 n3 p3 => ?_)
  refine h μ3 q1 q2 (fun c hc => ?_) l3 n3 (fun i i0 i1 => ⟨?_, ?_⟩) p3
  · rw [f3 c (by omega) (by omega), f2 c (by omega), f1 c (by omega) (by omega)]
  · rw [f3 _ (by omega) (by omega), f2 _ (by omega)]
    exact v1 i i0 i1
  · rw [f3 _ (by omega) (by omega)]
    exact v2 i i0 i1
