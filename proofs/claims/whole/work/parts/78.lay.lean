variable {Q : Int → sx_M → Prop} {X : String → sx_M → Prop} {μ : sx_M}
def frL (μ μ1 : sx_M) : Prop := (∀ c, c ≠ 19 → c ≠ 23 → c ≠ 24 → c ≠ 25 → μ1 c = μ c) ∧ (∀ k : Int, k ≠ 9 → k ≠ 12 → μ1 19 k = μ 19 k)
theorem lp_ringsM {e : Int → Int} {l : Int} {μ0 : sx_M} (ha : 1 ≤ μ0 19 7 ∧ μ0 19 7 ≤ 10) (hhb : 0 ≤ μ0 19 8 ∧ μ0 19 8 ≤ 255) (hlb : 0 ≤ l ∧ l ≤ 16) (hv : ∀ i : Int, 0 ≤ i → i < l → μ0 24 i = e i ∧ 0 ≤ e i ∧ e i ≤ 255) (h : ∀ μ1 : sx_M, (∀ c, c ≠ 19 → c ≠ 25 → μ1 c = μ0 c) → (∀ k : Int, k ≠ 9 → k ≠ 12 → μ1 19 k = μ0 19 k) → μ1 19 9 = l → μ1 19 12 = (rgF e (μ0 19 7) (μ0 19 8) (l - 2).toNat).1 → (∀ j : Int, 0 ≤ j → j < (rgF e (μ0 19 7) (μ0 19 8) (l - 2).toNat).1 → μ1 25 j = (rgF e (μ0 19 7) (μ0 19 8) (l - 2).toNat).2.2.2 j) → Q 0 μ1) : ∀ (n m : Nat) (k la le : Int) (μ : sx_M), k = (m : Int) + 1 → m ≤ (l - 2).toNat → l - k < (n : Int) → 0 < n → (∀ c, c ≠ 19 → c ≠ 25 → μ c = μ0 c) → (∀ k : Int, k ≠ 9 → k ≠ 12 → μ 19 k = μ0 19 k) → μ 19 9 = l → μ 19 12 = (rgF e (μ0 19 7) (μ0 19 8) m).1 → la = (rgF e (μ0 19 7) (μ0 19 8) m).2.1 → (1 ≤ l → le = (rgF e (μ0 19 7) (μ0 19 8) m).2.2.1) → (∀ j : Int, 0 ≤ j → j < (rgF e (μ0 19 7) (μ0 19 8) m).1 → μ 25 j = (rgF e (μ0 19 7) (μ0 19 8) m).2.2.2 j) → sw_M_lay_311 Q n la le k μ
  | 0, m, k, la, le, μ, _, _, _, _, _, _, _, _, _, _, _ => by omega
  | n + 1, m, k, la, le, μ, hk, hm, hn, _, hf, hz, hl, hfo, hla, hle, hj => by
    rw [sw_M_lay_311]
    rw [hl]
    refine ⟨by omega, fun q => ?_, fun q => ?_⟩
    · have em : m = (l - 2).toNat := by omega
      rw [em] at hfo hj
      exact h μ hf hz hl hfo hj
    · have hle' := hle (by omega)
      have e2 : μ 24 = μ0 24 := hf 24 (by omega) (by omega)
      have e7 := hz 7 (by omega) (by omega)
      have e8 := hz 8 (by omega) (by omega)
      have v0 := hv (k - 1) (by omega) (by omega)
      have v1 := hv k (by omega) (by omega)
      have v2 := hv (k + 1) (by omega) (by omega)
      have b := rg_bd (a := μ0 19 7) (hh := μ0 19 8) (l := l) (e := e) (fun i i0 i1 => (hv i i0 i1).2) m (by omega)
      have hs : rgF e (μ0 19 7) (μ0 19 8) (m + 1) = if rgC e (μ0 19 7) (μ0 19 8) k la le then ((rgF e (μ0 19 7) (μ0 19 8) m).1 + 1, k, e k, fun j => if j = (rgF e (μ0 19 7) (μ0 19 8) m).1 then k else (rgF e (μ0 19 7) (μ0 19 8) m).2.2.2 j) else ((rgF e (μ0 19 7) (μ0 19 8) m).1, la, (if e k < le then e k else le), (rgF e (μ0 19 7) (μ0 19 8) m).2.2.2) := by
        rw [rgF, ← hk, ← hla, ← hle']
      rw [← hla, ← hle', ← hfo] at b
      obtain ⟨b1, b2, b3, b4, b5, b6⟩ := b
      have s1 : rgC e (μ0 19 7) (μ0 19 8) k la le → sw_M_lay_311 Q n k ((sx_up (sx_up μ 25 (μ 19 12) k) 19 12 (((sx_up μ 25 (μ 19 12) k) 19 12) + 1)) 24 k) (k + 1) (sx_up (sx_up μ 25 (μ 19 12) k) 19 12 (((sx_up μ 25 (μ 19 12) k) 19 12) + 1)) := by
        intro hC
        rw [if_pos hC] at hs
        rw [sx_up_ne _ _ (show 24 ≠ 19 by omega), sx_up_ne _ _ (show 24 ≠ 25 by omega), sx_up_ne _ _ (show 19 ≠ 25 by omega)]
        refine lp_ringsM ha hhb hlb hv h n (m + 1) (k + 1) _ _ _ (by omega) (by omega) (by omega) (by omega) (fun c c1 c2 => ?_) (fun q q1 q2 => ?_) ?_ ?_ ?_ (fun _ => ?_) (fun j j0 j1 => ?_)
        · rw [sx_up_ne _ _ c1, sx_up_ne _ _ c2]
          exact hf c c1 c2
        · rw [sx_up_self]
          simp only [q2, if_false]
          rw [sx_up_ne _ _ (show 19 ≠ 25 by omega)]
          exact hz q q1 q2
        · rw [sx_up_self]
          simp only [show (9 : Int) = 12 ↔ False by decide, if_false]
          rw [sx_up_ne _ _ (show 19 ≠ 25 by omega)]
          exact hl
        · rw [sx_up_self, hs]
          simp only [if_true]
          rw [hfo]
        · rw [hs]
        · rw [hs, e2, v1.1]
        · rw [hs] at j1 ⊢
          simp only at j1 ⊢
          rw [sx_up_ne _ _ (show 25 ≠ 19 by omega), sx_up_self, hfo]
          simp only
          by_cases ej : j = (rgF e (μ0 19 7) (μ0 19 8) m).1
          · rw [if_pos ej, if_pos ej]
          · rw [if_neg ej, if_neg ej]
            exact hj j j0 (by omega)
      have s0 : ¬ rgC e (μ0 19 7) (μ0 19 8) k la le → sw_M_lay_311 Q n la (if e k < le then e k else le) (k + 1) μ := by
        intro hC
        rw [if_neg hC] at hs
        refine lp_ringsM ha hhb hlb hv h n (m + 1) (k + 1) _ _ _ (by omega) (by omega) (by omega) (by omega) hf hz hl ?_ ?_ (fun _ => ?_) (fun j j0 j1 => ?_)
        · rw [hs]
          exact hfo
        · rw [hs]
        · rw [hs]
        · rw [hs] at j1 ⊢
          exact hj j j0 j1
      have s346 : ∀ y : Int, y = (if e k < le then e k else le) → sw_M_lay_346 Q (sw_M_lay_311 Q n) la k y μ := by
        intro y hy
        have yb : 0 ≤ y ∧ y ≤ 255 := by
          rw [hy]
          split <;> omega
        unfold sw_M_lay_346 sw_M_lay_449
        rw [e7, e8]
        rw [← hy] at s0
        rw [e2, v0.1, v1.1, v2.1]
        exact ⟨by omega, by omega, by omega, fun q3 => s0 (fun c => by have := c.1; omega), fun q3 => ⟨by omega, by omega, by omega, fun q4 => s0 (fun c => by have := c.2.1; omega), fun q4 => ⟨by omega, fun q5 => s0 (fun c => by have := c.2.2.1; omega), fun q5 => ⟨by omega, by omega, fun q6 => s0 (fun c => by have := c.2.2.2; rw [← hy] at this; omega), fun q6 => ⟨by omega, by omega, s1 ⟨q3, q4, q5, by rw [← hy]; omega⟩⟩⟩⟩⟩⟩
      rw [e2, v1.1]
      exact ⟨by omega, by omega, fun q3 => s346 _ (by rw [if_neg (by omega)]), fun q3 => ⟨by omega, s346 _ (by rw [if_pos q3])⟩⟩
theorem lp_evenM {v : Int → Int} {l : Int} {μ0 : sx_M} (hl : μ0 19 9 = l) (hlb : 0 ≤ l ∧ l ≤ 16) (ha : 1 ≤ μ0 19 7 ∧ μ0 19 7 ≤ 10) (hhb : 0 ≤ μ0 19 8 ∧ μ0 19 8 ≤ 255) (hv : ∀ i : Int, 0 ≤ i → i < l → μ0 23 i = v i ∧ 0 ≤ v i ∧ v i ≤ 255) (hE : ∀ i : Int, 0 ≤ i → i < l → 0 ≤ evF v l i ∧ evF v l i ≤ 255) (h : ∀ μ1 : sx_M, (∀ c, c ≠ 19 → c ≠ 24 → c ≠ 25 → μ1 c = μ0 c) → (∀ k : Int, k ≠ 9 → k ≠ 12 → μ1 19 k = μ0 19 k) → μ1 19 9 = l → (∀ i : Int, 0 ≤ i → i < l → μ1 24 i = evF v l i) → μ1 19 12 = (rgF (evF v l) (μ0 19 7) (μ0 19 8) (l - 2).toNat).1 → (∀ j : Int, 0 ≤ j → j < (rgF (evF v l) (μ0 19 7) (μ0 19 8) (l - 2).toNat).1 → μ1 25 j = (rgF (evF v l) (μ0 19 7) (μ0 19 8) (l - 2).toNat).2.2.2 j) → Q 0 μ1) : ∀ (n : Nat) (i : Int) (μ : sx_M), 0 ≤ i → i ≤ l → l - i < (n : Int) → (∀ c, c ≠ 24 → μ c = μ0 c) → (∀ j : Int, 0 ≤ j → j < i → μ 24 j = evF v l j) → sw_M_lay_182 Q n i μ
  | 0, i, μ, _, _, _, _, _ => by omega
  | n + 1, i, μ, h0, h4, hn, hf, hj => by
    have e0 : μ 19 = μ0 19 := hf 19 (by omega)
    have e1 : μ 23 = μ0 23 := hf 23 (by omega)
    rw [sw_M_lay_182, e0, e1, hl]
    refine ⟨by omega, fun e => ?_, fun e => ?_⟩
    · have : i = l := by omega
      subst this
      have z9 : sx_up μ 19 12 0 19 9 = i := by
        rw [sx_up_self]
        simp only [show (9 : Int) = 12 ↔ False by decide, if_false]
        rw [e0, hl]
      have z24 : sx_up μ 19 12 0 24 = μ 24 := sx_up_ne _ _ (by omega)
      have zk : ∀ k : Int, k ≠ 9 → k ≠ 12 → sx_up μ 19 12 0 19 k = μ0 19 k := by
        intro k _ k2
        rw [sx_up_self]
        simp only [k2, if_false]
        rw [e0]
      rw [z9, z24]
      unfold sw_M_lay_306
      have go : ∀ le : Int, (1 ≤ i → le = evF v i 0) → sw_M_lay_311 Q 600 0 le 1 (sx_up μ 19 12 0) := by
        intro le hle
        have z7 := zk 7 (by omega) (by omega)
        have z8 := zk 8 (by omega) (by omega)
        refine lp_ringsM (e := evF v i) (l := i) (μ0 := sx_up μ 19 12 0) (by rw [z7]; exact ha) (by rw [z8]; exact hhb) hlb (fun j j0 j1 => ⟨by rw [z24]; exact hj j j0 j1, hE j j0 j1⟩) (fun μ1 f1 f2 l1 n1 p1 => ?_) 600 0 1 0 le _ (by omega) (by omega) (by omega) (by omega) (fun _ _ _ => rfl) (fun _ _ _ => rfl) z9 ?_ rfl hle (fun j j0 j1 => ?_)
        · rw [z7, z8] at n1 p1
          refine h μ1 (fun c c1 c2 c3 => ?_) (fun k k1 k2 => ?_) l1 (fun j j0 j1 => ?_) n1 p1
          · rw [f1 c c1 c3, sx_up_ne _ _ c1]
            exact hf c c2
          · rw [f2 k k1 k2]
            exact zk k k1 k2
          · rw [f1 24 (by omega) (by omega), z24]
            exact hj j j0 j1
        · rw [sx_up_self]
          simp [rgF]
        · simp [rgF] at j1
          omega
      exact ⟨by omega, fun q => go 0 (fun _ => by omega), fun q => ⟨by omega, go _ (fun _ => hj 0 (by omega) (by omega))⟩⟩
    · have v1 := hv i h0 e
      have s59 : ∀ y b : Int, y = (if i ≤ 0 then v i else v (i - 1)) → b = (if l - 1 ≤ i then v i else v (i + 1)) → (0 ≤ y ∧ y ≤ 255) → (0 ≤ b ∧ b ≤ 255) → sw_M_lay_247 Q (sw_M_lay_182 Q n) i y b μ := by
        intro y b hy hb y1 b1
        unfold sw_M_lay_247
        rw [e1, v1.1]
        refine ⟨by omega, by omega, by omega, ?_⟩
        refine lp_evenM hl hlb ha hhb hv hE h n (i + 1) _ (by omega) (by omega) (by omega) (fun c c1 => ?_) (fun j j0 j1 => ?_)
        · rw [sx_up_ne _ _ c1]
          exact hf c c1
        · rw [sx_up_self]
          by_cases ej : j = i
          · subst ej
            simp only [if_true]
            rw [fl_pos (by omega), hy, hb]
            rfl
          · simp only [ej, if_false]
            exact hj j j0 (by omega)
      have s31 : ∀ y : Int, y = (if i ≤ 0 then v i else v (i - 1)) → (0 ≤ y ∧ y ≤ 255) → sw_M_lay_215 Q (sw_M_lay_182 Q n) i y μ := by
        intro y hy y1
        unfold sw_M_lay_215
        rw [e0, e1, hl]
        refine ⟨by omega, fun k => ⟨by omega, s59 y _ hy ?_ y1 ?_⟩, fun k => ⟨by omega, s59 y _ hy ?_ y1 ?_⟩⟩
        · rw [if_neg (by omega), (hv (i + 1) (by omega) (by omega)).1]
        · rw [(hv (i + 1) (by omega) (by omega)).1]
          exact (hv (i + 1) (by omega) (by omega)).2
        · rw [if_pos (by omega), v1.1]
        · rw [v1.1]
          exact v1.2
      refine ⟨by omega, fun k => ⟨by omega, s31 _ ?_ ?_⟩, fun k => ⟨by omega, s31 _ ?_ ?_⟩⟩
      · rw [if_neg (by omega), (hv (i - 1) (by omega) (by omega)).1]
      · rw [(hv (i - 1) (by omega) (by omega)).1]
        exact (hv (i - 1) (by omega) (by omega)).2
      · rw [if_pos (by omega), v1.1]
      · rw [v1.1]
        exact v1.2
theorem lp_layW {r : Int} {μ0 : sx_M} (hp : iP μ0) (hR : iR μ0) (hr : 0 ≤ r ∧ r < μ0 0 7) (hs : 1 ≤ μ0 3 3) (h : ∀ μ1 : sx_M, (∀ c, c ≠ 19 → c ≠ 23 → μ1 c = μ0 c) → (∀ k : Int, k ≠ 9 → μ1 19 k = μ0 19 k) → μ1 19 9 = LN μ0 r → (∀ i : Int, 0 ≤ i → i < LN μ0 r → μ1 23 i = VL μ0 r i) → sw_M_lay_182 Q 600 0 μ1) : ∀ (n : Nat) (i on : Int) (μ : sx_M), 0 ≤ i → i ≤ 16 → 17 - i + on < (n : Int) → (∀ c, c ≠ 19 → c ≠ 23 → μ c = μ0 c) → (∀ k : Int, k ≠ 9 → μ 19 k = μ0 19 k) → μ 19 9 = i → (on = 1 ∨ (on = 0 ∧ ¬ insP (μ0 3) (μ0 1 r) (μ0 2 r) i)) → (∀ j : Int, 0 ≤ j → j < i → insP (μ0 3) (μ0 1 r) (μ0 2 r) j ∧ μ 23 j = VL μ0 r j) → sw_M_lay_73 Q n r (nM (μ0 1 r) (μ0 2 r)) (cX (μ0 3)) (cY (μ0 3)) on μ
  | 0, i, on, μ, _, _, _, _, _, _, _, _ => by omega
  | n + 1, i, on, μ, h0, h4, hn, hf, hz, hl, ho, hj => by
    have hend : ¬ insP (μ0 3) (μ0 1 r) (μ0 2 r) i → sw_M_lay_182 Q 600 0 μ := by
      intro k
      have e : i = LN μ0 r := lenF_eq ⟨h0, h4, fun j j0 j1 => (hj j j0 j1).1, k⟩
      refine h μ hf hz (by omega) (fun j j0 j1 => (hj j j0 (by omega)).2)
    obtain ⟨r1, r2, r3, r4⟩ := hR
    obtain ⟨k1, k2, k3, k4, k5, k6, k7⟩ := r4 r hr.1 hr.2
    have hn5 := nM_bd ⟨k3, k4⟩ ⟨k5, k6⟩ k7
    have e20 : μ 20 = μ0 20 := hf 20 (by omega) (by omega)
    have e21 : μ 21 = μ0 21 := hf 21 (by omega) (by omega)
    have e22 : μ 22 = μ0 22 := hf 22 (by omega) (by omega)
    have z1 := hz 1 (by omega)
    have z2 := hz 2 (by omega)
    have x := (cX_bd hp).2 hs
    have y := (cY_bd hp).2 hs
    have w := hp.1
    have hh := hp.2.1
    rw [sw_M_lay_73]
    refine ⟨by omega, fun e => ?_, fun e => ⟨by omega, ?_⟩⟩
    · rcases ho with e2 | ⟨_, k⟩
      · omega
      · exact hend k
    · have px := pX_pre (d := μ0 1 r) (n := nM (μ0 1 r) (μ0 2 r)) (i := i) ⟨k3, k4⟩ ⟨hn5.1, hn5.2.1⟩ ⟨h0, h4⟩
      have py := pX_pre (d := μ0 2 r) (n := nM (μ0 1 r) (μ0 2 r)) (i := i) ⟨k5, k6⟩ ⟨hn5.1, hn5.2.1⟩ ⟨h0, h4⟩
      rw [e21, k1, hl]
      refine sp_down (by omega) (by omega) (by omega) (by omega) ⟨by omega, ?_⟩
      rw [e22, k2, hl]
      refine sp_down (by omega) (by omega) (by omega) (by omega) ?_
      have ex : cX (μ0 3) + (2 * μ0 1 r * i + nM (μ0 1 r) (μ0 2 r)) / (2 * nM (μ0 1 r) (μ0 2 r)) = pX (μ0 1 r) (nM (μ0 1 r) (μ0 2 r)) (cX (μ0 3)) i := rfl
      have ey : cY (μ0 3) + (2 * μ0 2 r * i + nM (μ0 1 r) (μ0 2 r)) / (2 * nM (μ0 1 r) (μ0 2 r)) = pX (μ0 2 r) (nM (μ0 1 r) (μ0 2 r)) (cY (μ0 3)) i := rfl
      rw [ex, ey]
      unfold sw_M_lay_176
      refine sp_isThere (by omega) (by omega) (by omega) (by omega) (fun k => ⟨by omega, fun _ => ?_, fun k2 => absurd rfl k2⟩) (fun q1 q2 q3 q4 => ⟨by omega, fun k2 => by omega, fun _ => ?_⟩)
      · refine lp_layW hp ⟨r1, r2, r3, r4⟩ hr hs h n i 0 μ h0 h4 (by omega) hf hz hl (.inr ⟨rfl, fun q => k ⟨q.2.1, by have := q.2.2.1; omega, q.2.2.2.1, by have := q.2.2.2.2; omega⟩⟩) hj
      · have hin : insP (μ0 3) (μ0 1 r) (μ0 2 r) i := ⟨hs, q1, by omega, q3, by omega⟩
        have hi : i ≠ 16 := by
          intro e16
          rw [e16] at hin
          exact ins16 hp ⟨k3, k4⟩ ⟨k5, k6⟩ k7 hin
        have h20 := (hp.2.2.1 (16 * pX (μ0 2 r) (nM (μ0 1 r) (μ0 2 r)) (cY (μ0 3)) i + pX (μ0 1 r) (nM (μ0 1 r) (μ0 2 r)) (cX (μ0 3)) i) (by omega) (by omega)).1
        rw [hl, e20, h20]
        refine ⟨by omega, by omega, ?_⟩
        refine lp_layW hp ⟨r1, r2, r3, r4⟩ hr hs h n (i + 1) 1 _ (by omega) (by omega) (by omega) (fun c c1 c2 => ?_) (fun k k1 => ?_) ?_ (.inl rfl) (fun j j0 j1 => ?_)
        · rw [sx_up_ne _ _ c1, sx_up_ne _ _ c2]
          exact hf c c1 c2
        · rw [sx_up_self]
          simp only [k1, if_false]
          rw [sx_up_ne _ _ (by omega)]
          exact hz k k1
        · rw [sx_up_self]
          simp only [if_true]
          rw [sx_up_ne _ _ (by omega), hl]
        · by_cases ej : j = i
          · subst ej
            refine ⟨hin, ?_⟩
            rw [sx_up_ne _ _ (by omega), sx_up_self]
            simp only [if_true]
            rfl
          · have := hj j j0 (by omega)
            refine ⟨this.1, ?_⟩
            rw [sx_up_ne _ _ (by omega), sx_up_self]
            simp only [ej, if_false]
            exact this.2
theorem sp_lay {r : Int} (hp : iP μ) (hR : iR μ) (hU : iU μ) (hr : 0 ≤ r ∧ r < μ 0 7) (h : ∀ μ1 : sx_M, frL μ μ1 → μ1 19 9 = LN μ r → μ1 19 12 = NF μ r → (∀ i : Int, 0 ≤ i → i < LN μ r → μ1 23 i = VL μ r i ∧ μ1 24 i = EV μ r i) → (∀ j : Int, 0 ≤ j → j < NF μ r → μ1 25 j = PL μ r j) → Q 0 μ1) : sw_M_lay Q μ r := by
  have hR' := hR
  obtain ⟨r1, r2, r3, r4⟩ := hR
  obtain ⟨k1, k2, k3, k4, k5, k6, k7⟩ := r4 r hr.1 hr.2
  have hn5 := nM_bd ⟨k3, k4⟩ ⟨k5, k6⟩ k7
  have b := iP_bd hp
  obtain ⟨u1, u2, u3, u4, u5, u6⟩ := hU
  obtain ⟨t1, t2, t3, t4⟩ := tr_bd hp hR' hr
  have fin : ∀ μ1 : sx_M, (∀ c, c ≠ 19 → c ≠ 23 → μ1 c = μ c) → (∀ k : Int, k ≠ 9 → μ1 19 k = μ 19 k) → μ1 19 9 = LN μ r → (∀ i : Int, 0 ≤ i → i < LN μ r → μ1 23 i = VL μ r i) → sw_M_lay_182 Q 600 0 μ1 := by
    intro μ1 f1 f2 l1 v1
    have z7 : μ1 19 7 = μ 0 8 := by rw [f2 7 (by omega), u1]
    have z8 : μ1 19 8 = μ 0 9 := by rw [f2 8 (by omega), u4]
    refine lp_evenM (v := VL μ r) (l := LN μ r) l1 t1 (by rw [z7]; exact ⟨u2, u3⟩) (by rw [z8]; exact ⟨u5, u6⟩) (fun i i0 i1 => ⟨v1 i i0 i1, (t2 i i0 i1).2.1⟩) (fun i i0 i1 => (t2 i i0 i1).2.2) (fun μ2 g1 g2 l2 e2 n2 p2 => ?_) 600 0 μ1 (by omega) (by omega) (by omega) (fun _ _ => rfl) (fun j j0 j1 => by omega)
    rw [z7, z8] at n2 p2
    refine h μ2 ⟨fun c c1 c2 c3 c4 => ?_, fun k q1 q2 => ?_⟩ l2 n2 (fun i i0 i1 => ⟨?_, e2 i i0 i1⟩) p2
    · rw [g1 c c1 c3 c4, f1 c c1 c2]
    · rw [g2 k q1 q2, f2 k q1]
    · rw [g1 23 (by omega) (by omega) (by omega)]
      exact v1 i i0 i1
  have s42 : sw_M_lay_42 Q r (nM (μ 1 r) (μ 2 r)) μ := by
    unfold sw_M_lay_42 sw_M_lay_71
    refine sp_middle0 hp (sp_middle1 hp ?_)
    have x := cX_bd hp
    have z9 : sx_up μ 19 9 0 19 9 = 0 := by
      rw [sx_up_self]
      simp
    have zk : ∀ k : Int, k ≠ 9 → sx_up μ 19 9 0 19 k = μ 19 k := by
      intro k q
      rw [sx_up_self]
      simp only [q, if_false]
    have zc : ∀ c, c ≠ 19 → c ≠ 23 → sx_up μ 19 9 0 c = μ c := fun c c1 _ => sx_up_ne _ _ c1
    refine ⟨⟨?_, by omega⟩, fun e => ?_, fun e => ?_⟩
    · by_cases q : μ 3 3 < 1
      · have := x.1 q
        omega
      · have := x.2 (by omega)
        omega
    · have s0 : μ 3 3 < 1 := by
        by_cases q : μ 3 3 < 1
        · exact q
        · have := x.2 (by omega)
          omega
      have l0 : (0 : Int) = LN μ r := lenF_eq ⟨by omega, by omega, fun i i0 i1 => by omega, fun q => by have := q.1; omega⟩
      rw [show (600 : Nat) = 599 + 1 from rfl, sw_M_lay_73]
      exact ⟨by omega, fun _ => fin _ zc zk (by rw [z9]; exact l0) (fun i i0 i1 => by omega), fun k => absurd rfl k⟩
    · have s1 : 1 ≤ μ 3 3 := by
        by_cases q : μ 3 3 < 1
        · exact absurd (x.1 q) e
        · omega
      exact lp_layW hp hR' hr s1 fin 600 0 1 _ (by omega) (by omega) (by omega) zc zk z9 (.inl rfl) (fun j j0 j1 => by omega)
  unfold sw_M_lay
  rw [k1]
  have hnM : nM (μ 1 r) (μ 2 r) = if (if 0 ≤ μ 1 r then μ 1 r else -μ 1 r) < (if 0 ≤ μ 2 r then μ 2 r else -μ 2 r) then (if 0 ≤ μ 2 r then μ 2 r else -μ 2 r) else (if 0 ≤ μ 1 r then μ 1 r else -μ 1 r) := rfl
  have a1 : 0 ≤ (if 0 ≤ μ 1 r then μ 1 r else -μ 1 r) ∧ (if 0 ≤ μ 1 r then μ 1 r else -μ 1 r) ≤ 5 := by split <;> omega
  have a2 : 0 ≤ (if 0 ≤ μ 2 r then μ 2 r else -μ 2 r) ∧ (if 0 ≤ μ 2 r then μ 2 r else -μ 2 r) ≤ 5 := by split <;> omega
  refine ⟨by omega, sp_size (by omega) ⟨by omega, ?_⟩⟩
  rw [k2]
  refine sp_size (by omega) ⟨⟨⟨by omega, by omega⟩, by omega, by omega⟩, fun q => ⟨by omega, ?_⟩, fun q => ⟨by omega, ?_⟩⟩
  · rw [k2]
    refine sp_size (by omega) ?_
    have e : (if 0 ≤ μ 2 r then μ 2 r else -μ 2 r) = nM (μ 1 r) (μ 2 r) := by
      rw [hnM]
      generalize (if 0 ≤ μ 2 r then μ 2 r else -μ 2 r) = A at *
      generalize (if 0 ≤ μ 1 r then μ 1 r else -μ 1 r) = B at *
      split <;> omega
    rw [e]
    exact s42
  · rw [k1]
    refine sp_size (by omega) ?_
    have e : (if 0 ≤ μ 1 r then μ 1 r else -μ 1 r) = nM (μ 1 r) (μ 2 r) := by
      rw [hnM]
      generalize (if 0 ≤ μ 2 r then μ 2 r else -μ 2 r) = A at *
      generalize (if 0 ≤ μ 1 r then μ 1 r else -μ 1 r) = B at *
      split <;> omega
    rw [e]
    exact s42
