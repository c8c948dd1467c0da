variable {Q : Int → sx_M → Prop} {X : String → sx_M → Prop} {μ : sx_M}
/-! A ray's samples. -/
def iR (μ : sx_M) : Prop := 0 ≤ μ 0 7 ∧ μ 0 7 ≤ 8 ∧ μ 19 4 = μ 0 7 ∧ ∀ k : Int, 0 ≤ k → k < μ 0 7 → μ 21 k = μ 1 k ∧ μ 22 k = μ 2 k ∧ -5 ≤ μ 1 k ∧ μ 1 k ≤ 5 ∧ -5 ≤ μ 2 k ∧ μ 2 k ≤ 5 ∧ ¬ (μ 1 k = 0 ∧ μ 2 k = 0)
def iU (μ : sx_M) : Prop := μ 19 7 = μ 0 8 ∧ 1 ≤ μ 0 8 ∧ μ 0 8 ≤ 10 ∧ μ 19 8 = μ 0 9 ∧ 0 ≤ μ 0 9 ∧ μ 0 9 ≤ 255
def nM (a b : Int) : Int := if (if 0 ≤ a then a else -a) < (if 0 ≤ b then b else -b) then (if 0 ≤ b then b else -b) else (if 0 ≤ a then a else -a)
theorem nM_bd {a b : Int} (h1 : -5 ≤ a ∧ a ≤ 5) (h2 : -5 ≤ b ∧ b ≤ 5) (h3 : ¬ (a = 0 ∧ b = 0)) : 1 ≤ nM a b ∧ nM a b ≤ 5 ∧ (a = nM a b ∨ a = -nM a b ∨ b = nM a b ∨ b = -nM a b) := by
  unfold nM
  split <;> split <;> (try split) <;> omega
def pX (d n x i : Int) : Int := x + (2 * d * i + n) / (2 * n)
theorem pX_pre {d n i : Int} (hd : -5 ≤ d ∧ d ≤ 5) (hn : 1 ≤ n ∧ n ≤ 5) (hi : 0 ≤ i ∧ i ≤ 16) : -165 ≤ 2 * d * i + n ∧ 2 * d * i + n ≤ 165 ∧ -165 ≤ (2 * d * i + n) / (2 * n) ∧ (2 * d * i + n) / (2 * n) ≤ 165 := by
  have h := mulB (a := 2 * d) (i := i) (A := 10) (B := 16) (by omega) (by omega) hi.1 hi.2 (by omega)
  have h2 := divB (a := 2 * d * i + n) (b := 2 * n) (B := 165) (by omega) (by omega) (by omega) (by omega)
  omega
theorem pX16 {d n x : Int} (hn : 1 ≤ n ∧ n ≤ 5) (hd : d = n ∨ d = -n) : pX d n x 16 = x + 16 ∨ pX d n x 16 = x - 16 := by
  have : n = 1 ∨ n = 2 ∨ n = 3 ∨ n = 4 ∨ n = 5 := by omega
  unfold pX
  rcases this with e | e | e | e | e <;> subst e <;> rcases hd with e | e <;> subst e <;> omega
def insP (z : Int → Int) (dx dy i : Int) : Prop := 1 ≤ z 3 ∧ 0 ≤ pX dx (nM dx dy) (cX z) i ∧ pX dx (nM dx dy) (cX z) i < z 0 ∧ 0 ≤ pX dy (nM dx dy) (cY z) i ∧ pX dy (nM dx dy) (cY z) i < z 1
theorem ins16 {dx dy : Int} (hp : iP μ) (h1 : -5 ≤ dx ∧ dx ≤ 5) (h2 : -5 ≤ dy ∧ dy ≤ 5) (h3 : ¬ (dx = 0 ∧ dy = 0)) : ¬ insP (μ 3) dx dy 16 := by
  intro ⟨q1, q2, q3, q4, q5⟩
  have b := nM_bd h1 h2 h3
  have x := (cX_bd hp).2 q1
  have y := (cY_bd hp).2 q1
  have w := hp.1
  have h := hp.2.1
  rcases b.2.2 with e | e | e | e
  · have := pX16 (x := cX (μ 3)) ⟨b.1, b.2.1⟩ (.inl e)
    omega
  · have := pX16 (x := cX (μ 3)) ⟨b.1, b.2.1⟩ (.inr e)
    omega
  · have := pX16 (x := cY (μ 3)) ⟨b.1, b.2.1⟩ (.inl e)
    omega
  · have := pX16 (x := cY (μ 3)) ⟨b.1, b.2.1⟩ (.inr e)
    omega
def isLen (P : Int → Prop) (l : Int) : Prop := 0 ≤ l ∧ l ≤ 16 ∧ (∀ i : Int, 0 ≤ i → i < l → P i) ∧ ¬ P l
theorem len_ex (P : Int → Prop) : ∀ n : Nat, (∃ m : Nat, m ≤ n ∧ ¬ P m ∧ ∀ i : Int, 0 ≤ i → i < m → P i) ∨ (∀ i : Int, 0 ≤ i → i ≤ n → P i)
  | 0 => by
    by_cases h : P 0
    · right
      intro i h0 h1
      rwa [show i = 0 by omega]
    · left
      exact ⟨0, by omega, h, fun i _ _ => by omega⟩
  | n + 1 => by
    rcases len_ex P n with ⟨m, h1, h2, h3⟩ | h
    · exact .inl ⟨m, by omega, h2, h3⟩
    · by_cases k : P ((n + 1 : Nat) : Int)
      · right
        intro i h0 h1
        by_cases e : i = ((n + 1 : Nat) : Int)
        · rwa [e]
        · exact h i h0 (by omega)
      · left
        exact ⟨n + 1, by omega, k, fun i h0 h1 => h i h0 (by omega)⟩
theorem isLen_one {P : Int → Prop} {l l' : Int} (h : isLen P l) (h' : isLen P l') : l = l' := by
  obtain ⟨a1, a2, a3, a4⟩ := h
  obtain ⟨b1, b2, b3, b4⟩ := h'
  by_cases e : l < l'
  · exact absurd (b3 l a1 e) a4
  · by_cases e2 : l' < l
    · exact absurd (a3 l' b1 e2) b4
    · omega
noncomputable def lenF (P : Int → Prop) : Int := Classical.epsilon (fun l => isLen P l)
theorem lenF_is {P : Int → Prop} (h : ¬ P 16) : isLen P (lenF P) := by
  refine Classical.epsilon_spec (p := fun l => isLen P l) ?_
  rcases len_ex P 16 with ⟨m, h1, h2, h3⟩ | k
  · exact ⟨m, by omega, by omega, h3, h2⟩
  · exact absurd (k 16 (by omega) (by omega)) h
theorem lenF_eq {P : Int → Prop} {l : Int} (h : isLen P l) : l = lenF P := isLen_one h (Classical.epsilon_spec (p := fun l => isLen P l) ⟨l, h⟩)
noncomputable def LN (μ : sx_M) (r : Int) : Int := lenF (insP (μ 3) (μ 1 r) (μ 2 r))
def VL (μ : sx_M) (r i : Int) : Int := μ 4 (16 * pX (μ 2 r) (nM (μ 1 r) (μ 2 r)) (cY (μ 3)) i + pX (μ 1 r) (nM (μ 1 r) (μ 2 r)) (cX (μ 3)) i)
def evF (v : Int → Int) (l k : Int) : Int := ((if k ≤ 0 then v k else v (k - 1)) + 2 * v k + (if l - 1 ≤ k then v k else v (k + 1)) + 2) / 4
noncomputable def EV (μ : sx_M) (r i : Int) : Int := evF (VL μ r) (LN μ r) i
abbrev rgC (e : Int → Int) (a hh k l m : Int) : Prop := e (k - 1) < e k ∧ e (k + 1) ≤ e k ∧ a ≤ k - l ∧ hh ≤ e k - (if e k < m then e k else m)
def rgF (e : Int → Int) (a hh : Int) : Nat → Int × Int × Int × (Int → Int)
  | 0 => (0, 0, e 0, fun _ => 0)
  | n + 1 => if rgC e a hh ((n : Int) + 1) (rgF e a hh n).2.1 (rgF e a hh n).2.2.1 then ((rgF e a hh n).1 + 1, (n : Int) + 1, e ((n : Int) + 1), fun j => if j = (rgF e a hh n).1 then (n : Int) + 1 else (rgF e a hh n).2.2.2 j) else ((rgF e a hh n).1, (rgF e a hh n).2.1, (if e ((n : Int) + 1) < (rgF e a hh n).2.2.1 then e ((n : Int) + 1) else (rgF e a hh n).2.2.1), (rgF e a hh n).2.2.2)
noncomputable def RG (μ : sx_M) (r : Int) : Int × Int × Int × (Int → Int) := rgF (EV μ r) (μ 0 8) (μ 0 9) (LN μ r - 2).toNat
noncomputable def NF (μ : sx_M) (r : Int) : Int := (RG μ r).1
noncomputable def PL (μ : sx_M) (r j : Int) : Int := (RG μ r).2.2.2 j
theorem tr_congr {μ1 : sx_M} (h0 : μ1 0 = μ 0) (h1 : μ1 1 = μ 1) (h2 : μ1 2 = μ 2) (h3 : μ1 3 = μ 3) (h4 : μ1 4 = μ 4) : LN μ1 = LN μ ∧ VL μ1 = VL μ ∧ EV μ1 = EV μ ∧ NF μ1 = NF μ ∧ PL μ1 = PL μ := by
  have a1 : LN μ1 = LN μ := by
    funext r
    unfold LN
    rw [h1, h2, h3]
  have a2 : VL μ1 = VL μ := by
    funext r i
    unfold VL
    rw [h1, h2, h3, h4]
  have a3 : EV μ1 = EV μ := by
    funext r i
    unfold EV
    rw [a1, a2]
  have a4 : RG μ1 = RG μ := by
    funext r
    unfold RG
    rw [a1, a3, h0]
  refine ⟨a1, a2, a3, ?_, ?_⟩
  · funext r
    unfold NF
    rw [a4]
  · funext r j
    unfold PL
    rw [a4]
theorem rg_bd {e : Int → Int} {a hh l : Int} (he : ∀ i : Int, 0 ≤ i → i < l → 0 ≤ e i ∧ e i ≤ 255) : ∀ n : Nat, (n : Int) < l → 0 ≤ (rgF e a hh n).1 ∧ ((rgF e a hh n).1 = 0 → (rgF e a hh n).2.1 = 0) ∧ (1 ≤ (rgF e a hh n).1 → 2 * (rgF e a hh n).1 - 1 ≤ (rgF e a hh n).2.1 ∧ e ((rgF e a hh n).2.1 + 1) ≤ e (rgF e a hh n).2.1) ∧ (0 ≤ (rgF e a hh n).2.1 ∧ (rgF e a hh n).2.1 ≤ n) ∧ (0 ≤ (rgF e a hh n).2.2.1 ∧ (rgF e a hh n).2.2.1 ≤ 255) ∧ ∀ j : Int, 0 ≤ j → j < (rgF e a hh n).1 → 1 ≤ (rgF e a hh n).2.2.2 j ∧ (rgF e a hh n).2.2.2 j ≤ n
  | 0, hn => by
    have := he 0 (by omega) (by omega)
    exact ⟨by simp [rgF], by simp [rgF], by simp [rgF], by simp [rgF], this, fun j h0 h1 => by simp [rgF] at h1; omega⟩
  | n + 1, hn => by
    have hb := rg_bd (a := a) (hh := hh) he n (by omega)
    have hE := he ((n : Int) + 1) (by omega) (by omega)
    have hc : ((n + 1 : Nat) : Int) = (n : Int) + 1 := by omega
    rw [rgF, hc]
    generalize rgF e a hh n = s at hb ⊢
    obtain ⟨f, la, le, pl⟩ := s
    simp only at hb ⊢
    obtain ⟨b1, b2, b3, b4, b5, b6⟩ := hb
    split
    · rename_i hC
      obtain ⟨c1, c2, c3, c4⟩ := hC
      have hne : 1 ≤ f → la + 1 ≠ (n : Int) + 1 := by
        intro hf q
        have b3' := (b3 hf).2
        have q2 : la = (n : Int) + 1 - 1 := by omega
        rw [q, q2] at b3'
        omega
      simp only
      refine ⟨by omega, by omega, fun _ => ⟨by omega, c2⟩, by omega, hE, fun j h0 h1 => ?_⟩
      by_cases ej : j = f
      · rw [if_pos ej]
        omega
      · rw [if_neg ej]
        have := b6 j h0 (by omega)
        omega
    · simp only
      refine ⟨b1, b2, b3, by omega, ?_, fun j h0 h1 => ?_⟩
      · split <;> omega
      · have := b6 j h0 h1
        omega
theorem tr_bd {r : Int} (hp : iP μ) (hR : iR μ) (hr : 0 ≤ r ∧ r < μ 0 7) : (0 ≤ LN μ r ∧ LN μ r ≤ 16) ∧ (∀ i : Int, 0 ≤ i → i < LN μ r → insP (μ 3) (μ 1 r) (μ 2 r) i ∧ (0 ≤ VL μ r i ∧ VL μ r i ≤ 255) ∧ (0 ≤ EV μ r i ∧ EV μ r i ≤ 255)) ∧ (0 ≤ NF μ r ∧ NF μ r ≤ 7) ∧ (∀ j : Int, 0 ≤ j → j < NF μ r → 1 ≤ PL μ r j ∧ PL μ r j ≤ LN μ r - 2) := by
  obtain ⟨r1, r2, r3, r4⟩ := hR
  obtain ⟨k1, k2, k3, k4, k5, k6, k7⟩ := r4 r hr.1 hr.2
  have L := lenF_is (ins16 hp ⟨k3, k4⟩ ⟨k5, k6⟩ k7)
  obtain ⟨l1, l2, l3, l4⟩ := L
  have hv : ∀ i : Int, 0 ≤ i → i < LN μ r → 0 ≤ VL μ r i ∧ VL μ r i ≤ 255 := by
    intro i h0 h1
    obtain ⟨q1, q2, q3, q4, q5⟩ := l3 i h0 h1
    have w := hp.1
    have h := hp.2.1
    exact (hp.2.2.1 _ (by omega) (by omega)).2
  have hE : ∀ i : Int, 0 ≤ i → i < LN μ r → 0 ≤ EV μ r i ∧ EV μ r i ≤ 255 := by
    intro i h0 h1
    have v1 := hv i h0 h1
    have v2 : 0 ≤ (if i ≤ 0 then VL μ r i else VL μ r (i - 1)) ∧ (if i ≤ 0 then VL μ r i else VL μ r (i - 1)) ≤ 255 := by
      split
      · exact v1
      · exact hv (i - 1) (by omega) (by omega)
    have v3 : 0 ≤ (if LN μ r - 1 ≤ i then VL μ r i else VL μ r (i + 1)) ∧ (if LN μ r - 1 ≤ i then VL μ r i else VL μ r (i + 1)) ≤ 255 := by
      split
      · exact v1
      · exact hv (i + 1) (by omega) (by omega)
    unfold EV evF
    omega
  refine ⟨⟨l1, l2⟩, fun i h0 h1 => ⟨l3 i h0 h1, hv i h0 h1, hE i h0 h1⟩, ?_⟩
  have l1' : 0 ≤ LN μ r := l1
  have l2' : LN μ r ≤ 16 := l2
  unfold NF PL RG
  by_cases e : 2 ≤ LN μ r
  · have b := rg_bd (a := μ 0 8) (hh := μ 0 9) hE (LN μ r - 2).toNat (by omega)
    obtain ⟨b1, b2, b3, b4, b5, b6⟩ := b
    refine ⟨by omega, fun j h0 h1 => ?_⟩
    have := b6 j h0 h1
    omega
  · rw [show (LN μ r - 2).toNat = 0 by omega]
    refine ⟨by simp [rgF], fun j h0 h1 => ?_⟩
    simp [rgF] at h1
    omega
/-! The class's walk. -/
theorem lp_walk {t : Nat} {r : Int} {μ0 : sx_M} (ht : t = 5 ∨ t = 9) (hp : iP μ0) (hR : iR μ0) (hr : 0 ≤ r ∧ r < μ0 0 7) (hs : 1 ≤ μ0 3 3) (h : ∀ μ1 : sx_M, (∀ c, c ≠ t → c ≠ t + 1 → μ1 c = μ0 c) → μ1 t 3 = LN μ0 r → (∀ i : Int, 0 ≤ i → i < LN μ0 r → μ1 (t + 1) i = VL μ0 r i) → Q 0 μ1) : ∀ (n : Nat) (i : Int) (μ : sx_M), 0 ≤ i → i ≤ 16 → 16 - i < (n : Int) → (∀ c, c ≠ t → c ≠ t + 1 → μ c = μ0 c) → μ t 3 = i → (∀ j : Int, 0 ≤ j → j < i → insP (μ0 3) (μ0 1 r) (μ0 2 r) j ∧ μ (t + 1) j = VL μ0 r j) → sw_T_walk_48 Q t n (μ0 1 r) (μ0 2 r) (nM (μ0 1 r) (μ0 2 r)) (cX (μ0 3)) (cY (μ0 3)) i μ
  | 0, i, μ, _, _, _, _, _, _ => by omega
  | n + 1, i, μ, h0, h4, hn, hf, hl, hj => by
    have hend : ¬ insP (μ0 3) (μ0 1 r) (μ0 2 r) i → Q 0 μ := by
      intro k
      have e : i = LN μ0 r := lenF_eq ⟨h0, h4, fun j j0 j1 => (hj j j0 j1).1, k⟩
      refine h μ hf (by omega) (fun j j0 j1 => (hj j j0 (by omega)).2)
    obtain ⟨r1, r2, r3, r4⟩ := hR
    obtain ⟨k1, k2, k3, k4, k5, k6, k7⟩ := r4 r hr.1 hr.2
    have hn5 := nM_bd ⟨k3, k4⟩ ⟨k5, k6⟩ k7
    have e3 : μ 3 = μ0 3 := hf 3 (by omega) (by omega)
    have e4 : μ 4 = μ0 4 := hf 4 (by omega) (by omega)
    have x := (cX_bd hp).2 hs
    have y := (cY_bd hp).2 hs
    have w := hp.1
    have hh := hp.2.1
    rw [sw_T_walk_48]
    refine ⟨by omega, fun e => ?_, fun e => ?_⟩
    · have : i = 16 := by omega
      subst this
      exact hend (ins16 hp ⟨k3, k4⟩ ⟨k5, k6⟩ k7)
    · have px := pX_pre (d := μ0 1 r) (n := nM (μ0 1 r) (μ0 2 r)) (i := i) ⟨k3, k4⟩ ⟨hn5.1, hn5.2.1⟩ ⟨h0, h4⟩
      have py := pX_pre (d := μ0 2 r) (n := nM (μ0 1 r) (μ0 2 r)) (i := i) ⟨k5, k6⟩ ⟨hn5.1, hn5.2.1⟩ ⟨h0, h4⟩
      refine sp_floorOf (by omega) (by omega) (by omega) (by omega) (sp_floorOf (by omega) (by omega) (by omega) (by omega) ?_)
      have ex : cX (μ0 3) + (2 * μ0 1 r * i + nM (μ0 1 r) (μ0 2 r)) / (2 * nM (μ0 1 r) (μ0 2 r)) = pX (μ0 1 r) (nM (μ0 1 r) (μ0 2 r)) (cX (μ0 3)) i := rfl
      have ey : cY (μ0 3) + (2 * μ0 2 r * i + nM (μ0 1 r) (μ0 2 r)) / (2 * nM (μ0 1 r) (μ0 2 r)) = pX (μ0 2 r) (nM (μ0 1 r) (μ0 2 r)) (cY (μ0 3)) i := rfl
      rw [ex, ey]
      refine sp_holds (by omega) (by omega) (by rw [e3]; omega) (by rw [e3]; omega) (fun k => ⟨by omega, fun k2 => absurd rfl k2, fun _ => ?_⟩) (fun q1 q2 q3 q4 => ⟨by omega, fun _ => ?_, fun k2 => by omega⟩)
      · rw [e3] at k
        exact hend (fun q => k ⟨q.2.1, q.2.2.1, q.2.2.2.1, q.2.2.2.2⟩)
      · refine sp_at ⟨q1, q2⟩ ⟨q3, q4⟩ (by rw [e3]; omega) (by rw [e3]; omega) ⟨by omega, ?_⟩
        rw [e3] at q2 q4
        refine lp_walk ht hp ⟨r1, r2, r3, r4⟩ hr hs h n (i + 1) _ (by omega) (by omega) (by omega) (fun c c1 c2 => ?_) ?_ (fun j j0 j1 => ?_)
        · rw [sx_up_ne _ _ c1, sx_up_ne _ _ c2]
          exact hf c c1 c2
        · rw [sx_up_self]
          simp
        · by_cases ej : j = i
          · subst ej
            refine ⟨⟨hs, q1, q2, q3, q4⟩, ?_⟩
            rw [sx_up_ne _ _ (by omega), sx_up_self, e4]
            simp only [if_true]
            rfl
          · have := hj j j0 (by omega)
            refine ⟨this.1, ?_⟩
            rw [sx_up_ne _ _ (by omega), sx_up_self]
            simp only [ej, if_false]
            exact this.2
theorem sp_walk {t : Nat} {r : Int} (ht : t = 5 ∨ t = 9) (hp : iP μ) (hR : iR μ) (hr : 0 ≤ r ∧ r < μ 0 7) (h : ∀ μ1 : sx_M, (∀ c, c ≠ t → c ≠ t + 1 → μ1 c = μ c) → μ1 t 3 = LN μ r → (∀ i : Int, 0 ≤ i → i < LN μ r → μ1 (t + 1) i = VL μ r i) → Q 0 μ1) : sw_T_walk Q t μ (μ 1 r) (μ 2 r) := by
  obtain ⟨r1, r2, r3, r4⟩ := hR
  obtain ⟨k1, k2, k3, k4, k5, k6, k7⟩ := r4 r hr.1 hr.2
  have hn5 := nM_bd ⟨k3, k4⟩ ⟨k5, k6⟩ k7
  have b := iP_bd hp
  have e3 : sx_up μ t 3 0 3 = μ 3 := sx_up_ne _ _ (by omega)
  unfold sw_T_walk sw_T_walk_32
  rw [e3]
  refine ⟨by omega, by omega, ⟨by split <;> omega, by split <;> omega⟩, by omega, fun e => ?_, fun e => ⟨⟨?_, by omega⟩, fun _ => ?_, fun k => ?_⟩⟩
  · have l0 : (0 : Int) = LN μ r := lenF_eq ⟨by omega, by omega, fun i i0 i1 => by omega, fun q => by have := q.1; omega⟩
    refine h _ (fun c c1 c2 => sx_up_ne _ _ c1) ?_ (fun i i0 i1 => by omega)
    rw [sx_up_self]
    simp [← l0]
  · show sx_R (nM (μ 1 r) (μ 2 r))
    omega
  · have hp1 : iP (sx_up μ t 3 0) := iP_fr hp e3 (sx_up_ne _ _ (by omega)) (sx_up_ne _ _ (by omega)) (by rw [sx_up_ne _ _ (by omega)]) (by rw [sx_up_ne _ _ (by omega)])
    refine sp_centreX hp1 (sp_centreY hp1 ?_)
    rw [e3]
    refine lp_walk ht hp ⟨r1, r2, r3, r4⟩ hr e h 600 0 _ (by omega) (by omega) (by omega) (fun c c1 c2 => sx_up_ne _ _ c1) ?_ (fun j j0 j1 => by omega)
    rw [sx_up_self]
    simp
  · have k' : nM (μ 1 r) (μ 2 r) < 1 := k
    omega
