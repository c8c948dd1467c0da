variable {Q : Int → sx_M → Prop} {X : String → sx_M → Prop} {μ : sx_M}
/-! ring -/
def wF (p : Int → Int) (k : Int) : Int := if k ≤ 0 then p k else p k - p (k - 1)
theorem wF_congr {p q : Int → Int} {n k : Int} (h : ∀ j : Int, 0 ≤ j → j < n → p j = q j) (hk : 0 ≤ k ∧ k < n) : wF p k = wF q k := by
  unfold wF
  split
  · exact h k hk.1 hk.2
  · rw [h k hk.1 hk.2, h (k - 1) (by omega) (by omega)]
theorem wF_bd {p : Int → Int} {n k : Int} (h : ∀ j : Int, 0 ≤ j → j < n → 0 ≤ p j ∧ p j ≤ 16) (hk : 0 ≤ k ∧ k < n) : -16 ≤ wF p k ∧ wF p k ≤ 16 := by
  have h1 := h k hk.1 hk.2
  unfold wF
  split
  · omega
  · have h2 := h (k - 1) (by omega) (by omega)
    omega
def fR (p : Int → Int) (n k : Int) : Int := if 0 < k ∧ k < n - 1 ∧ 2 * wF p k < wF p (k - 1) ∧ 2 * wF p k < wF p (k + 1) then 1 else 0
theorem fR_01 (p : Int → Int) (n k : Int) : fR p n k = 0 ∨ fR p n k = 1 := by
  unfold fR
  split
  · exact .inr rfl
  · exact .inl rfl
theorem fR_no {p : Int → Int} {n k : Int} (h : ¬ (0 < k ∧ k < n - 1 ∧ 2 * wF p k < wF p (k - 1) ∧ 2 * wF p k < wF p (k + 1))) : fR p n k = 0 := by
  unfold fR
  rw [if_neg h]
theorem fR_yes {p : Int → Int} {n k : Int} (h : 0 < k ∧ k < n - 1 ∧ 2 * wF p k < wF p (k - 1) ∧ 2 * wF p k < wF p (k + 1)) : fR p n k = 1 := by
  unfold fR
  rw [if_pos h]
theorem sp_widthT {k : Int} (hk : 0 ≤ k ∧ k < 8) (h : Q (wF (μ 8) k) μ) : sw_T_widthOf Q μ k := by
  unfold sw_T_widthOf sw_T_widthOf_28
  unfold wF at h
  refine ⟨by omega, fun e => ⟨hk, ?_⟩, fun e => ⟨hk, by omega, ?_⟩⟩
  · rwa [if_pos e] at h
  · rwa [if_neg (by omega)] at h
theorem sp_widthM {k : Int} (hk : 0 ≤ k ∧ k < 16) (h : Q (wF (μ 25) k) μ) : sw_M_widthOf Q μ k := by
  unfold sw_M_widthOf sw_M_widthOf_28
  unfold wF at h
  refine ⟨by omega, fun e => ⟨hk, by omega, ?_⟩, fun e => ⟨by omega, ?_⟩⟩
  · rwa [if_neg (by omega)] at h
  · rw [if_pos (by omega), e] at h
    exact h
theorem sp_isFalse {p : Int → Int} {n k : Int} (hn : n ≤ 7) (en : μ 5 4 = n) (hk : 0 ≤ k ∧ k < n) (hp : ∀ j : Int, 0 ≤ j → j < n → μ 8 j = p j ∧ 0 ≤ p j ∧ p j ≤ 16) (h : Q (fR p n k) μ) : sw_T_isFalse Q μ k := by
  have hc : ∀ j : Int, 0 ≤ j → j < n → wF (μ 8) j = wF p j := fun j a b => wF_congr (fun i c d => (hp i c d).1) ⟨a, b⟩
  have hb : ∀ j : Int, 0 ≤ j → j < n → -16 ≤ wF p j ∧ wF p j ≤ 16 := fun j a b => wF_bd (fun i c d => (hp i c d).2) ⟨a, b⟩
  have no : ¬ (0 < k ∧ k < n - 1 ∧ 2 * wF p k < wF p (k - 1) ∧ 2 * wF p k < wF p (k + 1)) → Q 0 μ := fun q => by
    rwa [fR_no q] at h
  have yes : (0 < k ∧ k < n - 1 ∧ 2 * wF p k < wF p (k - 1) ∧ 2 * wF p k < wF p (k + 1)) → Q 1 μ := fun q => by
    rwa [fR_yes q] at h
  unfold sw_T_isFalse sw_T_isFalse_15 sw_T_isFalse_51 sw_T_isFalse_52
  rw [en]
  refine ⟨by omega, fun e => ⟨.inl rfl, no (by omega)⟩, fun e => ⟨by omega, fun e2 => sp_widthT (by omega) (sp_widthT (by omega) ?_), fun e2 => ⟨.inl rfl, no (by omega)⟩⟩⟩
  have b0 := hb k hk.1 hk.2
  have b1 := hb (k - 1) (by omega) (by omega)
  have b2 := hb (k + 1) (by omega) (by omega)
  rw [hc k hk.1 hk.2, hc (k - 1) (by omega) (by omega)]
  refine ⟨by omega, fun e3 => ⟨.inl rfl, no (by omega)⟩, fun e3 => sp_widthT (by omega) ?_⟩
  rw [hc (k + 1) (by omega) (by omega)]
  exact ⟨by omega, fun e4 => ⟨.inl rfl, no (by omega)⟩, fun e4 => ⟨.inr rfl, yes ⟨by omega, e2, e3, e4⟩⟩⟩
theorem sp_falseM {p : Int → Int} {n k : Int} (hn : n ≤ 7) (hk : 0 ≤ k ∧ k < n) (hp : ∀ j : Int, 0 ≤ j → j < n → μ 25 j = p j ∧ 0 ≤ p j ∧ p j ≤ 16) (h : Q (fR p n k) μ) : sx_R k ∧ (k ≤ 0 → (sw_M_ring_121 Q k μ)) ∧ (0 < k → ((sx_R k ∧ sx_R (n - 1)) ∧ ((n - 1) ≤ k → (sw_M_ring_121 Q k μ)) ∧ (k < (n - 1) → (sw_M_ring_122 Q k 1 μ)))) := by
  have hc : ∀ j : Int, 0 ≤ j → j < n → wF (μ 25) j = wF p j := fun j a b => wF_congr (fun i c d => (hp i c d).1) ⟨a, b⟩
  have hb : ∀ j : Int, 0 ≤ j → j < n → -16 ≤ wF p j ∧ wF p j ≤ 16 := fun j a b => wF_bd (fun i c d => (hp i c d).2) ⟨a, b⟩
  have no : ¬ (0 < k ∧ k < n - 1 ∧ 2 * wF p k < wF p (k - 1) ∧ 2 * wF p k < wF p (k + 1)) → Q 0 μ := fun q => by
    rwa [fR_no q] at h
  have yes : (0 < k ∧ k < n - 1 ∧ 2 * wF p k < wF p (k - 1) ∧ 2 * wF p k < wF p (k + 1)) → Q 1 μ := fun q => by
    rwa [fR_yes q] at h
  unfold sw_M_ring_121 sw_M_ring_122 sw_M_ring_167 sw_M_ring_168
  refine ⟨by omega, fun e => ⟨by omega, fun _ => no (by omega), fun q => absurd rfl q⟩, fun e => ⟨by omega, fun e2 => ⟨by omega, fun _ => no (by omega), fun q => absurd rfl q⟩, fun e2 => ⟨by omega, fun q => by omega, fun _ => sp_widthM (by omega) (sp_widthM (by omega) ?_)⟩⟩⟩
  have b0 := hb k hk.1 hk.2
  have b1 := hb (k - 1) (by omega) (by omega)
  have b2 := hb (k + 1) (by omega) (by omega)
  rw [hc k hk.1 hk.2, hc (k - 1) (by omega) (by omega)]
  refine ⟨by omega, fun e3 => no (by omega), fun e3 => sp_widthM (by omega) (sp_widthM (by omega) ?_)⟩
  rw [hc k hk.1 hk.2, hc (k + 1) (by omega) (by omega)]
  exact ⟨by omega, fun e4 => no (by omega), fun e4 => yes ⟨by omega, e2, e3, e4⟩⟩
noncomputable def rA (μ : sx_M) (r k w : Int) : Int := if w = 0 then PL μ r k else if w = 1 then EV μ r (PL μ r k) else if w = 2 then wF (PL μ r) k else fR (PL μ r) (NF μ r) k
theorem rA_congr {M : sx_M} {r k w : Int} (h5 : EV M = EV μ) (h6 : NF M = NF μ) (h7 : PL M = PL μ) : rA M r k w = rA μ r k w := by
  unfold rA
  rw [h5, h6, h7]
def bR (μ : sx_M) (r k w : Int) : Prop := r < 0 ∨ μ 0 7 ≤ r ∨ (0 ≤ r ∧ r < μ 0 7 ∧ (k < 0 ∨ NF μ r ≤ k ∨ w < 0 ∨ 4 ≤ w))
theorem rA_bd {r k w : Int} (hI : sI μ) (hr : 0 ≤ r ∧ r < μ 0 7) (hk : 0 ≤ k ∧ k < NF μ r) : sx_R (rA μ r k w) := by
  obtain ⟨t1, t2, t3, t4⟩ := tr_bd hI.1 hI.2.1 hr
  have pb := t4 k hk.1 hk.2
  have vb := t2 (PL μ r k) (by omega) (by omega)
  have wb := wF_bd (p := PL μ r) (n := NF μ r) (k := k) (fun j a b => by have := t4 j a b; omega) hk
  have f1 := fR_01 (PL μ r) (NF μ r) k
  unfold rA
  split
  · omega
  · split
    · omega
    · split
      · omega
      · omega
theorem sp_ringS {r k w : Int} (hI : sI μ) (hr : sx_R r) (hk : sx_R k) (hw : sx_R w) (bad : ∀ M : sx_M, sI M → bR M r k w → X "java/lang/IndexOutOfBoundsException" M) (good : ∀ μ1 : sx_M, 0 ≤ r → r < μ 0 7 → 0 ≤ k → k < NF μ r → 0 ≤ w → w < 4 → frT 5 μ μ1 → Q (rA μ r k w) μ1) : sw_S_ring Q X μ r k w := by
  unfold sw_S_ring sw_S_ring_105
  refine sp_follow (.inl rfl) hI.1 hI.2.1 hI.2.2.1 hr (fun e => bad μ hI (by unfold bR; omega)) (fun μ1 e1 e2 f1 l1 n1 v1 p1 => ?_)
  obtain ⟨t1, t2, t3, t4⟩ := tr_bd hI.1 hI.2.1 ⟨e1, e2⟩
  have hI1 := sI_T (.inl rfl) hI f1
  have c0 := f1 0 (by omega)
  obtain ⟨w1, w2, w3, w4, w5⟩ := tr_congr (μ := μ) (μ1 := μ1) c0 (f1 1 (by omega)) (f1 2 (by omega)) (f1 3 (by omega)) (f1 4 (by omega))
  rw [n1]
  refine sp_needPlace hk (by omega) (fun e => bad μ1 hI1 (by unfold bR; rw [c0, w4]; omega)) (fun e3 e4 => sp_needPlace hw (by omega) (fun e => bad μ1 hI1 (by unfold bR; rw [c0, w4]; omega)) (fun e5 e6 => ?_))
  have g := good μ1 e1 e2 e3 e4 e5 e6 f1
  unfold rA at g
  have pk : μ1 8 k = PL μ r k := p1 k e3 e4
  have pb := t4 k e3 e4
  have ev : μ1 7 (PL μ r k) = EV μ r (PL μ r k) := (v1 _ (by omega) (by omega)).2
  refine ⟨hw, fun e => ⟨by omega, ?_⟩, fun e => ⟨by omega, ?_⟩, fun e => sp_widthT (by omega) ?_, fun e => ?_⟩
  · rw [if_pos e] at g
    rw [pk]
    exact g
  · rw [if_neg (by omega), if_pos e] at g
    rw [pk, ev]
    exact ⟨by omega, g⟩
  · rw [if_neg (by omega), if_neg (by omega), if_pos e] at g
    rw [wF_congr (q := PL μ r) (n := NF μ r) (fun j a b => p1 j a b) ⟨e3, e4⟩]
    exact g
  · rw [if_neg (by omega), if_neg (by omega), if_neg (by omega)] at g
    refine sp_isFalse (p := PL μ r) (n := NF μ r) (by omega) n1 ⟨e3, e4⟩ (fun j a b => ⟨p1 j a b, by have := t4 j a b; omega, by have := t4 j a b; omega⟩) ?_
    have f01 := fR_01 (PL μ r) (NF μ r) k
    refine ⟨by omega, fun q => ?_, fun q => ?_⟩
    · rw [q] at g
      exact g
    · rw [show fR (PL μ r) (NF μ r) k = 1 by omega] at g
      exact g
theorem sp_ringM {r k w : Int} (hI : sI μ) (hr : sx_R r) (hk : sx_R k) (hw : sx_R w) (bad : ∀ M : sx_M, sI M → M 19 0 = 1 → bR μ r k w → Q 0 M) (good : ∀ M : sx_M, 0 ≤ r → r < μ 0 7 → 0 ≤ k → k < NF μ r → 0 ≤ w → w < 4 → sI M → M 19 0 = 0 → M 30 = μ 30 → Q (rA μ r k w) M) : sw_M_ring Q μ r k w := by
  unfold sw_M_ring sw_M_ring_36
  refine sp_ringsM hI hr (fun e => ?_) (fun μ1 e1 e2 h => ?_)
  · rw [th_0]
    refine ⟨by omega, fun _ => ?_, fun q => by omega⟩
    unfold sw_M_ring_41
    exact thP (by omega) (bad _ (sI_th (sI_th hI 1) 1) (th_0 _ _) (by unfold bR; omega))
  · have h0 := h.2.1
    obtain ⟨t1, t2, t3, t4⟩ := tr_bd hI.1 hI.2.1 ⟨e1, e2⟩
    refine ⟨by omega, fun q => by omega, fun _ => sp_isIn hk (by omega) (by omega) (fun e => ⟨by omega, fun _ => ?_, fun q => absurd rfl q⟩) (fun q1 q2 => ⟨by omega, fun q => by omega, fun _ => sp_isIn hw (by omega) (by omega) (fun e => ⟨by omega, fun q => absurd rfl q, fun _ => ?_⟩) (fun q3 q4 => ⟨by omega, fun _ => ?_, fun q => by omega⟩)⟩)⟩
    · unfold sw_M_ring_41
      exact thP (by omega) (bad _ (sI_th h.1 1) (th_0 _ _) (by unfold bR; omega))
    · unfold sw_M_ring_41
      exact thP (by omega) (bad _ (sI_th h.1 1) (th_0 _ _) (by unfold bR; omega))
    · have g := good (sx_up μ1 19 0 0) e1 e2 q1 (by omega) q3 (by omega) (sI_th h.1 0) (th_0 _ _) (by rw [th_c _ _ (by omega)]; exact h.2.2.1)
      unfold rA at g
      have a25 : ∀ j : Int, 0 ≤ j → j < NF μ r → sx_up μ1 19 0 0 25 j = PL μ r j := fun j a b => by
        rw [th_c _ _ (by omega)]
        exact h.2.2.2.2.2.2 j a b
      have pb := t4 k q1 (by omega)
      have a24 : sx_up μ1 19 0 0 24 (PL μ r k) = EV μ r (PL μ r k) := by
        rw [th_c _ _ (by omega)]
        exact (h.2.2.2.2.2.1 _ (by omega) (by omega)).2
      unfold sw_M_ring_41
      refine thZ ⟨hw, fun e => ⟨by omega, ?_⟩, fun e => ⟨by omega, ?_⟩, fun e => sp_widthM (by omega) ?_, fun e => ?_⟩
      · rw [if_pos e] at g
        rw [a25 k q1 (by omega)]
        exact g
      · rw [if_neg (by omega), if_pos e] at g
        rw [a25 k q1 (by omega), a24]
        exact ⟨by omega, g⟩
      · rw [if_neg (by omega), if_neg (by omega), if_pos e] at g
        rw [wF_congr (q := PL μ r) (n := NF μ r) a25 ⟨q1, by omega⟩]
        exact g
      · rw [if_neg (by omega), if_neg (by omega), if_neg (by omega)] at g
        exact sp_falseM (p := PL μ r) (n := NF μ r) (by omega) ⟨q1, by omega⟩ (fun j a b => ⟨a25 j a b, by have := t4 j a b; omega, by have := t4 j a b; omega⟩) g
/-! twin -/
def tP (μ : sx_M) (r o b : Int) : Prop := (b = 0 ∨ b = 1) ∧ (b = 1 ↔ (LN μ r = LN μ o ∧ ∀ i : Int, 0 ≤ i → i < LN μ r → VL μ r i = VL μ o i))
theorem tP_uniq {r o b c : Int} (hb : tP μ r o b) (hc : tP μ r o c) : b = c := by
  obtain ⟨b1, b2⟩ := hb
  obtain ⟨c1, c2⟩ := hc
  rcases b1 with e | e
  · rcases c1 with f | f
    · omega
    · have := b2.mpr (c2.mp f)
      omega
  · have := c2.mpr (b2.mp e)
    omega
def bT (μ : sx_M) (r o : Int) : Prop := r < 0 ∨ μ 0 7 ≤ r ∨ o < 0 ∨ μ 0 7 ≤ o
theorem lp_same {f g : Int → Int} {l : Int} (el : μ 5 3 = l) (hl : 0 ≤ l ∧ l ≤ 16) (hf : ∀ i : Int, 0 ≤ i → i < l → (μ 6 i = f i ∧ 0 ≤ f i ∧ f i ≤ 255) ∧ (μ 10 i = g i ∧ 0 ≤ g i ∧ g i ≤ 255)) (h1 : (∀ i : Int, 0 ≤ i → i < l → f i = g i) → Q 1 μ) (h0 : (¬ ∀ i : Int, 0 ≤ i → i < l → f i = g i) → Q 0 μ) : ∀ (n : Nat) (i : Int), 0 ≤ i → i ≤ l → l - i < (n : Int) → (∀ q : Int, 0 ≤ q → q < i → f q = g q) → sw_T_sameValues_15 Q n i μ
  | 0, i, a, b, c, d => by omega
  | n + 1, i, a, b, c, d => by
    rw [sw_T_sameValues_15, el]
    refine ⟨by omega, fun e => ⟨.inr rfl, h1 (fun q q0 q1 => d q q0 (by omega))⟩, fun e => ?_⟩
    obtain ⟨⟨u1, u2, u3⟩, ⟨v1, v2, v3⟩⟩ := hf i a e
    rw [u1, v1]
    refine ⟨by omega, by omega, by omega, fun s => lp_same el hl hf h1 h0 n (i + 1) (by omega) (by omega) (by omega) (fun q q0 q1 => ?_), fun s => ⟨.inl rfl, h0 (fun hh => s (hh i a e))⟩⟩
    by_cases s' : q = i
    · rw [s']
      exact s
    · exact d q q0 (by omega)
theorem sp_twinS {r o : Int} (hI : sI μ) (hr : sx_R r) (ho : sx_R o) (bad : ∀ M : sx_M, sI M → bT M r o → X "java/lang/IndexOutOfBoundsException" M) (good : ∀ (μ2 : sx_M) (b : Int), 0 ≤ r → r < μ 0 7 → 0 ≤ o → o < μ 0 7 → (∀ c, c < 5 ∨ 12 < c → μ2 c = μ c) → tP μ r o b → Q b μ2) : sw_S_twin Q X μ r o := by
  unfold sw_S_twin sw_T_sameValues
  refine sp_follow (.inl rfl) hI.1 hI.2.1 hI.2.2.1 hr (fun e => bad μ hI (by unfold bT; omega)) (fun μ1 e1 e2 f1 l1 n1 v1 p1 => ?_)
  have hI1 := sI_T (.inl rfl) hI f1
  have c0 := f1 0 (by omega)
  obtain ⟨w1, w2, w3, w4, w5⟩ := tr_congr (μ := μ) (μ1 := μ1) c0 (f1 1 (by omega)) (f1 2 (by omega)) (f1 3 (by omega)) (f1 4 (by omega))
  refine sp_follow (.inr rfl) hI1.1 hI1.2.1 hI1.2.2.1 ho (fun e => bad μ1 hI1 (by unfold bT; omega)) (fun μ2 e3 e4 f2 l2 n2 v2 p2 => ?_)
  have e4' : o < μ 0 7 := by
    rw [← c0]
    exact e4
  have fF : ∀ c, c < 5 ∨ 12 < c → μ2 c = μ c := fun c hc => by
    rw [f2 c (by omega), f1 c (by omega)]
  have k1 : μ2 5 3 = LN μ r := by
    rw [f2 5 (by omega)]
    exact l1
  have k2 : μ2 9 3 = LN μ o := by
    rw [l2, w1]
  obtain ⟨t1, t2, t3, t4⟩ := tr_bd hI.1 hI.2.1 ⟨e1, e2⟩
  obtain ⟨o1, o2, o3, o4⟩ := tr_bd hI.1 hI.2.1 ⟨e3, e4'⟩
  rw [k1, k2]
  refine ⟨by omega, fun e => ?_, fun e => ⟨.inl rfl, .inl rfl, good μ2 0 e1 e2 e3 e4' fF ⟨.inl rfl, ⟨fun q => by omega, fun q => absurd q.1 e⟩⟩⟩⟩
  refine lp_same (f := VL μ r) (g := VL μ o) (l := LN μ r) k1 t1 (fun i a b => ⟨⟨?_, (t2 i a b).2.1⟩, ⟨?_, (o2 i a (by omega)).2.1⟩⟩) (fun hh => ⟨.inr rfl, good μ2 1 e1 e2 e3 e4' fF ⟨.inr rfl, ⟨fun _ => ⟨e, hh⟩, fun _ => rfl⟩⟩⟩) (fun hh => ⟨.inl rfl, good μ2 0 e1 e2 e3 e4' fF ⟨.inl rfl, ⟨fun q => by omega, fun q => absurd q.2 hh⟩⟩⟩) 600 0 (by omega) (by omega) (by omega) (fun q q0 q1 => by omega)
  · rw [f2 6 (by omega)]
    exact (v1 i a b).1
  · have := (v2 i a (by rw [w1]; omega)).1
    rw [w2] at this
    exact this
theorem lp_t96 {f g : Int → Int} {l : Int} (el : μ 19 9 = l) (hl : 0 ≤ l ∧ l ≤ 16) (hf : ∀ i : Int, 0 ≤ i → i < l → (μ 23 i = f i ∧ 0 ≤ f i ∧ f i ≤ 255) ∧ (μ 26 i = g i ∧ 0 ≤ g i ∧ g i ≤ 255)) (h1 : (∀ i : Int, 0 ≤ i → i < l → f i = g i) → Q 1 μ) (h0 : (¬ ∀ i : Int, 0 ≤ i → i < l → f i = g i) → Q 0 μ) : ∀ (n : Nat) (i x : Int), 0 ≤ i → i ≤ l → l - i < (n : Int) → (x = 0 ∨ x = 1) → (x = 1 ↔ ∀ q : Int, 0 ≤ q → q < i → f q = g q) → sw_M_twin_96 Q n x i μ
  | 0, i, x, a, b, c, d, hx => by omega
  | n + 1, i, x, a, b, c, d, hx => by
    rw [sw_M_twin_96, el]
    unfold sw_M_twin_140 sw_M_twin_132
    have out0 : x = 0 → Q x μ := fun e => by
      have := h0 (fun hh => by
        have := hx.mpr (fun q q0 q1 => hh q q0 (by omega))
        omega)
      rw [e]
      exact this
    refine ⟨by omega, fun e => ⟨d, ?_⟩, fun e => ⟨by omega, fun e2 => ⟨d, out0 e2⟩, fun e2 => ?_⟩⟩
    · rcases d with e2 | e2
      · exact out0 e2
      · rw [e2]
        exact h1 (fun q q0 q1 => hx.mp e2 q q0 (by omega))
    · obtain ⟨⟨u1, u2, u3⟩, ⟨v1, v2, v3⟩⟩ := hf i a e
      rw [u1, v1]
      refine ⟨by omega, by omega, by omega, fun s => lp_t96 el hl hf h1 h0 n (i + 1) 0 (by omega) (by omega) (by omega) (.inl rfl) ⟨fun q => by omega, fun q => absurd (q i a (by omega)) s⟩, fun s => lp_t96 el hl hf h1 h0 n (i + 1) 1 (by omega) (by omega) (by omega) (.inr rfl) ⟨fun _ q q0 q1 => ?_, fun _ => rfl⟩⟩
      by_cases s' : q = i
      · rw [s']
        exact s
      · exact hx.mp (by omega) q q0 (by omega)
theorem lp_t47 {r o l : Int} {μ0 : sx_M} (hI : sI μ0) (hr : 0 ≤ r ∧ r < μ0 0 7) (ho : 0 ≤ o ∧ o < μ0 0 7) (hl : l = LN μ0 o) (h : ∀ (M : sx_M) (b : Int), sI M → M 19 0 = μ0 19 0 → M 30 = μ0 30 → tP μ0 r o b → Q b M) : ∀ (n : Nat) (i : Int) (μ : sx_M), 0 ≤ i → i ≤ l → l - i < (n : Int) → (∀ c, c ≠ 19 → c ≠ 23 → c ≠ 24 → c ≠ 25 → c ≠ 26 → μ c = μ0 c) → (∀ k : Int, k ≠ 9 → k ≠ 12 → μ 19 k = μ0 19 k) → (∀ q : Int, 0 ≤ q → q < l → μ 23 q = VL μ0 o q) → (∀ q : Int, 0 ≤ q → q < i → μ 26 q = VL μ0 o q) → sw_M_twin_47 Q n r l i μ
  | 0, i, μ, a, b, c, _, _, _, _ => by omega
  | n + 1, i, μ, a, b, c, hf, hz, h23, h26 => by
    obtain ⟨t1, t2, t3, t4⟩ := tr_bd hI.1 hI.2.1 hr
    obtain ⟨o1, o2, o3, o4⟩ := tr_bd hI.1 hI.2.1 ho
    rw [sw_M_twin_47]
    refine ⟨by omega, fun e => ?_, fun e => ⟨by omega, by omega, lp_t47 hI hr ho hl h n (i + 1) _ (by omega) (by omega) (by omega) (fun c a1 a2 a3 a4 a5 => ?_) (fun k a1 a2 => ?_) (fun q q0 q1 => ?_) (fun q q0 q1 => ?_)⟩⟩
    · have hI' : sI μ := sI_fr hI (fun c hc => hf c (by unfold coreC at hc; omega) (by unfold coreC at hc; omega) (by unfold coreC at hc; omega) (by unfold coreC at hc; omega) (by unfold coreC at hc; omega)) (fun k hk => hz k (by unfold coreK at hk; omega) (by unfold coreK at hk; omega))
      have c0 : μ 0 = μ0 0 := hf 0 (by omega) (by omega) (by omega) (by omega) (by omega)
      obtain ⟨w1, w2, w3, w4, w5⟩ := tr_congr (μ := μ0) (μ1 := μ) c0 (hf 1 (by omega) (by omega) (by omega) (by omega) (by omega)) (hf 2 (by omega) (by omega) (by omega) (by omega) (by omega)) (hf 3 (by omega) (by omega) (by omega) (by omega) (by omega)) (hf 4 (by omega) (by omega) (by omega) (by omega) (by omega))
      refine sp_lay hI'.1 hI'.2.1 hI'.2.2.1 ⟨hr.1, by rw [c0]; exact hr.2⟩ (fun μ1 f1 l1 n1 v1 p1 => ?_)
      rw [w1] at l1 v1
      rw [w2, w3] at v1
      have hM : sI μ1 := sI_L hI' f1
      have m0 : μ1 19 0 = μ0 19 0 := by
        rw [f1.2 0 (by omega) (by omega), hz 0 (by omega) (by omega)]
      have m30 : μ1 30 = μ0 30 := by
        rw [f1.1 30 (by omega) (by omega) (by omega) (by omega), hf 30 (by omega) (by omega) (by omega) (by omega) (by omega)]
      unfold sw_M_twin_91
      refine ⟨by omega, fun e2 => ?_, fun e2 => ?_⟩
      · have z := h μ1 0 hM m0 m30 ⟨.inl rfl, ⟨fun q => by omega, fun q => absurd q.1 (by omega)⟩⟩
        rw [show (600 : Nat) = 599 + 1 from rfl, sw_M_twin_96]
        unfold sw_M_twin_140
        exact ⟨by omega, fun _ => ⟨.inl rfl, z⟩, fun _ => ⟨by omega, fun _ => ⟨.inl rfl, z⟩, fun q => absurd rfl q⟩⟩
      · have e3 : LN μ0 r = LN μ0 o := by omega
        refine lp_t96 (f := VL μ0 r) (g := VL μ0 o) (l := LN μ0 r) l1 t1 (fun j a b => ⟨⟨(v1 j a b).1, (t2 j a b).2.1⟩, ⟨?_, (o2 j a (by omega)).2.1⟩⟩) (fun hh => h μ1 1 hM m0 m30 ⟨.inr rfl, ⟨fun _ => ⟨e3, hh⟩, fun _ => rfl⟩⟩) (fun hh => h μ1 0 hM m0 m30 ⟨.inl rfl, ⟨fun q => by omega, fun q => absurd q.2 hh⟩⟩) 600 0 1 (by omega) (by omega) (by omega) (.inr rfl) ⟨fun _ q q0 q1 => by omega, fun _ => rfl⟩
        rw [f1.1 26 (by omega) (by omega) (by omega) (by omega)]
        exact h26 j a (by omega)
    · rw [sx_up_ne _ _ a5]
      exact hf c a1 a2 a3 a4 a5
    · rw [sx_up_ne _ _ (by omega)]
      exact hz k a1 a2
    · rw [sx_up_ne _ _ (by omega)]
      exact h23 q q0 q1
    · rw [sx_up_self]
      by_cases s : q = i
      · simp only [s, if_true]
        exact h23 i a e
      · simp only [s, if_false]
        exact h26 q q0 (by omega)
theorem sp_twinM {r o : Int} (hI : sI μ) (hr : sx_R r) (ho : sx_R o) (bad : ∀ M : sx_M, sI M → M 19 0 = 1 → bT μ r o → Q 0 M) (good : ∀ (M : sx_M) (b : Int), 0 ≤ r → r < μ 0 7 → 0 ≤ o → o < μ 0 7 → sI M → M 19 0 = 0 → M 30 = μ 30 → tP μ r o b → Q b M) : sw_M_twin Q μ r o := by
  have r1 := hI.2.1.1
  have r2 := hI.2.1.2.1
  have r3 := hI.2.1.2.2.1
  have hT := sI_th hI 0
  have c0 : sx_up μ 19 0 0 0 = μ 0 := th_c _ _ (by omega)
  unfold sw_M_twin sw_M_twin_17
  refine sp_noRay hr (by omega) (fun e => ⟨by omega, fun _ => ?_, fun q => by omega⟩) (fun e1 e2 => ⟨by omega, fun q => absurd rfl q, fun _ => sp_noRay ho (by omega) (fun e => ⟨by omega, fun q => by omega, fun _ => ?_⟩) (fun e3 e4 => ⟨by omega, fun _ => ?_, fun q => absurd rfl q⟩)⟩)
  · unfold sw_M_twin_22
    exact thP (by omega) ⟨.inl rfl, bad _ (sI_th hI 1) (th_0 _ _) (by unfold bT; omega)⟩
  · unfold sw_M_twin_22
    exact thP (by omega) ⟨.inl rfl, bad _ (sI_th hI 1) (th_0 _ _) (by unfold bT; omega)⟩
  · unfold sw_M_twin_22
    refine thZ ?_
    obtain ⟨w1, w2, w3, w4, w5⟩ := tr_congr (μ := μ) (μ1 := sx_up μ 19 0 0) c0 (th_c _ _ (by omega)) (th_c _ _ (by omega)) (th_c _ _ (by omega)) (th_c _ _ (by omega))
    obtain ⟨o1, o2, o3, o4⟩ := tr_bd hI.1 hI.2.1 (show 0 ≤ o ∧ o < μ 0 7 by omega)
    refine sp_lay hT.1 hT.2.1 hT.2.2.1 ⟨e3, by rw [c0]; omega⟩ (fun μ1 f1 l1 n1 v1 p1 => ?_)
    rw [l1]
    refine lp_t47 (μ0 := sx_up μ 19 0 0) hT ⟨e1, by rw [c0]; omega⟩ ⟨e3, by rw [c0]; omega⟩ rfl (fun M b hM z1 z2 hb => ?_) 600 0 μ1 (by omega) (by rw [w1]; omega) (by rw [w1]; omega) (fun c a1 a2 a3 a4 _ => f1.1 c a1 a2 a3 a4) f1.2 (fun q q0 q1 => (v1 q q0 q1).1) (fun q q0 q1 => by omega)
    rw [th_0] at z1
    rw [th_c _ _ (by omega)] at z2
    unfold tP at hb
    rw [w1, w2] at hb
    exact good M b e1 (by omega) e3 (by omega) hM z1 z2 hb
/-! join -/
theorem sp_joinS {r o s : Int} (hI : sI μ) (hr : sx_R r) (ho : sx_R o) (hs : sx_R s) (bad1 : ∀ M : sx_M, sI M → bT M r o → X "java/lang/IndexOutOfBoundsException" M) (bad2 : ∀ M : sx_M, sI M → ¬ bT M r o → s < 0 ∨ 50 < s → X "java/lang/IllegalArgumentException" M) (good : ∀ μ3 : sx_M, 0 ≤ r → r < μ 0 7 → 0 ≤ o → o < μ 0 7 → 0 ≤ s → s ≤ 50 → (∀ c, c < 5 ∨ 15 < c → μ3 c = μ c) → μ3 13 3 = 1 → μ3 13 2 = NF μ r → (∀ q : Int, 0 ≤ q → q < NF μ r → μ3 15 q = pI (aD (PL μ r) (PL μ o)) (NF μ r) (NF μ o) s 0 0 q) → Q (tI (aD (PL μ r) (PL μ o)) (NF μ r) (NF μ o) s 0 0) μ3) : sw_S_join Q X μ r o s := by
  unfold sw_S_join
  refine sp_follow (.inl rfl) hI.1 hI.2.1 hI.2.2.1 hr (fun e => bad1 μ hI (by unfold bT; omega)) (fun μ1 e1 e2 f1 l1 n1 v1 p1 => ?_)
  have hI1 := sI_T (.inl rfl) hI f1
  have c0 := f1 0 (by omega)
  obtain ⟨w1, w2, w3, w4, w5⟩ := tr_congr (μ := μ) (μ1 := μ1) c0 (f1 1 (by omega)) (f1 2 (by omega)) (f1 3 (by omega)) (f1 4 (by omega))
  refine sp_follow (.inr rfl) hI1.1 hI1.2.1 hI1.2.2.1 ho (fun e => bad1 μ1 hI1 (by unfold bT; omega)) (fun μ2 e3 e4 f2 l2 n2 v2 p2 => ?_)
  have e4' : o < μ 0 7 := by
    rw [← c0]
    exact e4
  have hI2 := sI_T (.inr rfl) hI1 f2
  have c02 : μ2 0 = μ 0 := by
    rw [f2 0 (by omega), c0]
  obtain ⟨t1, t2, t3, t4⟩ := tr_bd hI.1 hI.2.1 ⟨e1, e2⟩
  obtain ⟨o1, o2, o3, o4⟩ := tr_bd hI.1 hI.2.1 ⟨e3, e4'⟩
  refine sp_needNumber hs (by omega) (by omega) (fun e => bad2 μ2 hI2 (by unfold bT; rw [c02]; omega) e) (fun e5 e6 => ?_)
  refine sp_pair (m := NF μ r) (n := NF μ o) (f := PL μ r) (g := PL μ o) t3 o3 ⟨e5, e6⟩ ?_ ?_ (fun i a b => ⟨?_, by have := t4 i a b; omega, by have := t4 i a b; omega⟩) (fun i a b => ⟨?_, by have := o4 i a b; omega, by have := o4 i a b; omega⟩) (fun μ3 g1 g2 g3 g4 => good μ3 e1 e2 e3 e4' e5 e6 (fun c hc => ?_) g2 g3 g4)
  · rw [f2 5 (by omega)]
    exact n1
  · rw [n2, w4]
  · rw [f2 8 (by omega)]
    exact p1 i a b
  · have := p2 i a (by rw [w4]; exact b)
    rw [w5] at this
    exact this
  · rw [g1 c (by omega) (by omega) (by omega), f2 c (by omega), f1 c (by omega)]
theorem sp_joinM {r o s : Int} (hp : iP μ) (hR : iR μ) (hU : iU μ) (hr : sx_R r) (ho : sx_R o) (hs : sx_R s) (bad1 : bT μ r o → Q 0 (sx_up μ 19 0 1)) (bad2 : ¬ bT μ r o → s < 0 ∨ 50 < s → Q 0 (sx_up μ 19 0 2)) (good : ∀ μ1 : sx_M, ¬ bT μ r o → 0 ≤ s → s ≤ 50 → (∀ c, c < 19 ∨ (19 < c ∧ c < 23) ∨ 28 < c → μ1 c = μ c) → (∀ k : Int, k ≠ 0 → k ≠ 9 → k ≠ 12 → k ≠ 14 → k ≠ 17 → k ≠ 18 → μ1 19 k = μ 19 k) → μ1 19 0 = 0 → μ1 19 17 = 1 → μ1 19 18 = NF μ r → (∀ q : Int, 0 ≤ q → q < NF μ r → μ1 28 q = pI (aD (PL μ r) (PL μ o)) (NF μ r) (NF μ o) s 0 0 q) → Q (tI (aD (PL μ r) (PL μ o)) (NF μ r) (NF μ o) s 0 0) μ1) : sw_M_join Q μ r o s := by
  have r1 := hR.1
  have r2 := hR.2.1
  have r3 := hR.2.2.1
  have hc : ∀ c, c ≠ 19 → sx_up μ 19 0 0 c = μ c := fun c h => th_c _ _ h
  have hk : ∀ k : Int, k ≠ 0 → sx_up μ 19 0 0 19 k = μ 19 k := fun k h => th_k _ _ h
  have hp0 : iP (sx_up μ 19 0 0) := iP_fr hp (hc 3 (by omega)) (hc 4 (by omega)) (hc 20 (by omega)) (hk 1 (by omega)) (hk 2 (by omega))
  have hR0 : iR (sx_up μ 19 0 0) := iR_fr hR (hc 0 (by omega)) (hc 1 (by omega)) (hc 2 (by omega)) (hc 21 (by omega)) (hc 22 (by omega)) (hk 4 (by omega))
  have hU0 : iU (sx_up μ 19 0 0) := iU_fr hU (hc 0 (by omega)) (hk 7 (by omega)) (hk 8 (by omega))
  have c0 := hc 0 (by omega)
  obtain ⟨w1, w2, w3, w4, w5⟩ := tr_congr (μ := μ) (μ1 := sx_up μ 19 0 0) c0 (hc 1 (by omega)) (hc 2 (by omega)) (hc 3 (by omega)) (hc 4 (by omega))
  unfold sw_M_join sw_M_join_17
  refine sp_noRay hr (by omega) (fun e => ⟨by omega, fun _ => ?_, fun q => by omega⟩) (fun e1 e2 => ⟨by omega, fun q => absurd rfl q, fun _ => sp_noRay ho (by omega) (fun e => ⟨by omega, fun q => by omega, fun _ => ?_⟩) (fun e3 e4 => ⟨by omega, fun _ => sp_isIn hs (by omega) (by omega) (fun e => ⟨by omega, fun q => absurd rfl q, fun _ => ?_⟩) (fun e5 e6 => ⟨by omega, fun _ => ?_, fun q => by omega⟩), fun q => absurd rfl q⟩)⟩)
  · unfold sw_M_join_36
    exact thP (by omega) (bad1 (by unfold bT; omega))
  · unfold sw_M_join_36
    exact thP (by omega) (bad1 (by unfold bT; omega))
  · unfold sw_M_join_36
    exact thP (by omega) (bad2 (by unfold bT; omega) e)
  · unfold sw_M_join_36
    refine thZ ?_
    obtain ⟨o1, o2, o3, o4⟩ := tr_bd hp hR (show 0 ≤ o ∧ o < μ 0 7 by omega)
    refine sp_lay hp0 hR0 hU0 ⟨e3, by rw [c0]; omega⟩ (fun μ1 f1 l1 n1 v1 p1 => ?_)
    refine lp_join64 (μ0 := sx_up μ 19 0 0) hp0 hR0 hU0 ⟨e1, by rw [c0]; omega⟩ ⟨e3, by rw [c0]; omega⟩ ⟨e5, e6⟩ (fun μ2 g1 g2 g3 g4 g5 => ?_) 600 0 _ (by omega) (by rw [w4]; omega) (by rw [w4]; omega) (fun c h => ?_) (fun k a1 a2 a3 => ?_) ?_ (fun q q0 q1 => ?_) (fun q q0 q1 => by omega)
    · rw [w4, w5] at g5
      rw [w4] at g4
      rw [w4, w5]
      refine good μ2 (by unfold bT; omega) e5 e6 (fun c h => ?_) (fun k a0 a1 a2 a3 a4 a5 => ?_) ?_ g3 g4 g5
      · rw [g1 c h, hc c (by omega)]
      · rw [g2 k a1 a2 a3 a4 a5, hk k a0]
      · rw [g2 0 (by omega) (by omega) (by omega) (by omega) (by omega), th_0]
    · rw [sx_up_ne _ _ (by omega)]
      exact f1.1 c (by omega) (by omega) (by omega) (by omega)
    · rw [sx_up_self]
      simp only [a3, if_false]
      exact f1.2 k a1 a2
    · rw [sx_up_self]
      simp only [if_true]
      exact n1
    · rw [sx_up_ne _ _ (by omega)]
      exact p1 q q0 q1
section
variable {sc : Int → Int} {Lz : Int} {r43 : Int → sx_M → Prop} {x4 : Int}
theorem tu_ring (hI : sI μ) (hx : 0 ≤ x4 ∧ x4 + 3 < Lz) (hsc : ∀ j, sx_R (sc j)) (hk : ∀ μ1, sI μ1 → r43 (x4 + 4) μ1) : sw_L_law_627 sc Lz r43 x4 μ := by
  unfold sw_L_law_627 sw_L_ring
  refine ⟨by omega, by omega, by omega, sp_ringS hI (hsc _) (hsc _) (hsc _) (fun M hM hb => ⟨rfl, fun _ => ⟨by omega, by omega, by omega, ?_⟩⟩) (fun μ1 e1 e2 e3 e4 e5 e6 f1 => ⟨rA_bd hI ⟨e1, e2⟩ ⟨e3, e4⟩, by omega, by omega, by omega, by omega, ?_⟩)⟩
  · refine sp_ringM hM (hsc _) (hsc _) (hsc _) (fun μ2 h2 z2 _ => ?_) (fun μ2 q1 q2 q3 q4 q5 q6 _ _ _ => ?_)
    · unfold sw_M_thrown
      exact endA (R := fun μ => r43 (x4 + 4) μ) (by omega) z2 (by omega) (hk _ h2)
    · unfold bR at hb
      omega
  · obtain ⟨m1, m2, m3, m4, m5, m6, m7, m8⟩ := sI_M hI f1 (rA μ (sc (x4 + 1)) (sc (x4 + 2)) (sc (x4 + 3)))
    refine sp_ringM m1 (hsc _) (hsc _) (hsc _) (fun μ2 h2 z2 hb => ?_) (fun μ2 q1 q2 q3 q4 q5 q6 h2 z2 o2 => ?_)
    · unfold bR at hb
      rw [m2, m6] at hb
      omega
    · rw [rA_congr m5 m6 m7]
      unfold sw_M_thrown
      refine endA (R := fun μ => r43 (x4 + 4) μ) (by omega) z2 (fun _ => ⟨rA_bd hI ⟨e1, e2⟩ ⟨e3, e4⟩, ?_⟩) (hk _ h2)
      rw [o2, m8]
theorem tu_twin (hI : sI μ) (hx : 0 ≤ x4 ∧ x4 + 3 < Lz) (hsc : ∀ j, sx_R (sc j)) (hk : ∀ μ1, sI μ1 → r43 (x4 + 4) μ1) : sw_L_law_1546 sc Lz r43 x4 μ := by
  have hS : ∀ μ1, sI μ1 → ∀ a : Int, (a = 0 ∨ a = 1) → sw_L_law_1612 sc Lz r43 x4 a a μ1 := by
    intro μ1 h1 a ha
    exact cmpS (R := fun μ => r43 (x4 + 4) μ) ha (hk μ1 h1)
  unfold sw_L_law_1546 sw_L_twin sw_L_twin_16
  refine ⟨by omega, by omega, sp_twinS hI (hsc _) (hsc _) (fun M hM hb => ⟨rfl, fun _ => ⟨by omega, by omega, ?_⟩⟩) (fun μ2 b e1 e2 e3 e4 f2 hb => ?_)⟩
  · refine sp_twinM hM (hsc _) (hsc _) (fun μ2 h2 z2 _ => ?_) (fun μ2 b q1 q2 q3 q4 _ _ _ _ => ?_)
    · unfold sw_M_thrown
      exact endB (R := fun μ => r43 (x4 + 4) μ) (S := fun a b μ => sw_L_law_1612 sc Lz r43 x4 a b μ) (hS _ h2) (by omega) z2 (by omega) (hk _ h2)
    · unfold bT at hb
      omega
  · have hI2 : sI μ2 := sI_fr hI (fun c hc => f2 c (by unfold coreC at hc; omega)) (fun k _ => by rw [f2 19 (by omega)])
    have hO := sI_out hI2 b
    have g : ∀ c, c < 5 → sx_up μ2 30 0 b c = μ c := fun c hc => by
      rw [out_c _ _ (by omega), f2 c (by omega)]
    have c0 := g 0 (by omega)
    obtain ⟨w1, w2, w3, w4, w5⟩ := tr_congr (μ := μ) (μ1 := sx_up μ2 30 0 b) c0 (g 1 (by omega)) (g 2 (by omega)) (g 3 (by omega)) (g 4 (by omega))
    have b1 := hb.1
    have main : sw_M_twin (fun v2 μ2 => (sw_M_thrown (fun v3 μ3 => ((sx_R v3 ∧ sx_R 0) ∧ (v3 = 0 → (sx_R 0 ∧ (¬ (0 : Int) = 0 → (sw_L_law_1618 sc Lz r43 x4 μ3)) ∧ ((0 : Int) = 0 → ((0 ≤ (0 : Int) ∧ (0 : Int) < 1) ∧ (sx_R v2 ∧ (v2 = 0 → (sw_L_law_1612 sc Lz r43 x4 (μ3 30 0) 0 μ3)) ∧ (¬ v2 = 0 → (sw_L_law_1612 sc Lz r43 x4 (μ3 30 0) 1 μ3))))))) ∧ (¬ v3 = 0 → ((0 : Int) = 1)))) μ2)) (sx_up μ2 30 0 b) (sc (x4 + 1)) (sc (x4 + 2)) := by
      refine sp_twinM hO (hsc _) (hsc _) (fun M _ _ q => ?_) (fun M b' _ _ _ _ hM z1 z2 hb' => ?_)
      · unfold bT at q
        rw [c0] at q
        omega
      · unfold tP at hb'
        rw [w1, w2] at hb'
        have eb := tP_uniq hb' hb
        subst eb
        unfold sw_M_thrown
        exact endB (R := fun μ => r43 (x4 + 4) μ) (S := fun a b μ => sw_L_law_1612 sc Lz r43 x4 a b μ) (hS _ hM) (by omega) z1 (fun _ => ⟨b1, by rw [z2, out_0]⟩) (hk _ hM)
    rcases b1 with e | e
    · subst e
      exact ⟨by omega, fun _ => ⟨by omega, by omega, by omega, main⟩, fun q => absurd rfl q⟩
    · subst e
      exact ⟨by omega, fun q => by omega, fun _ => ⟨by omega, by omega, by omega, main⟩⟩
theorem tu_join (hI : sI μ) (hx : 0 ≤ x4 ∧ x4 + 3 < Lz) (hsc : ∀ j, sx_R (sc j)) (hk : ∀ μ1, sI μ1 → r43 (x4 + 4) μ1) : sw_L_law_707 sc Lz r43 x4 μ := by
  unfold sw_L_law_707 sw_L_join
  refine ⟨by omega, by omega, by omega, sp_joinS hI (hsc _) (hsc _) (hsc _) (fun M hM hb => ⟨.inl rfl, fun _ => ⟨by omega, by omega, by omega, ?_⟩, fun q => absurd q (by decide)⟩) (fun M hM hn hb => ⟨.inr rfl, fun q => absurd q (by decide), fun _ => ⟨by omega, by omega, by omega, ?_⟩⟩) (fun μ3 e1 e2 e3 e4 e5 e6 f3 j1 j2 j3 => ?_)⟩
  · refine sp_joinM hM.1 hM.2.1 hM.2.2.1 (hsc _) (hsc _) (hsc _) (fun _ => ?_) (fun q _ => absurd hb q) (fun _ q _ _ _ _ _ _ _ _ => absurd hb q)
    unfold sw_M_thrown
    exact endA (R := fun μ => r43 (x4 + 4) μ) (by omega) (th_0 _ _) (by omega) (hk _ (sI_th hM 1))
  · refine sp_joinM hM.1 hM.2.1 hM.2.2.1 (hsc _) (hsc _) (hsc _) (fun q => absurd q hn) (fun _ _ => ?_) (fun _ _ q1 q2 _ _ _ _ _ _ => by omega)
    unfold sw_M_thrown
    exact endA (R := fun μ => r43 (x4 + 4) μ) (by omega) (th_0 _ _) (by omega) (hk _ (sI_th hM 2))
  · obtain ⟨t1, t2, t3, t4⟩ := tr_bd hI.1 hI.2.1 ⟨e1, e2⟩
    obtain ⟨o1, o2, o3, o4⟩ := tr_bd hI.1 hI.2.1 ⟨e3, e4⟩
    have tb := tI_bd (d := aD (PL μ (sc (x4 + 1))) (PL μ (sc (x4 + 2)))) (m := NF μ (sc (x4 + 1))) (n := NF μ (sc (x4 + 2))) (s := sc (x4 + 3)) ⟨e5, e6⟩ (aD_nn _ _) (i := 0) (j := 0) t3.1 o3.1
    generalize hv : tI (aD (PL μ (sc (x4 + 1))) (PL μ (sc (x4 + 2)))) (NF μ (sc (x4 + 1))) (NF μ (sc (x4 + 2))) (sc (x4 + 3)) 0 0 = v at tb
    have vR : sx_R v := by omega
    have hfr : ∀ c, c < 5 ∨ (15 < c ∧ c ≠ 30) → sx_up μ3 30 0 v c = μ c := fun c hc => by
      rw [out_c _ _ (by omega), f3 c (by omega)]
    have hp' : iP (sx_up μ3 30 0 v) := iP_fr hI.1 (hfr 3 (by omega)) (hfr 4 (by omega)) (hfr 20 (by omega)) (by rw [hfr 19 (by omega)]) (by rw [hfr 19 (by omega)])
    have hR' : iR (sx_up μ3 30 0 v) := iR_fr hI.2.1 (hfr 0 (by omega)) (hfr 1 (by omega)) (hfr 2 (by omega)) (hfr 21 (by omega)) (hfr 22 (by omega)) (by rw [hfr 19 (by omega)])
    have hU' : iU (sx_up μ3 30 0 v) := iU_fr hI.2.2.1 (hfr 0 (by omega)) (by rw [hfr 19 (by omega)]) (by rw [hfr 19 (by omega)])
    have c0 := hfr 0 (by omega)
    obtain ⟨w1, w2, w3, w4, w5⟩ := tr_congr (μ := μ) (μ1 := sx_up μ3 30 0 v) c0 (hfr 1 (by omega)) (hfr 2 (by omega)) (hfr 3 (by omega)) (hfr 4 (by omega))
    refine ⟨vR, by omega, by omega, by omega, by omega, ?_⟩
    refine sp_joinM hp' hR' hU' (hsc _) (hsc _) (hsc _) (fun q => ?_) (fun _ q => by omega) (fun μ4 _ _ _ g1 g2 g0 g3 g4 g5 => ?_)
    · unfold bT at q
      rw [c0] at q
      omega
    · rw [w4] at g4
      rw [w4, w5] at g5
      rw [w4, w5, hv]
      have hg : ∀ c, c < 5 ∨ c = 16 ∨ c = 17 ∨ c = 18 ∨ (19 < c ∧ c < 23) ∨ (28 < c ∧ c ≠ 30) → μ4 c = μ c := fun c hc => by
        rw [g1 c (by omega), hfr c (by omega)]
      have hz : ∀ k : Int, k = 1 ∨ k = 2 ∨ k = 4 ∨ k = 7 ∨ k = 8 → μ4 19 k = μ 19 k := fun k h => by
        rw [g2 k (by omega) (by omega) (by omega) (by omega) (by omega) (by omega), hfr 19 (by omega)]
      have k13 : μ4 13 = μ3 13 := by
        rw [g1 13 (by omega), out_c _ _ (by omega)]
      have k15 : μ4 15 = μ3 15 := by
        rw [g1 15 (by omega), out_c _ _ (by omega)]
      unfold sw_M_thrown
      refine endA (R := fun μ => r43 (x4 + 4) μ) (by omega) g0 (fun _ => ⟨vR, by rw [g1 30 (by omega), out_0]⟩) (hk _ ⟨?_, ?_, ?_, ⟨?_, ?_⟩, ?_⟩)
      · exact iP_fr hI.1 (hg 3 (by omega)) (hg 4 (by omega)) (hg 20 (by omega)) (hz 1 (by omega)) (hz 2 (by omega))
      · exact iR_fr hI.2.1 (hg 0 (by omega)) (hg 1 (by omega)) (hg 2 (by omega)) (hg 21 (by omega)) (hg 22 (by omega)) (hz 4 (by omega))
      · exact iU_fr hI.2.2.1 (hg 0 (by omega)) (hz 7 (by omega)) (hz 8 (by omega))
      · exact iK_fr hI.2.2.2.1.1 (hg 17 (by omega)) (hg 29 (by omega))
      · rw [hg 16 (by omega), hg 17 (by omega)]
        exact hI.2.2.2.1.2
      · unfold iJ
        rw [k13, k15, j1, j2, g3, g4]
        refine ⟨.inr rfl, rfl, t3.1, by omega, rfl, fun k a b => ?_⟩
        have pb := pI_bd (d := aD (PL μ (sc (x4 + 1))) (PL μ (sc (x4 + 2)))) (m := NF μ (sc (x4 + 1))) (n := NF μ (sc (x4 + 2))) (s := sc (x4 + 3)) o3.1 k
        rw [g5 k a b, j3 k a b]
        exact ⟨rfl, by omega, by omega⟩
end
