variable {Q : Int → sx_M → Prop} {X : String → sx_M → Prop} {μ : sx_M}
theorem iK_fr {μ1 : sx_M} (h : iK μ) (h1 : μ1 17 = μ 17) (h2 : μ1 29 = μ 29) : iK μ1 := by
  unfold iK
  rw [h1, h2]
  exact h
theorem bF_bd (k : Int → Int) (r : Int) : 0 ≤ bF k r ∧ bF k r ≤ 4 := by
  have := sT_bd (f := beF k r) (A := 0) (B := 1) (n := 4) (by omega) (fun q _ _ => by unfold beF; split <;> omega)
  unfold bF
  omega
theorem bF_congr {k k' : Int → Int} {r : Int} (hr : 0 ≤ r ∧ r < 4) (h : ∀ q : Int, 0 ≤ q → q < 4 → k q = k' q) : bF k r = bF k' r := by
  unfold bF
  refine sT_congr (fun q q0 q1 => ?_)
  unfold beF
  rw [h q q0 q1, h r hr.1 hr.2]
def fsF (k : Int → Int) (p : Int) : Int := if bF k 0 = p then 0 else if bF k 1 = p then 1 else if bF k 2 = p then 2 else 3
theorem fsF_eq {k : Int → Int} {p i : Int} (h0 : 0 ≤ i) (h4 : i < 4) (h : bF k i = p) (hb : ∀ q : Int, 0 ≤ q → q < i → bF k q ≠ p) : i = fsF k p := by
  have : i = 0 ∨ i = 1 ∨ i = 2 ∨ i = 3 := by omega
  unfold fsF
  rcases this with e | e | e | e <;> subst e
  · rw [if_pos h]
  · rw [if_neg (hb 0 (by omega) (by omega)), if_pos h]
  · rw [if_neg (hb 0 (by omega) (by omega)), if_neg (hb 1 (by omega) (by omega)), if_pos h]
  · rw [if_neg (hb 0 (by omega) (by omega)), if_neg (hb 1 (by omega) (by omega)), if_neg (hb 2 (by omega) (by omega))]
theorem fsF_bd (k : Int → Int) (p : Int) : 0 ≤ fsF k p ∧ fsF k p < 4 := by
  unfold fsF
  (repeat' split) <;> omega
theorem bF_no {k : Int → Int} {p : Int} (h0 : 0 ≤ p) (h4 : p < 4) (hb : ∀ q : Int, 0 ≤ q → q < 4 → bF k q ≠ p) : False := by
  have a0 := hb 0 (by omega) (by omega)
  have a1 := hb 1 (by omega) (by omega)
  have a2 := hb 2 (by omega) (by omega)
  have a3 := hb 3 (by omega) (by omega)
  rcases bF_all k h0 h4 with e | e | e | e <;> contradiction
theorem lp_readersBefore {r : Int} (hr : 0 ≤ r ∧ r < 4) (hk : ∀ q : Int, 0 ≤ q → q < 4 → 0 ≤ μ 18 q ∧ μ 18 q ≤ 20) (h : Q (bF (μ 18) r) μ) : ∀ (n : Nat) (i acc : Int), 0 ≤ i → i ≤ 4 → 4 - i < (n : Int) → acc = sT (beF (μ 18) r) i → sw_D_readersBefore_4 Q n r acc i μ
  | 0, i, acc, _, _, _, _ => by omega
  | n + 1, i, acc, h0, h4, hn, ha => by
    rw [sw_D_readersBefore_4]
    unfold sw_D_readersBefore_44 sw_D_readersBefore_47
    refine ⟨by omega, fun e => ?_, fun e => ?_⟩
    · have : i = 4 := by omega
      subst this
      rw [ha]
      exact h
    · have k1 := hk i h0 e
      have k2 := hk r hr.1 hr.2
      have s1 : (μ 18 r < μ 18 i ∨ (μ 18 i = μ 18 r ∧ i < r)) → sw_D_readersBefore_4 Q n r (acc + 1) (i + 1) μ := fun k => by
        refine lp_readersBefore hr hk h n (i + 1) (acc + 1) (by omega) (by omega) (by omega) ?_
        rw [sT_succ _ h0, ha, show beF (μ 18) r i = 1 from if_pos k]
      have s0 : ¬ (μ 18 r < μ 18 i ∨ (μ 18 i = μ 18 r ∧ i < r)) → sw_D_readersBefore_4 Q n r acc (i + 1) μ := fun k => by
        refine lp_readersBefore hr hk h n (i + 1) acc (by omega) (by omega) (by omega) ?_
        rw [sT_succ _ h0, ha, show beF (μ 18) r i = 0 from if_neg k]
        omega
      exact ⟨by omega, by omega, by omega, fun k => s1 (by omega), fun k => ⟨by omega, by omega, by omega, fun k3 => s0 (by omega), fun k3 => ⟨by omega, fun k4 => s0 (by omega), fun k4 => s1 (by omega)⟩⟩⟩
theorem lp_readerAt {p : Int} (hp : 0 ≤ p ∧ p < 4) (hk : ∀ q : Int, 0 ≤ q → q < 4 → 0 ≤ μ 18 q ∧ μ 18 q ≤ 20) (h : Q (fsF (μ 18) p) μ) : ∀ (n : Nat) (i : Int), 0 ≤ i → i ≤ 4 → 4 - i < (n : Int) → (∀ q : Int, 0 ≤ q → q < i → bF (μ 18) q ≠ p) → sw_D_readerAt_26 Q n p i μ
  | 0, i, _, _, _, _ => by omega
  | n + 1, i, h0, h4, hn, hb => by
    rw [sw_D_readerAt_26]
    refine ⟨by omega, fun e => ?_, fun e => ?_⟩
    · have : i = 4 := by omega
      subst this
      exact (bF_no hp.1 hp.2 hb).elim
    · unfold sw_D_readersBefore
      have b1 := bF_bd (μ 18) i
      refine lp_readersBefore ⟨h0, e⟩ hk ⟨by omega, fun k => ?_, fun k => ?_⟩ 600 0 0 (by omega) (by omega) (by omega) rfl
      · refine lp_readerAt hp hk h n (i + 1) (by omega) (by omega) (by omega) (fun q q0 q1 => ?_)
        by_cases qi : q = i
        · subst qi
          exact k
        · exact hb q q0 (by omega)
      · rw [fsF_eq h0 e k hb]
        exact h
theorem lp_readerAt2 {p : Int} {μ0 : sx_M} (hp : 0 ≤ p ∧ p < 4) (hK : iK μ0) (h : ∀ μ1 : sx_M, (∀ c, c ≠ 18 → μ1 c = μ0 c) → Q (fsF (rF (μ0 17)) p) μ1) : ∀ (n : Nat) (i : Int) (μ : sx_M), 0 ≤ i → i ≤ 4 → 4 - i < (n : Int) → (∀ c, c ≠ 18 → μ c = μ0 c) → (∀ q : Int, 0 ≤ q → q < i → μ 18 q = rF (μ0 17) q) → sw_D_readerAt_2 Q n p i μ
  | 0, i, μ, _, _, _, _, _ => by omega
  | n + 1, i, μ, h0, h4, hn, hf, hq => by
    rw [sw_D_readerAt_2]
    refine ⟨by omega, fun e => ?_, fun e => ?_⟩
    · have : i = 4 := by omega
      subst this
      refine lp_readerAt hp (fun q q0 q1 => ?_) ?_ 600 0 (by omega) (by omega) (by omega) (fun q q0 q1 => by omega)
      · rw [hq q q0 q1]
        exact rF_bd _ _
      · have e1 : fsF (μ 18) p = fsF (rF (μ0 17)) p := by
          unfold fsF
          rw [bF_congr (k' := rF (μ0 17)) ⟨by omega, by omega⟩ hq, bF_congr (k' := rF (μ0 17)) ⟨by omega, by omega⟩ hq, bF_congr (k' := rF (μ0 17)) ⟨by omega, by omega⟩ hq]
        rw [e1]
        exact h μ hf
    · have e17 := hf 17 (by omega)
      refine sp_hits (iK_fr hK e17 (hf 29 (by omega))) ⟨h0, e⟩ ⟨by omega, ?_⟩
      refine lp_readerAt2 hp hK h n (i + 1) _ (by omega) (by omega) (by omega) (fun c hc => ?_) (fun q q0 q1 => ?_)
      · rw [sx_up_ne _ _ hc]
        exact hf c hc
      · rw [sx_up_self]
        by_cases qi : q = i
        · subst qi
          simp only [if_true]
          rw [e17]
        · simp only [qi, if_false]
          exact hq q q0 (by omega)
theorem sp_readerAt {p : Int} (hp : 0 ≤ p ∧ p < 4) (hK : iK μ) (h : ∀ μ1 : sx_M, (∀ c, c ≠ 18 → μ1 c = μ c) → Q (fsF (rF (μ 17)) p) μ1) : sw_D_readerAt Q μ p :=
  lp_readerAt2 hp hK h 600 0 μ (by omega) (by omega) (by omega) (fun _ _ => rfl) (fun q q0 q1 => by omega)
theorem lp_best1 {r20 : Int → Int → sx_M → Prop} {p r : Int} (hK : iK μ) (hp : 0 ≤ p ∧ p < 4) (hr : 0 ≤ r ∧ r < 4) (h1 : bF (rF (μ 17)) r = p → Q r μ) (h2 : bF (rF (μ 17)) r ≠ p → r20 p (r + 1) μ) : ∀ (n : Nat) (i acc : Int), 0 ≤ i → i ≤ 4 → 4 - i < (n : Int) → acc = sT (beF (rF (μ 17)) r) i → sw_M_best_37 Q r20 n p r acc i μ
  | 0, i, acc, _, _, _, _ => by omega
  | n + 1, i, acc, h0, h4, hn, ha => by
    rw [sw_M_best_37]
    unfold sw_M_best_77 sw_M_best_83 sw_M_best_84
    refine ⟨by omega, fun e => ?_, fun e => ?_⟩
    · have : i = 4 := by omega
      subst this
      have b1 := bF_bd (rF (μ 17)) r
      have ha' : acc = bF (rF (μ 17)) r := ha
      rw [ha']
      exact ⟨by omega, fun k => h2 k, fun k => h1 k⟩
    · have k1 := rF_bd (μ 17) i
      have k2 := rF_bd (μ 17) r
      have s1 : (rF (μ 17) r < rF (μ 17) i ∨ (rF (μ 17) i = rF (μ 17) r ∧ i < r)) → sw_M_best_37 Q r20 n p r (acc + 1) (i + 1) μ := fun k => by
        refine lp_best1 hK hp hr h1 h2 n (i + 1) (acc + 1) (by omega) (by omega) (by omega) ?_
        rw [sT_succ _ h0, ha, show beF (rF (μ 17)) r i = 1 from if_pos k]
      have s0 : ¬ (rF (μ 17) r < rF (μ 17) i ∨ (rF (μ 17) i = rF (μ 17) r ∧ i < r)) → sw_M_best_37 Q r20 n p r acc (i + 1) μ := fun k => by
        refine lp_best1 hK hp hr h1 h2 n (i + 1) acc (by omega) (by omega) (by omega) ?_
        rw [sT_succ _ h0, ha, show beF (rF (μ 17)) r i = 0 from if_neg k]
        omega
      refine sp_rightOf hK ⟨h0, e⟩ (sp_rightOf hK hr ⟨by omega, fun k => s1 (by omega), fun k => ?_⟩)
      exact sp_rightOf hK ⟨h0, e⟩ (sp_rightOf hK hr ⟨by omega, fun k3 => s0 (by omega), fun k3 => ⟨by omega, fun k4 => s0 (by omega), fun k4 => s1 (by omega)⟩⟩)
theorem lp_best {p : Int} (hK : iK μ) (hz : μ 19 0 = 0) (hp : 0 ≤ p ∧ p < 4) (h : Q (fsF (rF (μ 17)) p) μ) : ∀ (n : Nat) (i : Int), 0 ≤ i → i ≤ 4 → 4 - i < (n : Int) → (∀ q : Int, 0 ≤ q → q < i → bF (rF (μ 17)) q ≠ p) → sw_M_best_20 Q n p i μ
  | 0, i, _, _, _, _ => by omega
  | n + 1, i, h0, h4, hn, hb => by
    rw [sw_M_best_20]
    refine ⟨by omega, fun e => ?_, fun e => ⟨by omega, fun k => absurd hz k, fun _ => ?_⟩⟩
    · have : i = 4 := by omega
      subst this
      exact (bF_no hp.1 hp.2 hb).elim
    · refine lp_best1 hK hp ⟨h0, e⟩ (fun k => ?_) (fun k => ?_) 600 0 0 (by omega) (by omega) (by omega) rfl
      · rw [fsF_eq h0 e k hb]
        exact h
      · refine lp_best hK hz hp h n (i + 1) (by omega) (by omega) (by omega) (fun q q0 q1 => ?_)
        by_cases qi : q = i
        · subst qi
          exact k
        · exact hb q q0 (by omega)
/-! how many stones have counts, how many were told -/
noncomputable def swF (c : Int → Int) (s : Int) : Int := if toldF c s = -1 then 0 else 1
def haT (c : Int → Int) (s r : Int) : Int := if c (20 * r + s) = -1 then 0 else 1
def haF (c : Int → Int) (s : Int) : Int := sT (haT c s) 4
theorem swB (c : Int → Int) : 0 ≤ sT (swF c) 20 ∧ sT (swF c) 20 ≤ 20 := by
  have := sT_bd (f := swF c) (A := 0) (B := 1) (n := 20) (by omega) (fun q _ _ => by unfold swF; split <;> omega)
  omega
theorem haB (c : Int → Int) : 0 ≤ sT (haF c) 20 ∧ sT (haF c) 20 ≤ 80 := by
  have := sT_bd (f := haF c) (A := 0) (B := 4) (n := 20) (by omega) (fun q _ _ => by
    have := sT_bd (f := haT c q) (A := 0) (B := 1) (n := 4) (by omega) (fun q _ _ => by unfold haT; split <;> omega)
    unfold haF
    omega)
  omega
theorem lp_stones (hK : iK μ) (h : Q (sT (swF (μ 17)) 20) μ) : ∀ (n : Nat) (i acc : Int), 0 ≤ i → i ≤ 20 → 20 - i < (n : Int) → acc = sT (swF (μ 17)) i → sw_D_stonesWithCounts_4 Q n acc i μ
  | 0, i, acc, _, _, _, _ => by omega
  | n + 1, i, acc, h0, h4, hn, ha => by
    rw [sw_D_stonesWithCounts_4]
    unfold sw_D_stonesWithCounts_22
    refine ⟨by omega, fun e => ?_, fun e => ?_⟩
    · have : i = 20 := by omega
      subst this
      rw [ha]
      exact h
    · refine sp_mostTold hK ⟨h0, e⟩ (fun b hb b1 b2 => ⟨by omega, fun k => ?_, fun k => ?_⟩)
      · refine lp_stones hK h n (i + 1) acc (by omega) (by omega) (by omega) ?_
        rw [sT_succ _ h0, ha, show swF (μ 17) i = 0 from if_pos (by rw [← hb]; exact k)]
        omega
      · refine lp_stones hK h n (i + 1) (acc + 1) (by omega) (by omega) (by omega) ?_
        rw [sT_succ _ h0, ha, show swF (μ 17) i = 1 from if_neg (by rw [← hb]; exact k)]
theorem lp_count1 {r12 : Int → Int → Int → Int → sx_M → Prop} {a st s al : Int} (hK : iK μ) (hs : 0 ≤ s ∧ s < 20) (h : r12 a st (al + haF (μ 17) s) (s + 1) μ) : ∀ (n : Nat) (i acc : Int), 0 ≤ i → i ≤ 4 → 4 - i < (n : Int) → acc = al + sT (haT (μ 17) s) i → sw_M_count_40 Q r12 n a st acc s i μ
  | 0, i, acc, _, _, _, _ => by omega
  | n + 1, i, acc, h0, h4, hn, ha => by
    rw [sw_M_count_40]
    unfold sw_M_count_69
    refine ⟨by omega, fun e => ?_, fun e => ?_⟩
    · have : i = 4 := by omega
      subst this
      rw [ha]
      exact h
    · have a1 := hK (20 * i + s) (by omega) (by omega)
      refine ⟨by omega, by omega, fun k => ?_, fun k => ?_⟩
      · refine lp_count1 hK hs h n (i + 1) acc (by omega) (by omega) (by omega) ?_
        rw [sT_succ _ h0, ha, show haT (μ 17) s i = 0 from if_pos (by omega)]
        omega
      · refine lp_count1 hK hs h n (i + 1) (acc + 1) (by omega) (by omega) (by omega) ?_
        rw [sT_succ _ h0, ha, show haT (μ 17) s i = 1 from if_neg (by omega)]
        omega
theorem lp_count {a : Int} (hK : iK μ) (h : ∀ n : Nat, sw_M_count_12 Q (n + 1) a (sT (swF (μ 17)) 20) (sT (haF (μ 17)) 20) 20 μ) : ∀ (n : Nat) (i st al : Int), 0 ≤ i → i ≤ 20 → 20 - i < (n : Int) → st = sT (swF (μ 17)) i → al = sT (haF (μ 17)) i → sw_M_count_12 Q n a st al i μ
  | 0, i, st, al, _, _, _, _, _ => by omega
  | n + 1, i, st, al, h0, h4, hn, ha, hl => by
    by_cases e : i = 20
    · subst e
      rw [ha, hl]
      exact h n
    · rw [sw_M_count_12]
      unfold sw_M_count_36
      refine ⟨by omega, fun k => by omega, fun e => ?_⟩
      have c1 : al + haF (μ 17) i = sT (haF (μ 17)) (i + 1) := by
        rw [sT_succ _ h0, hl]
      refine sp_toldOf hK ⟨h0, e⟩ (fun b hb b1 b2 => ⟨by omega, fun k => ?_, fun k => ?_⟩)
      · refine lp_count1 (al := al) hK ⟨h0, e⟩ ?_ 600 0 al (by omega) (by omega) (by omega) (by rw [sT_zero]; omega)
        refine lp_count hK h n (i + 1) st _ (by omega) (by omega) (by omega) ?_ c1
        rw [sT_succ _ h0, ha, show swF (μ 17) i = 0 from if_pos (by rw [← hb]; exact k)]
        omega
      · refine lp_count1 (al := al) hK ⟨h0, e⟩ ?_ 600 0 al (by omega) (by omega) (by omega) (by rw [sT_zero]; omega)
        refine lp_count hK h n (i + 1) (st + 1) _ (by omega) (by omega) (by omega) ?_ c1
        rw [sT_succ _ h0, ha, show swF (μ 17) i = 1 from if_neg (by rw [← hb]; exact k)]
