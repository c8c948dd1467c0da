/-! The pure part: tools. -/
def sf_S (f : Int → Int) : Nat → Int
  | 0 => 0
  | n + 1 => sf_S f n + f n
def sT (f : Int → Int) (i : Int) : Int := sf_S f i.toNat
theorem sT_zero (f : Int → Int) : sT f 0 = 0 := rfl
theorem sT_succ (f : Int → Int) {i : Int} (h : 0 ≤ i) : sT f (i + 1) = sT f i + f i := by
  unfold sT
  have e : (i + 1).toNat = i.toNat + 1 := by omega
  rw [e]
  show sf_S f i.toNat + f (i.toNat : Nat) = _
  rw [show ((i.toNat : Nat) : Int) = i by omega]
theorem sf_congr {f g : Int → Int} : ∀ n : Nat, (∀ k : Int, 0 ≤ k → k < n → f k = g k) → sf_S f n = sf_S g n
  | 0, _ => rfl
  | n + 1, h => by
    show sf_S f n + f n = sf_S g n + g n
    rw [sf_congr n (fun k h0 h1 => h k h0 (by omega)), h n (by omega) (by omega)]
theorem sT_congr {f g : Int → Int} {n : Int} (h : ∀ k : Int, 0 ≤ k → k < n → f k = g k) : sT f n = sT g n := sf_congr n.toNat (fun k h0 h1 => h k h0 (by omega))
theorem sf_bd {f : Int → Int} {A B : Int} : ∀ n : Nat, (∀ k : Int, 0 ≤ k → k < n → A ≤ f k ∧ f k ≤ B) → A * n ≤ sf_S f n ∧ sf_S f n ≤ B * n
  | 0, _ => by simp [sf_S]
  | n + 1, h => by
    have h1 := sf_bd n (fun k h0 h1 => h k h0 (by omega))
    have h2 := h n (by omega) (by omega)
    show A * ((n + 1 : Nat) : Int) ≤ sf_S f n + f n ∧ sf_S f n + f n ≤ B * ((n + 1 : Nat) : Int)
    have e1 : A * ((n + 1 : Nat) : Int) = A * n + A := by rw [Int.natCast_add, Int.mul_add]; simp
    have e2 : B * ((n + 1 : Nat) : Int) = B * n + B := by rw [Int.natCast_add, Int.mul_add]; simp
    rw [e1, e2]
    omega
theorem sT_bd {f : Int → Int} {A B : Int} {n : Int} (hn : 0 ≤ n) (h : ∀ k : Int, 0 ≤ k → k < n → A ≤ f k ∧ f k ≤ B) : A * n ≤ sT f n ∧ sT f n ≤ B * n := by
  have := sf_bd (A := A) (B := B) n.toNat (f := f) (fun k h0 h1 => h k h0 (by omega))
  rw [show ((n.toNat : Nat) : Int) = n by omega] at this
  exact this
theorem sf_le {f g : Int → Int} : ∀ n : Nat, (∀ k : Int, 0 ≤ k → k < n → f k ≤ g k) → sf_S f n ≤ sf_S g n
  | 0, _ => by simp [sf_S]
  | n + 1, h => by
    have h1 := sf_le n (fun k h0 h1 => h k h0 (by omega))
    have h2 := h n (by omega) (by omega)
    show sf_S f n + f n ≤ sf_S g n + g n
    omega
theorem sT_le {f g : Int → Int} {n : Int} (h : ∀ k : Int, 0 ≤ k → k < n → f k ≤ g k) : sT f n ≤ sT g n := sf_le n.toNat (fun k h0 h1 => h k h0 (by omega))
theorem sf_mul (c : Int) {f : Int → Int} : ∀ n : Nat, sf_S (fun k => c * f k) n = c * sf_S f n
  | 0 => by simp [sf_S]
  | n + 1 => by
    show sf_S (fun k => c * f k) n + c * f n = c * (sf_S f n + f n)
    rw [sf_mul c n, Int.mul_add]
theorem sT_mul (c : Int) (f : Int → Int) (n : Int) : sT (fun k => c * f k) n = c * sT f n := sf_mul c n.toNat
theorem sf_up {f g : Int → Int} {k0 : Int} (h : ∀ k : Int, k ≠ k0 → g k = f k) : ∀ n : Nat, sf_S g n = sf_S f n + (if 0 ≤ k0 ∧ k0 < n then g k0 - f k0 else 0)
  | 0 => by simp [sf_S]; omega
  | n + 1 => by
    have h1 := sf_up h n
    show sf_S g n + g n = sf_S f n + f n + _
    by_cases e : (n : Int) = k0
    · subst e
      rw [if_neg (by omega)] at h1
      rw [if_pos (by omega)]
      omega
    · rw [h n e]
      by_cases q : 0 ≤ k0 ∧ k0 < n
      · rw [if_pos q] at h1
        rw [if_pos (by omega)]
        omega
      · rw [if_neg q] at h1
        rw [if_neg (by omega)]
        omega
theorem sT_up {f g : Int → Int} {k0 n : Int} (h : ∀ k : Int, k ≠ k0 → g k = f k) (h0 : 0 ≤ k0) (h1 : k0 < n) : sT g n = sT f n + (g k0 - f k0) := by
  have := sf_up h n.toNat
  rw [if_pos (by omega)] at this
  exact this
/-- four terms -/
theorem sT4 (f : Int → Int) : sT f 4 = f 0 + f 1 + f 2 + f 3 := by
  show 0 + f 0 + f 1 + f 2 + f 3 = _
  omega
theorem mulB {a i A B : Int} (h1 : -A ≤ a) (h2 : a ≤ A) (h3 : 0 ≤ i) (h4 : i ≤ B) (hA : 0 ≤ A) : -(A * B) ≤ a * i ∧ a * i ≤ A * B := by
  have e1 : a * i ≤ A * i := Int.mul_le_mul_of_nonneg_right h2 h3
  have e2 : (-A) * i ≤ a * i := Int.mul_le_mul_of_nonneg_right h1 h3
  have e3 : A * i ≤ A * B := Int.mul_le_mul_of_nonneg_left h4 hA
  rw [Int.neg_mul] at e2
  omega
theorem divB {a b B : Int} (hb : 1 ≤ b) (h1 : -B ≤ a) (h2 : a ≤ B) (hB : 0 ≤ B) : -B ≤ a / b ∧ a / b ≤ B := by
  constructor
  · rw [Int.le_ediv_iff_mul_le (by omega)]
    have : B ≤ B * b := by
      have := Int.mul_le_mul_of_nonneg_left hb hB
      omega
    rw [Int.neg_mul]
    omega
  · have : a / b < B + 1 := by
      rw [Int.ediv_lt_iff_lt_mul (by omega)]
      have := Int.mul_le_mul_of_nonneg_left hb (show (0 : Int) ≤ B + 1 by omega)
      omega
    omega
/-- tdiv and the floor -/
theorem fl_pos {a b : Int} (ha : 0 ≤ a) : a.tdiv b = a / b := Int.tdiv_eq_ediv_of_nonneg ha
theorem fl_tm {a b : Int} (ha : 0 ≤ a) : a.tmod b = a % b := Int.tmod_eq_emod_of_nonneg ha
theorem fl_cases {a b : Int} (hb : 0 < b) : (a.tdiv b * b ≤ a ∧ a / b = a.tdiv b) ∨ (a < a.tdiv b * b ∧ a < 0 ∧ a / b = a.tdiv b - 1) := by
  have e := Int.mul_tdiv_add_tmod a b
  have h1 := Int.tmod_lt_of_pos a hb
  have h2 : -b < a.tmod b := by
    have := Int.neg_tmod a b ▸ Int.tmod_lt_of_pos (-a) hb
    omega
  rw [Int.mul_comm] at e
  by_cases h : 0 ≤ a.tmod b
  · left
    refine ⟨by omega, ?_⟩
    apply Int.le_antisymm
    · have : a / b < a.tdiv b + 1 := by
        rw [Int.ediv_lt_iff_lt_mul hb, Int.add_mul]
        omega
      omega
    · rw [Int.le_ediv_iff_mul_le hb]
      omega
  · right
    have ha : a < 0 := by
      have := Int.tmod_nonneg b (a := a)
      omega
    refine ⟨by omega, ha, ?_⟩
    apply Int.le_antisymm
    · have : a / b < a.tdiv b - 1 + 1 := by
        rw [Int.ediv_lt_iff_lt_mul hb]
        rw [show a.tdiv b - 1 + 1 = a.tdiv b by omega]
        omega
      omega
    · rw [Int.le_ediv_iff_mul_le hb, Int.sub_mul]
      omega
theorem tdR {a b : Int} (ha : sx_R a) (hb : 0 < b) : sx_R (a.tdiv b * b) := by
  have e := Int.mul_tdiv_add_tmod a b
  rw [Int.mul_comm] at e
  obtain ⟨h1, h2⟩ := ha
  by_cases h : 0 ≤ a
  · have h3 := Int.tmod_nonneg b h
    have h4 : 0 ≤ a.tdiv b := Int.tdiv_nonneg h (by omega)
    have h5 : 0 ≤ a.tdiv b * b := Int.mul_nonneg h4 (by omega)
    exact ⟨by omega, by omega⟩
  · have h3 : a.tmod b ≤ 0 := by
      have := Int.tmod_nonneg b (a := -a) (by omega)
      rw [Int.neg_tmod] at this
      omega
    have h4 : 0 ≤ (-a).tdiv b := Int.tdiv_nonneg (by omega) (by omega)
    rw [Int.neg_tdiv] at h4
    have h5 : 0 ≤ (-a.tdiv b) * b := Int.mul_nonneg h4 (by omega)
    rw [Int.neg_mul] at h5
    exact ⟨by omega, by omega⟩
theorem xorS {a b : Int} (ha : sx_R a) (hb : sx_R b) (h0 : 0 < b) : sx_R (sx_xor a b) ∧ (sx_xor a b < 0 ↔ a < 0) := by
  refine ⟨sx_rg _, ?_⟩
  unfold sx_xor
  have e1 : ((sx_i a ^^^ sx_i b).toBitVec).msb = decide ((sx_i a ^^^ sx_i b).toInt < 0) := BitVec.msb_eq_toInt
  have e2 : ((sx_i a).toBitVec).msb = decide ((sx_i a).toInt < 0) := BitVec.msb_eq_toInt
  have e3 : ((sx_i b).toBitVec).msb = decide ((sx_i b).toInt < 0) := BitVec.msb_eq_toInt
  have e4 : ((sx_i a ^^^ sx_i b).toBitVec).msb = ((sx_i a).toBitVec.msb ^^ (sx_i b).toBitVec.msb) := by
    rw [Int32.toBitVec_xor, BitVec.msb_xor]
  rw [sx_toInt ha] at e2
  rw [sx_toInt hb] at e3
  rw [e1, e2, e3, show decide (b < 0) = false from decide_eq_false (by omega), Bool.xor_false] at e4
  exact decide_eq_decide.mp e4
