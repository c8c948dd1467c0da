/-! WHOLE NUMBERS FOR INTS, ONE MEMORY FOR THE WORLD, AND THE WALK OVER THEM.
sx_i a: the machine's int of the whole number a. A memory μ: cell, place ↦ whole number. sx_W: the world (a list of cells) that a layout and a memory give.
sx_V: 'the walk from pc, with these locals, this stack, this memory, comes to Q'. Each row turns sx_V at an instruction into sx_V at the next. -/
section SXN
def sx_i (a : Int) : Int32 := Int32.ofInt a
def sx_j (a : Int) : Int64 := Int64.ofInt a
abbrev sx_R (a : Int) : Prop := -2147483648 ≤ a ∧ a ≤ 2147483647
theorem sx_toInt {a : Int} (h : sx_R a) : (sx_i a).toInt = a := Int32.toInt_ofInt_of_le (by have := h.1; omega) (by have := h.2; omega)
theorem sx_of (x : Int32) : sx_i x.toInt = x := Int32.ofInt_toInt x
theorem sx_rg (x : Int32) : sx_R x.toInt := ⟨by have := x.le_toInt; omega, by have := x.toInt_lt; omega⟩
theorem sx_add (a b : Int) : sx_i a + sx_i b = sx_i (a + b) := (Int32.ofInt_add a b).symm
theorem sx_sub (a b : Int) : sx_i a - sx_i b = sx_i (a - b) := (Int32.ofInt_sub a b).symm
theorem sx_mul (a b : Int) : sx_i a * sx_i b = sx_i (a * b) := (Int32.ofInt_mul a b).symm
theorem sx_neg (a : Int) : -sx_i a = sx_i (-a) := (Int32.ofInt_neg a).symm
theorem sx_0 : sx_i 0 = 0 := by decide
theorem sx_lt {a b : Int} (ha : sx_R a) (hb : sx_R b) : sx_i a < sx_i b ↔ a < b := by
  rw [Int32.lt_iff_toInt_lt, sx_toInt ha, sx_toInt hb]
theorem sx_le {a b : Int} (ha : sx_R a) (hb : sx_R b) : sx_i a ≤ sx_i b ↔ a ≤ b := by
  rw [Int32.le_iff_toInt_le, sx_toInt ha, sx_toInt hb]
theorem sx_eq {a b : Int} (ha : sx_R a) (hb : sx_R b) : sx_i a = sx_i b ↔ a = b := by
  rw [← Int32.toInt_inj, sx_toInt ha, sx_toInt hb]
theorem sx_tdiv {a b : Int} (h0 : 0 < b) : -(if a < 0 then -a else a) ≤ a.tdiv b ∧ a.tdiv b ≤ (if a < 0 then -a else a) := by
  have key : ∀ c : Int, 0 ≤ c → 0 ≤ c.tdiv b ∧ c.tdiv b ≤ c := fun c hc => by
    rw [Int.tdiv_eq_ediv_of_nonneg hc]
    exact ⟨Int.ediv_nonneg hc (Int.le_of_lt h0), Int.ediv_le_self b hc⟩
  by_cases ha : a < 0
  · have h := key (-a) (by omega)
    rw [Int.neg_tdiv] at h
    rw [if_pos ha]
    omega
  · have h := key a (by omega)
    rw [if_neg ha]
    omega
theorem sx_divR {a b : Int} (ha : sx_R a) (h0 : 0 < b) (hm : -2147483648 < a) : sx_R (a.tdiv b) := by
  have h := sx_tdiv (a := a) h0
  have h1 := ha.1
  have h2 := ha.2
  by_cases hn : a < 0
  · rw [if_pos hn] at h
    exact ⟨by omega, by omega⟩
  · rw [if_neg hn] at h
    exact ⟨by omega, by omega⟩
theorem sx_ne1 {b : Int} (hb : sx_R b) (h0 : 0 < b) : sx_i b ≠ -1 := by
  intro h
  have h1 := congrArg Int32.toInt h
  rw [sx_toInt hb] at h1
  have h2 : (-1 : Int32).toInt = -1 := by decide
  rw [h2] at h1
  omega
theorem sx_nz {b : Int} (hb : sx_R b) (h0 : 0 < b) : ¬ sx_i b = 0 := by
  rw [← sx_0, sx_eq hb ⟨by omega, by omega⟩]
  omega
theorem sx_div {a b : Int} (ha : sx_R a) (hb : sx_R b) (h0 : 0 < b) (hm : -2147483648 < a) : sx_i a / sx_i b = sx_i (a.tdiv b) := by
  rw [← Int32.toInt_inj, Int32.toInt_div_of_ne_right _ _ (sx_ne1 hb h0), sx_toInt ha, sx_toInt hb, sx_toInt (sx_divR ha h0 hm)]
theorem sx_rem {a b : Int} (ha : sx_R a) (hb : sx_R b) (h0 : 0 < b) (hm : -2147483648 < a) : sx_i a - sx_i a / sx_i b * sx_i b = sx_i (a.tmod b) := by
  rw [sx_div ha hb h0 hm, sx_mul, sx_sub, Int.tmod_def, Int.mul_comm]
def sx_xor (a b : Int) : Int := (sx_i a ^^^ sx_i b).toInt
def sx_and (a b : Int) : Int := (sx_i a &&& sx_i b).toInt
theorem sx_in {j : Int} {n : Nat} (hn : n < 2147483648) (h : 0 ≤ j ∧ j < n) : vp_in (sx_i j) n ∧ (sx_i j).toNatClampNeg = j.toNat ∧ ((j.toNat : Nat) : Int) = j := by
  have hr : sx_R j := ⟨by omega, by omega⟩
  refine ⟨vp_in_iff.mpr (by rw [sx_toInt hr]; exact h), ?_, by omega⟩
  show (Int32.ofInt j).toNatClampNeg = j.toNat
  exact Int32.toNatClampNeg_ofInt_of_le (by omega) (by omega)
/-- what lcmp says -/
def sx_cmp (a b : Int) : Int := if b < a then 1 else if a = b then 0 else -1
theorem sx_jT {a : Int} (h : sx_R a) : (sx_j a).toInt = a := Int64.toInt_ofInt_of_le (by have := h.1; omega) (by have := h.2; omega)
theorem sx_lcmp {a b : Int} (ha : sx_R a) (hb : sx_R b) : lg_cmp (sx_j a) (sx_j b) = sx_i (sx_cmp a b) := by
  unfold lg_cmp sx_cmp
  have h1 : (sx_j a > sx_j b) ↔ b < a := by
    show sx_j b < sx_j a ↔ b < a
    rw [Int64.lt_iff_toInt_lt, sx_jT ha, sx_jT hb]
  have h2 : (sx_j a = sx_j b) ↔ a = b := by rw [← Int64.toInt_inj, sx_jT ha, sx_jT hb]
  by_cases c1 : b < a
  · rw [if_pos (h1.mpr c1), if_pos c1]; rfl
  · rw [if_neg (fun q => c1 (h1.mp q)), if_neg c1]
    by_cases c2 : a = b
    · rw [if_pos (h2.mpr c2), if_pos c2]; rfl
    · rw [if_neg (fun q => c2 (h2.mp q)), if_neg c2]; rfl
theorem sx_i2l {a : Int} (h : sx_R a) : (sx_i a).toInt64 = sx_j a := by
  rw [← Int64.toInt_inj, Int32.toInt_toInt64, sx_toInt h, sx_jT h]
end SXN
section SXW
abbrev sx_M : Type := Nat → Int → Int
def sx_up (μ : sx_M) (c : Nat) (k v : Int) : sx_M := fun c' k' => if c' = c ∧ k' = k then v else μ c' k'
/-- a cell's layout: an object (its class's number; a field: a reference to a cell, or an int), an array of ints, of longs -/
abbrev sx_L : Type := (Nat × List (Option Nat)) ⊕ (Nat ⊕ Nat)
def sx_fv (ad : Nat → Nat) (f : Int → Int) (q : Option Nat × Nat) : Value := match q.1 with
  | some j => .ref (ad j)
  | none => .int (sx_i (f (q.2 : Nat)))
def sx_e (cI cJ : ClassId) (ad : Nat → Nat) (f : Int → Int) (d : sx_L) : va_E := match d with
  | .inl o => .inr (o.1, o.2.zipIdx.map (sx_fv ad f))
  | .inr (.inl n) => .inl (cI, n, .inl (fun i => sx_i (f (i : Nat))))
  | .inr (.inr n) => .inl (cJ, n, .inr (.inl (fun i => sx_j (f (i : Nat)))))
def sx_W (lay : List sx_L) (cI cJ : ClassId) (ad : Nat → Nat) (μ : sx_M) : va_W := lay.zipIdx.map (fun q => (ad q.2, sx_e cI cJ ad (μ q.2) q.1))
variable {lay : List sx_L} {cI cJ : ClassId} {ad : Nat → Nat} {μ : sx_M}
theorem sx_get (i : Nat) : (sx_W lay cI cJ ad μ)[i]? = (lay[i]?).map (fun d => (ad i, sx_e cI cJ ad (μ i) d)) := by
  unfold sx_W
  rw [List.getElem?_map, List.getElem?_zipIdx]
  cases lay[i]? with
  | none => rfl
  | some d => simp
theorem sx_at {c : Nat} {d : sx_L} (h : lay[c]? = some d) : (sx_W lay cI cJ ad μ)[c]? = some (ad c, sx_e cI cJ ad (μ c) d) := by
  rw [sx_get, h]; rfl
theorem sx_up_ne {c i : Nat} (k v : Int) (h : i ≠ c) : sx_up μ c k v i = μ i := by
  funext k'
  simp [sx_up, h]
theorem sx_set {c : Nat} {d : sx_L} {e : va_E} {k v : Int} (h : lay[c]? = some d) (he : sx_e cI cJ ad (sx_up μ c k v c) d = e) : (sx_W lay cI cJ ad μ).set c (ad c, e) = sx_W lay cI cJ ad (sx_up μ c k v) := by
  apply List.ext_getElem?
  intro i
  by_cases hi : i = c
  · subst hi
    rw [List.getElem?_set_self (by have := (List.getElem?_eq_some_iff.mp (sx_at (cI := cI) (cJ := cJ) (ad := ad) (μ := μ) h)).1; exact this), sx_at h, he]
  · rw [List.getElem?_set_ne (Ne.symm hi), sx_get, sx_get, sx_up_ne k v hi]
theorem sx_setF {fl : List (Option Nat)} {ad : Nat → Nat} {f : Int → Int} {k : Nat} {v : Int} (h : fl[k]? = some none) : fl.zipIdx.map (sx_fv ad (fun q => if q = (k : Int) then v else f q)) = (fl.zipIdx.map (sx_fv ad f)).set k (.int (sx_i v)) := by
  apply List.ext_getElem?
  intro i
  by_cases hi : i = k
  · subst hi
    rw [List.getElem?_set_self (by rw [List.length_map, List.length_zipIdx]; exact (List.getElem?_eq_some_iff.mp h).1), List.getElem?_map, List.getElem?_zipIdx, h]
    simp [sx_fv]
  · rw [List.getElem?_set_ne (Ne.symm hi), List.getElem?_map, List.getElem?_map, List.getElem?_zipIdx]
    cases fl[i]? with
    | none => rfl
    | some o =>
      cases o with
      | some j => simp [sx_fv]
      | none =>
        have hne : ¬ ((i : Nat) : Int) = (k : Int) := by omega
        simp [sx_fv, hne]
theorem sx_up_self {c : Nat} (k v : Int) : sx_up μ c k v c = fun q => if q = k then v else μ c q := by
  funext q
  simp [sx_up]
theorem sx_putI {c ci k : Nat} {fl : List (Option Nat)} {v : Int} (h : lay[c]? = some (.inl (ci, fl))) (hk : fl[k]? = some none) : (sx_W lay cI cJ ad μ).set c (ad c, .inr (ci, (fl.zipIdx.map (sx_fv ad (μ c))).set k (.int (sx_i v)))) = sx_W lay cI cJ ad (sx_up μ c (k : Int) v) :=
  sx_set h (by rw [sx_up_self]; show Sum.inr (ci, _) = _; rw [sx_setF hk])
theorem sx_putA {c n : Nat} {j v : Int} (h : lay[c]? = some (.inr (.inl n))) (hj : 0 ≤ j) : (sx_W lay cI cJ ad μ).set c (ad c, .inl (cI, n, .inl (upd (fun i => sx_i (μ c (i : Nat))) j.toNat (sx_i v)))) = sx_W lay cI cJ ad (sx_up μ c j v) :=
  sx_set h (by
    rw [sx_up_self]
    show Sum.inl (cI, n, Sum.inl _) = _
    congr 4
    funext i
    by_cases hi : i = j.toNat
    · subst hi
      have : ((j.toNat : Nat) : Int) = j := by omega
      simp [upd, this]
    · have : ¬ ((i : Nat) : Int) = j := by omega
      simp [upd, this, hi])
theorem sx_putL {c n : Nat} {j v : Int} (h : lay[c]? = some (.inr (.inr n))) (hj : 0 ≤ j) : (sx_W lay cI cJ ad μ).set c (ad c, .inl (cJ, n, .inr (.inl (vp_updL (fun i => sx_j (μ c (i : Nat))) j.toNat (sx_j v))))) = sx_W lay cI cJ ad (sx_up μ c j v) :=
  sx_set h (by
    rw [sx_up_self]
    show Sum.inl (cJ, n, Sum.inr (Sum.inl _)) = _
    congr 5
    funext i
    by_cases hi : i = j.toNat
    · subst hi
      have : ((j.toNat : Nat) : Int) = j := by omega
      simp [vp_updL, this]
    · have : ¬ ((i : Nat) : Int) = j := by omega
      simp [vp_updL, this, hi])
/-- the cells are apart -/
def sx_J (lay : List sx_L) (ad : Nat → Nat) : Prop := ∀ i j : Nat, i < lay.length → j < lay.length → ad i = ad j → i = j
/-- the addresses that a method may change: its world's, and all that come -/
def sx_A (lay : List sx_L) (ad : Nat → Nat) (sz : Nat) : Nat → Prop := fun q => (∃ i, i < lay.length ∧ q = ad i) ∨ sz ≤ q
theorem sx_len {i : Nat} {q : Nat × va_E} (h : (sx_W lay cI cJ ad μ)[i]? = some q) : i < lay.length ∧ q.1 = ad i := by
  rw [sx_get] at h
  cases hl : lay[i]? with
  | none => rw [hl] at h; cases h
  | some d =>
    rw [hl] at h
    cases h
    exact ⟨(List.getElem?_eq_some_iff.mp hl).1, rfl⟩
theorem sx_D {A : Nat → Prop} (hJ : sx_J lay ad) (hA : ∀ i, i < lay.length → A (ad i)) (μ : sx_M) : va_D A (sx_W lay cI cJ ad μ) := by
  refine ⟨fun i j p q hi hj hpq => ?_, fun k q hk => ?_⟩
  · obtain ⟨h1, h2⟩ := sx_len hi
    obtain ⟨h3, h4⟩ := sx_len hj
    exact hJ i j h1 h3 (h2.symm.trans (hpq.trans h4))
  · obtain ⟨h1, h2⟩ := sx_len hk
    rw [h2]
    exact hA k h1
end SXW
