-- ===== a factor many times: the class's way =====
/-- the class's running factor -/
def cf (p : Nat) : Nat → Int64
  | 0 => 1
  | j + 1 => ((-(cf p j)) * (Int32.toInt64 ((nI p - nI (j + 1)) + 1))) / (Int32.toInt64 (nI (j + 1)))
theorem cf_pas : ((List.range 75).all fun p => (List.range 12).all fun j => cf (p + 1) (j + 1) == cf p (j + 1) - cf p j) = true := by decide +kernel
theorem cf_zero : ((List.range 12).all fun j => cf 0 (j + 1) == 0) = true := by decide +kernel
theorem cf_P {p j : Nat} (hp : p < 75) (hj : j < 12) : cf (p + 1) (j + 1) = cf p (j + 1) - cf p j := eq_of_beq (all_range (all_range cf_pas hp) hj)
theorem cf_Z {j : Nat} (hj : j < 12) : cf 0 (j + 1) = 0 := eq_of_beq (all_range cf_zero hj)
/-- a sum over the places that lie j, j + 1, .. roots below -/
def sm (c : Nat → Int64) (g : Nat → Nat → Int64) (u v x y : Nat) : Nat → Nat → Int64
  | 0, _ => 0
  | k + 1, j => if j * u ≤ x ∧ j * v ≤ y then c j * g (x - j * u) (y - j * v) + sm c g u v x y k (j + 1) else 0
theorem sm_s (c : Nat → Int64) (g : Nat → Nat → Int64) (u v x y k j : Nat) : sm c g u v x y (k + 1) j = if j * u ≤ x ∧ j * v ≤ y then c j * g (x - j * u) (y - j * v) + sm c g u v x y k (j + 1) else 0 := rfl
theorem sm_pas {p : Nat} (hp : p < 75) (g : Nat → Nat → Int64) (u v x y : Nat) : ∀ (k j : Nat), 1 ≤ j → j + k ≤ 13 → sm (cf (p + 1)) g u v x y k j = sm (cf p) g u v x y k j - sm (fun i => cf p (i - 1)) g u v x y k j := by
  intro k
  induction k with
  | zero => intro j _ _; show (0 : Int64) = 0 - 0; decide
  | succ k ih =>
    intro j h1 h2
    rw [sm, sm, sm]
    by_cases c : j * u ≤ x ∧ j * v ≤ y
    · rw [if_pos c, if_pos c, if_pos c, ih (j + 1) (by omega) (by omega)]
      obtain ⟨i, rfl⟩ : ∃ i, j = i + 1 := ⟨j - 1, by omega⟩
      rw [cf_P hp (by omega)]
      show _ = _ - (cf p i * _ + _)
      generalize cf p (i + 1) = A
      generalize cf p i = B
      generalize g (x - (i + 1) * u) (y - (i + 1) * v) = G
      generalize sm (cf p) g u v x y k (i + 1 + 1) = E
      generalize sm (fun i => cf p (i - 1)) g u v x y k (i + 1 + 1) = F
      grind
    · rw [if_neg c, if_neg c, if_neg c]; decide
theorem sm_zero (g : Nat → Nat → Int64) (u v x y : Nat) : ∀ (k j : Nat), 1 ≤ j → j + k ≤ 13 → sm (cf 0) g u v x y k j = 0 := by
  intro k
  induction k with
  | zero => intro j _ _; rfl
  | succ k ih =>
    intro j h1 h2
    rw [sm]
    by_cases c : j * u ≤ x ∧ j * v ≤ y
    · rw [if_pos c, ih (j + 1) (by omega) (by omega)]
      obtain ⟨i, rfl⟩ : ∃ i, j = i + 1 := ⟨j - 1, by omega⟩
      rw [cf_Z (by omega)]
      grind
    · rw [if_neg c]
theorem sm_shift (c : Nat → Int64) (g : Nat → Nat → Int64) {u v x y : Nat} (h : u ≤ x ∧ v ≤ y) : ∀ (k j : Nat), sm (fun i => c (i - 1)) g u v x y k (j + 1) = sm c g u v (x - u) (y - v) k j := by
  intro k
  induction k with
  | zero => intro j; rfl
  | succ k ih =>
    intro j
    rw [sm, sm, ih (j + 1), Nat.succ_mul, Nat.succ_mul]
    generalize j * u = U
    generalize j * v = V
    by_cases q : U ≤ x - u ∧ V ≤ y - v
    · rw [if_pos q, if_pos (by omega), show x - (U + u) = x - u - U by omega, show y - (V + v) = y - v - V by omega]
      rfl
    · rw [if_neg q, if_neg (by omega)]
theorem sm_more (c : Nat → Int64) (g : Nat → Nat → Int64) {u v x y : Nat} : ∀ (k j : Nat), x + y < (j + k) * (u + v) → sm c g u v x y (k + 1) j = sm c g u v x y k j := by
  intro k
  induction k with
  | zero =>
    intro j h
    rw [sm, sm, if_neg]
    rintro ⟨a, b⟩
    rw [Nat.add_zero, Nat.mul_add] at h
    omega
  | succ k ih =>
    intro j h
    rw [sm_s c g u v x y (k + 1) j, sm_s c g u v x y k j, ih (j + 1) (by rw [show j + 1 + k = j + (k + 1) by omega]; exact h)]
def Mp (u v : Nat) (g : Nat → Nat → Int64) : Nat → Nat → Nat → Int64
  | 0 => g
  | p + 1 => Mo u v (Mp u v g p)
theorem Mp_sum {u v : Nat} (huv : 1 ≤ u + v) (g : Nat → Nat → Int64) : ∀ (p : Nat), p ≤ 75 → ∀ x y, x + y ≤ 12 → Mp u v g p x y = g x y + sm (cf p) g u v x y 12 1 := by
  intro p
  induction p with
  | zero =>
    intro _ x y _
    rw [sm_zero g u v x y 12 1 (by omega) (by omega)]
    show g x y = g x y + 0
    grind
  | succ p ih =>
    intro hp x y hxy
    show Mo u v (Mp u v g p) x y = _
    rw [sm_pas (by omega) g u v x y 12 1 (by omega) (by omega)]
    by_cases c : u ≤ x ∧ v ≤ y
    · have e1 : sm (cf p) g u v (x - u) (y - v) 12 1 = sm (cf p) g u v (x - u) (y - v) 11 1 := sm_more (cf p) g 11 1 (by omega)
      have e0 : sm (cf p) g u v (x - u) (y - v) 12 0 = g (x - u) (y - v) + sm (cf p) g u v (x - u) (y - v) 11 1 := by
        rw [sm_s, if_pos (by omega), Nat.zero_mul, Nat.zero_mul, Nat.sub_zero, Nat.sub_zero, show cf p 0 = 1 from rfl, Int64.one_mul]
      rw [Mo_y _ c, ih (by omega) x y hxy, ih (by omega) (x - u) (y - v) (by omega), sm_shift (cf p) g c 12 0, e0, e1]
      generalize sm (cf p) g u v x y 12 1 = E
      generalize sm (cf p) g u v (x - u) (y - v) 11 1 = F
      generalize g x y = G
      generalize g (x - u) (y - v) = G'
      grind
    · rw [Mo_n _ c, ih (by omega) x y hxy]
      have e : sm (fun i => cf p (i - 1)) g u v x y 12 1 = 0 := by
        rw [sm, if_neg (by omega)]
      rw [e]
      grind
