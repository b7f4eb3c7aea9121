-- ===== one factor of the product =====
/-- a product's coefficients times (1 - the root) -/
def Mo (u v : Nat) (g : Nat → Nat → Int64) : Nat → Nat → Int64 := fun x y => if u ≤ x ∧ v ≤ y then g x y - g (x - u) (y - v) else g x y
def Rw (f : Nat → Int64) (g : Nat → Nat → Int64) : Prop := ∀ x y : Nat, x + y ≤ 12 → f (13 * x + y) = g x y
def PM (u v : Nat) (g : Nat → Nat → Int64) (h t : Nat) (f : Nat → Int64) : Prop := ∀ x y : Nat, x + y ≤ 12 → f (13 * x + y) = if h < x + y ∨ (x + y = h ∧ x < t) then Mo u v g x y else g x y
theorem Mo_n {u v : Nat} (g : Nat → Nat → Int64) {x y : Nat} (h : ¬ (u ≤ x ∧ v ≤ y)) : Mo u v g x y = g x y := if_neg h
theorem Mo_y {u v : Nat} (g : Nat → Nat → Int64) {x y : Nat} (h : u ≤ x ∧ v ≤ y) : Mo u v g x y = g x y - g (x - u) (y - v) := if_pos h
theorem nI_dn {h : Nat} (h1 : 1 ≤ h) (h2 : h < 2 ^ 31) : nI h + (-1) = nI (h - 1) := by
  apply Int32.toInt_inj.1
  rw [fb_addI (by rw [nI_toInt h2, tm1]; omega) (by rw [nI_toInt h2, tm1]; omega), nI_toInt h2, tm1, nI_toInt (by omega)]; omega
theorem mult_13 (n : Nat) {u v h : Nat} (huv : 1 ≤ u + v) (hh : u + v ≤ h) (h12 : h ≤ 12) (g : Nat → Nat → Int64) (K : Int32 → Int32 → Int32 → (Nat → Int64) → Option (Nat → Int64)) : ∀ (d t k : Nat) (f : Nat → Int64), t + d = h + 1 → u ≤ t → d < k → PM u v g h t f → ∃ f', lX9_multiplies_13 n K k (nI u) (nI v) (nI h) (nI t) f = K (nI u) (nI v) (nI (h - 1)) f' ∧ PM u v g h (h + 1) f' := by
  intro d
  induction d with
  | zero =>
    intro t k f ht hu hk hP
    obtain ⟨k, rfl⟩ : ∃ q, k = q + 1 := ⟨k - 1, by omega⟩
    rw [lX9_multiplies_13, if_pos ((nJ_lt (by omega) (by omega)).mpr (by omega)), nI_dn (by omega) (by omega)]
    have : t = h + 1 := by omega
    subst this
    exact ⟨f, rfl, hP⟩
  | succ d ih =>
    intro t k f ht hu hk hP
    obtain ⟨k, rfl⟩ : ∃ q, k = q + 1 := ⟨k - 1, by omega⟩
    rw [lX9_multiplies_13, if_neg (fun q => by have := (nJ_lt (by omega) (by omega)).mp q; omega), nI_sub (by omega) (by omega), nI_p]
    by_cases q : nI (h - t) < nI v
    · rw [if_pos q]
      have q' := (nJ_lt (by omega) (by omega)).mp q
      refine ih (t + 1) k f (by omega) (by omega) (by omega) (fun x y hxy => ?_)
      rw [hP x y hxy]
      by_cases e : x + y = h ∧ x = t
      · rw [if_neg (by omega), if_pos (by omega), Mo_n g (by omega)]
      · by_cases c : h < x + y ∨ (x + y = h ∧ x < t)
        · rw [if_pos c, if_pos (by omega)]
        · rw [if_neg c, if_neg (by omega)]
    · rw [if_neg q]
      have q' : v ≤ h - t := by
        rcases Nat.lt_or_ge (h - t) v with l | l
        · exact absurd ((nJ_lt (by omega) (by omega)).mpr l) q
        · exact l
      rw [at_y, Option.bind_some, ck_nI (by omega) (by omega), nI_sub (by omega) (by omega), nI_sub (by omega) (by omega), at_y, Option.bind_some, ck_nI (by omega) (by omega), ck_nI (by omega) (by omega), nI_clamp (by omega), nI_clamp (by omega)]
      refine ih (t + 1) k _ (by omega) (by omega) (by omega) (fun x y hxy => ?_)
      by_cases e : x = t ∧ y = h - t
      · obtain ⟨rfl, rfl⟩ := e
        rw [uL_y _ _ rfl, if_pos (by omega), hP x (h - x) (by omega), hP (x - u) (h - x - v) (by omega), if_neg (by omega), if_neg (by omega), Mo_y g (by omega)]
      · rw [uL_n _ _ (by omega), hP x y hxy]
        by_cases c : h < x + y ∨ (x + y = h ∧ x < t)
        · rw [if_pos c, if_pos (by omega)]
        · rw [if_neg c, if_neg (by omega)]
theorem mult_3 {n : Nat} (hn : 100 ≤ n) {u v : Nat} (huv : 1 ≤ u + v) (huv2 : u + v ≤ 12) (g : Nat → Nat → Int64) : ∀ (d h k : Nat) (f : Nat → Int64), h + 1 = d + (u + v) → h ≤ 12 → d < k → PM u v g h u f → ∃ f', lX9_multiplies_3 n k (nI u) (nI v) (nI h) f = some f' ∧ Rw f' (Mo u v g) := by
  intro d
  induction d with
  | zero =>
    intro h k f hd h12 hk hP
    obtain ⟨k, rfl⟩ : ∃ q, k = q + 1 := ⟨k - 1, by omega⟩
    rw [lX9_multiplies_3, nI_add, if_pos ((nJ_lt (by omega) (by omega)).mpr (by omega))]
    refine ⟨f, rfl, fun x y hxy => ?_⟩
    rw [hP x y hxy]
    by_cases c : h < x + y ∨ (x + y = h ∧ x < u)
    · rw [if_pos c]
    · rw [if_neg c, Mo_n g (by omega)]
  | succ d ih =>
    intro h k f hd h12 hk hP
    obtain ⟨k, rfl⟩ : ∃ q, k = q + 1 := ⟨k - 1, by omega⟩
    rw [lX9_multiplies_3, nI_add, if_neg (fun q => by have := (nJ_lt (by omega) (by omega)).mp q; omega)]
    obtain ⟨f', e, hP'⟩ := mult_13 n huv (by omega) h12 g (lX9_multiplies_3 n k) (h + 1 - u) u n f (by omega) (by omega) (by omega) hP
    rw [e]
    refine ih (h - 1) k f' (by omega) (by omega) (by omega) (fun x y hxy => ?_)
    rw [hP' x y hxy]
    by_cases c : h < x + y ∨ (x + y = h ∧ x < h + 1)
    · rw [if_pos c, if_pos (by omega)]
    · rw [if_neg c]
      by_cases c2 : h - 1 < x + y ∨ (x + y = h - 1 ∧ x < u)
      · rw [if_pos c2, Mo_n g (by omega)]
      · rw [if_neg c2]
theorem mult_c {n : Nat} (hn : 100 ≤ n) {u v : Nat} (huv : 1 ≤ u + v) (huv2 : u + v ≤ 12) {g : Nat → Nat → Int64} {f : Nat → Int64} (h : Rw f g) : ∃ f', fX9_multiplies n (nI u) (nI v) f = some f' ∧ Rw f' (Mo u v g) := by
  unfold fX9_multiplies
  refine mult_3 hn huv huv2 g (13 - (u + v)) 12 n f (by omega) (by omega) (by omega) (fun x y hxy => ?_)
  rw [h x y hxy]
  by_cases c : 12 < x + y ∨ (x + y = 12 ∧ x < u)
  · rw [if_pos c, Mo_n g (by omega)]
  · rw [if_neg c]
/-- the factors commute -/
theorem Mo_comm (u v s t : Nat) (g : Nat → Nat → Int64) : Mo u v (Mo s t g) = Mo s t (Mo u v g) := by
  funext x y
  unfold Mo
  by_cases h1 : u ≤ x ∧ v ≤ y <;> by_cases h2 : s ≤ x ∧ t ≤ y
  · rw [if_pos h1, if_pos h2, if_pos h1, if_pos h2]
    by_cases h3 : s ≤ x - u ∧ t ≤ y - v
    · have h4 : u ≤ x - s ∧ v ≤ y - t := by omega
      rw [if_pos h3, if_pos h4, show x - u - s = x - s - u by omega, show y - v - t = y - t - v by omega]
      grind
    · have h4 : ¬ (u ≤ x - s ∧ v ≤ y - t) := by omega
      rw [if_neg h3, if_neg h4]
      grind
  · have h3 : ¬ (s ≤ x - u ∧ t ≤ y - v) := by omega
    rw [if_pos h1, if_neg h2, if_neg h3, if_neg h2, if_pos h1]
  · have h4 : ¬ (u ≤ x - s ∧ v ≤ y - t) := by omega
    rw [if_neg h1, if_pos h2, if_pos h2, if_neg h1, if_neg h4]
  · rw [if_neg h1, if_neg h2, if_neg h2, if_neg h1]
