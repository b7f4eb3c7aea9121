-- ===== comparisons of longs =====
theorem lg_lt (x y : Int64) : lg_cmp x y < 0 ↔ x < y := by
  unfold lg_cmp
  by_cases h : x > y
  · rw [if_pos h]
    have h2 : y.toInt < x.toInt := (fa_lt64 _ _).mp h
    constructor
    · intro q; exact absurd q (by decide)
    · intro q; rw [fa_lt64] at q; omega
  · rw [if_neg h]
    by_cases h3 : x = y
    · rw [if_pos h3]; subst h3
      constructor
      · intro q; exact absurd q (by decide)
      · intro q; rw [fa_lt64] at q; omega
    · rw [if_neg h3]
      have h4 : ¬ y.toInt < x.toInt := fun q => h ((fa_lt64 _ _).mpr q)
      have h5 : ¬ x.toInt = y.toInt := fun q => h3 ((fa_eq64 _ _).mpr q)
      constructor
      · intro _; rw [fa_lt64]; omega
      · intro _; decide
theorem lg_gt (x y : Int64) : 0 < lg_cmp x y ↔ y < x := by
  unfold lg_cmp
  by_cases h : x > y
  · rw [if_pos h]
    exact ⟨fun _ => h, fun _ => by decide⟩
  · rw [if_neg h]
    constructor
    · intro q
      split at q <;> exact absurd q (by decide)
    · intro q; exact absurd q h
theorem lg_eq (x y : Int64) : lg_cmp x y = 0 ↔ x = y := by
  unfold lg_cmp
  by_cases h : x > y
  · rw [if_pos h]
    have h2 : y.toInt < x.toInt := (fa_lt64 _ _).mp h
    constructor
    · intro q; exact absurd q (by decide)
    · intro q; subst q; omega
  · rw [if_neg h]
    by_cases h3 : x = y
    · rw [if_pos h3]; exact ⟨fun _ => h3, fun _ => rfl⟩
    · rw [if_neg h3]; exact ⟨fun q => absurd q (by decide), fun q => absurd q h3⟩
theorem lg_le (x y : Int64) : lg_cmp x y ≤ 0 ↔ x ≤ y := by
  have h := lg_gt x y
  have e1 : lg_cmp x y ≤ 0 ↔ ¬ 0 < lg_cmp x y := by rw [fa_le, fa_lt]; omega
  have e2 : x ≤ y ↔ ¬ y < x := by rw [fa_le64, fa_lt64]; omega
  rw [e1, e2, h]
theorem lg_ge (x y : Int64) : 0 ≤ lg_cmp x y ↔ y ≤ x := by
  have h := lg_lt x y
  have e1 : 0 ≤ lg_cmp x y ↔ ¬ lg_cmp x y < 0 := by rw [fa_le, fa_lt]; omega
  have e2 : y ≤ x ↔ ¬ x < y := by rw [fa_le64, fa_lt64]; omega
  rw [e1, e2, h]
-- ===== ranges =====
theorem in_eq (p a b : Int32) {A B : Int64} (hA : A = a.toInt64) (hB : B = b.toInt64) : fX9_in p.toInt64 A B = fX8_isIn p a b := by
  subst hA; subst hB
  unfold fX9_in fX8_isIn
  by_cases h1 : p < a
  · rw [if_pos ((lg_lt _ _).mpr ((fa_wide_lt _ _).mpr h1)), if_pos h1]
  · rw [if_neg (fun q => h1 ((fa_wide_lt _ _).mp ((lg_lt _ _).mp q))), if_neg h1]
    by_cases h2 : b < p
    · rw [if_pos ((lg_gt _ _).mpr ((fa_wide_lt _ _).mpr h2)), if_pos h2]
    · rw [if_neg (fun q => h2 ((fa_wide_lt _ _).mp ((lg_gt _ _).mp q))), if_neg h2]
theorem isIn_y {p a b : Int32} (h1 : a.toInt ≤ p.toInt) (h2 : p.toInt ≤ b.toInt) : fX8_isIn p a b = some 1 := by
  unfold fX8_isIn
  rw [if_neg (by rw [fa_lt]; omega), if_neg (by rw [fa_lt]; omega)]
theorem isIn_n {p a b : Int32} (h : p.toInt < a.toInt ∨ b.toInt < p.toInt) : fX8_isIn p a b = some 0 := by
  unfold fX8_isIn
  by_cases h1 : p < a
  · rw [if_pos h1]
  · rw [if_neg h1, if_pos (by rw [fa_lt] at *; omega)]
theorem isIn_c (p a b : Int32) : (fX8_isIn p a b = some 1 ∧ a.toInt ≤ p.toInt ∧ p.toInt ≤ b.toInt) ∨ (fX8_isIn p a b = some 0 ∧ (p.toInt < a.toInt ∨ b.toInt < p.toInt)) := by
  by_cases h : a.toInt ≤ p.toInt ∧ p.toInt ≤ b.toInt
  · exact Or.inl ⟨isIn_y h.1 h.2, h⟩
  · have h2 : p.toInt < a.toInt ∨ b.toInt < p.toInt := by omega
    exact Or.inr ⟨isIn_n h2, h2⟩
theorem isPlace_eq (x y : Int32) : fX9_isPlace x.toInt64 y.toInt64 = fX8_isPlace x y := by
  unfold fX9_isPlace fX8_isPlace
  rw [in_eq x (-999) 999 (by decide) (by decide), in_eq y (-999) 999 (by decide) (by decide)]
/-- a place: both numbers from -999 to 999 -/
def isPl (x y : Int32) : Prop := (-999 ≤ x.toInt ∧ x.toInt ≤ 999) ∧ (-999 ≤ y.toInt ∧ y.toInt ≤ 999)
theorem t999 : (999 : Int32).toInt = 999 := by decide
theorem tm999 : (-999 : Int32).toInt = -999 := by decide
theorem isPlace_c (x y : Int32) : (fX8_isPlace x y = some 1 ∧ isPl x y) ∨ (fX8_isPlace x y = some 0 ∧ ¬ isPl x y) := by
  unfold fX8_isPlace isPl
  have e1 := t999; have e2 := tm999
  rcases isIn_c x (-999) 999 with ⟨h, h1, h2⟩ | ⟨h, h1⟩
  · rw [h]
    rcases isIn_c y (-999) 999 with ⟨g, g1, g2⟩ | ⟨g, g1⟩
    · rw [g]; exact Or.inl ⟨rfl, by omega, by omega⟩
    · rw [g]; exact Or.inr ⟨rfl, by omega⟩
  · rw [h]; exact Or.inr ⟨rfl, by omega⟩
theorem isSide_eq (i : Int32) : fX9_isSide i = fX8_isIn i 0 1 := by
  unfold fX9_isSide
  rw [in_eq i 0 1 (by decide) (by decide)]
  rcases isIn_c i 0 1 with ⟨h, -⟩ | ⟨h, -⟩ <;> rw [h] <;> rfl
-- ===== lowering =====
/-- 1: a letter -/
def isL (x y : Int32) : Int32 := if (x = 1 ∧ y = 0) ∨ (x = 0 ∧ y = 1) then 1 else 0
theorem isL_01 (x y : Int32) : isL x y = 0 ∨ isL x y = 1 := by unfold isL; split <;> simp
theorem isL_X (x y : Int32) : fX3_isLetter x y = some (isL x y) := by
  unfold fX3_isLetter jX3_isLetter_15 isL
  by_cases h1 : x = 1
  · subst h1
    by_cases h2 : y = 0 <;> simp [h2]
  · by_cases h3 : x = 0
    · subst h3
      by_cases h2 : y = 1 <;> simp [h2]
    · simp [h1, h3]
theorem isL_M (x y : Int32) : fX9_isLetter x y = some (isL x y) := isL_X x y
def mt (m x y : Int32) : Int32 := if m = 0 then isL x y else 1
/-- lowering, step by step -/
def lo (a b : Int32) : Nat → Int32 → Int32 → Int32 → Int32 → Int32 × Int32 × Int32 × Int32
  | 0, x, y, s, m => (x, y, s, m)
  | k + 1, x, y, s, m => if x < 0 then (x, y, s, m) else if y < 0 then (x, y, s, m) else
      if 2 * x - a * y ≤ 0 then (if 2 * y - b * x ≤ 0 then (x, y, s, m) else lo a b k x (b * x - y) (s + 1) (mt m x (b * x - y))) else lo a b k (a * y - x) y (s + 1) (mt m (a * y - x) y)
def r16 (a : Int32) : Prop := 1 ≤ a.toInt ∧ a.toInt ≤ 6
theorem refl_i {a x y : Int32} (ha : r16 a) (hx : 0 ≤ x.toInt ∧ x.toInt ≤ 999) (hy : 0 ≤ y.toInt ∧ y.toInt ≤ 999) : (a * y - x).toInt = a.toInt * y.toInt - x.toInt ∧ (2 * x - a * y).toInt = 2 * x.toInt - a.toInt * y.toInt ∧ 0 ≤ a.toInt * y.toInt ∧ a.toInt * y.toInt ≤ 5994 := by
  have e0 : 0 ≤ a.toInt * y.toInt := Int.mul_nonneg (by have := ha.1; omega) hy.1
  have e1 : a.toInt * y.toInt ≤ 6 * 999 := Int.mul_le_mul ha.2 hy.2 hy.1 (by decide)
  have e2 : (a * y).toInt = a.toInt * y.toInt := fb_mulI (by omega) (by omega)
  have t2 : (2 : Int32).toInt = 2 := by decide
  have e3 : (2 * x).toInt = 2 * x.toInt := by rw [fb_mulI (by rw [t2]; omega) (by rw [t2]; omega), t2]
  refine ⟨?_, ?_, e0, by omega⟩
  · rw [fb_subI (by rw [e2]; omega) (by rw [e2]; omega), e2]
  · rw [fb_subI (by rw [e2, e3]; omega) (by rw [e2, e3]; omega), e2, e3]
theorem mt_01 (m x y : Int32) : mt m x y = 0 ∨ mt m x y = 1 := by
  unfold mt
  split
  · exact isL_01 x y
  · exact Or.inr rfl
theorem or_mt {m : Int32} (h : m = 0 ∨ m = 1) (x y : Int32) : m ||| isL x y = mt m x y := by
  unfold mt
  rcases h with rfl | rfl
  · rcases isL_01 x y with e | e <;> rw [e] <;> decide
  · rcases isL_01 x y with e | e <;> rw [e] <;> decide
theorem lowX (n : Nat) {a b : Int32} (ha : r16 a) (hb : r16 b) : ∀ (k : Nat) (x y m : Int32) (j K : Nat), (m = 0 ∨ m = 1) → (-999 ≤ x.toInt ∧ x.toInt ≤ 999) → (-999 ≤ y.toInt ∧ y.toInt ≤ 999) → 0 < k → x.toInt + y.toInt + 1 < k → j + k ≤ 3000 → k ≤ K → lX3_lower_24 n K a b x y (nI j) m = some (lo a b k x y (nI j) m) := by
  intro k
  induction k with
  | zero => intro x y m j K _ _ _ h; omega
  | succ k ih =>
    intro x y m j K hm hx hy _ hk hj hK
    obtain ⟨K, rfl⟩ : ∃ K', K = K' + 1 := ⟨K - 1, by omega⟩
    have h4 : ¬ (4000 : Int32) ≤ nI j := by
      rw [fa_le, nI_toInt (by omega)]
      have : (4000 : Int32).toInt = 4000 := by decide
      omega
    rw [lX3_lower_24, if_neg h4, lo]
    by_cases h1 : x < 0
    · rw [if_pos h1, if_pos h1]
    rw [if_neg h1, if_neg h1]
    by_cases h2 : y < 0
    · rw [if_pos h2, if_pos h2]
    rw [if_neg h2, if_neg h2]
    have z0 : (0 : Int32).toInt = 0 := by decide
    rw [fa_lt, z0] at h1 h2
    obtain ⟨r1, r2, r3, r4⟩ := refl_i (a := a) (x := x) (y := y) ha (by omega) (by omega)
    obtain ⟨s1, s2, s3, s4⟩ := refl_i (a := b) (x := y) (y := x) hb (by omega) (by omega)
    have hl : ∀ m' : Int32, (m' = 0 ∨ m' = 1) → ∀ x' y' : Int32, (if m' = 0 then (fX3_isLetter x' y').bind fun q134 => (if q134 = 0 then lX3_lower_24 n K a b x' y' (nI j + 1) 0 else lX3_lower_24 n K a b x' y' (nI j + 1) 1) else lX3_lower_24 n K a b x' y' (nI j + 1) 1) = lX3_lower_24 n K a b x' y' (nI (j + 1)) (mt m' x' y') := by
      intro m' hm' x' y'
      rw [nI_1]
      unfold mt
      rcases hm' with rfl | rfl
      · rw [if_pos rfl, if_pos rfl, isL_X]
        rcases isL_01 x' y' with e | e <;> rw [e] <;> rfl
      · rw [if_neg (by decide), if_neg (by decide)]
    show ((fX8_coatOf a x y).bind fun q57 => _) = _
    unfold fX8_coatOf jX3_lower_115
    simp only [Option.bind_some]
    rw [hl m hm, hl m hm]
    by_cases h3 : 2 * x - a * y ≤ 0
    · rw [if_pos h3, if_pos h3]
      by_cases h5 : 2 * y - b * x ≤ 0
      · rw [if_pos h5, if_pos h5]
      · rw [if_neg h5, if_neg h5, nI_1]
        rw [fa_le, z0, s2] at h5
        exact ih _ _ _ (j + 1) K (mt_01 _ _ _) hx (by rw [s1]; omega) (by omega) (by rw [s1]; omega) (by omega) (by omega)
    · rw [if_neg h3, if_neg h3, nI_1]
      rw [fa_le, z0, r2] at h3
      exact ih _ _ _ (j + 1) K (mt_01 _ _ _) (by rw [r1]; omega) hy (by omega) (by rw [r1]; omega) (by omega) (by omega)
def gs (x y : Int32) : Int32 := if x < 0 then 0 else if y < 0 then 0 else 1
theorem lowM (n : Nat) {a b : Int32} (ha : r16 a) (hb : r16 b) : ∀ (k : Nat) (x y m : Int32) (j K : Nat), (m = 0 ∨ m = 1) → (-999 ≤ x.toInt ∧ x.toInt ≤ 999) → (-999 ≤ y.toInt ∧ y.toInt ≤ 999) → 0 < k → x.toInt + y.toInt + 1 < k → j + k ≤ 3000 → k ≤ K → lX9_lower_43 n a b K (gs x y) x y (nI j) m = some (lo a b k x y (nI j) m) := by
  intro k
  induction k with
  | zero => intro x y m j K _ _ _ h; omega
  | succ k ih =>
    intro x y m j K hm hx hy _ hk hj hK
    obtain ⟨K, rfl⟩ : ∃ K', K = K' + 1 := ⟨K - 1, by omega⟩
    rw [lX9_lower_43, lo]
    by_cases h1 : x < 0
    · rw [if_pos h1]; unfold gs; rw [if_pos h1, if_pos rfl]
    rw [if_neg h1]
    by_cases h2 : y < 0
    · rw [if_pos h2]; unfold gs; rw [if_neg h1, if_pos h2, if_pos rfl]
    rw [if_neg h2]
    have e0 : gs x y = 1 := by unfold gs; rw [if_neg h1, if_neg h2]
    rw [e0, if_neg (by decide)]
    have z0 : (0 : Int32).toInt = 0 := by decide
    rw [fa_lt, z0] at h1 h2
    obtain ⟨r1, r2, r3, r4⟩ := refl_i (a := a) (x := x) (y := y) ha (by omega) (by omega)
    obtain ⟨s1, s2, s3, s4⟩ := refl_i (a := b) (x := y) (y := x) hb (by omega) (by omega)
    have hl : ∀ x' y' : Int32, jX9_lower_141 n (lX9_lower_43 n a b K) x' y' (nI j) m = lX9_lower_43 n a b K (gs x' y') x' y' (nI (j + 1)) (mt m x' y') := by
      intro x' y'
      unfold jX9_lower_141
      rw [isL_M, Option.bind_some, or_mt hm, nI_1]
      have e1 : ∀ q : Option (Int32 × Int32 × Int32 × Int32), zk (mt m x' y') q = q := fun q => if_pos (mt_01 m x' y')
      rw [e1]
      unfold gs
      by_cases g1 : x' < 0
      · rw [if_pos g1, if_pos g1]
      · rw [if_neg g1, if_neg g1]
        by_cases g2 : y' < 0
        · rw [if_pos g2, if_pos g2]
        · rw [if_neg g2, if_neg g2]
    have c0 : fX9_coatOf 0 x y a b = some (2 * x - a * y) := by unfold fX9_coatOf; rw [if_pos rfl]
    have c1 : fX9_coatOf 1 x y a b = some (2 * y - b * x) := by unfold fX9_coatOf; rw [if_neg (by decide)]
    rw [c0, c1]
    simp only [Option.bind_some]
    unfold jX9_lower_88
    simp only [hl]
    by_cases h3 : 2 * x - a * y ≤ 0
    · rw [if_pos h3, if_pos h3]
      by_cases h5 : 2 * y - b * x ≤ 0
      · rw [if_pos h5, if_pos h5, if_pos trivial]
      · rw [if_neg h5, if_neg h5, if_neg (by decide), if_neg (by decide), nI_1]
        rw [fa_le, z0, s2] at h5
        exact ih _ _ _ (j + 1) K (mt_01 _ _ _) hx (by rw [s1]; omega) (by omega) (by rw [s1]; omega) (by omega) (by omega)
    · rw [if_neg h3, if_neg h3, if_neg (by decide), if_pos trivial, nI_1]
      rw [fa_le, z0, r2] at h3
      exact ih _ _ _ (j + 1) K (mt_01 _ _ _) (by rw [r1]; omega) hy (by omega) (by rw [r1]; omega) (by omega) (by omega)
/-- what a place of x, y not below 0 is lowered to, how often it is carried, whether a letter was met -/
def low (a b x y : Int32) : Int32 × Int32 × Int32 × Int32 := lo a b 2000 x y 0 (isL x y)
theorem low_X {n : Nat} (hn : 2000 ≤ n) {a b x y : Int32} (ha : r16 a) (hb : r16 b) (hx : 0 ≤ x.toInt ∧ x.toInt ≤ 999) (hy : 0 ≤ y.toInt ∧ y.toInt ≤ 999) (c1 c2 c3 c4 : Int32) : fX3_lower n a b x y c1 c2 c3 c4 = some (low a b x y) := by
  unfold fX3_lower low
  rw [isL_X, Option.bind_some]
  have e1 : ∀ q : Option (Int32 × Int32 × Int32 × Int32), zk (isL x y) q = q := fun q => if_pos (isL_01 x y)
  rw [e1]
  exact lowX n ha hb 2000 x y _ 0 n (isL_01 x y) (by omega) (by omega) (by omega) (by omega) (by omega) hn
theorem low_M {n : Nat} (hn : 2000 ≤ n) {a b x y : Int32} (ha : r16 a) (hb : r16 b) (hx : 0 ≤ x.toInt ∧ x.toInt ≤ 999) (hy : 0 ≤ y.toInt ∧ y.toInt ≤ 999) (c1 c2 c3 c4 : Int32) : fX9_lower n x y a b c1 c2 c3 c4 = some (low a b x y) := by
  unfold fX9_lower low
  rw [isL_M, Option.bind_some]
  have e1 : ∀ q : Option (Int32 × Int32 × Int32 × Int32), zk (isL x y) q = q := fun q => if_pos (isL_01 x y)
  rw [e1]
  have z0 : (0 : Int32).toInt = 0 := by decide
  have g1 : ¬ x < 0 := by rw [fa_lt]; omega
  have g2 : ¬ y < 0 := by rw [fa_lt]; omega
  rw [if_neg g1, if_neg g2]
  have e0 : gs x y = 1 := by unfold gs; rw [if_neg g1, if_neg g2]
  have h := lowM n ha hb 2000 x y _ 0 n (isL_01 x y) (by omega) (by omega) (by omega) (by omega) (by omega) hn
  rw [e0] at h
  exact h
def ab (x : Int32) : Int32 := if 0 ≤ x then x else 0 - x
/-- SORT -/
def srt (a b x y : Int32) : Int32 := if (0 < x ∧ y < 0) ∨ (x < 0 ∧ 0 < y) then 0 else if (low a b (ab x) (ab y)).2.2.2 = 0 then (if (low a b (ab x) (ab y)).1 ≤ 0 then 0 else if (low a b (ab x) (ab y)).2.1 ≤ 0 then 0 else 2) else 1
theorem ab_i {x : Int32} (h : -999 ≤ x.toInt ∧ x.toInt ≤ 999) : 0 ≤ (ab x).toInt ∧ (ab x).toInt ≤ 999 := by
  unfold ab
  have z0 : (0 : Int32).toInt = 0 := by decide
  by_cases h1 : 0 ≤ x
  · rw [if_pos h1]; rw [fa_le] at h1; omega
  · rw [if_neg h1]; rw [fa_le] at h1
    rw [fb_subI (by omega) (by omega)]; omega
theorem sort_X {n : Nat} (hn : 2000 ≤ n) {a b x y : Int32} (ha : r16 a) (hb : r16 b) (hp : isPl x y) (c1 c2 c3 c4 : Int32) : ∃ d1 d2 d3 d4 : Int32, fX3_sortOf n a b x y c1 c2 c3 c4 = some (srt a b x y, d1, d2, d3, d4) := by
  have hj : jX3_sortOf_20 n a b x y c1 c2 c3 c4 = some ((if (low a b (ab x) (ab y)).2.2.2 = 0 then (if (low a b (ab x) (ab y)).1 ≤ 0 then 0 else if (low a b (ab x) (ab y)).2.1 ≤ 0 then 0 else 2) else 1), (low a b (ab x) (ab y)).1, (low a b (ab x) (ab y)).2.1, (low a b (ab x) (ab y)).2.2.1, (low a b (ab x) (ab y)).2.2.2) := by
    unfold jX3_sortOf_20
    have e := low_X hn ha hb (ab_i hp.1) (ab_i hp.2) c1 c2 c3 c4
    rw [show (if 0 ≤ x then x else 0 - x) = ab x from rfl, show (if 0 ≤ y then y else 0 - y) = ab y from rfl, e, Option.bind_some]
    generalize low a b (ab x) (ab y) = L
    split
    · split
      · rfl
      · split <;> rfl
    · rfl
  unfold fX3_sortOf srt
  have z0 : (0 : Int32).toInt = 0 := by decide
  by_cases h1 : (0 < x ∧ y < 0) ∨ (x < 0 ∧ 0 < y)
  · rw [if_pos h1]
    refine ⟨c1, c2, c3, c4, ?_⟩
    rcases h1 with ⟨p1, p2⟩ | ⟨p1, p2⟩
    · rw [fa_lt] at p1 p2
      rw [if_neg (by rw [fa_le]; omega), if_pos (by rw [fa_lt]; omega)]
    · rw [fa_lt] at p1 p2
      rw [if_pos (by rw [fa_le]; omega), if_neg (by rw [fa_le]; omega), if_neg (by rw [fa_le]; omega)]
  · rw [if_neg h1]
    refine ⟨(low a b (ab x) (ab y)).1, (low a b (ab x) (ab y)).2.1, (low a b (ab x) (ab y)).2.2.1, (low a b (ab x) (ab y)).2.2.2, ?_⟩
    · rw [hj]
      rw [fa_lt, fa_lt, fa_lt, fa_lt, z0] at h1
      by_cases q1 : x ≤ 0
      · rw [if_pos q1]
        by_cases q2 : 0 ≤ x
        · rw [if_pos q2]
        · rw [if_neg q2, if_pos]
          rw [fa_le] at *; omega
      · rw [if_neg q1, if_neg]
        · by_cases q2 : 0 ≤ x
          · rw [if_pos q2]
          · rw [fa_le] at *; omega
        · rw [fa_le] at q1; rw [fa_lt]; omega
theorem low_00 (a b : Int32) : low a b 0 0 = (0, 0, 0, 0) := by
  unfold low
  show lo a b (1999 + 1) 0 0 0 (isL 0 0) = _
  rw [lo, if_neg (by decide), if_neg (by decide)]
  have e1 : (2 * 0 - a * 0 : Int32) ≤ 0 := by rw [Int32.mul_zero, Int32.mul_zero]; decide
  have e2 : (2 * 0 - b * 0 : Int32) ≤ 0 := by rw [Int32.mul_zero, Int32.mul_zero]; decide
  rw [if_pos e1, if_pos e2]
  rfl
theorem sort_M {n : Nat} (hn : 2000 ≤ n) {a b x y : Int32} (ha : r16 a) (hb : r16 b) (hp : isPl x y) (c1 c2 c3 c4 : Int32) : ∃ d1 d2 d3 d4 : Int32, fX9_sortOf n x y a b c1 c2 c3 c4 = some (srt a b x y, d1, d2, d3, d4) := by
  have hj : jX9_sortOf_26 n a b x y c1 c2 c3 c4 = some ((if (low a b (ab x) (ab y)).2.2.2 = 0 then (if (low a b (ab x) (ab y)).1 ≤ 0 then 0 else if (low a b (ab x) (ab y)).2.1 ≤ 0 then 0 else 2) else 1), (low a b (ab x) (ab y)).1, (low a b (ab x) (ab y)).2.1, (low a b (ab x) (ab y)).2.2.1, (low a b (ab x) (ab y)).2.2.2) := by
    unfold jX9_sortOf_26
    have e := low_M hn ha hb (ab_i hp.1) (ab_i hp.2) c1 c2 c3 c4
    rw [show (if 0 ≤ x then x else 0 - x) = ab x from rfl, show (if 0 ≤ y then y else 0 - y) = ab y from rfl, e, Option.bind_some]
    generalize low a b (ab x) (ab y) = L
    split
    · split
      · rfl
      · split <;> rfl
    · rfl
  have z0 : (0 : Int32).toInt = 0 := by decide
  unfold fX9_sortOf srt jX9_sortOf_8
  by_cases h0 : x = 0 ∧ y = 0
  · obtain ⟨rfl, rfl⟩ := h0
    refine ⟨c1, c2, c3, c4, ?_⟩
    rw [if_pos (by decide), if_pos (by decide), if_pos rfl, if_pos rfl, if_neg (by decide)]
    have e : ab 0 = 0 := rfl
    rw [e, low_00]
    rfl
  by_cases h1 : (0 < x ∧ y < 0) ∨ (x < 0 ∧ 0 < y)
  · rw [if_pos h1]
    refine ⟨c1, c2, c3, c4, ?_⟩
    rcases h1 with ⟨p1, p2⟩ | ⟨p1, p2⟩
    · rw [fa_lt] at p1 p2
      rw [if_neg (by rw [fa_le]; omega), if_pos (by rw [fa_lt]; omega)]
    · have p2' := p2
      rw [fa_lt] at p1 p2
      rw [if_pos (by rw [fa_le]; omega), if_neg (by rw [fa_le]; omega), if_pos p2']
  · rw [if_neg h1, hj]
    refine ⟨(low a b (ab x) (ab y)).1, (low a b (ab x) (ab y)).2.1, (low a b (ab x) (ab y)).2.2.1, (low a b (ab x) (ab y)).2.2.2, ?_⟩
    · rw [fa_lt, fa_lt, fa_lt, fa_lt, z0] at h1
      have hz : ∀ T : Option (Int32 × Int32 × Int32 × Int32 × Int32), (if x = 0 then (if y = 0 then some (0, c1, c2, c3, c4) else T) else T) = T := by
        intro T
        by_cases e1 : x = 0
        · rw [if_pos e1]
          by_cases e2 : y = 0
          · exact absurd ⟨e1, e2⟩ h0
          · rw [if_neg e2]
        · rw [if_neg e1]
      rw [hz]
      by_cases q1 : x ≤ 0
      · rw [if_pos q1]
        by_cases q2 : 0 ≤ x
        · rw [if_pos q2]
        · rw [if_neg q2, if_neg]
          rw [fa_le] at *; rw [fa_lt]; omega
      · rw [if_neg q1, if_neg]
        · by_cases q2 : 0 ≤ x
          · rw [if_pos q2]
          · rw [fa_le] at *; omega
        · rw [fa_le] at q1; rw [fa_lt]; omega
