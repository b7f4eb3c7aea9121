-- ===== numbers from 0 on as ints; looked-at places =====
theorem ck_nI {α : Type} {j N : Nat} (h : j < N) (hN : N < 2 ^ 31) (q : Option α) : ck (nI j) N q = q := ck_in (vp_in_nI h hN)
theorem m3 (k : Nat) : (3 : Int32) * nI k = nI (3 * k) := pk_mul 3 k
theorem nI_2 (k : Nat) : nI k + 2 = nI (k + 2) := nI_add k 2
theorem zk0 {α : Type} (q : Option α) : zk 0 q = q := if_pos (Or.inl rfl)
theorem zk1 {α : Type} (q : Option α) : zk 1 q = q := if_pos (Or.inr rfl)
-- ===== table, place, carry =====
theorem pr_table (p1 p2 : Int32) {a b : Int32} (ha : r16 a) (hb : r16 b) : ∃ r a' b', fX8_table p1 p2 a b = some (r, a', b') ∧ fX9_table p1 p2 a b = some (r, a', b') ∧ r16 a' ∧ r16 b' := by
  unfold fX8_table fX9_table
  rw [in_eq p1 1 6 (by decide) (by decide), in_eq p2 1 6 (by decide) (by decide)]
  rcases isIn_c p1 1 6 with ⟨h, h1, h2⟩ | ⟨h, -⟩
  · rw [h]
    rcases isIn_c p2 1 6 with ⟨g, g1, g2⟩ | ⟨g, -⟩
    · rw [g]
      exact ⟨_, p1, p2, rfl, rfl, ⟨h1, h2⟩, ⟨g1, g2⟩⟩
    · rw [g]
      exact ⟨_, a, b, rfl, rfl, ha, hb⟩
  · rw [h]
    exact ⟨_, a, b, rfl, rfl, ha, hb⟩
theorem sortNow_X {n : Nat} (hn : 2000 ≤ n) {a b x y : Int32} (ha : r16 a) (hb : r16 b) (hp : isPl x y) (c1 c2 c3 c4 : Int32) : ∃ d1 d2 d3 d4 : Int32, fX8_sortNow n x y a b c1 c2 c3 c4 = some (srt a b x y, d1, d2, d3, d4) := by
  obtain ⟨d1, d2, d3, d4, e⟩ := sort_X hn ha hb hp c1 c2 c3 c4
  exact ⟨d1, d2, d3, d4, by unfold fX8_sortNow; rw [e]; rfl⟩
theorem pr_place {n : Nat} (hn : 2000 ≤ n) (p1 p2 : Int32) {a b x y : Int32} (ha : r16 a) (hb : r16 b) (hp : isPl x y) (c1 c2 c3 c4 m1 m2 m3 m4 : Int32) : ∃ r x' y' d1 d2 d3 d4 e1 e2 e3 e4, fX8_place n p1 p2 a b x y c1 c2 c3 c4 = some (r, x', y', d1, d2, d3, d4) ∧ fX9_place n p1 p2 a b x y m1 m2 m3 m4 = some (r, x', y', e1, e2, e3, e4) ∧ isPl x' y' := by
  unfold fX8_place fX9_place
  rw [isPlace_eq]
  rcases isPlace_c p1 p2 with ⟨h, h1⟩ | ⟨h, -⟩
  · rw [h]
    obtain ⟨d1, d2, d3, d4, e⟩ := sortNow_X hn ha hb h1 c1 c2 c3 c4
    obtain ⟨e1, e2, e3, e4, g⟩ := sort_M hn ha hb h1 m1 m2 m3 m4
    refine ⟨srt a b p1 p2, p1, p2, d1, d2, d3, d4, e1, e2, e3, e4, ?_, ?_, h1⟩
    · simp [e]
    · simp [g]
  · rw [h]
    exact ⟨_, x, y, _, _, _, _, _, _, _, _, rfl, rfl, hp⟩
theorem carry_eq (i a b x y : Int32) : fX9_carries i a b x y = fX2_carryBy i a b x y := by
  unfold fX9_carries fX2_carryBy jX9_carries_25 jX2_carryBy_25 jX9_carries_51 jX2_carryBy_51
  simp only [isPlace_eq]
theorem carry_c (i a b : Int32) {x y : Int32} (hp : isPl x y) : ∃ r x' y', fX2_carryBy i a b x y = some (r, x', y') ∧ (r = 0 ∨ r = 1) ∧ isPl x' y' ∧ (r = 0 → x' = x ∧ y' = y) := by
  unfold fX2_carryBy jX2_carryBy_25 jX2_carryBy_51
  have key : ∀ u v : Int32, ∃ r x' y' : Int32, ((fX8_isPlace u v).bind fun q54 => (if q54 = 0 then some (0, x, y) else some (1, u, v))) = some (r, x', y') ∧ (r = 0 ∨ r = 1) ∧ isPl x' y' ∧ (r = 0 → x' = x ∧ y' = y) := by
    intro u v
    rcases isPlace_c u v with ⟨h, h1⟩ | ⟨h, -⟩
    · rw [h]; exact ⟨1, u, v, rfl, Or.inr rfl, h1, fun q => absurd q (by decide)⟩
    · rw [h]; exact ⟨0, x, y, rfl, Or.inl rfl, hp, fun _ => ⟨rfl, rfl⟩⟩
  by_cases h : i = 0
  · simp only [if_pos h]; exact key _ _
  · simp only [if_neg h]; exact key _ _
theorem pr_carry (i : Int32) {a b x y : Int32} (hp : isPl x y) : ∃ r x' y', fX8_carry i a b x y = some (r, x', y') ∧ fX9_carry i a b x y = some (r, x', y') ∧ isPl x' y' := by
  unfold fX8_carry fX9_carry
  rw [isSide_eq, carry_eq]
  rcases isIn_c i 0 1 with ⟨h, -⟩ | ⟨h, -⟩
  · rw [h]
    obtain ⟨r, x', y', e, hr, hp', -⟩ := carry_c i a b hp
    rw [e]
    rcases hr with rfl | rfl
    · exact ⟨-3, x', y', rfl, rfl, hp'⟩
    · refine ⟨x' + y' + 5000, x', y', rfl, ?_, hp'⟩
      show some (5000 + x' + y', x', y') = _
      rw [Int32.add_comm 5000 x', Int32.add_assoc, Int32.add_comm 5000 y', ← Int32.add_assoc]
  · rw [h]
    exact ⟨-1, x, y, rfl, rfl, hp⟩
-- ===== what is told =====
theorem pr_told {n : Nat} (hn : 2000 ≤ n) (p : Int32) {a b x y : Int32} (ha : r16 a) (hb : r16 b) (hp : isPl x y) (nu c1 c2 c3 c4 m1 m2 m3 m4 : Int32) : ∃ r d1 d2 d3 d4 e1 e2 e3 e4, fX8_told n p a b x y nu c1 c2 c3 c4 = some (r, d1, d2, d3, d4) ∧ fX9_told_ n p a b x y m1 m2 m3 m4 nu = some (r, e1, e2, e3, e4) := by
  obtain ⟨d1, d2, d3, d4, e⟩ := sortNow_X hn ha hb hp c1 c2 c3 c4
  obtain ⟨e1, e2, e3, e4, g⟩ := sort_M hn ha hb hp m1 m2 m3 m4
  unfold fX8_told fX9_told_
  by_cases h0 : p = 0
  · simp only [if_pos h0]; exact ⟨_, _, _, _, _, _, _, _, _, rfl, rfl⟩
  simp only [if_neg h0]
  by_cases h1 : p = 1
  · simp only [if_pos h1]; exact ⟨_, _, _, _, _, _, _, _, _, rfl, rfl⟩
  simp only [if_neg h1]
  by_cases h2 : p = 2
  · simp only [if_pos h2]
    have hk : fX9_kind a b = fX8_kindOf a b := rfl
    rw [hk]
    cases hq : fX8_kindOf a b with
    | none =>
      exfalso
      unfold fX8_kindOf at hq
      split at hq
      · split at hq <;> cases hq
      · cases hq
    | some q => exact ⟨_, _, _, _, _, _, _, _, _, rfl, rfl⟩
  simp only [if_neg h2]
  by_cases h3 : p = 3
  · simp only [if_pos h3]; exact ⟨_, _, _, _, _, _, _, _, _, rfl, by rw [Int32.add_comm]⟩
  simp only [if_neg h3]
  by_cases h4 : p = 4
  · simp only [if_pos h4]; exact ⟨_, _, _, _, _, _, _, _, _, rfl, by rw [Int32.add_comm]⟩
  simp only [if_neg h4]
  by_cases h5 : p = 5
  · simp only [if_pos h5]
    rw [e, g]
    exact ⟨_, _, _, _, _, _, _, _, _, rfl, rfl⟩
  simp only [if_neg h5]
  by_cases h6 : p = 6
  · simp only [if_pos h6]; exact ⟨_, _, _, _, _, _, _, _, _, rfl, rfl⟩
  simp only [if_neg h6]
  exact ⟨_, _, _, _, _, _, _, _, _, rfl, rfl⟩
theorem norm_eq (a b x y : Int32) : fX9_normOf x.toInt64 y.toInt64 a b = fX8_normOf a b x y := by
  unfold fX9_normOf fX8_normOf fX8_productOf
  rw [Option.bind_some]
  generalize x.toInt64 = x; generalize y.toInt64 = y; generalize a.toInt64 = a; generalize b.toInt64 = b
  congr 3
  grind
theorem pr_norm (p1 p2 a b : Int32) : ∃ r, fX8_norm p1 p2 a b = some r ∧ fX9_norm p1 p2 a b = some r := by
  unfold fX8_norm fX9_norm
  rw [isPlace_eq, norm_eq]
  rcases isPlace_c p1 p2 with ⟨h, -⟩ | ⟨h, -⟩
  · rw [h]; exact ⟨_, rfl, rfl⟩
  · rw [h]; exact ⟨_, rfl, rfl⟩
theorem pr_product (p1 p2 p3 p4 a b : Int32) : ∃ r, fX8_product p1 p2 p3 p4 a b = some r ∧ fX9_product p1 p2 p3 p4 a b = some r := by
  unfold fX8_product fX9_product
  rw [isPlace_eq, isPlace_eq]
  rcases isPlace_c p1 p2 with ⟨h, -⟩ | ⟨h, -⟩
  · rw [h]
    rcases isPlace_c p3 p4 with ⟨g, -⟩ | ⟨g, -⟩
    · rw [g]; exact ⟨_, rfl, rfl⟩
    · rw [g]; exact ⟨_, rfl, rfl⟩
  · rw [h]; exact ⟨_, rfl, rfl⟩
theorem pr_coat (i p1 p2 a b : Int32) : ∃ r, fX8_coat i p1 p2 a b = some r ∧ fX9_coat i p1 p2 a b = some r := by
  unfold fX8_coat fX9_coat
  rw [isSide_eq, isPlace_eq]
  rcases isIn_c i 0 1 with ⟨h, -⟩ | ⟨h, -⟩
  · rw [h]
    rcases isPlace_c p1 p2 with ⟨g, -⟩ | ⟨g, -⟩
    · rw [g]
      unfold fX9_coatOf
      by_cases e : i = 0
      · simp only [if_pos e]
        exact ⟨_, rfl, by rw [show (10000 : Int32) = 10000 from rfl]; simp [Int32.add_comm]⟩
      · simp only [if_neg e]
        exact ⟨_, rfl, by simp [Int32.add_comm]⟩
    · rw [g]; exact ⟨_, rfl, rfl⟩
  · rw [h]; exact ⟨_, rfl, rfl⟩
theorem pr_sort {n : Nat} (hn : 2000 ≤ n) (p1 p2 : Int32) {a b : Int32} (ha : r16 a) (hb : r16 b) (c1 c2 c3 c4 m1 m2 m3 m4 : Int32) : ∃ r d1 d2 d3 d4 e1 e2 e3 e4, fX8_sort n p1 p2 a b c1 c2 c3 c4 = some (r, d1, d2, d3, d4) ∧ fX9_sort n p1 p2 a b m1 m2 m3 m4 = some (r, e1, e2, e3, e4) := by
  unfold fX8_sort fX9_sort
  rw [isPlace_eq]
  rcases isPlace_c p1 p2 with ⟨h, h1⟩ | ⟨h, -⟩
  · rw [h]
    obtain ⟨d1, d2, d3, d4, e⟩ := sortNow_X hn ha hb h1 c1 c2 c3 c4
    obtain ⟨e1, e2, e3, e4, g⟩ := sort_M hn ha hb h1 m1 m2 m3 m4
    exact ⟨srt a b p1 p2, d1, d2, d3, d4, e1, e2, e3, e4, by simp [e], by simp [g]⟩
  · rw [h]; exact ⟨_, _, _, _, _, _, _, _, _, rfl, rfl⟩
theorem pr_lowered {n : Nat} (hn : 2000 ≤ n) (p1 p2 p3 : Int32) {a b : Int32} (ha : r16 a) (hb : r16 b) (c1 c2 c3 c4 m1 m2 m3 m4 : Int32) : ∃ r d1 d2 d3 d4 e1 e2 e3 e4, fX8_lowered n p1 p2 p3 a b c1 c2 c3 c4 = some (r, d1, d2, d3, d4) ∧ fX9_lowered n p1 p2 p3 a b m1 m2 m3 m4 = some (r, e1, e2, e3, e4) := by
  unfold fX8_lowered fX9_lowered
  rw [in_eq p1 0 999 (by decide) (by decide), in_eq p2 0 999 (by decide) (by decide), in_eq p3 0 2 (by decide) (by decide)]
  have z0 : (0 : Int32).toInt = 0 := by decide
  have z9 := t999
  rcases isIn_c p1 0 999 with ⟨h, h1, h2⟩ | ⟨h, -⟩
  · rw [h]
    rcases isIn_c p2 0 999 with ⟨g, g1, g2⟩ | ⟨g, -⟩
    · rw [g]
      rcases isIn_c p3 0 2 with ⟨k, -⟩ | ⟨k, -⟩
      · rw [k, low_X hn ha hb (by omega) (by omega), low_M hn ha hb (by omega) (by omega)]
        have e10 : ¬ (1 : Int32) = 0 := by decide
        generalize low a b p1 p2 = L
        simp only [Option.bind_some, if_neg e10]
        by_cases e2 : p3 = 2
        · simp only [if_pos e2]; exact ⟨_, _, _, _, _, _, _, _, _, rfl, rfl⟩
        · simp only [if_neg e2]
          by_cases e3 : p3 = 0
          · simp only [if_pos e3]; exact ⟨_, _, _, _, _, _, _, _, _, rfl, by rw [Int32.add_comm]⟩
          · simp only [if_neg e3]; exact ⟨_, _, _, _, _, _, _, _, _, rfl, by rw [Int32.add_comm]⟩
      · rw [k]; exact ⟨_, _, _, _, _, _, _, _, _, rfl, rfl⟩
    · rw [g]; exact ⟨_, _, _, _, _, _, _, _, _, rfl, rfl⟩
  · rw [h]; exact ⟨_, _, _, _, _, _, _, _, _, rfl, rfl⟩
