-- ===== string =====
theorem isL_n {x y : Int32} (h : ¬ ((x = 1 ∧ y = 0) ∨ (x = 0 ∧ y = 1))) : isL x y = 0 := if_neg h
theorem low_far_x {a b x y : Int32} (ha : r16 a) (hx : 0 ≤ x.toInt ∧ x.toInt ≤ 999) (hy : 0 ≤ y.toInt ∧ y.toInt ≤ 999) (h : a.toInt * y.toInt < x.toInt) (h1 : ¬ (x = 1 ∧ y = 0)) : (low a b x y).2.2.2 = 0 ∧ (low a b x y).1 ≤ 0 := by
  obtain ⟨e1, e2, e3, e4⟩ := refl_i ha hx hy
  have z0 := ti0
  have nl : isL x y = 0 := isL_n (fun q => by
    rcases q with q | ⟨q, -⟩
    · exact h1 q
    · rw [q] at h; omega)
  have hs : low a b x y = lo a b 1999 (a * y - x) y (0 + 1) (mt (isL x y) (a * y - x) y) := by
    show (if x < 0 then _ else if y < 0 then _ else if 2 * x - a * y ≤ 0 then _ else _) = _
    rw [if_neg (by rw [fa_lt]; omega), if_neg (by rw [fa_lt]; omega), if_neg (by rw [fa_le, e2]; omega)]
  have hn : (a * y - x) < 0 := by rw [fa_lt, e1]; omega
  have hm : mt (isL x y) (a * y - x) y = 0 := by
    rw [nl]
    show (if (0 : Int32) = 0 then isL (a * y - x) y else 1) = 0
    rw [if_pos rfl]
    apply isL_n
    rw [fa_lt] at hn
    have t := ti1
    rintro (⟨q, -⟩ | ⟨q, -⟩) <;> rw [q] at hn <;> omega
  have hl : low a b x y = (a * y - x, y, 0 + 1, 0) := by
    rw [hs, hm]
    show (if a * y - x < 0 then _ else _) = _
    rw [if_pos hn]
  rw [hl]
  exact ⟨rfl, by rw [fa_le]; rw [fa_lt] at hn; show (a * y - x).toInt ≤ _; omega⟩
theorem low_far_y {a b x y : Int32} (ha : r16 a) (hb : r16 b) (hx : 0 ≤ x.toInt ∧ x.toInt ≤ 999) (hy : 0 ≤ y.toInt ∧ y.toInt ≤ 999) (h : b.toInt * x.toInt < y.toInt) (h1 : ¬ (x = 0 ∧ y = 1)) : (low a b x y).2.2.2 = 0 ∧ ((low a b x y).1 ≤ 0 ∨ (low a b x y).2.1 ≤ 0) := by
  obtain ⟨e1, e2, e3, e4⟩ := refl_i ha hx hy
  obtain ⟨f1, f2, f3, f4⟩ := refl_i hb hy hx
  have z0 := ti0; have z1 := ti1
  have nl : isL x y = 0 := isL_n (fun q => by
    rcases q with ⟨q, q'⟩ | q
    · rw [q'] at h; omega
    · exact h1 q)
  by_cases c : 2 * x - a * y ≤ 0
  · have hn : (b * x - y) < 0 := by rw [fa_lt, f1]; omega
    have hm : mt (isL x y) x (b * x - y) = 0 := by
      rw [nl]
      show (if (0 : Int32) = 0 then isL x (b * x - y) else 1) = 0
      rw [if_pos rfl]
      apply isL_n
      rw [fa_lt] at hn
      rintro (⟨-, q⟩ | ⟨-, q⟩) <;> rw [q] at hn <;> omega
    have hs : low a b x y = lo a b 1999 x (b * x - y) (0 + 1) (mt (isL x y) x (b * x - y)) := by
      show (if x < 0 then _ else if y < 0 then _ else if 2 * x - a * y ≤ 0 then (if 2 * y - b * x ≤ 0 then _ else _) else _) = _
      rw [if_neg (by rw [fa_lt]; omega), if_neg (by rw [fa_lt]; omega), if_pos c, if_neg (by rw [fa_le, f2]; omega)]
    have hl : low a b x y = (x, b * x - y, 0 + 1, 0) := by
      rw [hs, hm]
      show (if x < 0 then _ else if b * x - y < 0 then _ else _) = _
      rw [if_neg (by rw [fa_lt]; omega), if_pos hn]
    rw [hl]
    exact ⟨rfl, Or.inr (by rw [fa_le]; rw [fa_lt] at hn; show (b * x - y).toInt ≤ _; omega)⟩
  · have c' := c
    rw [fa_le, e2, z0] at c'
    -- then a = 1 and b = 1
    have hx1 : 1 ≤ x.toInt := by omega
    have hyx : x.toInt < y.toInt := by
      have : x.toInt ≤ b.toInt * x.toInt := by
        have := Int.mul_le_mul_of_nonneg_right hb.1 hx.1
        omega
      omega
    have a1 : a.toInt = 1 := by
      have h2 := ha.1
      by_cases q : 2 ≤ a.toInt
      · have := Int.mul_le_mul_of_nonneg_right q hy.1
        omega
      · omega
    have b1 : b.toInt = 1 := by
      have h2 := hb.1
      rw [a1] at c'
      by_cases q : 2 ≤ b.toInt
      · have := Int.mul_le_mul_of_nonneg_right q hx.1
        omega
      · omega
    rw [a1] at e1 e2 c'
    have hx' : 0 ≤ (a * y - x).toInt ∧ (a * y - x).toInt ≤ 999 := by omega
    obtain ⟨g1, g2, -, -⟩ := refl_i ha hx' hy
    obtain ⟨k1, k2, -, -⟩ := refl_i hb hy hx'
    rw [a1] at g1 g2
    rw [b1] at k1 k2
    have hn : (b * (a * y - x) - y) < 0 := by rw [fa_lt, k1]; omega
    have m1 : mt (isL x y) (a * y - x) y = 0 := by
      rw [nl]
      show (if (0 : Int32) = 0 then isL (a * y - x) y else 1) = 0
      rw [if_pos rfl]
      apply isL_n
      rintro (⟨-, q⟩ | ⟨q, -⟩)
      · rw [q] at hyx; omega
      · rw [q] at e1; omega
    have m2 : mt 0 (a * y - x) (b * (a * y - x) - y) = 0 := by
      show (if (0 : Int32) = 0 then isL (a * y - x) (b * (a * y - x) - y) else 1) = 0
      rw [if_pos rfl]
      apply isL_n
      rw [fa_lt] at hn
      rintro (⟨-, q⟩ | ⟨-, q⟩) <;> rw [q] at hn <;> omega
    have hs : low a b x y = lo a b 1999 (a * y - x) y (0 + 1) (mt (isL x y) (a * y - x) y) := by
      show (if x < 0 then _ else if y < 0 then _ else if 2 * x - a * y ≤ 0 then _ else _) = _
      rw [if_neg (by rw [fa_lt]; omega), if_neg (by rw [fa_lt]; omega), if_neg c]
    have hs2 : low a b x y = lo a b 1998 (a * y - x) (b * (a * y - x) - y) (0 + 1 + 1) (mt 0 (a * y - x) (b * (a * y - x) - y)) := by
      rw [hs, m1]
      show (if a * y - x < 0 then _ else if y < 0 then _ else if 2 * (a * y - x) - a * y ≤ 0 then (if 2 * y - b * (a * y - x) ≤ 0 then _ else _) else _) = _
      rw [if_neg (by rw [fa_lt]; omega), if_neg (by rw [fa_lt]; omega), if_pos (by rw [fa_le, g2]; omega), if_neg (by rw [fa_le, k2]; omega)]
    have hl : low a b x y = (a * y - x, b * (a * y - x) - y, 0 + 1 + 1, 0) := by
      rw [hs2, m2]
      show (if a * y - x < 0 then _ else if b * (a * y - x) - y < 0 then _ else _) = _
      rw [if_neg (by rw [fa_lt]; omega), if_pos hn]
    rw [hl]
    exact ⟨rfl, Or.inr (by rw [fa_le]; rw [fa_lt] at hn; show (b * (a * y - x) - y).toInt ≤ _; omega)⟩
theorem srt_far_x {a b x y : Int32} (ha : r16 a) (hp : isPl x y) (h : a.toInt * (ab y).toInt < (ab x).toInt) (h1 : ¬ (ab x = 1 ∧ ab y = 0)) : srt a b x y = 0 := by
  obtain ⟨l1, l2⟩ := low_far_x (b := b) ha (ab_i hp.1) (ab_i hp.2) h h1
  unfold srt
  by_cases q : (0 < x ∧ y < 0) ∨ (x < 0 ∧ 0 < y)
  · rw [if_pos q]
  · rw [if_neg q, if_pos l1, if_pos l2]
theorem srt_far_y {a b x y : Int32} (ha : r16 a) (hb : r16 b) (hp : isPl x y) (h : b.toInt * (ab x).toInt < (ab y).toInt) (h1 : ¬ (ab x = 0 ∧ ab y = 1)) : srt a b x y = 0 := by
  obtain ⟨l1, l2⟩ := low_far_y ha hb (ab_i hp.1) (ab_i hp.2) h h1
  unfold srt
  by_cases q : (0 < x ∧ y < 0) ∨ (x < 0 ∧ 0 < y)
  · rw [if_pos q]
  · rw [if_neg q, if_pos l1]
    by_cases q1 : (low a b (ab x) (ab y)).1 ≤ 0
    · rw [if_pos q1]
    · rw [if_neg q1, if_pos (l2.resolve_left q1)]
theorem srt_00 (a b : Int32) : srt a b 0 0 = 0 := by
  have hl : low a b 0 0 = (0, 0, 0, 0) := by
    show lo a b (1999 + 1) 0 0 0 (isL 0 0) = _
    rw [lo, if_neg (by decide), if_neg (by decide), if_pos (by rw [Int32.mul_zero, Int32.mul_zero]; decide), if_pos (by rw [Int32.mul_zero, Int32.mul_zero]; decide)]
    rfl
  unfold srt
  rw [if_neg (by decide), show ab 0 = 0 by decide, hl]
  rfl
theorem ab_t {x : Int32} (h : -999 ≤ x.toInt ∧ x.toInt ≤ 999) : ((ab x).toInt = x.toInt ∧ 0 ≤ x.toInt) ∨ ((ab x).toInt = - x.toInt ∧ x.toInt < 0) := by
  unfold ab
  have z0 := ti0
  by_cases h1 : 0 ≤ x
  · rw [if_pos h1]; rw [fa_le] at h1; omega
  · rw [if_neg h1]; rw [fa_le] at h1
    rw [fb_subI (by omega) (by omega)]; omega
theorem add_k (x d : Int32) (k : Nat) : x + nI k * d + d = x + nI (k + 1) * d := by
  have e : nI (k + 1) = nI k + 1 := (nI_p k).symm
  rw [e]
  generalize nI k = z
  grind
theorem ahead_l {n m : Nat} (hn : 2000 ≤ n) (hm : 2000 ≤ m) {a b : Int32} (ha : r16 a) (hb : r16 b) (x y dx dy i s : Int32) (hi : (i = 0 ∧ dx = s ∧ dy = 0) ∨ (i = 1 ∧ dx = 0 ∧ dy = s)) (hpl : ∀ k, k ≤ 700 → isPl (x + nI k * dx) (y + nI k * dy)) (hend : srt a b (x + nI 700 * dx) (y + nI 700 * dy) = 0) : ∀ (d k K M : Nat) (c c1 c2 c3 c4 m1 m2 m3 m4 : Int32), k + d = 700 → d < K → d < M → ∃ r d1 d2 d3 d4 e1 e2 e3 e4, lX8_rootsAhead_6 n a b K x y dx dy c (nI k) c1 c2 c3 c4 = some (r, d1, d2, d3, d4) ∧ lX9_along_32 m a b M i s c (x + nI k * dx) (y + nI k * dy) m1 m2 m3 m4 = some (r, e1, e2, e3, e4) := by
  intro d
  induction d with
  | zero =>
    intro k K M c c1 c2 c3 c4 m1 m2 m3 m4 hk hK hM
    obtain ⟨K, rfl⟩ : ∃ q, K = q + 1 := ⟨K - 1, by omega⟩
    obtain ⟨M, rfl⟩ : ∃ q, M = q + 1 := ⟨M - 1, by omega⟩
    have : k = 700 := by omega
    subst this
    have hp := hpl 700 (by omega)
    obtain ⟨d1, d2, d3, d4, e⟩ := sortNow_X hn ha hb hp c1 c2 c3 c4
    obtain ⟨e1, e2, e3, e4, e'⟩ := sort_M hm ha hb hp m1 m2 m3 m4
    rw [lX8_rootsAhead_6, lX9_along_32, if_neg (by decide), e, e', hend]
    rcases isPlace_c (x + nI 700 * dx) (y + nI 700 * dy) with ⟨q, -⟩ | ⟨-, q⟩
    · rw [q]
      exact ⟨_, _, _, _, _, _, _, _, _, rfl, rfl⟩
    · exact absurd hp q
  | succ d ih =>
    intro k K M c c1 c2 c3 c4 m1 m2 m3 m4 hk hK hM
    obtain ⟨K, rfl⟩ : ∃ q, K = q + 1 := ⟨K - 1, by omega⟩
    obtain ⟨M, rfl⟩ : ∃ q, M = q + 1 := ⟨M - 1, by omega⟩
    have hp := hpl k (by omega)
    obtain ⟨d1, d2, d3, d4, e⟩ := sortNow_X hn ha hb hp c1 c2 c3 c4
    obtain ⟨e1, e2, e3, e4, e'⟩ := sort_M hm ha hb hp m1 m2 m3 m4
    obtain ⟨r, f1, f2, f3, f4, g1, g2, g3, g4, h1, h2⟩ := ih (k + 1) K M (c + 1) d1 d2 d3 d4 e1 e2 e3 e4 (by omega) (by omega) (by omega)
    rw [lX8_rootsAhead_6, lX9_along_32, if_neg (fun q => by have := (nJ_lt (j := 1998) (by omega) (by omega)).mp q; omega), e, e']
    rcases isPlace_c (x + nI k * dx) (y + nI k * dy) with ⟨q, -⟩ | ⟨-, q⟩
    · rw [q]
      simp only [Option.bind_some, if_neg n10]
      by_cases hs : srt a b (x + nI k * dx) (y + nI k * dy) = 0
      · rw [if_pos hs, if_pos hs]
        exact ⟨_, _, _, _, _, _, _, _, _, rfl, rfl⟩
      · rw [if_neg hs, if_neg hs, nI_p, h1]
        unfold jX9_along_58
        rcases hi with ⟨rfl, rfl, rfl⟩ | ⟨rfl, rfl, rfl⟩
        · rw [if_pos rfl, if_neg (by decide), add_k, add_k, h2]
          exact ⟨_, _, _, _, _, _, _, _, _, rfl, rfl⟩
        · rw [if_neg n10, if_pos rfl, add_k, add_k, h2]
          exact ⟨_, _, _, _, _, _, _, _, _, rfl, rfl⟩
    · exact absurd hp q
theorem step_i {x s : Int32} (hx : -99 ≤ x.toInt ∧ x.toInt ≤ 99) (hs : s = 1 ∨ s = -1) {k : Nat} (hk : k ≤ 700) : (x + nI k * s).toInt = x.toInt + k * s.toInt ∧ (s.toInt = 1 ∨ s.toInt = -1) := by
  have t1 := ti1; have tm := tm1
  rcases hs with rfl | rfl
  · have e : (nI k * 1).toInt = k := by rw [Int32.mul_one, nI_toInt (by omega)]
    refine ⟨?_, Or.inl t1⟩
    rw [fb_addI (by rw [e]; omega) (by rw [e]; omega), e, t1]; omega
  · have e : (nI k * -1).toInt = -k := by
      rw [fb_mulI (by rw [nI_toInt (by omega), tm]; omega) (by rw [nI_toInt (by omega), tm]; omega), nI_toInt (by omega), tm]; omega
    refine ⟨?_, Or.inr tm⟩
    rw [fb_addI (by rw [e]; omega) (by rw [e]; omega), e, tm]; omega
theorem step_0 (y : Int32) (k : Nat) : y + nI k * 0 = y := by rw [Int32.mul_zero, Int32.add_zero]
theorem one_k (d : Int32) : nI 1 * d = d := by rw [show nI 1 = (1 : Int32) from rfl, Int32.one_mul]
theorem str_x {n m : Nat} (hn : 2000 ≤ n) (hm : 2000 ≤ m) {a b : Int32} (ha : r16 a) (hb : r16 b) {x y s : Int32} (hx : -99 ≤ x.toInt ∧ x.toInt ≤ 99) (hy : -99 ≤ y.toInt ∧ y.toInt ≤ 99) (hs : s = 1 ∨ s = -1) (hy0 : ¬ y = 0) (c1 c2 c3 c4 m1 m2 m3 m4 : Int32) : ∃ r d1 d2 d3 d4 e1 e2 e3 e4, jX8_string_77 n a b 0 x y s c1 c2 c3 c4 = some (r, d1, d2, d3, d4) ∧ fX9_along m 0 x y s a b m1 m2 m3 m4 = some (r, e1, e2, e3, e4) := by
  have hpl : ∀ k, k ≤ 700 → isPl (x + nI k * s) (y + nI k * 0) := fun k hk => by
    obtain ⟨e, e1⟩ := step_i hx hs hk
    rw [step_0]
    refine ⟨?_, by omega, by omega⟩
    rw [e]
    rcases e1 with e1 | e1 <;> rw [e1] <;> omega
  have hend : srt a b (x + nI 700 * s) (y + nI 700 * 0) = 0 := by
    have hp := hpl 700 (by omega)
    obtain ⟨e, e1⟩ := step_i hx hs (show 700 ≤ 700 by omega)
    rw [step_0] at hp ⊢
    have hy1 : ¬ y.toInt = 0 := fun q => hy0 (by rw [fa_eq]; rw [ti0]; exact q)
    refine srt_far_x ha hp ?_ ?_
    · have h1 : a.toInt * (ab y).toInt ≤ 6 * 99 := by
        have h2 := ab_t (x := y) (by omega)
        exact Int.mul_le_mul ha.2 (by omega) (by omega) (by decide)
      have h3 := ab_t hp.1
      rw [e] at h3
      rcases e1 with e1 | e1 <;> rw [e1] at h3 <;> omega
    · rintro ⟨-, q⟩
      have h2 := ab_t (x := y) (by omega)
      have q' : (ab y).toInt = 0 := by rw [q]; decide
      omega
  obtain ⟨r, d1, d2, d3, d4, e1, e2, e3, e4, f1, f2⟩ := ahead_l hn hm ha hb x y s 0 0 s (Or.inl ⟨rfl, rfl, rfl⟩) hpl hend 699 1 n m 0 c1 c2 c3 c4 m1 m2 m3 m4 (by omega) (by omega) (by omega)
  rw [step_0, one_k] at f2
  refine ⟨r, d1, d2, d3, d4, e1, e2, e3, e4, ?_, ?_⟩
  · unfold jX8_string_77 jX8_string_92 fX8_rootsAhead
    rw [if_pos rfl, if_pos rfl]
    rw [show nI 1 = (1 : Int32) from rfl] at f1
    rw [f1]
    rfl
  · unfold fX9_along jX9_along_15
    rw [if_pos rfl, if_neg (by decide)]
    exact f2
theorem str_y {n m : Nat} (hn : 2000 ≤ n) (hm : 2000 ≤ m) {a b : Int32} (ha : r16 a) (hb : r16 b) {x y s : Int32} (hx : -99 ≤ x.toInt ∧ x.toInt ≤ 99) (hy : -99 ≤ y.toInt ∧ y.toInt ≤ 99) (hs : s = 1 ∨ s = -1) (hx0 : ¬ x = 0) (c1 c2 c3 c4 m1 m2 m3 m4 : Int32) : ∃ r d1 d2 d3 d4 e1 e2 e3 e4, jX8_string_77 n a b 1 x y s c1 c2 c3 c4 = some (r, d1, d2, d3, d4) ∧ fX9_along m 1 x y s a b m1 m2 m3 m4 = some (r, e1, e2, e3, e4) := by
  have hpl : ∀ k, k ≤ 700 → isPl (x + nI k * 0) (y + nI k * s) := fun k hk => by
    obtain ⟨e, e1⟩ := step_i hy hs hk
    rw [step_0]
    refine ⟨⟨by omega, by omega⟩, ?_⟩
    rw [e]
    rcases e1 with e1 | e1 <;> rw [e1] <;> omega
  have hend : srt a b (x + nI 700 * 0) (y + nI 700 * s) = 0 := by
    have hp := hpl 700 (by omega)
    obtain ⟨e, e1⟩ := step_i hy hs (show 700 ≤ 700 by omega)
    rw [step_0] at hp ⊢
    have hx1 : ¬ x.toInt = 0 := fun q => hx0 (by rw [fa_eq]; rw [ti0]; exact q)
    refine srt_far_y ha hb hp ?_ ?_
    · have h1 : b.toInt * (ab x).toInt ≤ 6 * 99 := by
        have h2 := ab_t (x := x) (by omega)
        exact Int.mul_le_mul hb.2 (by omega) (by omega) (by decide)
      have h3 := ab_t hp.2
      rw [e] at h3
      rcases e1 with e1 | e1 <;> rw [e1] at h3 <;> omega
    · rintro ⟨q, -⟩
      have h2 := ab_t (x := x) (by omega)
      have q' : (ab x).toInt = 0 := by rw [q]; decide
      omega
  obtain ⟨r, d1, d2, d3, d4, e1, e2, e3, e4, f1, f2⟩ := ahead_l hn hm ha hb x y 0 s 1 s (Or.inr ⟨rfl, rfl, rfl⟩) hpl hend 699 1 n m 0 c1 c2 c3 c4 m1 m2 m3 m4 (by omega) (by omega) (by omega)
  rw [step_0, one_k] at f2
  refine ⟨r, d1, d2, d3, d4, e1, e2, e3, e4, ?_, ?_⟩
  · unfold jX8_string_77 jX8_string_92 fX8_rootsAhead
    rw [if_neg n10, if_neg n10]
    rw [show nI 1 = (1 : Int32) from rfl] at f1
    rw [f1]
    rfl
  · unfold fX9_along jX9_along_15
    rw [if_neg n10, if_pos rfl]
    exact f2
theorem own_eq {a b i x y : Int32} (ha : r16 a) (hb : r16 b) (hi : i = 0 ∨ i = 1) (hp : isPl x y) (hs : ¬ srt a b x y = 0) : fX9_isOwn i x y = fX8_isOnOwnLine i x y := by
  unfold fX9_isOwn fX8_isOnOwnLine
  show (if i = 0 then (if y = 0 then (if ab x = 1 then _ else _) else _) else (if x = 0 then (if ab y = 1 then _ else _) else _)) = _
  have z0 := ti0; have z1 := ti1
  have a0 : ab 0 = 0 := by decide
  rcases hi with rfl | rfl
  · rw [if_pos rfl, if_pos rfl]
    by_cases h : y = 0
    · rw [if_pos h, if_pos h]
      by_cases g : ab x = 1
      · rw [if_pos g]
      · exfalso
        subst h
        by_cases x0 : x = 0
        · subst x0; exact hs (srt_00 a b)
        · refine hs (srt_far_x ha hp ?_ (fun q => g q.1))
          have h3 := ab_t hp.1
          have x1 : ¬ x.toInt = 0 := fun q => x0 (by rw [fa_eq, ti0]; exact q)
          rw [a0, z0]; omega
    · rw [if_neg h, if_neg h]
  · rw [if_neg n10, if_neg n10]
    by_cases h : x = 0
    · rw [if_pos h, if_pos h]
      by_cases g : ab y = 1
      · rw [if_pos g]
      · exfalso
        subst h
        by_cases y0 : y = 0
        · subst y0; exact hs (srt_00 a b)
        · refine hs (srt_far_y ha hb hp ?_ (fun q => g q.2))
          have h3 := ab_t hp.2
          have y1 : ¬ y.toInt = 0 := fun q => y0 (by rw [fa_eq, ti0]; exact q)
          rw [a0, z0]; omega
    · rw [if_neg h, if_neg h]
theorem pr_string {n m : Nat} (hn : 2000 ≤ n) (hm : 2000 ≤ m) (i x y w : Int32) {a b : Int32} (ha : r16 a) (hb : r16 b) (c1 c2 c3 c4 m1 m2 m3 m4 : Int32) : ∃ r d1 d2 d3 d4 e1 e2 e3 e4, fX8_string n i x y w a b c1 c2 c3 c4 = some (r, d1, d2, d3, d4) ∧ fX9_string m i x y w a b m1 m2 m3 m4 = some (r, e1, e2, e3, e4) := by
  unfold fX8_string fX9_string
  rw [isSide_eq, in_eq w 0 1 (by decide) (by decide), in_eq x (-99) 99 (by decide) (by decide), in_eq y (-99) 99 (by decide) (by decide)]
  have z0 := ti0; have z1 := ti1
  have z9 : (99 : Int32).toInt = 99 := by decide
  have y9 : (-99 : Int32).toInt = -99 := by decide
  rcases isIn_c i 0 1 with ⟨h, h1, h2⟩ | ⟨h, -⟩
  rotate_left
  · rw [h]; exact ⟨_, _, _, _, _, _, _, _, _, rfl, rfl⟩
  rcases isIn_c w 0 1 with ⟨g, -⟩ | ⟨g, -⟩
  rotate_left
  · rw [h, g]; exact ⟨_, _, _, _, _, _, _, _, _, rfl, rfl⟩
  rcases isIn_c x (-99) 99 with ⟨k, k1, k2⟩ | ⟨k, -⟩
  rotate_left
  · rw [h, g, k]; exact ⟨_, _, _, _, _, _, _, _, _, rfl, rfl⟩
  rcases isIn_c y (-99) 99 with ⟨j, j1, j2⟩ | ⟨j, -⟩
  rotate_left
  · rw [h, g, k, j]; exact ⟨_, _, _, _, _, _, _, _, _, rfl, rfl⟩
  have hp : isPl x y := ⟨by omega, by omega⟩
  obtain ⟨d1, d2, d3, d4, e⟩ := sortNow_X hn ha hb hp c1 c2 c3 c4
  obtain ⟨e1, e2, e3, e4, e'⟩ := sort_M hm ha hb hp m1 m2 m3 m4
  rw [h, g, k, j, e, e']
  simp only [Option.bind_some, if_neg n10]
  by_cases hs : srt a b x y = 0
  · rw [if_pos hs, if_pos hs]; exact ⟨_, _, _, _, _, _, _, _, _, rfl, rfl⟩
  rw [if_neg hs, if_neg hs]
  have hi : i = 0 ∨ i = 1 := by rw [fa_eq, fa_eq]; omega
  rw [own_eq ha hb hi hp hs]
  have key : ∀ s : Int32, s = 1 ∨ s = -1 → fX8_isOnOwnLine i x y = some 0 → ∃ r f1 f2 f3 f4 g1 g2 g3 g4, jX8_string_77 n a b i x y s d1 d2 d3 d4 = some (r, f1, f2, f3, f4) ∧ fX9_along m i x y s a b e1 e2 e3 e4 = some (r, g1, g2, g3, g4) := by
    intro s hs ho
    unfold fX8_isOnOwnLine at ho
    rcases hi with rfl | rfl
    · rw [if_pos rfl] at ho
      refine str_x hn hm ha hb ⟨by omega, by omega⟩ ⟨by omega, by omega⟩ hs (fun q => ?_) _ _ _ _ _ _ _ _
      rw [if_pos q] at ho; cases ho
    · rw [if_neg n10] at ho
      refine str_y hn hm ha hb ⟨by omega, by omega⟩ ⟨by omega, by omega⟩ hs (fun q => ?_) _ _ _ _ _ _ _ _
      rw [if_pos q] at ho; cases ho
  have hown : fX8_isOnOwnLine i x y = some 0 ∨ fX8_isOnOwnLine i x y = some 1 := by
    unfold fX8_isOnOwnLine
    split <;> split <;> simp
  rcases hown with ho | ho
  · rw [ho]
    simp only [Option.bind_some, if_true]
    by_cases hw : w = 0
    · rw [if_pos hw, if_pos hw]
      obtain ⟨r, f1, f2, f3, f4, g1, g2, g3, g4, p1, p2⟩ := key (-1) (Or.inr rfl) ho
      rw [p1, p2]
      exact ⟨_, _, _, _, _, _, _, _, _, rfl, rfl⟩
    · rw [if_neg hw, if_neg hw]
      obtain ⟨r, f1, f2, f3, f4, g1, g2, g3, g4, p1, p2⟩ := key 1 (Or.inl rfl) ho
      rw [p1, p2]
      exact ⟨_, _, _, _, _, _, _, _, _, rfl, rfl⟩
  · rw [ho]; exact ⟨_, _, _, _, _, _, _, _, _, rfl, rfl⟩
