-- ===== small places =====
def smallP (x y : Int32) : Prop := 0 ≤ x.toInt ∧ 0 ≤ y.toInt ∧ x.toInt + y.toInt ≤ 12
theorem ti0 : (0 : Int32).toInt = 0 := by decide
theorem ti1 : (1 : Int32).toInt = 1 := by decide
theorem ti2 : (2 : Int32).toInt = 2 := by decide
theorem ti6 : (6 : Int32).toInt = 6 := by decide
theorem ti8 : (8 : Int32).toInt = 8 := by decide
theorem ti12 : (12 : Int32).toInt = 12 := by decide
theorem isSmall_c (x y : Int32) : (fX8_isSmall x y = some 1 ∧ smallP x y) ∨ (fX8_isSmall x y = some 0 ∧ ¬ smallP x y) := by
  unfold fX8_isSmall smallP
  have e0 := ti0; have e12 := ti12
  by_cases h1 : x < 0
  · rw [if_pos h1]; rw [fa_lt] at h1; exact Or.inr ⟨rfl, by omega⟩
  rw [if_neg h1]; rw [fa_lt] at h1
  by_cases h2 : 12 < x
  · rw [if_pos h2]; rw [fa_lt] at h2
    by_cases h3 : y < 0
    · rw [fa_lt] at h3; exact Or.inr ⟨rfl, by omega⟩
    · rw [fa_lt] at h3; exact Or.inr ⟨rfl, by omega⟩
  rw [if_neg h2]; rw [fa_lt] at h2
  by_cases h3 : y < 0
  · rw [if_pos h3]; rw [fa_lt] at h3; exact Or.inr ⟨rfl, by omega⟩
  rw [if_neg h3]; rw [fa_lt] at h3
  by_cases h4 : 12 < y
  · rw [if_pos h4]; rw [fa_lt] at h4; exact Or.inr ⟨rfl, by omega⟩
  rw [if_neg h4]; rw [fa_lt] at h4
  have ea : (x + y).toInt = x.toInt + y.toInt := fb_addI (by omega) (by omega)
  by_cases h5 : 12 < x + y
  · rw [if_pos h5]; rw [fa_lt, ea] at h5; exact Or.inr ⟨rfl, by omega⟩
  rw [if_neg h5]; rw [fa_lt, ea] at h5; exact Or.inl ⟨rfl, by omega⟩
theorem small_sum {x y : Int32} (h : smallP x y) : (x + y).toInt = x.toInt + y.toInt := by
  unfold smallP at h
  exact fb_addI (by omega) (by omega)
theorem isCountable_c (x y : Int32) : (fX8_isCountable x y = some 1 ∧ smallP x y ∧ 1 ≤ x.toInt + y.toInt) ∨ (fX8_isCountable x y = some 0 ∧ ¬ (smallP x y ∧ 1 ≤ x.toInt + y.toInt)) := by
  unfold fX8_isCountable
  have e1 := ti1
  rcases isSmall_c x y with ⟨h, h1⟩ | ⟨h, h1⟩
  · rw [h, Option.bind_some, if_neg n10]
    by_cases g : x + y < 1
    · rw [if_pos g]; rw [fa_lt, small_sum h1] at g; exact Or.inr ⟨rfl, fun q => by omega⟩
    · rw [if_neg g]; rw [fa_lt, small_sum h1] at g; exact Or.inl ⟨rfl, h1, by omega⟩
  · rw [h]; exact Or.inr ⟨rfl, fun q => h1 q.1⟩
theorem isLow_c (x y m : Int32) : (fX9_isLow x y m = some 1 ∧ smallP x y ∧ m.toInt ≤ x.toInt + y.toInt) ∨ (fX9_isLow x y m = some 0 ∧ ¬ (smallP x y ∧ m.toInt ≤ x.toInt + y.toInt)) := by
  unfold fX9_isLow
  have e0 := ti0; have e12 := ti12
  rw [in_eq x 0 12 (by decide) (by decide), in_eq y 0 12 (by decide) (by decide), in_eq (x + y) m 12 rfl (by decide)]
  rcases isIn_c x 0 12 with ⟨g, g1, g2⟩ | ⟨g, g1⟩
  · rw [g, Option.bind_some, if_neg n10]
    rcases isIn_c y 0 12 with ⟨f, f1, f2⟩ | ⟨f, f1⟩
    · rw [f, Option.bind_some, if_neg n10]
      have ea : (x + y).toInt = x.toInt + y.toInt := fb_addI (by omega) (by omega)
      rcases isIn_c (x + y) m 12 with ⟨k, k1, k2⟩ | ⟨k, k1⟩
      · rw [k, Option.bind_some, if_neg n10]; rw [ea] at k1 k2; exact Or.inl ⟨rfl, ⟨by omega, by omega, by omega⟩, by omega⟩
      · rw [k]; rw [ea] at k1; exact Or.inr ⟨rfl, fun q => by unfold smallP at q; omega⟩
    · rw [f]; exact Or.inr ⟨rfl, fun q => by unfold smallP at q; omega⟩
  · rw [g]; exact Or.inr ⟨rfl, fun q => by unfold smallP at q; omega⟩
theorem isLow_0 (x y : Int32) : fX9_isLow x y 0 = fX8_isSmall x y := by
  have e0 := ti0
  rcases isLow_c x y 0 with ⟨h, h1, h2⟩ | ⟨h, h1⟩ <;> rcases isSmall_c x y with ⟨g, g1⟩ | ⟨g, g1⟩ <;> rw [h, g]
  · exact absurd h1 g1
  · exact absurd ⟨g1, by unfold smallP at g1; omega⟩ h1
theorem isLow_1 (x y : Int32) : fX9_isLow x y 1 = fX8_isCountable x y := by
  have e1 := ti1
  rcases isLow_c x y 1 with ⟨h, h1, h2⟩ | ⟨h, h1⟩ <;> rcases isCountable_c x y with ⟨g, g1⟩ | ⟨g, g1⟩ <;> rw [h, g]
  · exact absurd ⟨h1, by omega⟩ g1
  · exact absurd ⟨g1.1, by omega⟩ h1
-- ===== book =====
def isBk (x y : Int32) : Prop := smallP x y ∧ 1 ≤ x.toInt + y.toInt
def Bks (u : Int32) (c : Nat → Int32) (v : Int32) (A B C : Nat → Int32) : Prop := ∃ k, k ≤ 8 ∧ u = nI k ∧ v = nI k ∧ R3 k c A B C ∧ ∀ j, j < k → isBk (A j) (B j)
theorem pr_book (p q r : Int32) {u v : Int32} {c A B C : Nat → Int32} (h : Bks u c v A B C) : ∃ o u' c' v' A' B' C', fX8_book p q r 24 8 u c = some (o, u', c') ∧ fX9_book p q r v A B C = some (o, v', A', B', C') ∧ Bks u' c' v' A' B' C' := by
  obtain ⟨k, hk, rfl, rfl, h1, h2⟩ := h
  unfold fX8_book fX9_book fX4_clear
  rw [isLow_1, in_eq r 0 999 (by decide) (by decide)]
  by_cases e : p = -1
  · rw [if_pos e, if_pos e]
    exact ⟨_, _, _, _, _, _, _, rfl, rfl, 0, by omega, rfl, rfl, fun j hj => absurd hj (by omega), fun j hj => absurd hj (by omega)⟩
  rw [if_neg e, if_neg e]
  have back : ∃ o u' c' v' A' B' C', some ((-2 : Int32), nI k, c) = some (o, u', c') ∧ some ((-2 : Int32), nI k, A, B, C) = some (o, v', A', B', C') ∧ Bks u' c' v' A' B' C' := ⟨_, _, _, _, _, _, _, rfl, rfl, k, hk, rfl, rfl, h1, h2⟩
  rcases isCountable_c p q with ⟨g, g1⟩ | ⟨g, -⟩
  · rw [g, Option.bind_some, Option.bind_some, if_neg n10, if_neg n10]
    rcases isIn_c r 0 999 with ⟨t, t1, t2⟩ | ⟨t, -⟩
    · rw [t, Option.bind_some, Option.bind_some, if_neg n10, if_neg n10]
      by_cases e : k = 8
      · subst e
        rw [if_pos (show nI 8 = 8 from rfl), show (8 : Int32) = nI 8 from rfl, put_n]
        exact ⟨_, _, _, _, _, _, _, rfl, rfl, 8, by omega, rfl, rfl, h1, h2⟩
      · rw [if_neg (nJ_ne8 hk e), show (8 : Int32) = nI 8 from rfl, put_y _ _ _ _ (by omega) (by omega) (by omega), ck_nI (by omega) (by omega), ck_nI (by omega) (by omega), ck_nI (by omega) (by omega), nI_clamp (by omega), nI_p]
        exact ⟨_, _, _, _, _, _, _, rfl, rfl, k + 1, by omega, rfl, rfl, h1.put _ _ _, upd_all2 h2 g1⟩
    · rw [t]; exact back
  · rw [g]; exact back
-- ===== count =====
theorem pr_count (p : Int32) (s e b t : Int32) : ∃ r, fX8_count p s e b t = some r ∧ fX9_count p t s e b = some r := by
  unfold fX8_count fX9_count fX4_size fX5_bytes
  by_cases h0 : p = 0
  · rw [if_pos h0, if_pos h0]; exact ⟨_, rfl, rfl⟩
  rw [if_neg h0, if_neg h0]
  by_cases h1 : p = 1
  · rw [if_pos h1, if_pos h1]; exact ⟨_, rfl, rfl⟩
  rw [if_neg h1, if_neg h1]
  by_cases h2 : p = 2
  · rw [if_pos h2, if_pos h2]; exact ⟨_, rfl, rfl⟩
  rw [if_neg h2, if_neg h2]
  by_cases h3 : p = 3
  · rw [if_pos h3, if_pos h3]; exact ⟨_, rfl, rfl⟩
  rw [if_neg h3, if_neg h3]; exact ⟨_, rfl, rfl⟩
-- ===== happen, after =====
theorem happen_c {w v a b x y : Int32} (hv : isEv w v) (ha : r16 a) (hb : r16 b) (hp : isPl x y) : ∃ a' b' x' y', fX8_happen w v a b x y = some (a', b', x', y') ∧ fX9_happens w v a b x y = some (a', b', x', y') ∧ r16 a' ∧ r16 b' ∧ isPl x' y' := by
  unfold fX8_happen fX9_happens fX2_swap
  rw [carry_eq]
  rcases hv with ⟨rfl, -⟩ | ⟨rfl, h1, h2⟩ | ⟨rfl, -⟩
  · obtain ⟨r, x', y', e, -, hp', -⟩ := carry_c v a b hp
    rw [if_pos rfl, if_pos rfl, e]
    exact ⟨_, _, _, _, rfl, rfl, ha, hb, hp'⟩
  · rw [if_neg n10, if_neg n10, if_pos rfl, if_pos rfl]
    exact ⟨_, _, _, _, rfl, rfl, ⟨h1, h2⟩, hb, hp⟩
  · rw [if_neg (by decide), if_neg (by decide), if_neg (by decide), if_neg (by decide)]
    exact ⟨_, _, _, _, rfl, rfl, hb, ha, hp.2, hp.1⟩
theorem kind_c (a b : Int32) : ∃ r, fX8_kindOf a b = some r ∧ fX9_kind a b = some r := by
  have hk : fX9_kind a b = fX8_kindOf a b := rfl
  rw [hk]
  cases hq : fX8_kindOf a b with
  | none =>
    exfalso
    unfold fX8_kindOf at hq
    split at hq
    · split at hq <;> cases hq
    · cases hq
  | some q => exact ⟨q, rfl, rfl⟩
theorem after_l {n m : Nat} (hn : 2000 ≤ n) (hm : 2000 ≤ m) (p : Int32) {k : Nat} (hk : k ≤ 8) {c A B : Nat → Int32} (h : R2 k c A B) (hA : ∀ j, j < k → isEv (A j) (B j)) (v2 v3 v4 v5 c1 c2 c3 c4 m1 m2 m3 m4 : Int32) : ∀ (d i K M : Nat) (a b x y : Int32), i + d = k → d < K → d < M → r16 a → r16 b → isPl x y → ∃ r a' b' x' y' d1 d2 d3 d4 e1 e2 e3 e4, lX8_after_29 n 24 (nI k) c K p (nI i) a b x y c1 c2 c3 c4 = some (r, a', b', x', y', d1, d2, d3, d4) ∧ lX9_after_41 m (nI k) A B M p v2 v3 v4 v5 (nI i) a b x y m1 m2 m3 m4 = some (r, v2, v3, v4, v5, e1, e2, e3, e4) := by
  intro d
  induction d with
  | zero =>
    intro i K M a b x y hi hK hM ha hb hp
    obtain ⟨K, rfl⟩ : ∃ q, K = q + 1 := ⟨K - 1, by omega⟩
    obtain ⟨M, rfl⟩ : ∃ q, M = q + 1 := ⟨M - 1, by omega⟩
    have hik : i = k := by omega
    subst hik
    rw [lX8_after_29, lX9_after_41]
    unfold fX4_size jX9_after_121
    simp only [Option.bind_some]
    rw [if_pos ((nJ_le (by omega) (by omega)).mpr (Nat.le_refl _)), if_pos ((nJ_le (by omega) (by omega)).mpr (Nat.le_refl _)), norm_eq]
    by_cases e0 : p = 0
    · rw [if_pos e0, if_pos e0]
      obtain ⟨d1, d2, d3, d4, e⟩ := sort_X hn ha hb hp c1 c2 c3 c4
      obtain ⟨e1, e2, e3, e4, e'⟩ := sort_M hm ha hb hp m1 m2 m3 m4
      rw [e, e']
      exact ⟨_, _, _, _, _, _, _, _, _, _, _, _, _, rfl, rfl⟩
    rw [if_neg e0, if_neg e0]
    by_cases e1 : p = 1
    · rw [if_pos e1, if_pos e1]
      obtain ⟨q, g1, g2⟩ := kind_c a b
      rw [g1, g2]
      exact ⟨_, _, _, _, _, _, _, _, _, _, _, _, _, rfl, rfl⟩
    rw [if_neg e1, if_neg e1]
    have hno : ∃ q, fX8_normOf a b x y = some q := by unfold fX8_normOf fX8_productOf; exact ⟨_, rfl⟩
    obtain ⟨q, g⟩ := hno
    rw [g]
    exact ⟨_, _, _, _, _, _, _, _, _, _, _, _, _, rfl, rfl⟩
  | succ d ih =>
    intro i K M a b x y hi hK hM ha hb hp
    obtain ⟨K, rfl⟩ : ∃ q, K = q + 1 := ⟨K - 1, by omega⟩
    obtain ⟨M, rfl⟩ : ∃ q, M = q + 1 := ⟨M - 1, by omega⟩
    obtain ⟨h1, h2⟩ := h i (by omega)
    have hno : ¬ nI k ≤ nI i := fun q => by have := (nJ_le (by omega) (by omega)).mp q; omega
    obtain ⟨a', b', x', y', f1, f2, ha', hb', hp'⟩ := happen_c (hA i (by omega)) ha hb hp
    rw [lX8_after_29, lX9_after_41]
    unfold fX4_size
    simp only [Option.bind_some]
    rw [if_neg hno, if_neg hno, cell0 c (by omega) (by omega) (by omega), Option.bind_some, cell1 c (by omega) (by omega) (by omega), Option.bind_some, ck_nI (by omega) (by omega), ck_nI (by omega) (by omega), nI_clamp (by omega), h1, h2, nI_p, f1, f2]
    exact ih (i + 1) K M a' b' x' y' (by omega) (by omega) (by omega) ha' hb' hp'
theorem pr_after {n m : Nat} (hn : 2000 ≤ n) (hm : 2000 ≤ m) (p : Int32) {a b x y : Int32} (ha : r16 a) (hb : r16 b) (hp : isPl x y) {u v : Int32} {c A B : Nat → Int32} (h : Evs u c v A B) (ta tb tx ty c1 c2 c3 c4 m1 m2 m3 m4 : Int32) : ∃ r a' b' x' y' d1 d2 d3 d4 e1 e2 e3 e4, fX8_after n p 24 a b x y u c ta tb tx ty c1 c2 c3 c4 = some (r, a', b', x', y', d1, d2, d3, d4) ∧ fX9_after m p a b x y m1 m2 m3 m4 v A B = some (r, a, b, x, y, e1, e2, e3, e4) := by
  obtain ⟨k, hk, rfl, rfl, h1, h2⟩ := h
  unfold fX8_after fX9_after fX2_copyFrom
  rw [in_eq p 0 2 (by decide) (by decide)]
  rcases isIn_c p 0 2 with ⟨g, -⟩ | ⟨g, -⟩
  · rw [g]; simp only [Option.bind_some, if_neg n10]
    exact after_l hn hm p hk h1 h2 a b x y c1 c2 c3 c4 m1 m2 m3 m4 k 0 n m a b x y (by omega) (by omega) (by omega) ha hb hp
  · rw [g]; exact ⟨_, _, _, _, _, _, _, _, _, _, _, _, _, rfl, rfl⟩
-- ===== fits =====
theorem sn_pl {x y : Int32} (h : isSn x y) : isPl x y := by unfold isSn at h; unfold isPl; omega
theorem so_l {n m : Nat} (hn : 2000 ≤ n) (hm : 2000 ≤ m) {a b : Int32} (ha : r16 a) (hb : r16 b) {k : Nat} (hk : k ≤ 4) {c A B C : Nat → Int32} (h : R3 k c A B C) (hA : ∀ j, j < k → isSn (A j) (B j)) : ∀ (d i K M : Nat) (c1 c2 c3 c4 m1 m2 m3 m4 : Int32), i + d = k → d < K → d < M → ∃ r d1 d2 d3 d4 e1 e2 e3 e4, lX8_isAllSeenBy_10 n 12 b (nI k) c K a (nI i) c1 c2 c3 c4 = some (r, d1, d2, d3, d4) ∧ lX9_isSo_2 m a b (nI k) A B C M (nI i) m1 m2 m3 m4 = some (r, e1, e2, e3, e4) := by
  intro d
  induction d with
  | zero =>
    intro i K M c1 c2 c3 c4 m1 m2 m3 m4 hi hK hM
    obtain ⟨K, rfl⟩ : ∃ q, K = q + 1 := ⟨K - 1, by omega⟩
    obtain ⟨M, rfl⟩ : ∃ q, M = q + 1 := ⟨M - 1, by omega⟩
    have hik : i = k := by omega
    subst hik
    rw [lX8_isAllSeenBy_10, lX9_isSo_2]
    unfold fX4_size
    simp only [Option.bind_some]
    rw [if_pos ((nJ_le (by omega) (by omega)).mpr (Nat.le_refl _)), if_pos ((nJ_le (by omega) (by omega)).mpr (Nat.le_refl _))]
    exact ⟨_, _, _, _, _, _, _, _, _, rfl, rfl⟩
  | succ d ih =>
    intro i K M c1 c2 c3 c4 m1 m2 m3 m4 hi hK hM
    obtain ⟨K, rfl⟩ : ∃ q, K = q + 1 := ⟨K - 1, by omega⟩
    obtain ⟨M, rfl⟩ : ∃ q, M = q + 1 := ⟨M - 1, by omega⟩
    obtain ⟨h1, h2, h3⟩ := h i (by omega)
    have hno : ¬ nI k ≤ nI i := fun q => by have := (nJ_le (by omega) (by omega)).mp q; omega
    obtain ⟨d1, d2, d3, d4, e⟩ := sort_X hn ha hb (sn_pl (hA i (by omega))) c1 c2 c3 c4
    obtain ⟨e1, e2, e3, e4, e'⟩ := sort_M hm ha hb (sn_pl (hA i (by omega))) m1 m2 m3 m4
    rw [lX8_isAllSeenBy_10, lX9_isSo_2]
    unfold fX4_size
    simp only [Option.bind_some]
    rw [if_neg hno, if_neg hno, cell0 c (by omega) (by omega) (by omega), Option.bind_some, cell1 c (by omega) (by omega) (by omega), Option.bind_some, cell2 c (by omega) (by omega) (by omega), ck_nI (by omega) (by omega), ck_nI (by omega) (by omega), nI_clamp (by omega), h1, h2, h3, nI_p, e, e']
    simp only [Option.bind_some]
    rw [ck_nI (by omega) (by omega)]
    by_cases q : srt a b (A i) (B i) = C i
    · rw [if_pos q, if_pos q]
      exact ih (i + 1) K M _ _ _ _ _ _ _ _ (by omega) (by omega) (by omega)
    · rw [if_neg q, if_neg q]
      exact ⟨_, _, _, _, _, _, _, _, _, rfl, rfl⟩
theorem fits_l {n m : Nat} (hn : 2000 ≤ n) (hm : 2000 ≤ m) (a0 : Int32) {b : Int32} (hb : r16 b) {k : Nat} (hk : k ≤ 4) {c A B C : Nat → Int32} (h : R3 k c A B C) (hA : ∀ j, j < k → isSn (A j) (B j)) : ∀ (d i K M : Nat) (v c1 c2 c3 c4 m1 m2 m3 m4 : Int32), 1 ≤ i → i + d = 7 → d < K → d < M → ∃ r d1 d2 d3 d4 e1 e2 e3 e4, lX8_fits_4 n 12 b (nI k) c K v (nI i) c1 c2 c3 c4 = some (r, d1, d2, d3, d4) ∧ lX9_fits_12 m b (nI k) A B C M a0 v (nI i) m1 m2 m3 m4 = some (r, a0, e1, e2, e3, e4) := by
  intro d
  induction d with
  | zero =>
    intro i K M v c1 c2 c3 c4 m1 m2 m3 m4 h1i hi hK hM
    obtain ⟨K, rfl⟩ : ∃ q, K = q + 1 := ⟨K - 1, by omega⟩
    obtain ⟨M, rfl⟩ : ∃ q, M = q + 1 := ⟨M - 1, by omega⟩
    have hik : i = 7 := by omega
    subst hik
    rw [lX8_fits_4, lX9_fits_12, if_pos (by decide), if_pos (by decide)]
    exact ⟨_, _, _, _, _, _, _, _, _, rfl, rfl⟩
  | succ d ih =>
    intro i K M v c1 c2 c3 c4 m1 m2 m3 m4 h1i hi hK hM
    obtain ⟨K, rfl⟩ : ∃ q, K = q + 1 := ⟨K - 1, by omega⟩
    obtain ⟨M, rfl⟩ : ∃ q, M = q + 1 := ⟨M - 1, by omega⟩
    have hno : ¬ 6 < nI i := fun q => by have := (nJ_lt (j := 6) (by omega) (by omega)).mp q; omega
    have ha : r16 (nI i) := by unfold r16; rw [nI_toInt (by omega)]; omega
    obtain ⟨r, d1, d2, d3, d4, e1, e2, e3, e4, f1, f2⟩ := so_l hn hm ha hb hk h hA k 0 n m c1 c2 c3 c4 m1 m2 m3 m4 (by omega) (by omega) (by omega)
    rw [lX8_fits_4, lX9_fits_12, if_neg hno, if_neg hno]
    unfold fX8_isAllSeenBy fX9_isSo
    rw [show (0 : Int32) = nI 0 from rfl, f1, f2, nI_p]
    simp only [Option.bind_some]
    by_cases q : r = nI 0
    · rw [if_pos q, if_pos q]
      exact ih (i + 1) K M _ _ _ _ _ _ _ _ _ (by omega) (by omega) (by omega) (by omega)
    · rw [if_neg q, if_neg q]
      exact ih (i + 1) K M _ _ _ _ _ _ _ _ _ (by omega) (by omega) (by omega) (by omega)
theorem pr_fits {n m : Nat} (hn : 2000 ≤ n) (hm : 2000 ≤ m) {a b : Int32} (hb : r16 b) {u v : Int32} {c A B C : Nat → Int32} (h : Sns u c v A B C) (c1 c2 c3 c4 m1 m2 m3 m4 : Int32) : ∃ r d1 d2 d3 d4 e1 e2 e3 e4, fX8_fits n 12 b u c c1 c2 c3 c4 = some (r, d1, d2, d3, d4) ∧ fX9_fits m a b m1 m2 m3 m4 v A B C = some (r, a, e1, e2, e3, e4) := by
  obtain ⟨k, hk, rfl, rfl, h1, h2⟩ := h
  exact fits_l hn hm a hb hk h1 h2 6 1 n m 0 c1 c2 c3 c4 m1 m2 m3 m4 (by omega) (by omega) (by omega) (by omega)
-- ===== image, undo =====
theorem upd_self (A : Nat → Int32) (i : Nat) : upd A i (A i) = A := by
  funext j; unfold upd; split
  · next h => rw [h]
  · rfl
theorem copy_l (n : Nat) {N N' L k : Nat} (hL : 3 * L ≤ N) (hN : N < 1000) (hkN : 3 * k ≤ N') (hN' : N' < 1000) (hkL : k ≤ L) (oc : Nat → Int32) : ∀ (d i K : Nat) (c : Nat → Int32), i + d = k → d < K → R3 i c (fun j => oc (3 * j)) (fun j => oc (3 * j + 1)) (fun j => oc (3 * j + 2)) → ∃ c', lX4_copyFrom_7 n N N' (nI L) (nI k) oc K (nI i) (nI i) c = some (nI k, c') ∧ R3 k c' (fun j => oc (3 * j)) (fun j => oc (3 * j + 1)) (fun j => oc (3 * j + 2)) := by
  intro d
  induction d with
  | zero =>
    intro i K c hi hK h
    obtain ⟨K, rfl⟩ : ∃ q, K = q + 1 := ⟨K - 1, by omega⟩
    have hik : i = k := by omega
    subst hik
    rw [lX4_copyFrom_7]
    unfold fX4_size
    simp only [Option.bind_some]
    rw [if_pos ((nJ_le (by omega) (by omega)).mpr (Nat.le_refl _))]
    exact ⟨_, rfl, h⟩
  | succ d ih =>
    intro i K c hi hK h
    obtain ⟨K, rfl⟩ : ∃ q, K = q + 1 := ⟨K - 1, by omega⟩
    have hno : ¬ nI k ≤ nI i := fun q => by have := (nJ_le (by omega) (by omega)).mp q; omega
    rw [lX4_copyFrom_7]
    unfold fX4_size
    simp only [Option.bind_some]
    rw [if_neg hno, cell0 oc (by omega) (by omega) (by omega), Option.bind_some, cell1 oc (by omega) (by omega) (by omega), Option.bind_some, cell2 oc (by omega) (by omega) (by omega), Option.bind_some, put_y _ _ _ _ (by omega) (by omega) (by omega), Option.bind_some, nI_p]
    refine ih (i + 1) K _ (by omega) (by omega) ?_
    have := h.put (oc (3 * i)) (oc (3 * i + 1)) (oc (3 * i + 2))
    rw [upd_self (fun j => oc (3 * j)) i, upd_self (fun j => oc (3 * j + 1)) i, upd_self (fun j => oc (3 * j + 2)) i] at this
    exact this
theorem copy_c {n N N' L k : Nat} (hn : 2000 ≤ n) (hL : 3 * L ≤ N) (hN : N < 1000) (hkN : 3 * k ≤ N') (hN' : N' < 1000) (hkL : k ≤ L) (u : Int32) (c oc : Nat → Int32) : ∃ c', fX4_copyFrom n N N' (nI L) u c (nI k) oc = some (nI k, c') ∧ R3 k c' (fun j => oc (3 * j)) (fun j => oc (3 * j + 1)) (fun j => oc (3 * j + 2)) := by
  unfold fX4_copyFrom
  exact copy_l n hL hN hkN hN' hkL oc k 0 n c (by omega) (by omega) (fun j hj => absurd hj (by omega))
