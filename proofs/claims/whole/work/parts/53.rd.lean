-- ===== reading: what the clauses do =====
theorem cw_l (n : Nat) {t f m : Nat} (ht : t ≤ 100) (hf : f + m ≤ t) {T T' : Nat → Int32} (hT : ∀ j, j < t → T' j = T j) (a b : Int32) {x0 y0 : Int32} (h0 : isPl x0 y0) : ∀ (d i k k' : Nat) (x y : Int32), i + d = m → d < k → d < k' → isPl x y → ∃ r x' y' tx ty, lX8_carryByWord_16 n (nI t) T k (nI f) (nI m) (nI i) a b x0 y0 a b x y = some (r, a, b, x', y', a, b, tx, ty) ∧ lX9_isCarried_14 n a b T' k' (nI f) (nI m) x0 y0 (nI i) x y = some (r, x', y') ∧ (r = 0 ∨ r = 1) ∧ isPl x' y' := by
  intro d
  induction d with
  | zero =>
    intro i k k' x y hi hk hk' hp
    obtain ⟨k, rfl⟩ : ∃ q, k = q + 1 := ⟨k - 1, by omega⟩
    obtain ⟨k', rfl⟩ : ∃ q, k' = q + 1 := ⟨k' - 1, by omega⟩
    have hl := (nJ_le (j := m) (k := i) (by omega) (by omega)).mpr (by omega)
    rw [lX8_carryByWord_16, lX9_isCarried_14, if_pos hl, if_pos hl]
    exact ⟨1, x, y, x, y, rfl, rfl, Or.inr rfl, hp⟩
  | succ d ih =>
    intro i k k' x y hi hk hk' hp
    obtain ⟨k, rfl⟩ : ∃ q, k = q + 1 := ⟨k - 1, by omega⟩
    obtain ⟨k', rfl⟩ : ∃ q, k' = q + 1 := ⟨k' - 1, by omega⟩
    have hl : ¬ nI m ≤ nI i := fun q => by have := (nJ_le (by omega) (by omega)).mp q; omega
    obtain ⟨r, x', y', e, hr, hp', -⟩ := carry_c (T (f + i) - 48) a b hp
    rw [lX8_carryByWord_16, lX9_isCarried_14, if_neg hl, if_neg hl, nI_add, byteAt_c ht (by omega), ck_nI (by omega) (by omega), nI_clamp (by omega), hT _ (by omega), bt_y T (by omega), Option.bind_some, carry_eq, e, Option.bind_some, Option.bind_some]
    rcases hr with rfl | rfl
    · exact ⟨0, x0, y0, _, _, rfl, rfl, Or.inl rfl, h0⟩
    · simp only [if_neg n10]
      rw [nI_p]
      exact ih (i + 1) k k' x' y' (by omega) (by omega) (by omega) hp'
theorem done_c {n : Nat} (hn : 2000 ≤ n) {t j : Nat} (ht : t ≤ 100) (hj : j < 12) {T T' : Nat → Int32} (hT : ∀ j, j < t → T' j = T j) {K W F F2 G G2 : Nat → Int32} (hC : Cl1 t K W F F2 G G2 j) {a b x y : Int32} (ha : r16 a) (hb : r16 b) (hp : isPl x y) {u v : Int32} {c A B : Nat → Int32} (hN : Nts u c v A B) (ta tb tx ty c1 c2 c3 c4 m1 m2 m3 m4 : Int32) : ∃ r a' b' x' y' u' c' ta' tb' tx' ty' d1 d2 d3 d4 e1 e2 e3 e4 v' A' B', fX8_doClause n (K j) (F j) (G j) 24 a b x y 8 u c ta tb tx ty c1 c2 c3 c4 (nI t) T = some (r, a', b', x', y', u', c', ta', tb', tx', ty', d1, d2, d3, d4) ∧ fX9_isDone n (nI j) a b x y m1 m2 m3 m4 v A B T' W F2 G2 = some (r, a', b', x', y', e1, e2, e3, e4, v', A', B') ∧ r16 a' ∧ r16 b' ∧ isPl x' y' ∧ Nts u' c' v' A' B' := by
  obtain ⟨k, hk, hK, hW, hFG, hS⟩ := hC
  unfold fX8_doClause fX9_isDone
  simp only [ck_nI hj (show 12 < 2 ^ 31 by omega)]
  rw [nI_clamp (by omega), hK, hW]
  have hk' : k = 0 ∨ k = 1 ∨ k = 2 ∨ k = 3 ∨ k = 4 := by omega
  rcases hk' with rfl | rfl | rfl | rfl | rfl
  · rw [if_pos (show nI 0 = 0 from rfl), if_pos (show nI 0 = 0 from rfl), ← (hFG (by omega)).1, ← (hFG (by omega)).2]
    obtain ⟨r, a', b', e1, e2, h1, h2⟩ := pr_table (F j) (G j) ha hb
    rw [e1, e2, Option.bind_some, Option.bind_some]
    by_cases q : r < 0
    · simp only [if_pos q]
      exact ⟨_, _, _, _, _, _, _, _, _, _, _, _, _, _, _, _, _, _, _, _, _, _, rfl, rfl, h1, h2, hp, hN⟩
    · simp only [if_neg q]
      exact ⟨_, _, _, _, _, _, _, _, _, _, _, _, _, _, _, _, _, _, _, _, _, _, rfl, rfl, h1, h2, hp, hN⟩
  · rw [if_neg (show ¬ nI 1 = 0 by decide), if_pos (show nI 1 = 1 from rfl), if_neg (show ¬ nI 1 = 0 by decide), if_pos (show nI 1 = 1 from rfl), ← (hFG (by omega)).1, ← (hFG (by omega)).2]
    obtain ⟨r, x', y', d1, d2, d3, d4, f1, f2, f3, f4, e1, e2, h1⟩ := pr_place hn (F j) (G j) ha hb hp c1 c2 c3 c4 m1 m2 m3 m4
    rw [e1, e2, Option.bind_some, Option.bind_some]
    by_cases q : r < 0
    · simp only [if_pos q]
      exact ⟨_, _, _, _, _, _, _, _, _, _, _, _, _, _, _, _, _, _, _, _, _, _, rfl, rfl, ha, hb, h1, hN⟩
    · simp only [if_neg q]
      exact ⟨_, _, _, _, _, _, _, _, _, _, _, _, _, _, _, _, _, _, _, _, _, _, rfl, rfl, ha, hb, h1, hN⟩
  · rw [if_neg (show ¬ nI 2 = 0 by decide), if_neg (show ¬ nI 2 = 1 by decide), if_pos (show nI 2 = 2 from rfl), if_neg (show ¬ nI 2 = 0 by decide), if_neg (show ¬ nI 2 = 1 by decide), if_pos (show nI 2 = 2 from rfl), ← (hFG (by omega)).1, ← (hFG (by omega)).2]
    obtain ⟨f, m, hf, hm, h1, h2⟩ := hS rfl
    obtain ⟨r, x', y', tx', ty', e1, e2, hr, h3⟩ := cw_l n ht h1 hT a b hp m 0 n n x y (by omega) (by omega) (by omega) hp
    rw [show (nI 0 : Int32) = 0 from rfl] at e1 e2
    unfold fX8_carryByWord fX9_isCarried fX2_copyFrom
    rw [hf, hm, Option.bind_some, e1, e2, Option.bind_some, Option.bind_some]
    rcases hr with rfl | rfl
    · simp only [zk0]
      exact ⟨_, _, _, _, _, _, _, _, _, _, _, _, _, _, _, _, _, _, _, _, _, _, rfl, rfl, ha, hb, h3, hN⟩
    · simp only [zk1]
      exact ⟨_, _, _, _, _, _, _, _, _, _, _, _, _, _, _, _, _, _, _, _, _, _, rfl, rfl, ha, hb, h3, hN⟩
  · rw [if_neg (show ¬ nI 3 = 0 by decide), if_neg (show ¬ nI 3 = 1 by decide), if_neg (show ¬ nI 3 = 2 by decide), if_pos (show nI 3 = 3 from rfl), if_neg (show ¬ nI 3 = 0 by decide), if_neg (show ¬ nI 3 = 1 by decide), if_neg (show ¬ nI 3 = 2 by decide), if_pos (show nI 3 = 3 from rfl)]
    obtain ⟨r, u', c', v', A', B', e1, e2, h1⟩ := pr_note hn hn hp hN
    rw [e1, e2, Option.bind_some, Option.bind_some]
    by_cases q : r < 0
    · simp only [if_pos q]
      exact ⟨_, _, _, _, _, _, _, _, _, _, _, _, _, _, _, _, _, _, _, _, _, _, rfl, rfl, ha, hb, hp, h1⟩
    · simp only [if_neg q]
      exact ⟨_, _, _, _, _, _, _, _, _, _, _, _, _, _, _, _, _, _, _, _, _, _, rfl, rfl, ha, hb, hp, h1⟩
  · rw [if_neg (show ¬ nI 4 = 0 by decide), if_neg (show ¬ nI 4 = 1 by decide), if_neg (show ¬ nI 4 = 2 by decide), if_neg (show ¬ nI 4 = 3 by decide), if_pos (show nI 4 = 4 from rfl), if_neg (show ¬ nI 4 = 0 by decide), if_neg (show ¬ nI 4 = 1 by decide), if_neg (show ¬ nI 4 = 2 by decide), if_neg (show ¬ nI 4 = 3 by decide)]
    obtain ⟨r, u', v', e1, e2, h1⟩ := pr_wipe hN
    rw [e1, e2, Option.bind_some, Option.bind_some]
    by_cases q : r < 0
    · simp only [if_pos q]
      exact ⟨_, _, _, _, _, _, _, _, _, _, _, _, _, _, _, _, _, _, _, _, _, _, rfl, rfl, ha, hb, hp, h1⟩
    · simp only [if_neg q]
      exact ⟨_, _, _, _, _, _, _, _, _, _, _, _, _, _, _, _, _, _, _, _, _, _, rfl, rfl, ha, hb, hp, h1⟩
theorem isIn_nI {i c : Nat} (h : i < c) (hc : c ≤ 12) : fX8_isIn (nI i) 0 (nI c - 1) = some 1 := by
  rw [show (1 : Int32) = nI 1 from rfl, nI_sub (by omega) (by omega)]
  exact isIn_y (by rw [nI_toInt (by omega), ti0]; omega) (by rw [nI_toInt (by omega), nI_toInt (by omega)]; omega)
theorem rd_l {n : Nat} (hn : 2000 ≤ n) {t c' : Nat} (ht : t ≤ 100) (hc : c' ≤ 12) {T T' : Nat → Int32} (hT : ∀ j, j < t → T' j = T j) {K W F F2 G G2 : Nat → Int32} (hC : ∀ j, j < c' → Cl1 t K W F F2 G G2 j) (sp val at' rd' : Int32) : ∀ (d i k k' : Nat) (cnt a b x y u v : Int32) (c A B : Nat → Int32) (ta tb tx ty c1 c2 c3 c4 m1 m2 m3 m4 : Int32), i + d = c' → d < k → d < k' → r16 a → r16 b → isPl x y → Nts u c v A B → ∃ r a' b' x' y' u' c2' ta' tb' tx' ty' d1 d2 d3 d4 e1 e2 e3 e4 v' A' B', lX8_read_12 n 24 8 T k (-1) cnt (nI i) a b x y u c ta tb tx ty c1 c2 c3 c4 (nI t) (nI c') sp val K F G = some (r, a', b', x', y', u', c2', ta', tb', tx', ty', d1, d2, d3, d4, 0, nI c', sp, val, K, F, G) ∧ lX9_read_26 n T' k' cnt (nI i) a b x y m1 m2 m3 m4 v 0 at' (nI c') rd' A B W F2 G2 = some (r, a', b', x', y', e1, e2, e3, e4, v', 0, at', nI c', rd', A', B', W, F2, G2) ∧ r16 a' ∧ r16 b' ∧ isPl x' y' ∧ Nts u' c2' v' A' B' := by
  intro d
  induction d with
  | zero =>
    intro i k k' cnt a b x y u v c A B ta tb tx ty c1 c2 c3 c4 m1 m2 m3 m4 hi hk hk' ha hb hp hN
    obtain ⟨k, rfl⟩ : ∃ q, k = q + 1 := ⟨k - 1, by omega⟩
    obtain ⟨k', rfl⟩ : ∃ q, k' = q + 1 := ⟨k' - 1, by omega⟩
    have hl := (nJ_le (j := c') (k := i) (by omega) (by omega)).mpr (by omega)
    unfold lX8_read_12 lX9_read_26 fX5_size jX8_read_67 fX5_clear
    rw [if_neg (by decide), Option.bind_some, if_pos hl, if_pos hl, Option.bind_some, if_neg (by decide)]
    exact ⟨_, _, _, _, _, _, _, _, _, _, _, _, _, _, _, _, _, _, _, _, _, _, rfl, rfl, ha, hb, hp, hN⟩
  | succ d ih =>
    intro i k k' cnt a b x y u v c A B ta tb tx ty c1 c2 c3 c4 m1 m2 m3 m4 hi hk hk' ha hb hp hN
    obtain ⟨k, rfl⟩ : ∃ q, k = q + 1 := ⟨k - 1, by omega⟩
    obtain ⟨k', rfl⟩ : ∃ q, k' = q + 1 := ⟨k' - 1, by omega⟩
    have hl : ¬ nI c' ≤ nI i := fun q => by have := (nJ_le (by omega) (by omega)).mp q; omega
    obtain ⟨r, a', b', x', y', u', c2', ta', tb', tx', ty', d1, d2, d3, d4, e1, e2, e3, e4, v', A', B', f1, f2, h1, h2, h3, h4⟩ := done_c hn ht (show i < 12 by omega) hT (hC i (by omega)) ha hb hp hN ta tb tx ty c1 c2 c3 c4 m1 m2 m3 m4
    have hin := isIn_nI (i := i) (c := c') (by omega) hc
    rw [lX8_read_12, lX9_read_26]
    unfold fX5_size fX5_kind fX5_first fX5_second
    rw [if_neg (by decide), Option.bind_some, if_neg hl, if_neg hl, hin]
    simp only [Option.bind_some, if_neg n10]
    rw [ck_nI (by omega) (by omega), ck_nI (by omega) (by omega), ck_nI (by omega) (by omega), nI_clamp (by omega)]
    simp only [Option.bind_some]
    rw [f1, f2, Option.bind_some, Option.bind_some, nI_p]
    by_cases q : r = 0
    · simp only [if_pos q]
      exact ih (i + 1) k k' _ _ _ _ _ _ _ _ _ _ _ _ _ _ _ _ _ _ _ _ _ _ (by omega) (by omega) (by omega) h1 h2 h3 h4
    · simp only [if_neg q]
      exact ih (i + 1) k k' _ _ _ _ _ _ _ _ _ _ _ _ _ _ _ _ _ _ _ _ _ _ (by omega) (by omega) (by omega) h1 h2 h3 h4
theorem txt_0 (T T' : Nat → Int32) : Txt 0 T 0 T' := ⟨0, by omega, rfl, rfl, fun j hj => by omega⟩
theorem pr_read {n : Nat} (hn : 2000 ≤ n) {a b x y : Int32} (ha : r16 a) (hb : r16 b) (hp : isPl x y) {u v : Int32} {c A B : Nat → Int32} (hN : Nts u c v A B) {L L' : Int32} {T T' : Nat → Int32} (hT : Txt L T L' T') (ta tb tx ty c1 c2 c3 c4 m1 m2 m3 m4 cl sp val at' cl' rd' : Int32) (K W F F2 G G2 : Nat → Int32) : ∃ r a' b' x' y' u' c' ta' tb' tx' ty' d1 d2 d3 d4 L1 g1 g2 g3 K' F' G' e1 e2 e3 e4 v' L2 i1 i2 i3 A' B' W' F2' G2', fX8_read n 24 a b x y 8 u c ta tb tx ty c1 c2 c3 c4 L cl sp val T K F G = some (r, a', b', x', y', u', c', ta', tb', tx', ty', d1, d2, d3, d4, L1, g1, g2, g3, K', F', G') ∧ fX9_read n a b x y m1 m2 m3 m4 v L' at' cl' rd' A B T' W F2 G2 = some (r, a', b', x', y', e1, e2, e3, e4, v', L2, i1, i2, i3, A', B', W', F2', G2') ∧ r16 a' ∧ r16 b' ∧ isPl x' y' ∧ Nts u' c' v' A' B' ∧ Txt L1 T L2 T' := by
  obtain ⟨t, ht, rfl, rfl, hT⟩ := hT
  have hT' : ∀ j, j < t → T' j = T j := fun j hj => (hT j hj).1.symm
  unfold fX8_read fX9_read
  rcases fault_c (n := n) (by omega) ht hT' cl sp val at' cl' rd' K W F F2 G G2 with ⟨s', x1, x2, x3, x4, x5, x6, y1, y2, y3, y4, y5, hs, e1, e2⟩ | ⟨k, x2, x3, y1, y2, K', W', F', F2', G', G2', hk, e1, e2, hC⟩
  · obtain ⟨n, rfl⟩ : ∃ q, n = q + 1 := ⟨n - 1, by omega⟩
    rw [e1, e2, Option.bind_some, Option.bind_some]
    unfold lX8_read_12 jX8_read_67 fX5_clear
    have h0 : (0 : Int32) ≤ nI s' := (nJ_le (j := 0) (by omega) (by omega)).mpr (by omega)
    rw [if_pos h0, Option.bind_some, if_pos h0, if_pos rfl]
    exact ⟨_, _, _, _, _, _, _, _, _, _, _, _, _, _, _, _, _, _, _, _, _, _, _, _, _, _, _, _, _, _, _, _, _, _, _, _, rfl, rfl, ha, hb, hp, hN, txt_0 T T'⟩
  · rw [e1, e2, Option.bind_some, Option.bind_some]
    obtain ⟨r, a', b', x', y', u', c2', ta', tb', tx', ty', d1, d2, d3, d4, f1, f2, f3, f4, v', A', B', g1, g2, h1, h2, h3, h4⟩ := rd_l hn ht hk hT' hC x2 x3 y1 y2 k 0 n n 0 a b x y u v c A B ta tb tx ty c1 c2 c3 c4 m1 m2 m3 m4 (by omega) (by omega) (by omega) ha hb hp hN
    rw [show (nI 0 : Int32) = 0 from rfl] at g1 g2
    rw [if_neg n10, g1, g2]
    exact ⟨_, _, _, _, _, _, _, _, _, _, _, _, _, _, _, _, _, _, _, _, _, _, _, _, _, _, _, _, _, _, _, _, _, _, _, _, rfl, rfl, h1, h2, h3, h4, txt_0 T T'⟩
