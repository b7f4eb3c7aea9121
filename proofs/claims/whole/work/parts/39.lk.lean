-- ===== looked =====
theorem looked_l {a b k : Nat} (ha : a < 6) (hb : b < 6) (hk : k ≤ 8) {c A B E : Nat → Int32} (h : R3 k c A B E) (hA : ∀ j, j < k → isBk (A j) (B j)) {S C : Nat → Int32} {H : Nat → Int64} (hD : Done a b 13 0 S C H) (l1 l2 l3 l4 ca cb : Int32) : ∀ (d i K M : Nat) (m1 m2 m3 m4 ka kb : Int32) (u w : Int64) (U D : Nat → Int64) (C2 : Nat → Int32), i + d = k → d < K → d < M → CtM ka kb U D C2 → ∃ r e1 e2 e3 e4 ka' kb' u' w' U' D' C2', lX8_looked_37 5000 24 (nI k) c K (nI i) l1 l2 l3 l4 ca cb S C H = some (r, l1, l2, l3, l4, ca, cb, S, C, H) ∧ lX9_looked_2 5000 (nI (a + 1)) (nI (b + 1)) (nI k) A B E M (nI i) m1 m2 m3 m4 ka kb u w U D C2 = some (r, e1, e2, e3, e4, ka', kb', u', w', U', D', C2') ∧ CtM ka' kb' U' D' C2' := by
  intro d
  induction d with
  | zero =>
    intro i K M m1 m2 m3 m4 ka kb u w U D C2 hi hK hM hC
    obtain ⟨K, rfl⟩ : ∃ q, K = q + 1 := ⟨K - 1, by omega⟩
    obtain ⟨M, rfl⟩ : ∃ q, M = q + 1 := ⟨M - 1, by omega⟩
    have hl := (nJ_le (j := k) (k := i) (by omega) (by omega)).mpr (by omega)
    rw [lX8_looked_37, lX9_looked_2]
    unfold fX4_size
    simp only [Option.bind_some]
    rw [if_pos hl, if_pos hl]
    exact ⟨_, _, _, _, _, _, _, _, _, _, _, _, rfl, rfl, hC⟩
  | succ d ih =>
    intro i K M m1 m2 m3 m4 ka kb u w U D C2 hi hK hM hC
    obtain ⟨K, rfl⟩ : ∃ q, K = q + 1 := ⟨K - 1, by omega⟩
    obtain ⟨M, rfl⟩ : ∃ q, M = q + 1 := ⟨M - 1, by omega⟩
    have hno : ¬ nI k ≤ nI i := fun q => by have := (nJ_le (by omega) (by omega)).mp q; omega
    obtain ⟨h1, h2, h3⟩ := h i (by omega)
    obtain ⟨x, y, g1, g2, ex, ey⟩ := cnt_nI (hA i (by omega)).1 (hA i (by omega)).2
    obtain ⟨f1, f2, f3, f4, u', w', U', D', C2', f, hD'⟩ := countOf_c ha hb g1 g2 hC m1 m2 m3 m4 u w
    rw [lX8_looked_37, lX9_looked_2]
    unfold fX4_size
    simp only [Option.bind_some]
    rw [if_neg hno, if_neg hno, cell0 c (by omega) (by omega) (by omega), Option.bind_some, cell1 c (by omega) (by omega) (by omega), Option.bind_some, cell2 c (by omega) (by omega) (by omega), ck_nI (by omega) (by omega), ck_nI (by omega) (by omega), nI_clamp (by omega), h1, h2, h3, ex, ey, f, countAt_y hD g1 g2, nI_p]
    simp only [Option.bind_some]
    rw [ck_nI (by omega) (by omega)]
    by_cases q : aC a b (13 * x + y) = E i
    · rw [if_pos q, if_pos q]
      exact ih (i + 1) K M _ _ _ _ _ _ _ _ _ _ _ (by omega) (by omega) (by omega) (CtM_of ha hb hD')
    · rw [if_neg q, if_neg q]
      exact ⟨_, _, _, _, _, _, _, _, _, _, _, _, rfl, rfl, CtM_of ha hb hD'⟩
theorem pr_looked {A B : Int32} (hA : r16 A) (hB : r16 B) {bu bv : Int32} {bc bx bz be : Nat → Int32} (hK : Bks bu bc bv bx bz be) {ca cb ka kb : Int32} {S C C2 : Nat → Int32} {H U D : Nat → Int64} (hX : CtX ca cb S C H) (hM : CtM ka kb U D C2) (c1 c2 c3 c4 m1 m2 m3 m4 : Int32) (u w : Int64) : ∃ o d1 d2 d3 d4 ca' cb' S' C' H' e1 e2 e3 e4 ka' kb' u' w' U' D' C2', fX8_looked 5000 24 A B bu bc c1 c2 c3 c4 ca cb S C H = some (o, d1, d2, d3, d4, ca', cb', S', C', H') ∧ fX9_looked 5000 A B m1 m2 m3 m4 ka kb u w bv U D C2 bx bz be = some (o, e1, e2, e3, e4, ka', kb', u', w', U', D', C2') ∧ CtX ca' cb' S' C' H' ∧ CtM ka' kb' U' D' C2' := by
  obtain ⟨a, ha, rfl⟩ := r16_nI hA
  obtain ⟨b, hb, rfl⟩ := r16_nI hB
  obtain ⟨k, hk, rfl, rfl, h1, h2⟩ := hK
  obtain ⟨d1, d2, d3, d4, S', C', H', e, hD⟩ := fillFor_c ha hb hX c1 c2 c3 c4
  unfold fX8_looked fX9_looked
  rw [e, Option.bind_some]
  obtain ⟨r, e1, e2, e3, e4, ka', kb', u', w', U', D', C2', k1, k2, k3⟩ := looked_l ha hb hk h1 h2 hD d1 d2 d3 d4 (nI (a + 1)) (nI (b + 1)) k 0 5000 5000 m1 m2 m3 m4 ka kb u w U D C2 (by omega) (by omega) (by omega) hM
  exact ⟨_, _, _, _, _, _, _, _, _, _, _, _, _, _, _, _, _, _, _, _, _, k1, k2, CtX_of ha hb hD, k3⟩
-- ===== the greatest common divisor, both ways =====
theorem rem_L {x y : Int64} (hx : 0 ≤ x.toInt) (hy : 0 < y.toInt) : (x - x / y * y).toInt = x.toInt % y.toInt ∧ 0 ≤ (x - x / y * y).toInt ∧ (x - x / y * y).toInt < y.toInt := by
  have hx2 := fb_rngL x; have hy2 := fb_rngL y
  have hm := Int.emod_add_mul_ediv x.toInt y.toInt
  have m1 := Int.emod_nonneg x.toInt (show y.toInt ≠ 0 by omega)
  have m2 := Int.emod_lt_of_pos x.toInt hy
  have d0 : 0 ≤ x.toInt / y.toInt := Int.ediv_nonneg hx (by omega)
  have d1 : x.toInt / y.toInt ≤ x.toInt := Int.ediv_le_self _ hx
  have ed : (x / y).toInt = x.toInt / y.toInt := by
    rw [Int64.toInt_div, Int.tdiv_eq_ediv_of_nonneg hx, fb_bmodL (by omega) (by omega)]
  have hc : x.toInt / y.toInt * y.toInt = y.toInt * (x.toInt / y.toInt) := Int.mul_comm _ _
  have em : (x / y * y).toInt = x.toInt / y.toInt * y.toInt := by
    rw [fb_mulL (by rw [ed]; omega) (by rw [ed]; omega), ed]
  have es : (x - x / y * y).toInt = x.toInt % y.toInt := by
    rw [fb_subL (by rw [em]; omega) (by rw [em]; omega), em]; omega
  rw [es]
  exact ⟨rfl, m1, m2⟩
theorem gcd_l (n : Nat) : ∀ (k j K M : Nat) (x y : Int64), 0 ≤ x.toInt → 0 ≤ y.toInt → y.toInt ≤ k → (0 < x.toInt ∨ 0 < y.toInt) → j + k < 200 → k < K → k < M → ∃ g, lX8_commonDivisor_15 n K x y (nI j) = some g ∧ gX9_common M x y = some g ∧ 0 < g.toInt := by
  intro k
  induction k with
  | zero =>
    intro j K M x y hx hy hk hp hj hK hM
    obtain ⟨K, rfl⟩ : ∃ q, K = q + 1 := ⟨K - 1, by omega⟩
    obtain ⟨M, rfl⟩ : ∃ q, M = q + 1 := ⟨M - 1, by omega⟩
    have z : (0 : Int64).toInt = 0 := by decide
    have e : y = 0 := by rw [fa_eq64, z]; omega
    have el : lg_cmp y 0 = 0 := (lg_eq _ _).mpr e
    rw [lX8_commonDivisor_15, gX9_common, if_pos el, if_pos el]
    have hl : ¬ (200 : Int32) ≤ nI j := fun q => by have := (nJ_le (j := 200) (by omega) (by omega)).mp q; omega
    rw [if_neg hl]
    exact ⟨x, rfl, rfl, by omega⟩
  | succ k ih =>
    intro j K M x y hx hy hk hp hj hK hM
    obtain ⟨K, rfl⟩ : ∃ q, K = q + 1 := ⟨K - 1, by omega⟩
    obtain ⟨M, rfl⟩ : ∃ q, M = q + 1 := ⟨M - 1, by omega⟩
    have z : (0 : Int64).toInt = 0 := by decide
    have hl : ¬ (200 : Int32) ≤ nI j := fun q => by have := (nJ_le (j := 200) (by omega) (by omega)).mp q; omega
    rw [lX8_commonDivisor_15, gX9_common, if_neg hl]
    by_cases e : y = 0
    · have el : lg_cmp y 0 = 0 := (lg_eq _ _).mpr e
      rw [if_pos el, if_pos el]
      rw [fa_eq64, z] at e
      exact ⟨x, rfl, rfl, by omega⟩
    · have el : ¬ lg_cmp y 0 = 0 := fun q => e ((lg_eq _ _).mp q)
      have y0 : 0 < y.toInt := by
        have : ¬ y.toInt = 0 := fun q => e (by rw [fa_eq64, z]; exact q)
        omega
      obtain ⟨-, r1, r2⟩ := rem_L hx y0
      rw [if_neg el, if_neg el, show decide (¬ y = 0) = true from decide_eq_true e, nI_p]
      exact ih (j + 1) K M y (x - x / y * y) (by omega) r1 (by omega) (Or.inl y0) (by omega) (by omega) (by omega)
theorem pr_part (p q t : Int32) (hq : 1 ≤ q.toInt ∧ q.toInt ≤ 100) (u w : Int64) : ∃ o u' w', fX8_partOf 5000 p.toInt64 q.toInt64 t = some o ∧ fX9_lowest p q t u w = some (o, u', w') := by
  have hp2 := fb_rng p
  have z : (0 : Int64).toInt = 0 := by decide
  have ep := Int32.toInt_toInt64 p
  have eq := Int32.toInt_toInt64 q
  have hap : 0 ≤ (if 0 < p.toInt64 then p.toInt64 else -p.toInt64).toInt := by
    by_cases h : 0 < p.toInt64
    · rw [if_pos h]; rw [fa_lt64] at h; omega
    · rw [if_neg h]; rw [fa_lt64] at h
      rw [Int64.toInt_neg, fb_bmodL (by omega) (by omega)]; omega
  have haq : (if 0 < q.toInt64 then q.toInt64 else -q.toInt64) = q.toInt64 := if_pos (by rw [fa_lt64]; omega)
  obtain ⟨g, g1, g2, g3⟩ := gcd_l 5000 100 0 5000 200 (if 0 < p.toInt64 then p.toInt64 else -p.toInt64) q.toInt64 hap (by omega) (by omega) (Or.inr (by omega)) (by omega) (by omega) (by omega)
  have gn : ¬ g = 0 := fun e => by rw [fa_eq64, z] at e; omega
  have gl : ¬ lg_cmp g 0 = 0 := fun q => gn ((lg_eq _ _).mp q)
  have gd : decide (¬ g = 0) = true := decide_eq_true gn
  have hq0 : 0 ≤ lg_cmp q.toInt64 0 := (lg_ge _ _).mpr (by rw [fa_le64]; omega)
  unfold fX8_partOf fX9_lowest fX8_commonDivisor fX9_lay fX9_common jX9_lay_27
  rw [haq, g2]
  rw [show (nI 0 : Int32) = 0 from rfl] at g1
  rw [g1]
  simp only [Option.bind_some]
  rw [if_neg gl, if_pos hq0, gd]
  unfold dk
  simp only [if_true, Option.bind_some]
  by_cases h : t = 0
  · rw [if_pos h, if_pos h]; exact ⟨_, _, _, rfl, rfl⟩
  · rw [if_neg h, if_neg h]; exact ⟨_, _, _, rfl, rfl⟩
