-- ===== rows of three =====
theorem nJ_lt {j k : Nat} (hj : j < 2 ^ 31) (hk : k < 2 ^ 31) : nI j < nI k ↔ j < k := by rw [fa_lt, nI_toInt hj, nI_toInt hk]; omega
theorem nJ_le {j k : Nat} (hj : j < 2 ^ 31) (hk : k < 2 ^ 31) : nI j ≤ nI k ↔ j ≤ k := by rw [fa_le, nI_toInt hj, nI_toInt hk]; omega
theorem nJ_eq {j k : Nat} (hj : j < 2 ^ 31) (hk : k < 2 ^ 31) : nI j = nI k ↔ j = k := by rw [fa_eq, nI_toInt hj, nI_toInt hk]; omega
theorem nJ_0 (k : Nat) : nI k + 0 = nI k := nI_add k 0
theorem i32_0 (x : Int32) : x + 0 = x := Int32.add_zero x
theorem nI_p (k : Nat) : nI k + 1 = nI (k + 1) := nI_add k 1
theorem nI_m {k : Nat} (hk : k < 2 ^ 31) : (nI k - 1).toInt = (k : Int) - 1 := by
  have e : (1 : Int32).toInt = 1 := by decide
  rw [fb_subI (by rw [nI_toInt hk, e]; omega) (by rw [nI_toInt hk, e]; omega), nI_toInt hk, e]
theorem nI_of_rng {p : Int32} (h : 0 ≤ p.toInt) : ∃ j : Nat, p = nI j ∧ (j : Int) = p.toInt ∧ j < 2 ^ 31 := by
  have h2 := (fb_rng p).2
  refine ⟨p.toInt.toNat, ?_, by omega, by omega⟩
  rw [fa_eq, nI_toInt (by omega)]; omega
theorem n10 : ¬ (1 : Int32) = 0 := by decide
theorem nJ_ne8 {k : Nat} (hk : k ≤ 8) (e : ¬ k = 8) : ¬ nI k = 8 := fun q => e ((nJ_eq (by omega) (by omega)).mp (show nI k = nI 8 from q))
theorem nJ_ne4 {k : Nat} (hk : k ≤ 4) (e : ¬ k = 4) : ¬ nI k = 4 := fun q => e ((nJ_eq (by omega) (by omega)).mp (show nI k = nI 4 from q))
theorem nJ_ne100 {k : Nat} (hk : k ≤ 100) (e : ¬ k = 100) : ¬ nI k = 100 := fun q => e ((nJ_eq (by omega) (by omega)).mp (show nI k = nI 100 from q))
theorem nJ_lt100 {k : Nat} (hk : k < 100) : nI k < 100 := (nJ_lt (k := 100) (by omega) (by omega)).mpr hk
theorem upd_y (f : Nat → Int32) {i j : Nat} (v : Int32) (h : j = i) : upd f i v j = v := if_pos h
theorem upd_n (f : Nat → Int32) {i j : Nat} (v : Int32) (h : j ≠ i) : upd f i v j = f j := if_neg h
theorem cell0 {j k N : Nat} (c : Nat → Int32) (hj : j < k) (hk : 3 * k ≤ N) (hN : N < 1000) : fX4_cell (nI j) 0 N (nI k) c = some (c (3 * j)) := by
  have z : (0 : Int32).toInt = 0 := by decide
  have t : (2 : Int32).toInt = 2 := by decide
  unfold fX4_cell
  rw [isIn_y (by rw [nI_toInt (by omega), z]; omega) (by rw [nI_toInt (by omega), nI_m (by omega)]; omega), Option.bind_some, if_neg (by decide), isIn_y (by rw [z]; omega) (by rw [z, t]; omega), Option.bind_some, if_neg (by decide), m3, nJ_0, ck_nI (by omega) (by omega), nI_clamp (by omega)]
theorem cell1 {j k N : Nat} (c : Nat → Int32) (hj : j < k) (hk : 3 * k ≤ N) (hN : N < 1000) : fX4_cell (nI j) 1 N (nI k) c = some (c (3 * j + 1)) := by
  have z : (0 : Int32).toInt = 0 := by decide
  have o : (1 : Int32).toInt = 1 := by decide
  have t : (2 : Int32).toInt = 2 := by decide
  unfold fX4_cell
  rw [isIn_y (by rw [nI_toInt (by omega), z]; omega) (by rw [nI_toInt (by omega), nI_m (by omega)]; omega), Option.bind_some, if_neg (by decide), isIn_y (by rw [z, o]; omega) (by rw [o, t]; omega), Option.bind_some, if_neg (by decide), m3, nI_p, ck_nI (by omega) (by omega), nI_clamp (by omega)]
theorem cell2 {j k N : Nat} (c : Nat → Int32) (hj : j < k) (hk : 3 * k ≤ N) (hN : N < 1000) : fX4_cell (nI j) 2 N (nI k) c = some (c (3 * j + 2)) := by
  have z : (0 : Int32).toInt = 0 := by decide
  have t : (2 : Int32).toInt = 2 := by decide
  unfold fX4_cell
  rw [isIn_y (by rw [nI_toInt (by omega), z]; omega) (by rw [nI_toInt (by omega), nI_m (by omega)]; omega), Option.bind_some, if_neg (by decide), isIn_y (by rw [z, t]; omega) (by rw [t]; omega), Option.bind_some, if_neg (by decide), m3, nI_2, ck_nI (by omega) (by omega), nI_clamp (by omega)]
/-- a row of three put at k -/
def upd3 (c : Nat → Int32) (k : Nat) (p q r : Int32) : Nat → Int32 := upd (upd (upd c (3 * k) p) (3 * k + 1) q) (3 * k + 2) r
theorem put_y {k L N : Nat} (p q r : Int32) (c : Nat → Int32) (hk : k < L) (hL : 3 * L ≤ N) (hN : N < 1000) : fX4_put p q r N (nI L) (nI k) c = some (nI (k + 1), nI (k + 1), upd3 c k p q r) := by
  unfold fX4_put upd3
  rw [if_pos ((nJ_lt (by omega) (by omega)).mpr hk), m3, nI_p, nI_p, nI_2, ck_nI (by omega) (by omega), ck_nI (by omega) (by omega), ck_nI (by omega) (by omega), nI_clamp (by omega), nI_clamp (by omega), nI_clamp (by omega)]
theorem put_n {L N : Nat} (p q r : Int32) (c : Nat → Int32) : fX4_put p q r N (nI L) (nI L) c = some (-4, nI L, c) := by
  unfold fX4_put
  rw [if_neg (by rw [fa_lt]; omega)]
/-- k rows of three are those of three arrays -/
def R3 (k : Nat) (c A B C : Nat → Int32) : Prop := ∀ j, j < k → c (3 * j) = A j ∧ c (3 * j + 1) = B j ∧ c (3 * j + 2) = C j
/-- the first two of k rows of three are those of two arrays -/
def R2 (k : Nat) (c A B : Nat → Int32) : Prop := ∀ j, j < k → c (3 * j) = A j ∧ c (3 * j + 1) = B j
theorem R3.put {k : Nat} {c A B C : Nat → Int32} (h : R3 k c A B C) (p q r : Int32) : R3 (k + 1) (upd3 c k p q r) (upd A k p) (upd B k q) (upd C k r) := by
  intro j hj
  unfold upd3
  by_cases e : j = k
  · subst e
    refine ⟨?_, ?_, ?_⟩
    · rw [upd_n _ _ (by omega), upd_n _ _ (by omega), upd_y _ _ rfl, upd_y _ _ rfl]
    · rw [upd_n _ _ (by omega), upd_y _ _ rfl, upd_y _ _ rfl]
    · rw [upd_y _ _ rfl, upd_y _ _ rfl]
  · obtain ⟨h1, h2, h3⟩ := h j (by omega)
    refine ⟨?_, ?_, ?_⟩
    · rw [upd_n _ _ (by omega), upd_n _ _ (by omega), upd_n _ _ (by omega), upd_n _ _ e, h1]
    · rw [upd_n _ _ (by omega), upd_n _ _ (by omega), upd_n _ _ (by omega), upd_n _ _ e, h2]
    · rw [upd_n _ _ (by omega), upd_n _ _ (by omega), upd_n _ _ (by omega), upd_n _ _ e, h3]
theorem R2.put {k : Nat} {c A B : Nat → Int32} (h : R2 k c A B) (p q r : Int32) : R2 (k + 1) (upd3 c k p q r) (upd A k p) (upd B k q) := by
  intro j hj
  have h3 : R3 k c A B (fun j => c (3 * j + 2)) := fun i hi => ⟨(h i hi).1, (h i hi).2, rfl⟩
  exact ⟨(h3.put p q r j hj).1, (h3.put p q r j hj).2.1⟩
theorem upd_all {P : Int32 → Prop} {k : Nat} {A : Nat → Int32} (h : ∀ j, j < k → P (A j)) {v : Int32} (hv : P v) : ∀ j, j < k + 1 → P (upd A k v j) := by
  intro j hj
  by_cases e : j = k
  · rw [upd_y _ _ e]; exact hv
  · rw [upd_n _ _ e]; exact h j (by omega)
theorem upd_all2 {P : Int32 → Int32 → Prop} {k : Nat} {A B : Nat → Int32} (h : ∀ j, j < k → P (A j) (B j)) {v w : Int32} (hv : P v w) : ∀ j, j < k + 1 → P (upd A k v j) (upd B k w j) := by
  intro j hj
  by_cases e : j = k
  · rw [upd_y _ _ e, upd_y _ _ e]; exact hv
  · rw [upd_n _ _ e, upd_n _ _ e]; exact h j (by omega)
-- ===== note =====
/-- notes: k of them, the same on both sides, all places -/
def Nts (u : Int32) (c : Nat → Int32) (v : Int32) (A B : Nat → Int32) : Prop := ∃ k, k ≤ 8 ∧ u = nI k ∧ v = nI k ∧ R2 k c A B ∧ ∀ j, j < k → isPl (A j) (B j)
theorem note_l (n m : Nat) {x y : Int32} (hp : isPl x y) {k : Nat} (hk : k ≤ 8) {c A B : Nat → Int32} (h : R2 k c A B) (hA : ∀ j, j < k → isPl (A j) (B j)) : ∀ (d i K M : Nat), i + d = k → d < K → d < M → ∃ r u' c' v' A' B', lX8_note_2 n 24 x y (nI 8) K (nI i) (nI k) c = some (r, u', c') ∧ lX9_note_2 m x y M (nI i) (nI k) A B = some (r, v', A', B') ∧ Nts u' c' v' A' B' := by
  intro d
  induction d with
  | zero =>
    intro i K M hi hK hM
    obtain ⟨K, rfl⟩ : ∃ q, K = q + 1 := ⟨K - 1, by omega⟩
    obtain ⟨M, rfl⟩ : ∃ q, M = q + 1 := ⟨M - 1, by omega⟩
    have hik : i = k := by omega
    subst hik
    rw [lX8_note_2, lX9_note_2]
    unfold fX4_size
    simp only [Option.bind_some]
    rw [if_pos ((nJ_le (by omega) (by omega)).mpr (Nat.le_refl _)), if_pos ((nJ_le (by omega) (by omega)).mpr (Nat.le_refl _))]
    by_cases e : i = 8
    · subst e
      rw [put_n, if_pos (show nI 8 = 8 from rfl)]
      exact ⟨_, _, _, _, _, _, rfl, rfl, 8, by omega, rfl, rfl, h, hA⟩
    · rw [put_y _ _ _ _ (by omega) (by omega) (by omega), if_neg (nJ_ne8 hk e), ck_nI (by omega) (by omega), ck_nI (by omega) (by omega), nI_clamp (by omega), nI_p]
      exact ⟨_, _, _, _, _, _, rfl, rfl, i + 1, by omega, rfl, rfl, h.put _ _ _, upd_all2 hA hp⟩
  | succ d ih =>
    intro i K M hi hK hM
    obtain ⟨K, rfl⟩ : ∃ q, K = q + 1 := ⟨K - 1, by omega⟩
    obtain ⟨M, rfl⟩ : ∃ q, M = q + 1 := ⟨M - 1, by omega⟩
    obtain ⟨h1, h2⟩ := h i (by omega)
    have hno : ¬ nI k ≤ nI i := fun q => by have := (nJ_le (by omega) (by omega)).mp q; omega
    obtain ⟨r, u', c', v', A', B', e1, e2, e3⟩ := ih (i + 1) K M (by omega) (by omega) (by omega)
    rw [lX8_note_2, lX9_note_2]
    unfold fX4_size
    simp only [Option.bind_some]
    rw [if_neg hno, if_neg hno, cell0 c (by omega) (by omega) (by omega), Option.bind_some, cell1 c (by omega) (by omega) (by omega), Option.bind_some, ck_nI (by omega) (by omega), ck_nI (by omega) (by omega), nI_clamp (by omega), h1, h2, nI_p, e1, e2]
    by_cases ex : A i = x
    · rw [if_pos ex, if_pos ex]
      by_cases ey : B i = y
      · rw [if_pos ey, if_pos ey]
        exact ⟨_, _, _, _, _, _, rfl, rfl, k, hk, rfl, rfl, h, hA⟩
      · rw [if_neg ey, if_neg ey]
        exact ⟨_, _, _, _, _, _, rfl, rfl, e3⟩
    · rw [if_neg ex, if_neg ex]
      exact ⟨_, _, _, _, _, _, rfl, rfl, e3⟩
theorem pr_note {n m : Nat} (hn : 2000 ≤ n) (hm : 2000 ≤ m) {x y : Int32} (hp : isPl x y) {u v : Int32} {c A B : Nat → Int32} (h : Nts u c v A B) : ∃ r u' c' v' A' B', fX8_note n 24 x y 8 u c = some (r, u', c') ∧ fX9_note m x y v A B = some (r, v', A', B') ∧ Nts u' c' v' A' B' := by
  obtain ⟨k, hk, rfl, rfl, h1, h2⟩ := h
  exact note_l n m hp hk h1 h2 k 0 n m (by omega) (by omega) (by omega)
theorem pr_wipe {u v : Int32} {c A B : Nat → Int32} (h : Nts u c v A B) : ∃ r u' v', fX8_wipe u = some (r, u') ∧ fX9_wipe v = some (r, v') ∧ Nts u' c v' A B := by
  obtain ⟨k, hk, rfl, rfl, h1, h2⟩ := h
  exact ⟨_, _, _, rfl, rfl, 0, by omega, rfl, rfl, fun j hj => absurd hj (by omega), fun j hj => absurd hj (by omega)⟩
theorem pr_noted {n m : Nat} (hn : 2000 ≤ n) (hm : 2000 ≤ m) (p q : Int32) {a b : Int32} (ha : r16 a) (hb : r16 b) {u v : Int32} {c A B : Nat → Int32} (h : Nts u c v A B) (c1 c2 c3 c4 m1 m2 m3 m4 : Int32) : ∃ r d1 d2 d3 d4 e1 e2 e3 e4, fX8_noted n p q 24 a b u c c1 c2 c3 c4 = some (r, d1, d2, d3, d4) ∧ fX9_noted m p q a b m1 m2 m3 m4 v A B = some (r, e1, e2, e3, e4) := by
  obtain ⟨k, hk, rfl, rfl, h1, h2⟩ := h
  unfold fX8_noted fX9_noted fX4_size
  have z : (0 : Int32).toInt = 0 := by decide
  rw [Option.bind_some, in_eq p 0 (nI k - 1) (by decide) rfl, in_eq q 0 2 (by decide) (by decide)]
  rcases isIn_c p 0 (nI k - 1) with ⟨g, g1, g2⟩ | ⟨g, -⟩
  · rw [g, Option.bind_some, Option.bind_some, if_neg n10, if_neg n10]
    rw [nI_m (by omega)] at g2
    obtain ⟨j, rfl, hj, hj2⟩ := nI_of_rng (p := p) (by omega)
    have hjk : j < k := by omega
    obtain ⟨h3, h4⟩ := h1 j hjk
    have hp := h2 j hjk
    rcases isIn_c q 0 2 with ⟨f, f1, f2⟩ | ⟨f, -⟩
    · rw [f, Option.bind_some, Option.bind_some, if_neg n10, if_neg n10, cell0 c hjk (by omega) (by omega), Option.bind_some, cell1 c hjk (by omega) (by omega), Option.bind_some, h3, h4]
      simp only [ck_nI (show j < 8 by omega) (show 8 < 2 ^ 31 by omega), nI_clamp (show j < 2 ^ 31 by omega)]
      obtain ⟨d1, d2, d3, d4, e⟩ := sortNow_X hn ha hb hp c1 c2 c3 c4
      obtain ⟨e1, e2, e3, e4, e'⟩ := sort_M hm ha hb hp m1 m2 m3 m4
      have t2 : (2 : Int32).toInt = 2 := by decide
      have t1 : (1 : Int32).toInt = 1 := by decide
      by_cases q2 : q = 2
      · subst q2
        rw [if_pos rfl, if_neg (by decide), if_neg (by decide), e, e']
        exact ⟨_, _, _, _, _, _, _, _, _, rfl, rfl⟩
      · by_cases q0 : q = 0
        · rw [if_neg q2, if_pos q0, if_pos q0]
          exact ⟨_, _, _, _, _, _, _, _, _, rfl, by rw [Int32.add_comm]⟩
        · have q1 : q = 1 := by
            rw [fa_eq] at *; omega
          rw [if_neg q2, if_neg q0, if_neg q0, if_pos q1]
          exact ⟨_, _, _, _, _, _, _, _, _, rfl, by rw [Int32.add_comm]⟩
    · rw [f]; exact ⟨_, _, _, _, _, _, _, _, _, rfl, rfl⟩
  · rw [g]; exact ⟨_, _, _, _, _, _, _, _, _, rfl, rfl⟩
-- ===== feed =====
/-- the text: k bytes, the same on both sides -/
def Txt (u : Int32) (c : Nat → Int32) (v : Int32) (d : Nat → Int32) : Prop := ∃ k, k ≤ 100 ∧ u = nI k ∧ v = nI k ∧ ∀ j, j < k → c j = d j ∧ 0 ≤ (d j).toInt ∧ (d j).toInt ≤ 127
theorem nar_byte {p : Int32} (h1 : -128 ≤ p.toInt) (h2 : p.toInt < 128) : vp_nar .byte p = p := fb_byte h1 h2
theorem pr_feed (p : Int32) {u v : Int32} {c d : Nat → Int32} (h : Txt u c v d) : ∃ r u' c' v' d', fX8_feed p u c = some (r, u', c') ∧ fX9_feed p v d = some (r, v', d') ∧ Txt u' c' v' d' := by
  obtain ⟨k, hk, rfl, rfl, h1⟩ := h
  unfold fX8_feed fX9_feed fX5_append
  have z : (0 : Int32).toInt = 0 := by decide
  have z7 : (127 : Int32).toInt = 127 := by decide
  rw [in_eq p 0 127 (by decide) (by decide)]
  rcases isIn_c p 0 127 with ⟨g, g1, g2⟩ | ⟨g, -⟩
  · rw [g, Option.bind_some, Option.bind_some, if_neg n10, if_neg n10]
    by_cases e : k = 100
    · subst e
      rw [if_neg (show ¬ nI 100 < 100 by decide), if_pos (show nI 100 = 100 from rfl)]
      exact ⟨_, _, _, _, _, rfl, rfl, 100, by omega, rfl, rfl, h1⟩
    · rw [if_pos (nJ_lt100 (show k < 100 by omega)), if_neg (nJ_ne100 hk e), ck_nI (by omega) (by omega), ck_nI (by omega) (by omega), nI_clamp (by omega), nI_p, fb_byte (by omega) (by omega), nar_byte (by omega) (by omega)]
      refine ⟨_, _, _, _, _, rfl, rfl, k + 1, by omega, rfl, rfl, ?_⟩
      intro j hj
      show upd c k p j = upd d k p j ∧ _
      by_cases e2 : j = k
      · rw [upd_y _ _ e2, upd_y _ _ e2]; exact ⟨rfl, by omega, by omega⟩
      · rw [upd_n _ _ e2, upd_n _ _ e2]; exact h1 j (by omega)
  · rw [g]; exact ⟨_, _, _, _, _, rfl, rfl, k, hk, rfl, rfl, h1⟩
-- ===== see =====
def isSn (x y : Int32) : Prop := (-12 ≤ x.toInt ∧ x.toInt ≤ 12) ∧ (-12 ≤ y.toInt ∧ y.toInt ≤ 12)
def Sns (u : Int32) (c : Nat → Int32) (v : Int32) (A B C : Nat → Int32) : Prop := ∃ k, k ≤ 4 ∧ u = nI k ∧ v = nI k ∧ R3 k c A B C ∧ ∀ j, j < k → isSn (A j) (B j)
theorem pr_see (p q r : Int32) {u v : Int32} {c A B C : Nat → Int32} (h : Sns u c v A B C) : ∃ o u' c' v' A' B' C', fX8_see p q r 12 4 u c = some (o, u', c') ∧ fX9_see p q r v A B C = some (o, v', A', B', C') ∧ Sns u' c' v' A' B' C' := by
  obtain ⟨k, hk, rfl, rfl, h1, h2⟩ := h
  unfold fX8_see fX9_see fX4_clear
  have z : (12 : Int32).toInt = 12 := by decide
  have zm : (-12 : Int32).toInt = -12 := by decide
  rw [in_eq p (-12) 12 (by decide) (by decide), in_eq q (-12) 12 (by decide) (by decide), in_eq r 0 2 (by decide) (by decide)]
  by_cases e : p = -100
  · rw [if_pos e, if_pos e]
    exact ⟨_, _, _, _, _, _, _, rfl, rfl, 0, by omega, rfl, rfl, fun j hj => absurd hj (by omega), fun j hj => absurd hj (by omega)⟩
  rw [if_neg e, if_neg e]
  have back : ∃ o u' c' v' A' B' C', some ((-2 : Int32), nI k, c) = some (o, u', c') ∧ some ((-2 : Int32), nI k, A, B, C) = some (o, v', A', B', C') ∧ Sns u' c' v' A' B' C' := ⟨_, _, _, _, _, _, _, rfl, rfl, k, hk, rfl, rfl, h1, h2⟩
  rcases isIn_c p (-12) 12 with ⟨g, g1, g2⟩ | ⟨g, -⟩
  · rw [g, Option.bind_some, Option.bind_some, if_neg n10, if_neg n10]
    rcases isIn_c q (-12) 12 with ⟨f, f1, f2⟩ | ⟨f, -⟩
    · rw [f, Option.bind_some, Option.bind_some, if_neg n10, if_neg n10]
      rcases isIn_c r 0 2 with ⟨t, t1, t2⟩ | ⟨t, -⟩
      · rw [t, Option.bind_some, Option.bind_some, if_neg n10, if_neg n10]
        by_cases e : k = 4
        · subst e
          rw [if_pos (show nI 4 = 4 from rfl), show (4 : Int32) = nI 4 from rfl, put_n]
          exact ⟨_, _, _, _, _, _, _, rfl, rfl, 4, by omega, rfl, rfl, h1, h2⟩
        · rw [if_neg (nJ_ne4 hk e), show (4 : Int32) = nI 4 from rfl, put_y _ _ _ _ (by omega) (by omega) (by omega), ck_nI (by omega) (by omega), ck_nI (by omega) (by omega), ck_nI (by omega) (by omega), nI_clamp (by omega), nI_p]
          exact ⟨_, _, _, _, _, _, _, rfl, rfl, k + 1, by omega, rfl, rfl, h1.put _ _ _, upd_all2 h2 ⟨by omega, by omega⟩⟩
      · rw [t]; exact back
    · rw [f]; exact back
  · rw [g]; exact back
-- ===== event =====
def isEv (w v : Int32) : Prop := (w = 0 ∧ (v = 0 ∨ v = 1)) ∨ (w = 1 ∧ 1 ≤ v.toInt ∧ v.toInt ≤ 6) ∨ (w = 2 ∧ v = 0)
def Evs (u : Int32) (c : Nat → Int32) (v : Int32) (A B : Nat → Int32) : Prop := ∃ k, k ≤ 8 ∧ u = nI k ∧ v = nI k ∧ R2 k c A B ∧ ∀ j, j < k → isEv (A j) (B j)
theorem ev_put {p q : Int32} (hp : isEv p q) {k : Nat} (hk : k ≤ 8) {c A B : Nat → Int32} (h1 : R2 k c A B) (h2 : ∀ j, j < k → isEv (A j) (B j)) : ∃ o u' c' v' A' B', ((fX4_put p q 0 24 8 (nI k) c).bind fun q63 => some (q63.1, q63.2.1, q63.2.2)) = some (o, u', c') ∧ jX9_event_67 p q (nI k) A B = some (o, v', A', B') ∧ Evs u' c' v' A' B' := by
  unfold jX9_event_67
  by_cases e : k = 8
  · subst e
    rw [if_pos (show nI 8 = 8 from rfl), show (8 : Int32) = nI 8 from rfl, put_n]
    exact ⟨_, _, _, _, _, _, rfl, rfl, 8, by omega, rfl, rfl, h1, h2⟩
  · rw [if_neg (nJ_ne8 hk e), show (8 : Int32) = nI 8 from rfl, put_y _ _ _ _ (by omega) (by omega) (by omega), ck_nI (by omega) (by omega), ck_nI (by omega) (by omega), nI_clamp (by omega), nI_p]
    exact ⟨_, _, _, _, _, _, rfl, rfl, k + 1, by omega, rfl, rfl, h1.put _ _ _, upd_all2 h2 hp⟩
theorem pr_event (p q : Int32) {u v : Int32} {c A B : Nat → Int32} (h : Evs u c v A B) : ∃ o u' c' v' A' B', fX8_event p q 24 8 u c = some (o, u', c') ∧ fX9_event p q v A B = some (o, v', A', B') ∧ Evs u' c' v' A' B' := by
  obtain ⟨k, hk, rfl, rfl, h1, h2⟩ := h
  unfold fX8_event fX9_event fX4_clear
  have t0 : (0 : Int32).toInt = 0 := by decide
  have t1 : (1 : Int32).toInt = 1 := by decide
  have t2 : (2 : Int32).toInt = 2 := by decide
  have t6 : (6 : Int32).toInt = 6 := by decide
  rw [in_eq p 0 2 (by decide) (by decide), isSide_eq, in_eq q 1 6 (by decide) (by decide)]
  by_cases e : p = -1
  · rw [if_pos e, if_pos e]
    exact ⟨_, _, _, _, _, _, rfl, rfl, 0, by omega, rfl, rfl, fun j hj => absurd hj (by omega), fun j hj => absurd hj (by omega)⟩
  rw [if_neg e, if_neg e]
  have back : ∀ z : Int32, ∃ o u' c' v' A' B', some (z, nI k, c) = some (o, u', c') ∧ some (z, nI k, A, B) = some (o, v', A', B') ∧ Evs u' c' v' A' B' := fun z => ⟨_, _, _, _, _, _, rfl, rfl, k, hk, rfl, rfl, h1, h2⟩
  by_cases e0 : p = 0
  · subst e0
    simp only [if_pos, isIn_y (p := 0) (a := 0) (b := 2) (by omega) (by omega), Option.bind_some, if_neg n10]
    rcases isIn_c q 0 1 with ⟨g, g1, g2⟩ | ⟨g, -⟩
    · rw [g, Option.bind_some, Option.bind_some, if_neg n10, if_neg n10]
      refine ev_put (Or.inl ⟨rfl, ?_⟩) hk h1 h2
      rw [fa_eq, fa_eq]; omega
    · rw [g]; exact back _
  by_cases e1 : p = 1
  · subst e1
    simp only [if_neg n10, if_pos, isIn_y (p := 1) (a := 0) (b := 2) (by omega) (by omega), Option.bind_some]
    rcases isIn_c q 1 6 with ⟨g, g1, g2⟩ | ⟨g, -⟩
    · rw [g, Option.bind_some, Option.bind_some, if_neg n10, if_neg n10]
      exact ev_put (Or.inr (Or.inl ⟨rfl, by omega, by omega⟩)) hk h1 h2
    · rw [g]; exact back _
  by_cases e2 : p = 2
  · subst e2
    simp only [if_neg n10, if_pos, isIn_y (p := 2) (a := 0) (b := 2) (by omega) (by omega), Option.bind_some, if_neg (show ¬ (2 : Int32) = 0 by decide), if_neg (show ¬ (2 : Int32) = 1 by decide)]
    by_cases f : q = 0
    · rw [if_pos f, if_pos f]
      exact ev_put (Or.inr (Or.inr ⟨rfl, f⟩)) hk h1 h2
    · rw [if_neg f, if_neg f]; exact back _
  · rw [if_neg e0, if_neg e1, if_neg e2, isIn_n (by rw [fa_eq] at *; omega)]
    exact back _
