-- ===== reading: numbers and signs =====
def dg (z : Int32) : Prop := 48 ≤ z.toInt ∧ z.toInt ≤ 57
def sg (z : Int32) : Prop := 48 ≤ z.toInt ∧ z.toInt ≤ 49
theorem t48 : (48 : Int32).toInt = 48 := by decide
theorem t49 : (49 : Int32).toInt = 49 := by decide
theorem t57 : (57 : Int32).toInt = 57 := by decide
theorem t32 : (32 : Int32).toInt = 32 := by decide
theorem t45 : (45 : Int32).toInt = 45 := by decide
theorem dg_lt {t : Nat} {T : Nat → Int32} {s : Nat} (h : dg (bt t T s)) : s < t := by
  have := h.1
  exact bt_lt (T := T) (c := bt t T s) rfl (by omega)
theorem sg_lt {t : Nat} {T : Nat → Int32} {s : Nat} (h : sg (bt t T s)) : s < t := by
  have := h.1
  exact bt_lt (T := T) (c := bt t T s) rfl (by omega)
theorem isAt_d {t s : Nat} (ht : t ≤ 100) (hs : s ≤ t) {T T' : Nat → Int32} (hT : ∀ j, j < t → T' j = T j) : (dg (bt t T s) ∧ fX9_isAt 48 57 (nI t) (nI s) T' = some 1) ∨ (¬ dg (bt t T s) ∧ fX9_isAt 48 57 (nI t) (nI s) T' = some 0) := by
  rw [isAt_c ht hs hT (by decide), t48, t57]
  by_cases q : dg (bt t T s)
  · exact Or.inl ⟨q, by rw [if_pos (show 48 ≤ (bt t T s).toInt ∧ (bt t T s).toInt ≤ 57 from q)]⟩
  · exact Or.inr ⟨q, by rw [if_neg (show ¬ (48 ≤ (bt t T s).toInt ∧ (bt t T s).toInt ≤ 57) from q)]⟩
theorem isAt_s {t s : Nat} (ht : t ≤ 100) (hs : s ≤ t) {T T' : Nat → Int32} (hT : ∀ j, j < t → T' j = T j) : (sg (bt t T s) ∧ fX9_isAt 48 49 (nI t) (nI s) T' = some 1) ∨ (¬ sg (bt t T s) ∧ fX9_isAt 48 49 (nI t) (nI s) T' = some 0) := by
  rw [isAt_c ht hs hT (by decide), t48, t49]
  by_cases q : sg (bt t T s)
  · exact Or.inl ⟨q, by rw [if_pos (show 48 ≤ (bt t T s).toInt ∧ (bt t T s).toInt ≤ 49 from q)]⟩
  · exact Or.inr ⟨q, by rw [if_neg (show ¬ (48 ≤ (bt t T s).toInt ∧ (bt t T s).toInt ≤ 49) from q)]⟩
theorem isAt_1 {t s : Nat} (ht : t ≤ 100) (hs : s ≤ t) {T T' : Nat → Int32} (hT : ∀ j, j < t → T' j = T j) {c : Int32} (hc : 0 ≤ c.toInt) : (bt t T s = c ∧ fX9_isAt c c (nI t) (nI s) T' = some 1) ∨ (bt t T s ≠ c ∧ fX9_isAt c c (nI t) (nI s) T' = some 0) := by
  rw [isAt_c ht hs hT hc]
  by_cases q : bt t T s = c
  · exact Or.inl ⟨q, by rw [q, if_pos (by omega)]⟩
  · refine Or.inr ⟨q, ?_⟩
    rw [if_neg (fun z => q ((fa_eq _ _).mpr (by omega)))]
theorem dig_l (n : Nat) {t most : Nat} (ht : t ≤ 100) (hm : most ≤ 3) {T T' : Nat → Int32} (hT : ∀ j, j < t → T' j = T j) (sn val : Int32) : ∀ (d j s : Nat) (v : Int32) (k k' : Nat), j + d = most → s ≤ t → d < k → d < k' → ∃ j' s' v', j ≤ j' ∧ j' ≤ most ∧ s' ≤ t ∧ lX5_takeNumber_25 n (nI t) T k (nI most) sn v (nI j) (nI s) val = jX5_takeNumber_92 n sn v' (nI j') (nI s') val ∧ lX9_takesDigits_20 n (nI t) T' k' (nI most) (nI j) (nI s) v = some (1, nI s', v') ∧ (1 ≤ d → dg (bt t T s) → j < j') ∧ (¬ dg (bt t T s) → j' = j ∧ s' = s) := by
  intro d
  induction d with
  | zero =>
    intro j s v k k' hj hs hk hk'
    obtain ⟨k, rfl⟩ : ∃ q, k = q + 1 := ⟨k - 1, by omega⟩
    obtain ⟨k', rfl⟩ : ∃ q, k' = q + 1 := ⟨k' - 1, by omega⟩
    have hl := (nJ_le (j := most) (k := j) (by omega) (by omega)).mpr (by omega)
    refine ⟨j, s, v, Nat.le_refl _, by omega, hs, ?_, ?_, fun h => by omega, fun _ => ⟨rfl, rfl⟩⟩
    · rw [lX5_takeNumber_25, if_pos hl]
    · rw [lX9_takesDigits_20, if_pos hl]
  | succ d ih =>
    intro j s v k k' hj hs hk hk'
    obtain ⟨k, rfl⟩ : ∃ q, k = q + 1 := ⟨k - 1, by omega⟩
    obtain ⟨k', rfl⟩ : ∃ q, k' = q + 1 := ⟨k' - 1, by omega⟩
    have hl : ¬ nI most ≤ nI j := fun q => by have := (nJ_le (by omega) (by omega)).mp q; omega
    rw [lX5_takeNumber_25, if_neg hl, byteAt_c ht (by omega), Option.bind_some, Option.bind_some, Option.bind_some, lX9_takesDigits_20, if_neg hl]
    rcases isAt_d ht hs hT with ⟨q, e⟩ | ⟨q, e⟩
    · have l := dg_lt q
      have a1 : ¬ bt t T s < 48 := fun z => by rw [fa_lt, t48] at z; have := q.1; omega
      have a2 : ¬ 57 < bt t T s := fun z => by rw [fa_lt, t57] at z; have := q.2; omega
      obtain ⟨j', s', v', h1, h2, h3, h4, h5, -, -⟩ := ih (j + 1) (s + 1) ((10 * v + bt t T s) - 48) k k' (by omega) (by omega) (by omega) (by omega)
      rw [if_neg a1, if_neg a2, e, Option.bind_some, if_neg n10, ck_nI (by omega) (by omega), nI_clamp (by omega), hT s l, ← bt_y T l, nI_p, nI_p]
      exact ⟨j', s', v', by omega, h2, h3, h4, h5, fun _ _ => by omega, fun h => absurd q h⟩
    · refine ⟨j, s, v, Nat.le_refl _, by omega, hs, ?_, ?_, fun _ h => absurd h q, fun _ => ⟨rfl, rfl⟩⟩
      · by_cases a1 : bt t T s < 48
        · rw [if_pos a1]
        · have a2 : 57 < bt t T s := by
            rw [fa_lt, t48] at a1
            rw [fa_lt, t57]
            rcases Int.lt_or_le 57 (bt t T s).toInt with z | z
            · exact z
            · exact absurd ⟨by omega, z⟩ q
          rw [if_neg a1, if_pos a2]
      · rw [e, Option.bind_some, if_pos rfl]
theorem num_s {n : Nat} (hn : 100 ≤ n) {t s most : Nat} (ht : t ≤ 100) (hs : s ≤ t) (hm : most ≤ 3) (hm1 : 1 ≤ most) {T T' : Nat → Int32} (hT : ∀ j, j < t → T' j = T j) {sn : Int32} (hsn : sn = 0 ∨ sn = 1) (val r : Int32) : ∃ b s' v1 r1, s' ≤ t ∧ (b = 0 ∨ b = 1) ∧ lX5_takeNumber_25 n (nI t) T n (nI most) sn 0 0 (nI s) val = some (b, nI s', v1) ∧ jX9_takesNumber_55 n (nI t) T' sn (nI most) (nI s) r = some (b, nI s', r1) ∧ (b = 1 → v1 = r1) := by
  obtain ⟨j', s', v', h1, h2, h3, h4, h5, h6, h7⟩ := dig_l n ht hm hT sn val most 0 s 0 n n (by omega) hs (by omega) (by omega)
  rw [show (nI 0 : Int32) = 0 from rfl] at h4 h5
  rw [h4]
  unfold jX9_takesNumber_55 fX9_takesDigits jX5_takeNumber_92
  rcases isAt_d ht hs hT with ⟨q, e⟩ | ⟨q, e⟩
  · have hj := h6 hm1 q
    have a : ¬ nI j' ≤ 0 := fun z => by have := (nJ_le (k := 0) (by omega) (by omega)).mp z; omega
    rw [e, Option.bind_some, if_neg n10, h5, Option.bind_some, if_neg n10]
    rcases hsn with rfl | rfl
    · exact ⟨1, s', v', v', h3, Or.inr rfl, by rw [if_pos rfl, if_neg a], by rw [if_pos rfl], fun _ => rfl⟩
    · exact ⟨1, s', -v', -v', h3, Or.inr rfl, by rw [if_neg n10, if_neg a], by rw [if_neg n10], fun _ => rfl⟩
  · obtain ⟨rfl, rfl⟩ := h7 q
    rw [e, Option.bind_some, if_pos rfl, Option.bind_some, if_pos rfl]
    rcases hsn with rfl | rfl
    · exact ⟨0, s', v', r, hs, Or.inl rfl, by rw [if_pos rfl, if_pos (by decide)], rfl, fun z => absurd z (by decide)⟩
    · exact ⟨0, s', -v', r, hs, Or.inl rfl, by rw [if_neg n10, if_pos (by decide)], rfl, fun z => absurd z (by decide)⟩
/-- a blank and a number: both fail at the blank, or both read the number -/
theorem num_c {n : Nat} (hn : 100 ≤ n) {t s : Nat} (ht : t ≤ 100) (hs : s ≤ t) {T T' : Nat → Int32} (hT : ∀ j, j < t → T' j = T j) {w most neg : Int32} (hw : (w = 0 ∧ most = 1 ∧ neg = 0) ∨ (w = 1 ∧ most = 3 ∧ neg = 1)) (val r : Int32) : (fX5_takeByte 32 (nI t) (nI s) T = some (0, nI s) ∧ fX9_takesNumber n w (nI t) (nI s) r T' = some (0, nI s, r)) ∨ ∃ b s' v1 r1, s' ≤ t ∧ (b = 0 ∨ b = 1) ∧ fX5_takeByte 32 (nI t) (nI s) T = some (1, nI (s + 1)) ∧ fX5_takeNumber n most neg (nI t) (nI (s + 1)) val T = some (b, nI s', v1) ∧ fX9_takesNumber n w (nI t) (nI s) r T' = some (b, nI s', r1) ∧ (b = 1 → v1 = r1) := by
  unfold fX9_takesNumber fX9_takesBlank
  rw [takeByte_c ht (by omega)]
  rcases isAt_1 ht hs hT (c := 32) (by decide) with ⟨q, e⟩ | ⟨q, e⟩
  · have l : s < t := bt_lt q (by decide)
    rw [e, if_pos q]
    simp only [Option.bind_some, if_neg n10]
    rw [nI_p]
    right
    unfold fX5_takeNumber jX9_takesNumber_30
    rcases hw with ⟨rfl, rfl, rfl⟩ | ⟨rfl, rfl, rfl⟩
    · obtain ⟨b, s', v1, r1, h1, h2, h3, h4, h5⟩ := num_s hn ht (show s + 1 ≤ t by omega) (most := 1) (by omega) (by omega) hT (Or.inl rfl) val r
      exact ⟨b, s', v1, r1, h1, h2, trivial, h3, h4, h5⟩
    · rw [takeByte_c ht (by omega)]
      rcases isAt_1 ht (show s + 1 ≤ t by omega) hT (c := 45) (by decide) with ⟨q2, e2⟩ | ⟨q2, e2⟩
      · have l2 : s + 1 < t := bt_lt q2 (by decide)
        obtain ⟨b, s', v1, r1, h1, h2, h3, h4, h5⟩ := num_s hn ht (show s + 1 + 1 ≤ t by omega) (most := 3) (by omega) (by omega) hT (Or.inr rfl) val r
        rw [if_pos q2, e2]
        simp only [Option.bind_some, if_neg n10, if_true]
        rw [nI_p]
        exact ⟨b, s', v1, r1, h1, h2, trivial, h3, h4, h5⟩
      · obtain ⟨b, s', v1, r1, h1, h2, h3, h4, h5⟩ := num_s hn ht (show s + 1 ≤ t by omega) (most := 3) (by omega) (by omega) hT (Or.inl rfl) val r
        rw [if_neg q2, e2]
        simp only [Option.bind_some, if_neg n10, if_true]
        exact ⟨b, s', v1, r1, h1, h2, trivial, h3, h4, h5⟩
  · left
    rw [e, if_neg q]
    exact ⟨rfl, rfl⟩
def Off (c : Nat) (f f' : Nat → Int32) : Prop := ∀ j, j ≠ c → f' j = f j
theorem off_r {c : Nat} (f : Nat → Int32) : Off c f f := fun _ _ => rfl
theorem off_u {c : Nat} (f : Nat → Int32) (v : Int32) : Off c f (upd f c v) := fun _ h => if_neg h
theorem two_c {n : Nat} (hn : 100 ≤ n) {t s c : Nat} (ht : t ≤ 100) (hs : s ≤ t) (hc : c < 12) {T T' : Nat → Int32} (hT : ∀ j, j < t → T' j = T j) {w most neg : Int32} (hw : (w = 0 ∧ most = 1 ∧ neg = 0) ∨ (w = 1 ∧ most = 3 ∧ neg = 1)) (val r : Int32) (F G F2 G2 : Nat → Int32) : ∃ b s' val' r' F' G' F2' G2', (b = 0 ∨ b = 1) ∧ s' ≤ t ∧ fX5_takeTwo n (nI c) most neg (nI t) (nI s) val T F G = some (b, nI s', val', F', G') ∧ fX9_takesTwo n w (nI t) (nI s) (nI c) r T' F2 G2 = some (b, nI s', r', F2', G2') ∧ (b = 1 → F' c = F2' c ∧ G' c = G2' c) ∧ Off c F F' ∧ Off c G G' ∧ Off c F2 F2' ∧ Off c G2 G2' := by
  unfold fX5_takeTwo fX9_takesTwo
  rcases num_c hn ht hs hT hw val r with ⟨e1, e2⟩ | ⟨b, s1, v1, r1, hs1, hb, e1, e2, e3, e4⟩
  · rw [e1, e2]
    exact ⟨0, s, _, _, _, _, _, _, Or.inl rfl, hs, rfl, rfl, fun z => absurd z (by decide), off_r F, off_r G, off_r F2, off_r G2⟩
  rw [e1, e3]
  simp only [Option.bind_some, if_neg n10]
  rw [e2, Option.bind_some]
  rcases hb with rfl | rfl
  · exact ⟨0, s1, _, _, _, _, _, _, Or.inl rfl, hs1, rfl, rfl, fun z => absurd z (by decide), off_r F, off_r G, off_r F2, off_r G2⟩
  simp only [if_neg n10, ck_nI hc (show 12 < 2 ^ 31 by omega), nI_clamp (show c < 2 ^ 31 by omega)]
  rw [e4 rfl]
  rcases num_c hn ht hs1 hT hw r1 r1 with ⟨f1, f2⟩ | ⟨b, s2, v2, r2, hs2, hb, f1, f2, f3, f4⟩
  · rw [f1, f2]
    exact ⟨0, s1, _, _, _, _, _, _, Or.inl rfl, hs1, rfl, rfl, fun z => absurd z (by decide), off_u F _, off_r G, off_u F2 _, off_r G2⟩
  rw [f1, f3]
  simp only [Option.bind_some, if_neg n10]
  rw [f2, Option.bind_some]
  rcases hb with rfl | rfl
  · exact ⟨0, s2, _, _, _, _, _, _, Or.inl rfl, hs2, rfl, rfl, fun z => absurd z (by decide), off_u F _, off_r G, off_u F2 _, off_r G2⟩
  simp only [if_neg n10]
  rw [f4 rfl]
  exact ⟨1, s2, _, _, _, _, _, _, Or.inr rfl, hs2, rfl, rfl, fun _ => ⟨by rw [upd_y _ _ rfl, upd_y _ _ rfl], by rw [upd_y _ _ rfl, upd_y _ _ rfl]⟩, off_u F _, off_u G _, off_u F2 _, off_u G2 _⟩
theorem sgn_l (n : Nat) {t c : Nat} (ht : t ≤ 100) (hc : c < 12) {T T' : Nat → Int32} (hT : ∀ j, j < t → T' j = T j) (F G F2 G2 : Nat → Int32) : ∀ (d j s k k' : Nat), j + d = 20 → s ≤ t → d < k → d < k' → ∃ j' s', j ≤ j' ∧ j' ≤ 20 ∧ s' ≤ t ∧ s' + j = s + j' ∧ lX5_takeSigns_23 n (nI t) T k (nI c) (nI j) (nI s) F G = jX5_takeSigns_53 n (nI c) (nI j') (nI s') F G ∧ lX9_takesSigns_35 n (nI t) (nI c) T' k' (nI j) (nI s) F2 G2 = some (1, nI s', F2, upd G2 c (nI j')) ∧ (1 ≤ d → sg (bt t T s) → j < j') ∧ (¬ sg (bt t T s) → j' = j ∧ s' = s) := by
  intro d
  induction d with
  | zero =>
    intro j s k k' hj hs hk hk'
    obtain ⟨k, rfl⟩ : ∃ q, k = q + 1 := ⟨k - 1, by omega⟩
    obtain ⟨k', rfl⟩ : ∃ q, k' = q + 1 := ⟨k' - 1, by omega⟩
    have hl : (20 : Int32) ≤ nI j := (nJ_le (j := 20) (k := j) (by omega) (by omega)).mpr (by omega)
    refine ⟨j, s, Nat.le_refl _, by omega, hs, by omega, ?_, ?_, fun h => by omega, fun _ => ⟨rfl, rfl⟩⟩
    · rw [lX5_takeSigns_23, if_pos hl]
    · rw [lX9_takesSigns_35, if_pos hl, ck_nI hc (by omega), nI_clamp (by omega)]
  | succ d ih =>
    intro j s k k' hj hs hk hk'
    obtain ⟨k, rfl⟩ : ∃ q, k = q + 1 := ⟨k - 1, by omega⟩
    obtain ⟨k', rfl⟩ : ∃ q, k' = q + 1 := ⟨k' - 1, by omega⟩
    have hl : ¬ 20 ≤ nI j := fun q => by have := (nJ_le (j := 20) (by omega) (by omega)).mp q; omega
    rw [lX5_takeSigns_23, if_neg hl, takeByte_c ht (by omega), Option.bind_some, lX9_takesSigns_35, if_neg hl]
    rcases isAt_s ht hs hT with ⟨q, e⟩ | ⟨q, e⟩
    · have l := sg_lt q
      obtain ⟨j', s', h1, h2, h3, h4, h5, h6, -, -⟩ := ih (j + 1) (s + 1) k k' (by omega) (by omega) (by omega) (by omega)
      rw [e, Option.bind_some, if_neg n10, nI_p, nI_p]
      refine ⟨j', s', by omega, h2, h3, by omega, ?_, h6, fun _ _ => by omega, fun h => absurd q h⟩
      by_cases a1 : bt t T s = 48
      · rw [if_pos a1]
        simp only [if_neg n10]
        exact h5
      · have a2 : bt t T s = 49 := by
          rw [fa_eq, t48] at a1
          rw [fa_eq, t49]
          have := q.1; have := q.2; omega
        rw [if_neg a1]
        simp only [if_true]
        rw [takeByte_c ht (by omega), Option.bind_some, if_pos a2]
        simp only [if_neg n10]
        exact h5
    · have a1 : bt t T s ≠ 48 := fun z => q ⟨by rw [z, t48]; omega, by rw [z, t48]; omega⟩
      have a2 : bt t T s ≠ 49 := fun z => q ⟨by rw [z, t49]; omega, by rw [z, t49]; omega⟩
      refine ⟨j, s, Nat.le_refl _, by omega, hs, by omega, ?_, ?_, fun _ h => absurd h q, fun _ => ⟨rfl, rfl⟩⟩
      · rw [if_neg a1]
        simp only [if_true]
        rw [takeByte_c ht (by omega), Option.bind_some, if_neg a2]
        simp only [if_true]
      · rw [e, Option.bind_some, if_pos rfl, ck_nI hc (by omega), nI_clamp (by omega)]
theorem signs_c {n : Nat} (hn : 100 ≤ n) {t s c : Nat} (ht : t ≤ 100) (hs : s ≤ t) (hc : c < 12) {T T' : Nat → Int32} (hT : ∀ j, j < t → T' j = T j) (F G F2 G2 : Nat → Int32) : ∃ b s' F' G' F2' G2', (b = 0 ∨ b = 1) ∧ s' ≤ t ∧ fX5_takeSigns n (nI c) (nI t) (nI s) T F G = some (b, nI s', F', G') ∧ fX9_takesSigns n (nI t) (nI s) (nI c) T' F2 G2 = some (b, nI s', F2', G2') ∧ (b = 1 → F' c = F2' c ∧ G' c = G2' c ∧ ∃ f m, F' c = nI f ∧ G' c = nI m ∧ f + m ≤ t ∧ m ≤ 20) ∧ Off c F F' ∧ Off c G G' ∧ Off c F2 F2' ∧ Off c G2 G2' := by
  unfold fX5_takeSigns fX9_takesSigns fX9_takesBlank
  rw [takeByte_c ht (by omega)]
  rcases isAt_1 ht hs hT (c := 32) (by decide) with ⟨q, e⟩ | ⟨q, e⟩
  rotate_left
  · rw [e, if_neg q]
    exact ⟨0, s, F, G, F2, G2, Or.inl rfl, hs, rfl, rfl, fun z => absurd z (by decide), off_r F, off_r G, off_r F2, off_r G2⟩
  have l : s < t := bt_lt q (by decide)
  obtain ⟨j', s', h1, h2, h3, h4, h5, h6, h7, h8⟩ := sgn_l n ht hc hT (upd F c (nI (s + 1))) G (upd F2 c (nI (s + 1))) G2 20 0 (s + 1) n n (by omega) (by omega) (by omega) (by omega)
  rw [show (nI 0 : Int32) = 0 from rfl] at h5 h6
  rw [e, if_pos q]
  simp only [Option.bind_some, if_neg n10]
  rw [nI_p, ck_nI hc (by omega), ck_nI hc (by omega), nI_clamp (by omega), h5, h6]
  unfold jX5_takeSigns_53
  rw [ck_nI hc (by omega), nI_clamp (by omega)]
  rcases isAt_s ht (show s + 1 ≤ t by omega) hT with ⟨q2, e2⟩ | ⟨q2, e2⟩
  · have hj := h7 (by omega) q2
    have a : ¬ nI j' ≤ 0 := fun z => by have := (nJ_le (k := 0) (by omega) (by omega)).mp z; omega
    rw [e2, Option.bind_some, if_neg n10, if_neg a]
    exact ⟨1, s', _, _, _, _, Or.inr rfl, h3, rfl, rfl, fun _ => ⟨by rw [upd_y _ _ rfl, upd_y _ _ rfl], by rw [upd_y _ _ rfl, upd_y _ _ rfl], s + 1, j', upd_y _ _ rfl, upd_y _ _ rfl, by omega, h2⟩, off_u F _, off_u G _, off_u F2 _, off_u G2 _⟩
  · obtain ⟨rfl, rfl⟩ := h8 q2
    rw [e2, Option.bind_some, if_pos rfl, if_pos (by decide)]
    exact ⟨0, s + 1, _, _, _, _, Or.inl rfl, by omega, rfl, rfl, fun z => absurd z (by decide), off_u F _, off_u G _, off_r F2, off_r G2⟩
