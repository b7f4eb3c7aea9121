-- ===== tapes =====
def Tps (S L : Nat → Int32) (I : Nat → Int64) (S' L' : Nat → Int32) (R : Nat → Nat → Int64) : Prop := ∀ t, t < 6 → S t = S' t ∧ (-1 ≤ (S' t).toInt ∧ (S' t).toInt ≤ 4) ∧ ∃ k, k ≤ 60 ∧ L t = nI k ∧ L' t = nI k ∧ (S' t = -1 → k = 0) ∧ ∀ j, j < k → I (60 * t + j) = R t j
theorem tm1 : (-1 : Int32).toInt = -1 := by decide
theorem ti4 : (4 : Int32).toInt = 4 := by decide
theorem ti5 : (5 : Int32).toInt = 5 := by decide
theorem ti60 : (60 : Int32).toInt = 60 := by decide
theorem isTape_c (p : Int32) : (∃ t, t < 6 ∧ p = nI t ∧ fX7_isTape p = some 1 ∧ fX9_isTape p = some 1) ∨ (fX7_isTape p = some 0 ∧ fX9_isTape p = some 0) := by
  unfold fX7_isTape fX9_isTape
  have e0 := ti0; have e5 := ti5
  rw [in_eq p 0 5 (by decide) (by decide)]
  rcases isIn_c p 0 5 with ⟨g, g1, g2⟩ | ⟨g, -⟩
  · rw [g]
    obtain ⟨j, rfl, hj, -⟩ := nI_of_rng (p := p) (by omega)
    exact Or.inl ⟨j, by omega, rfl, rfl, rfl⟩
  · rw [g]; exact Or.inr ⟨rfl, rfl⟩
theorem isTape_y {t : Nat} (h : t < 6) : fX7_isTape (nI t) = some 1 := by
  unfold fX7_isTape
  rw [isIn_y (by rw [nI_toInt (by omega), ti0]; omega) (by rw [nI_toInt (by omega), ti5]; omega)]
  rfl
theorem m60 (t : Nat) : (60 : Int32) * nI t = nI (60 * t) := pk_mul 60 t
theorem uL_y (f : Nat → Int64) {i j : Nat} (v : Int64) (h : j = i) : vp_updL f i v j = v := if_pos h
theorem uL_n (f : Nat → Int64) {i j : Nat} (v : Int64) (h : j ≠ i) : vp_updL f i v j = f j := if_neg h
theorem gup_y {α : Type} (f : Nat → Nat → α) {t s : Nat} (g : Nat → α) (h : s = t) : gup f t g s = g := if_pos h
theorem gup_n {α : Type} (f : Nat → Nat → α) {t s : Nat} (g : Nat → α) (h : s ≠ t) : gup f t g s = f s := if_neg h
theorem become_l (n : Nat) {t k : Nat} (ht : t < 6) (hk : k ≤ 60) (S L : Nat → Int32) : ∀ (d i K : Nat) (I : Nat → Int64), i + d = k → d < K → ∃ I', lX7_become_36 n K (nI t) (nI k) (nI i) S L I = some (S, L, I') ∧ ∀ m, I' m = if 60 * t + i ≤ m ∧ m < 60 * t + k then 0 else I m := by
  intro d
  induction d with
  | zero =>
    intro i K I hi hK
    obtain ⟨K, rfl⟩ : ∃ q, K = q + 1 := ⟨K - 1, by omega⟩
    rw [lX7_become_36, if_pos ((nJ_le (by omega) (by omega)).mpr (by omega))]
    exact ⟨I, rfl, fun m => by rw [if_neg (by omega)]⟩
  | succ d ih =>
    intro i K I hi hK
    obtain ⟨K, rfl⟩ : ∃ q, K = q + 1 := ⟨K - 1, by omega⟩
    rw [lX7_become_36, if_neg (fun q => by have := (nJ_le (by omega) (by omega)).mp q; omega), m60, nI_add, ck_nI (by omega) (by omega), nI_clamp (by omega), nI_p]
    obtain ⟨I', e, h⟩ := ih (i + 1) K (vp_updL I (60 * t + i) 0) (by omega) (by omega)
    refine ⟨I', e, fun m => ?_⟩
    rw [h m]
    by_cases q : m = 60 * t + i
    · rw [if_neg (by omega), uL_y _ _ q, if_pos (by omega)]
    · rw [uL_n _ _ q]
      by_cases q2 : 60 * t + i ≤ m ∧ m < 60 * t + k
      · rw [if_pos (by omega), if_pos q2]
      · rw [if_neg (by omega), if_neg q2]
theorem clear_l (n : Nat) {t : Nat} (ht : t < 6) (S L : Nat → Int32) : ∀ (d i K : Nat) (R : Nat → Nat → Int64), i + d = 60 → d < K → ∃ R', lX9_tape_72 n K (nI t) (nI i) S L R = some (1, S, L, R') ∧ (∀ s, s ≠ t → R' s = R s) ∧ ∀ j, R' t j = if i ≤ j ∧ j < 60 then 0 else R t j := by
  intro d
  induction d with
  | zero =>
    intro i K R hi hK
    obtain ⟨K, rfl⟩ : ∃ q, K = q + 1 := ⟨K - 1, by omega⟩
    have : i = 60 := by omega
    subst this
    rw [lX9_tape_72, if_pos (by decide)]
    exact ⟨R, rfl, fun _ _ => rfl, fun j => by rw [if_neg (by omega)]⟩
  | succ d ih =>
    intro i K R hi hK
    obtain ⟨K, rfl⟩ : ∃ q, K = q + 1 := ⟨K - 1, by omega⟩
    rw [lX9_tape_72, if_neg (fun q => by have := (nJ_le (j := 60) (by omega) (by omega)).mp q; omega), ck_nI (by omega) (by omega), ck_nI (by omega) (by omega), nI_clamp (by omega), nI_clamp (by omega), nI_p]
    obtain ⟨R', e, h1, h2⟩ := ih (i + 1) K (gup R t (vp_updL (R t) i 0)) (by omega) (by omega)
    refine ⟨R', e, fun s hs => by rw [h1 s hs, gup_n _ _ hs], fun j => ?_⟩
    rw [h2 j, gup_y _ _ rfl]
    by_cases q : j = i
    · rw [if_neg (by omega), uL_y _ _ q, if_pos (by omega)]
    · rw [uL_n _ _ q]
      by_cases q2 : i ≤ j ∧ j < 60
      · rw [if_pos (by omega), if_pos q2]
      · rw [if_neg (by omega), if_neg q2]
theorem pr_tape {n m : Nat} (hn : 2000 ≤ n) (hm : 2000 ≤ m) (p q r : Int32) {S L S' L' : Nat → Int32} {I : Nat → Int64} {R : Nat → Nat → Int64} (h : Tps S L I S' L' R) : ∃ o S1 L1 I1 S2 L2 R2, fX8_tape n p q r S L I = some (o, S1, L1, I1) ∧ fX9_tape m p q r S' L' R = some (o, S2, L2, R2) ∧ Tps S1 L1 I1 S2 L2 R2 := by
  unfold fX8_tape fX9_tape
  have e0 := ti0; have e4 := ti4; have e1 := tm1; have e60 := ti60
  have back : ∀ z : Int32, ∃ o S1 L1 I1 S2 L2 R2, some (z, S, L, I) = some (o, S1, L1, I1) ∧ some (z, S', L', R) = some (o, S2, L2, R2) ∧ Tps S1 L1 I1 S2 L2 R2 := fun z => ⟨_, _, _, _, _, _, _, rfl, rfl, h⟩
  rcases isTape_c p with ⟨t, ht, rfl, f1, f2⟩ | ⟨f1, f2⟩
  · rw [f1, f2, in_eq q (-1) 4 (by decide) (by decide)]
    simp only [Option.bind_some, if_neg n10]
    by_cases hq : q = -1
    · subst hq
      rw [if_pos rfl, isIn_y (by omega) (by omega)]
      simp only [Option.bind_some, if_neg n10]
      rw [if_pos (by decide), if_pos (by decide)]
      unfold fX7_drop jX9_tape_47
      rw [f1, Option.bind_some, if_neg n10, ck_nI ht (by omega), ck_nI ht (by omega), ck_nI ht (by omega), if_neg (by decide), ck_nI ht (by omega), nI_clamp (by omega)]
      obtain ⟨R', e, k1, k2⟩ := clear_l m ht (upd S' t (-1)) (upd L' t 0) 60 0 m R (by omega) (by omega)
      rw [show (nI 0 : Int32) = 0 from rfl] at e
      rw [e]
      refine ⟨_, _, _, _, _, _, _, rfl, rfl, fun s hs => ?_⟩
      show upd S t (-1) s = _ ∧ _ ∧ ∃ k, _ ∧ upd L t 0 s = _ ∧ _
      by_cases es : s = t
      · rw [upd_y _ _ es, upd_y _ _ es, upd_y _ _ es, upd_y _ _ es]
        exact ⟨rfl, by omega, 0, by omega, rfl, rfl, fun _ => rfl, fun j hj => absurd hj (by omega)⟩
      · rw [upd_n _ _ es, upd_n _ _ es, upd_n _ _ es, upd_n _ _ es, k1 s es]
        exact h s hs
    · rw [if_neg hq]
      rcases isIn_c q 0 4 with ⟨g, g1, g2⟩ | ⟨g, g1⟩
      · rw [g, isIn_y (p := q) (a := -1) (b := 4) (by omega) (by omega)]
        simp only [Option.bind_some, if_neg n10]
        have hq0 : ¬ q < 0 := by rw [fa_lt]; omega
        have hq1 : 0 ≤ q := by rw [fa_le]; omega
        rw [if_neg hq0, if_neg hq0]
        by_cases hr : r ≤ 60
        · rw [if_pos hr, if_pos hr]
          by_cases hr0 : 0 ≤ r
          · rw [if_pos hr0, if_pos hr0]
            rw [fa_le] at hr hr0
            obtain ⟨k, rfl, hk, -⟩ := nI_of_rng (p := r) (by omega)
            unfold fX7_become jX9_tape_47
            rw [f1, Option.bind_some, if_neg n10, isIn_y (by omega) (by omega), Option.bind_some, if_neg n10, ck_nI ht (by omega), ck_nI ht (by omega), ck_nI ht (by omega), if_pos hq1, ck_nI ht (by omega), nI_clamp (by omega)]
            obtain ⟨R', e, k1, k2⟩ := clear_l m ht (upd S' t q) (upd L' t (nI k)) 60 0 m R (by omega) (by omega)
            obtain ⟨I', f, j1⟩ := become_l n ht (show k ≤ 60 by omega) (upd S t q) (upd L t (nI k)) k 0 n I (by omega) (by omega)
            rw [show (nI 0 : Int32) = 0 from rfl] at e f
            rw [e, f]
            refine ⟨_, _, _, _, _, _, _, rfl, rfl, fun s hs => ?_⟩
            show upd S t q s = _ ∧ _ ∧ ∃ k', _ ∧ upd L t (nI k) s = _ ∧ _ ∧ _ ∧ ∀ j, j < k' → I' (60 * s + j) = R' s j
            by_cases es : s = t
            · rw [upd_y _ _ es, upd_y _ _ es, upd_y _ _ es, upd_y _ _ es]
              refine ⟨rfl, by omega, k, by omega, rfl, rfl, fun q' => absurd q' hq, fun j hj => ?_⟩
              subst es
              rw [j1, k2, if_pos (by omega), if_pos (by omega)]
            · rw [upd_n _ _ es, upd_n _ _ es, upd_n _ _ es, upd_n _ _ es, k1 s es]
              obtain ⟨h1, h2, k', h3, h4, h5, h6, h7⟩ := h s hs
              refine ⟨h1, h2, k', h3, h4, h5, h6, fun j hj => ?_⟩
              rw [j1, if_neg (by omega)]
              exact h7 j hj
          · rw [if_neg hr0, if_neg hr0]; exact back _
        · rw [if_neg hr, if_neg hr]; exact back _
      · rw [g, isIn_n (p := q) (a := -1) (b := 4) (by rw [fa_eq] at hq; omega)]; exact back _
  · rw [f1, f2]; exact back _
-- ===== runs of a tape =====
theorem wide_add (p q : Int32) : (p.toInt64 + q.toInt64).toInt = p.toInt + q.toInt := by
  have h1 := fb_rng p; have h2 := fb_rng q
  rw [fb_addL (by rw [Int32.toInt_toInt64, Int32.toInt_toInt64]; omega) (by rw [Int32.toInt_toInt64, Int32.toInt_toInt64]; omega), Int32.toInt_toInt64, Int32.toInt_toInt64]
theorem hasRun_c {t k : Nat} (ht : t < 6) (hk : k ≤ 60) {L : Nat → Int32} (hL : L t = nI k) (p q : Int32) : (fX7_hasRun (nI t) p q L = some 1 ∧ 0 ≤ p.toInt ∧ 0 ≤ q.toInt ∧ p.toInt + q.toInt ≤ k) ∨ (fX7_hasRun (nI t) p q L = some 0 ∧ ¬ (0 ≤ p.toInt ∧ 0 ≤ q.toInt ∧ p.toInt + q.toInt ≤ k)) := by
  unfold fX7_hasRun
  have e0 := ti0
  rw [isTape_y ht, Option.bind_some, if_neg n10, ck_nI ht (by omega), nI_clamp (by omega), hL]
  by_cases h1 : p < 0
  · rw [if_pos h1]; rw [fa_lt] at h1; exact Or.inr ⟨rfl, by omega⟩
  rw [if_neg h1]; rw [fa_lt] at h1
  by_cases h2 : q < 0
  · rw [if_pos h2]; rw [fa_lt] at h2; exact Or.inr ⟨rfl, by omega⟩
  rw [if_neg h2]; rw [fa_lt] at h2
  by_cases h3 : 0 < lg_cmp (p.toInt64 + q.toInt64) (nI k).toInt64
  · rw [if_pos h3]; rw [lg_gt, fa_lt64, wide_add, Int32.toInt_toInt64, nI_toInt (by omega)] at h3; exact Or.inr ⟨rfl, by omega⟩
  · rw [if_neg h3]; rw [lg_gt, fa_lt64, wide_add, Int32.toInt_toInt64, nI_toInt (by omega)] at h3; exact Or.inl ⟨rfl, by omega, by omega, by omega⟩
theorem within_c {t k : Nat} (ht : t < 6) (hk : k ≤ 60) {L : Nat → Int32} (hL : L t = nI k) (p q : Int32) (hq : 0 ≤ q.toInt) : (fX9_isWithin (nI t) p q L = some 1 ∧ 0 ≤ p.toInt ∧ p.toInt + q.toInt ≤ k) ∨ (fX9_isWithin (nI t) p q L = some 0 ∧ ¬ (0 ≤ p.toInt ∧ p.toInt + q.toInt ≤ k)) := by
  unfold fX9_isWithin
  have e0 := ti0
  have hs : (nI k - q).toInt = k - q.toInt := by
    have := (fb_rng q).2
    rw [fb_subI (by rw [nI_toInt (by omega)]; omega) (by rw [nI_toInt (by omega)]; omega), nI_toInt (by omega)]
  rw [ck_nI ht (by omega), nI_clamp (by omega), hL]
  by_cases h1 : p < 0
  · rw [if_pos h1]; rw [fa_lt] at h1; exact Or.inr ⟨rfl, by omega⟩
  rw [if_neg h1]; rw [fa_lt] at h1
  by_cases h2 : nI k - q < p
  · rw [if_pos h2]; rw [fa_lt, hs] at h2; exact Or.inr ⟨rfl, by omega⟩
  · rw [if_neg h2]; rw [fa_lt, hs] at h2; exact Or.inl ⟨rfl, by omega, by omega⟩
theorem cut_eq (s : Int32) (x : Int64) : fX9_asItem s x = fX7_cutTo s x := rfl
theorem cut_c (s : Int32) (x : Int64) : ∃ y, fX7_cutTo s x = some y := by
  unfold fX7_cutTo
  split
  · exact ⟨_, rfl⟩
  split
  · exact ⟨_, rfl⟩
  split
  · exact ⟨_, rfl⟩
  split
  · exact ⟨_, rfl⟩
  split
  · exact ⟨_, rfl⟩
  · exact ⟨_, rfl⟩
theorem sortAt_y {t : Nat} (ht : t < 6) (S : Nat → Int32) : fX7_sortAt (nI t) S = some (S t) := by
  unfold fX7_sortAt
  rw [isTape_y ht, Option.bind_some, if_neg n10, ck_nI ht (by omega), nI_clamp (by omega)]
theorem holds_c {t : Nat} (ht : t < 6) (S : Nat → Int32) : fX7_holds (nI t) S = some (if S t = -1 then 0 else 1) := by
  unfold fX7_holds
  rw [sortAt_y ht, Option.bind_some]
  split <;> rfl
theorem pr_item (p q : Int32) (z : Int64) {S L S' L' : Nat → Int32} {I : Nat → Int64} {R : Nat → Nat → Int64} (h : Tps S L I S' L' R) : ∃ o I1 R2, fX8_item p q z S L I = some (o, I1) ∧ fX9_item p q z S' L' R = some (o, R2) ∧ Tps S L I1 S' L' R2 := by
  unfold fX8_item fX9_item
  have e0 := ti0; have e1 := tm1; have e2 := ti1
  rcases isTape_c p with ⟨t, ht, rfl, f1, f2⟩ | ⟨f1, f2⟩
  · obtain ⟨h1, h2, k, h3, h4, h5, h6, h7⟩ := h t ht
    rw [f1, f2, holds_c ht, h1]
    simp only [Option.bind_some, if_neg n10, ck_nI ht (show 6 < 2 ^ 31 by omega), nI_clamp (show t < 2 ^ 31 by omega)]
    by_cases hs : S' t = -1
    · rw [if_pos hs, if_pos rfl, if_neg (by rw [hs]; decide)]
      exact ⟨_, _, _, rfl, rfl, h⟩
    · have hs0 : 0 ≤ S' t := by rw [fa_eq] at hs; rw [fa_le]; omega
      rw [if_neg hs, if_neg n10, if_pos hs0, h5, in_eq q 0 (nI k - 1) (by decide) rfl]
      have hm := nI_m (k := k) (by omega)
      rcases hasRun_c ht h3 h4 q 1 with ⟨g, g1, g2, g3⟩ | ⟨g, g1⟩
      · rw [g, isIn_y (by omega) (by omega)]
        simp only [Option.bind_some, if_neg n10]
        obtain ⟨j, rfl, hj, hj2⟩ := nI_of_rng (p := q) (by omega)
        obtain ⟨y, hy⟩ := cut_c (S' t) z
        unfold fX7_setItem
        rw [g, cut_eq]
        simp only [Option.bind_some, if_neg n10]
        rw [ck_nI ht (by omega), nI_clamp (by omega), h1, hy]
        simp only [Option.bind_some]
        rw [m60, nI_add, ck_nI (by omega) (by omega), ck_nI (by omega) (by omega), nI_clamp (by omega), nI_clamp (by omega)]
        refine ⟨_, _, _, rfl, rfl, fun s hs' => ?_⟩
        obtain ⟨i1, i2, k', i3, i4, i5, i6, i7⟩ := h s hs'
        refine ⟨i1, i2, k', i3, i4, i5, i6, fun j' hj' => ?_⟩
        show vp_updL I (60 * t + j) y (60 * s + j') = _
        by_cases es : s = t
        · subst es
          rw [gup_y _ _ rfl]
          by_cases ej : j' = j
          · subst ej; rw [uL_y _ _ rfl, uL_y _ _ rfl]
          · rw [uL_n _ _ (by omega), uL_n _ _ ej]; exact i7 j' hj'
        · rw [gup_n _ _ es, uL_n _ _ (by omega)]; exact i7 j' hj'
      · rw [g, isIn_n (by omega)]
        exact ⟨_, _, _, rfl, rfl, h⟩
  · rw [f1, f2]; exact ⟨_, _, _, rfl, rfl, h⟩
theorem pr_peek (p q : Int32) {S L S' L' : Nat → Int32} {I : Nat → Int64} {R : Nat → Nat → Int64} (h : Tps S L I S' L' R) : ∃ o, fX8_peek p q L I = some o ∧ fX9_peek p q S' L' R = some o := by
  unfold fX8_peek fX9_peek
  have e0 := ti0; have e1 := tm1; have e2 := ti1
  rcases isTape_c p with ⟨t, ht, rfl, f1, f2⟩ | ⟨f1, f2⟩
  · obtain ⟨h1, h2, k, h3, h4, h5, h6, h7⟩ := h t ht
    rw [f1, f2]
    simp only [Option.bind_some, if_neg n10, ck_nI ht (show 6 < 2 ^ 31 by omega), nI_clamp (show t < 2 ^ 31 by omega)]
    have hm := nI_m (k := k) (by omega)
    rw [h5, in_eq q 0 (nI k - 1) (by decide) rfl]
    rcases hasRun_c ht h3 h4 q 1 with ⟨g, g1, g2, g3⟩ | ⟨g, g1⟩
    · have hs : ¬ S' t < 0 := by
        intro hs
        rw [fa_lt] at hs
        have := h6 (by rw [fa_eq]; omega)
        omega
      rw [g, isIn_y (by omega) (by omega), if_neg hs]
      simp only [Option.bind_some, if_neg n10]
      obtain ⟨j, rfl, hj, hj2⟩ := nI_of_rng (p := q) (by omega)
      unfold fX7_itemAt
      rw [g]
      simp only [Option.bind_some, if_neg n10]
      rw [m60, nI_add, ck_nI (by omega) (by omega), ck_nI (by omega) (by omega), nI_clamp (by omega), nI_clamp (by omega), h7 j (by omega)]
      exact ⟨_, rfl, rfl⟩
    · rw [g, isIn_n (by omega)]
      by_cases hs : S' t < 0
      · rw [if_pos hs]; exact ⟨_, rfl, rfl⟩
      · rw [if_neg hs]; exact ⟨_, rfl, rfl⟩
  · rw [f1, f2]; exact ⟨_, rfl, rfl⟩
theorem pr_shift (p q r s z : Int32) {S L S' L' : Nat → Int32} {I : Nat → Int64} {R : Nat → Nat → Int64} (h : Tps S L I S' L' R) : ∃ o I1 R2, fX8_shift p q r s z S L I = some (o, I1) ∧ fX9_shift p q r s z S' L' R = some (o, R2) ∧ Tps S L I1 S' L' R2 := by
  unfold fX8_shift fX9_shift
  have e0 := ti0; have e1 := tm1
  have back : ∀ z : Int32, ∃ o I1 R2, some (z, I) = some (o, I1) ∧ some (z, R) = some (o, R2) ∧ Tps S L I1 S' L' R2 := fun z => ⟨_, _, _, rfl, rfl, h⟩
  rcases isTape_c p with ⟨t, ht, rfl, f1, f2⟩ | ⟨f1, f2⟩
  rotate_left
  · rw [f1, f2]; exact back _
  rcases isTape_c r with ⟨u, hu, rfl, g1, g2⟩ | ⟨g1, g2⟩
  rotate_left
  · rw [f1, f2, g1, g2]; exact back _
  obtain ⟨h1, h2, k, h3, h4, h5, h6, h7⟩ := h t ht
  obtain ⟨i1, i2, l, i3, i4, i5, i6, i7⟩ := h u hu
  rw [f1, f2, g1, g2, holds_c ht, holds_c hu, sortAt_y ht, sortAt_y hu, h1, i1]
  simp only [Option.bind_some, if_neg n10, ck_nI ht (show 6 < 2 ^ 31 by omega), nI_clamp (show t < 2 ^ 31 by omega), ck_nI hu (show 6 < 2 ^ 31 by omega), nI_clamp (show u < 2 ^ 31 by omega)]
  by_cases hs : S' t = -1
  · rw [if_pos hs, if_pos rfl, if_pos (show S' t < 0 by rw [hs]; decide)]; exact back _
  rw [if_neg hs, if_neg n10, if_neg (show ¬ S' t < 0 by rw [fa_eq] at hs; rw [fa_lt]; omega)]
  by_cases hs2 : S' u = -1
  · rw [if_pos hs2, if_pos rfl, if_neg (show ¬ 0 ≤ S' u by rw [hs2]; decide)]; exact back _
  rw [if_neg hs2, if_neg n10, if_pos (show 0 ≤ S' u by rw [fa_eq] at hs2; rw [fa_le]; omega)]
  by_cases hss : S' t = S' u
  rotate_left
  · rw [if_neg hss, if_neg hss]; exact back _
  rw [if_pos hss, if_pos hss]
  by_cases hz : z < 0
  · rw [if_pos hz]
    rw [fa_lt] at hz
    rcases hasRun_c ht h3 h4 q z with ⟨c1, c2⟩ | ⟨c1, c2⟩
    · omega
    · rw [c1]; exact back _
  rw [if_neg hz]; rw [fa_lt] at hz
  rcases hasRun_c ht h3 h4 q z with ⟨c1, c2⟩ | ⟨c1, c2⟩ <;> rcases within_c ht h3 h5 q z (by omega) with ⟨d1, d2⟩ | ⟨d1, d2⟩
  · rcases hasRun_c hu i3 i4 s z with ⟨j1, j2⟩ | ⟨j1, j2⟩ <;> rcases within_c hu i3 i5 s z (by omega) with ⟨v1, v2⟩ | ⟨v1, v2⟩
    · rw [c1, d1, j1, v1]
      simp only [Option.bind_some, if_neg n10]
      unfold fX7_copyRun
      rw [c1, j1]
      simp only [Option.bind_some, if_neg n10]
      obtain ⟨a, rfl, ha, -⟩ := nI_of_rng (p := q) (by omega)
      obtain ⟨b, rfl, hb, -⟩ := nI_of_rng (p := s) (by omega)
      obtain ⟨c, rfl, hc, -⟩ := nI_of_rng (p := z) (by omega)
      rw [m60, m60, nI_add, nI_add]
      unfold cpk
      rw [nI_clamp (by omega), nI_clamp (by omega), nI_clamp (by omega), nI_clamp (by omega), nI_clamp (by omega)]
      have np : ∀ w : Nat, w < 2 ^ 31 → ¬ nI w < 0 := fun w hw q => by rw [fa_lt, nI_toInt hw] at q; omega
      rw [if_pos ⟨np _ (by omega), np _ (by omega), np _ (by omega), by omega, by omega⟩, if_pos ⟨np _ (by omega), np _ (by omega), np _ (by omega), by omega, by omega⟩]
      refine ⟨_, _, _, rfl, rfl, fun w hw => ?_⟩
      obtain ⟨x1, x2, y, x3, x4, x5, x6, x7⟩ := h w hw
      refine ⟨x1, x2, y, x3, x4, x5, x6, fun j hj => ?_⟩
      show va_cpy I I (60 * t + a) (60 * u + b) c (60 * w + j) = _
      unfold va_cpy
      by_cases ew : w = u
      · subst ew
        rw [gup_y _ _ rfl]
        by_cases ej : b ≤ j ∧ j < b + c
        · rw [if_pos (by omega), if_pos ej, ← h7 (a + (j - b)) (by omega)]
          congr 1; omega
        · rw [if_neg (by omega), if_neg ej]; exact x7 j hj
      · rw [gup_n _ _ ew, if_neg (by omega)]; exact x7 j hj
    · omega
    · omega
    · rw [c1, d1, j1, v1]; exact back _
  · omega
  · omega
  · rw [c1, d1]; exact back _
