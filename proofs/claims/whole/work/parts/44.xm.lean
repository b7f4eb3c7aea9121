theorem Mp_n {u v : Nat} (g : Nat → Nat → Int64) {x y : Nat} (h : ¬ (u ≤ x ∧ v ≤ y)) : ∀ p, Mp u v g p x y = g x y
  | 0 => rfl
  | p + 1 => by
    show Mo u v (Mp u v g p) x y = g x y
    rw [Mo_n _ h, Mp_n g h p]
def PX (u v p : Nat) (g : Nat → Nat → Int64) (h t : Nat) (f : Nat → Int64) : Prop := ∀ x y : Nat, x + y ≤ 12 → f (13 * x + y) = if h < x + y ∨ (x + y = h ∧ x < t) then Mp u v g p x y else g x y
theorem xm_20 {n : Nat} (hn : 100 ≤ n) {u v p h : Nat} (huv : 1 ≤ u + v) (hp : p ≤ 75) (hh : u + v ≤ h) (h12 : h ≤ 12) (g : Nat → Nat → Int64) (K : Int32 → Int32 → Int32 → Int32 → (Nat → Int64) → Option (Nat → Int64)) : ∀ (d t k : Nat) (f : Nat → Int64), t + d + v = h + 1 → u ≤ t → d < k → PX u v p g h t f → ∃ f', lX1_multiply_20 n K k (nI u) (nI v) (nI p) (nI h) (nI t) f = K (nI u) (nI v) (nI p) (nI (h - 1)) f' ∧ PX u v p g h (h + 1) f' := by
  intro d
  induction d with
  | zero =>
    intro t k f ht hu hk hP
    obtain ⟨k, rfl⟩ : ∃ q, k = q + 1 := ⟨k - 1, by omega⟩
    rw [lX1_multiply_20, nI_sub (by omega) (by omega), if_pos ((nJ_lt (by omega) (by omega)).mpr (by omega)), nI_dn (by omega) (by omega)]
    refine ⟨f, rfl, fun x y hxy => ?_⟩
    rw [hP x y hxy]
    by_cases c : h < x + y ∨ (x + y = h ∧ x < t)
    · rw [if_pos c, if_pos (by omega)]
    · rw [if_neg c]
      by_cases c2 : h < x + y ∨ (x + y = h ∧ x < h + 1)
      · rw [if_pos c2, Mp_n g (by omega)]
      · rw [if_neg c2]
  | succ d ih =>
    intro t k f ht hu hk hP
    obtain ⟨k, rfl⟩ : ∃ q, k = q + 1 := ⟨k - 1, by omega⟩
    obtain ⟨s, e, hs⟩ := below_c hn huv (by omega) hp (x := t) (y := h - t) (by omega) g (f := f) (fun x' y' hl => by rw [hP x' y' (by omega), if_neg (by omega)])
    rw [lX1_multiply_20, nI_sub (x := h) (y := v) (by omega) (by omega), if_neg (fun q => by have := (nJ_lt (by omega) (by omega)).mp q; omega), at_nI, nI_sub (x := 13 * t + h) (by omega) (by omega), nI_sub (x := h) (y := t) (by omega) (by omega), show 13 * t + h - t = 13 * t + (h - t) by omega, ck_nI (by omega) (by omega), e, Option.bind_some, ck_nI (by omega) (by omega), nI_clamp (by omega), nI_p]
    refine ih (t + 1) k _ (by omega) (by omega) (by omega) (fun x y hxy => ?_)
    by_cases e : x = t ∧ y = h - t
    · obtain ⟨rfl, rfl⟩ := e
      rw [uL_y _ _ rfl, if_pos (by omega), hP x (h - x) (by omega), if_neg (by omega), hs]
    · rw [uL_n _ _ (by omega), hP x y hxy]
      by_cases c : h < x + y ∨ (x + y = h ∧ x < t)
      · rw [if_pos c, if_pos (by omega)]
      · rw [if_neg c, if_neg (by omega)]
theorem xm_9 {n : Nat} (hn : 100 ≤ n) {u v p : Nat} (huv : 1 ≤ u + v) (huv2 : u + v ≤ 12) (hp : p ≤ 75) (g : Nat → Nat → Int64) : ∀ (d h k : Nat) (f : Nat → Int64), h + 1 = d + (u + v) → h ≤ 12 → d < k → PX u v p g h u f → ∃ f', lX1_multiply_9 n k (nI u) (nI v) (nI p) (nI h) f = some f' ∧ Rw f' (Mp u v g p) := by
  intro d
  induction d with
  | zero =>
    intro h k f hd h12 hk hP
    obtain ⟨k, rfl⟩ : ∃ q, k = q + 1 := ⟨k - 1, by omega⟩
    rw [lX1_multiply_9, nI_add, if_pos ((nJ_lt (by omega) (by omega)).mpr (by omega))]
    refine ⟨f, rfl, fun x y hxy => ?_⟩
    rw [hP x y hxy]
    by_cases c : h < x + y ∨ (x + y = h ∧ x < u)
    · rw [if_pos c]
    · rw [if_neg c, Mp_n g (by omega)]
  | succ d ih =>
    intro h k f hd h12 hk hP
    obtain ⟨k, rfl⟩ : ∃ q, k = q + 1 := ⟨k - 1, by omega⟩
    rw [lX1_multiply_9, nI_add, if_neg (fun q => by have := (nJ_lt (by omega) (by omega)).mp q; omega)]
    obtain ⟨f', e, hP'⟩ := xm_20 hn huv hp (by omega) h12 g (lX1_multiply_9 n k) (h + 1 - u - v) u n f (by omega) (by omega) (by omega) hP
    rw [e]
    refine ih (h - 1) k f' (by omega) (by omega) (by omega) (fun x y hxy => ?_)
    rw [hP' x y hxy]
    by_cases c : h < x + y ∨ (x + y = h ∧ x < h + 1)
    · rw [if_pos c, if_pos (by omega)]
    · rw [if_neg c]
      by_cases c2 : h - 1 < x + y ∨ (x + y = h - 1 ∧ x < u)
      · rw [if_pos c2, Mp_n g (by omega)]
      · rw [if_neg c2]
theorem xmult_c {n : Nat} (hn : 100 ≤ n) {u v p : Nat} (huv : 1 ≤ u + v) (huv2 : u + v ≤ 12) (hp : p ≤ 75) {g : Nat → Nat → Int64} {f : Nat → Int64} (h : Rw f g) : ∃ f', fX1_multiply n (nI u) (nI v) (nI p) f = some f' ∧ Rw f' (Mp u v g p) := by
  unfold fX1_multiply
  by_cases q : 0 < nI p
  · rw [if_pos q]
    refine xm_9 hn huv huv2 hp g (13 - (u + v)) 12 n f (by omega) (by omega) (by omega) (fun x y hxy => ?_)
    rw [h x y hxy]
    by_cases c : 12 < x + y ∨ (x + y = 12 ∧ x < u)
    · rw [if_pos c, Mp_n g (by omega)]
    · rw [if_neg c]
  · rw [if_neg q]
    have : p = 0 := by
      rcases Nat.eq_zero_or_pos p with e | e
      · exact e
      · exact absurd ((nJ_lt (j := 0) (by omega) (by omega)).mpr e) q
    subst this
    exact ⟨f, rfl, h⟩
