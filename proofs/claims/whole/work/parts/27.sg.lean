-- ===== signed =====
def sgC (a b : Nat) : Bool := (List.range 13).all fun x => (List.range (13 - x)).all fun y => match fX8_signed 5000 (nI x) (nI y) (nI a) (nI b), fX9_signed 5000 (nI x) (nI y) (nI a) (nI b) with
  | some r, some s => r == s
  | _, _ => false
theorem sg_all : ((List.range 6).all fun a => (List.range 6).all fun b => sgC (a + 1) (b + 1)) = true := by decide +kernel
theorem r16_nI {a : Int32} (h : r16 a) : ∃ i, i < 6 ∧ a = nI (i + 1) := by
  unfold r16 at h
  obtain ⟨j, rfl, hj, -⟩ := nI_of_rng (p := a) (by omega)
  exact ⟨j - 1, by omega, by congr 1; omega⟩
theorem small_nI {x y : Int32} (h : smallP x y) : ∃ i j, i + j ≤ 12 ∧ x = nI i ∧ y = nI j := by
  unfold smallP at h
  obtain ⟨i, rfl, hi, -⟩ := nI_of_rng (p := x) (by omega)
  obtain ⟨j, rfl, hj, -⟩ := nI_of_rng (p := y) (by omega)
  exact ⟨i, j, by omega, rfl, rfl⟩
theorem all_range {n : Nat} {p : Nat → Bool} (h : (List.range n).all p = true) {i : Nat} (hi : i < n) : p i = true := List.all_eq_true.mp h i (List.mem_range.mpr hi)
theorem pr_signed (p q : Int32) {a b : Int32} (ha : r16 a) (hb : r16 b) : ∃ r, fX8_signed 5000 p q a b = some r ∧ fX9_signed 5000 p q a b = some r := by
  rcases isSmall_c p q with ⟨h, h1⟩ | ⟨h, -⟩
  · obtain ⟨i, j, hij, rfl, rfl⟩ := small_nI h1
    obtain ⟨a, la, rfl⟩ := r16_nI ha
    obtain ⟨b, lb, rfl⟩ := r16_nI hb
    have h2 := all_range (all_range (all_range (all_range sg_all la) lb) (show i < 13 by omega)) (show j < 13 - i by omega)
    cases hx : fX8_signed 5000 (nI i) (nI j) (nI (a + 1)) (nI (b + 1)) with
    | none => rw [hx] at h2; cases h2
    | some r =>
      cases hy : fX9_signed 5000 (nI i) (nI j) (nI (a + 1)) (nI (b + 1)) with
      | none => rw [hx, hy] at h2; cases h2
      | some s =>
        rw [hx, hy] at h2
        exact ⟨r, rfl, by rw [eq_of_beq h2]⟩
  · unfold fX8_signed fX9_signed
    rw [isLow_0, h]
    exact ⟨_, rfl, rfl⟩
