-- ===== products over lists of roots =====
def Pr (c : Nat × Nat → Nat) (L : List (Nat × Nat)) (g : Nat → Nat → Int64) : Nat → Nat → Int64 := L.foldl (fun g r => Mp r.1 r.2 g (c r)) g
theorem bx_Pr (c : Nat × Nat → Nat) {X Y : Nat} : ∀ (L : List (Nat × Nat)) {g g' : Nat → Nat → Int64}, Bx X Y g g' → Bx X Y (Pr c L g) (Pr c L g')
  | [], _, _, h => h
  | r :: L, _, _, h => bx_Pr c L (bx_Mp h (c r))
theorem bx_filter (c : Nat × Nat → Nat) (X Y : Nat) : ∀ (L : List (Nat × Nat)) (g : Nat → Nat → Int64), Bx X Y (Pr c L g) (Pr c (L.filter fun r => decide (r.1 ≤ X ∧ r.2 ≤ Y)) g)
  | [], g => bx_refl g
  | r :: L, g => by
    by_cases h : r.1 ≤ X ∧ r.2 ≤ Y
    · rw [List.filter_cons_of_pos (p := fun r : Nat × Nat => decide (r.1 ≤ X ∧ r.2 ≤ Y)) (decide_eq_true h)]
      exact bx_filter c X Y L _
    · rw [List.filter_cons_of_neg (p := fun r : Nat × Nat => decide (r.1 ≤ X ∧ r.2 ≤ Y)) (fun q => h (of_decide_eq_true q))]
      intro x y hx hy
      rw [← bx_filter c X Y L g x y hx hy]
      exact bx_Pr c L (bx_out g (by omega) (c r)) x y hx hy
theorem Pr_perm (c : Nat × Nat → Nat) {L L' : List (Nat × Nat)} (h : L.Perm L') : ∀ g, Pr c L g = Pr c L' g := by
  induction h with
  | nil => intro g; rfl
  | cons x _ ih => intro g; exact ih _
  | swap x y l =>
    intro g
    show Pr c l (Mp x.1 x.2 (Mp y.1 y.2 g (c y)) (c x)) = Pr c l (Mp y.1 y.2 (Mp x.1 x.2 g (c x)) (c y))
    rw [Mp_comm]
  | trans _ _ ih1 ih2 => intro g; rw [ih1, ih2]
/-- the class's order: by height; the reference's: row by row -/
def LX : List (Nat × Nat) := (List.range 12).flatMap fun h => (List.range (h + 2)).map fun t => (t, h + 1 - t)
def LM (X Y : Nat) : List (Nat × Nat) := ((List.range (X + 1)).flatMap fun s => (List.range (Y + 1)).map fun t => (s, t)).filter fun r => !(r.1 + r.2 == 0)
theorem L_perm : ((List.range 13).all fun X => (List.range (13 - X)).all fun Y => (LX.filter fun r => decide (r.1 ≤ X ∧ r.2 ≤ Y)).isPerm (LM X Y)) = true := by decide +kernel
theorem L_same {X Y : Nat} (h : X + Y ≤ 12) (c : Nat × Nat → Nat) (g : Nat → Nat → Int64) : Pr c LX g X Y = Pr c (LM X Y) g X Y := by
  have h1 := all_range (all_range L_perm (show X < 13 by omega)) (show Y < 13 - X by omega)
  rw [← Pr_perm c (List.isPerm_iff.mp h1) g]
  exact bx_filter c X Y LX g X Y (Nat.le_refl _) (Nat.le_refl _)
