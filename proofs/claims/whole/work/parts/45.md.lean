-- ===== products of many factors; what a box sees of them =====
/-- every count is at most 75 -/
theorem tC_75 : ((List.range 6).all fun a => (List.range 6).all fun b => (List.range 13).all fun x => (List.range (13 - x)).all fun y => decide (tC a b (13 * x + y) ≤ 75)) = true := by decide +kernel
theorem tC_le {a b x y : Nat} (ha : a < 6) (hb : b < 6) (hxy : x + y ≤ 12) : tC a b (13 * x + y) ≤ 75 := of_decide_eq_true (all_range (all_range (all_range (all_range tC_75 ha) hb) (show x < 13 by omega)) (show y < 13 - x by omega))
/-- the same in the box up to (x, y) -/
def Bx (X Y : Nat) (g g' : Nat → Nat → Int64) : Prop := ∀ x y, x ≤ X → y ≤ Y → g x y = g' x y
theorem bx_refl {X Y : Nat} (g : Nat → Nat → Int64) : Bx X Y g g := fun _ _ _ _ => rfl
theorem bx_Mo {X Y u v : Nat} {g g' : Nat → Nat → Int64} (h : Bx X Y g g') : Bx X Y (Mo u v g) (Mo u v g') := by
  intro x y hx hy
  by_cases c : u ≤ x ∧ v ≤ y
  · rw [Mo_y _ c, Mo_y _ c, h x y hx hy, h (x - u) (y - v) (by omega) (by omega)]
  · rw [Mo_n _ c, Mo_n _ c, h x y hx hy]
theorem bx_Mp {X Y u v : Nat} {g g' : Nat → Nat → Int64} (h : Bx X Y g g') : ∀ p, Bx X Y (Mp u v g p) (Mp u v g' p)
  | 0 => h
  | p + 1 => bx_Mo (bx_Mp h p)
theorem bx_out {X Y u v : Nat} (g : Nat → Nat → Int64) (h : X < u ∨ Y < v) (p : Nat) : Bx X Y (Mp u v g p) g := fun x y hx hy => Mp_n g (by omega) p
theorem Mp_Mo (u v s t : Nat) (g : Nat → Nat → Int64) : ∀ p, Mp u v (Mo s t g) p = Mo s t (Mp u v g p)
  | 0 => rfl
  | p + 1 => by
    show Mo u v (Mp u v (Mo s t g) p) = Mo s t (Mo u v (Mp u v g p))
    rw [Mp_Mo u v s t g p, Mo_comm]
theorem Mp_comm (u v s t : Nat) (g : Nat → Nat → Int64) (p : Nat) : ∀ q, Mp u v (Mp s t g q) p = Mp s t (Mp u v g p) q
  | 0 => rfl
  | q + 1 => by
    show Mp u v (Mo s t (Mp s t g q)) p = Mo s t (Mp s t (Mp u v g p) q)
    rw [Mp_Mo, Mp_comm u v s t g p q]
