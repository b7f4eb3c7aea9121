-- ===== the reference's product =====
theorem made_87 {u v : Nat} (huv : 1 ≤ u + v) (huv2 : u + v ≤ 12) (K : Int32 → Int32 → Int32 → Int32 → Int32 → Int32 → Int32 → Int32 → Int32 → Int32 → Int64 → Int64 → (Nat → Int64) → (Nat → Int64) → (Nat → Int32) → (Nat → Int64) → Option (Int64 × Int32 × Int32 × Int32 × Int32 × Int32 × Int32 × Int64 × Int64 × (Nat → Int64) × (Nat → Int64) × (Nat → Int32) × (Nat → Int64))) (x y l1 l2 l3 l4 ka kb : Int32) (w z : Int64) (U D : Nat → Int64) (C : Nat → Int32) : ∀ (p k : Nat) (f : Nat → Int64) (g : Nat → Nat → Int64), p ≤ 75 → p < k → Rw f g → ∃ f', lX9_made_87 5000 K k x y (nI u) (nI v) (nI p) l1 l2 l3 l4 ka kb w z U D C f = K x y (nI u) (nI (v + 1)) l1 l2 l3 l4 ka kb w z U D C f' ∧ Rw f' (Mp u v g p) := by
  intro p
  induction p with
  | zero =>
    intro k f g _ hk hR
    obtain ⟨k, rfl⟩ : ∃ q, k = q + 1 := ⟨k - 1, by omega⟩
    rw [lX9_made_87, if_pos (by decide), nI_p]
    exact ⟨f, rfl, hR⟩
  | succ p ih =>
    intro k f g hp hk hR
    obtain ⟨k, rfl⟩ : ∃ q, k = q + 1 := ⟨k - 1, by omega⟩
    obtain ⟨f', e, hR'⟩ := mult_c (n := 5000) (by omega) huv huv2 hR
    rw [lX9_made_87, if_neg (fun q => by have := (nJ_le (k := 0) (by omega) (by omega)).mp q; omega), e, Option.bind_some, nI_dn (by omega) (by omega), Nat.add_sub_cancel]
    obtain ⟨f'', e2, hR2⟩ := ih k f' (Mo u v g) (by omega) (by omega) hR'
    rw [Mp_Mo] at hR2
    exact ⟨f'', e2, hR2⟩
