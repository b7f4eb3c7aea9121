-- ===== the class's multiply =====
theorem coef_y (f : Nat → Int64) {x y : Nat} (hxy : x + y ≤ 12) : fX1_coefficientAt (nI x) (nI y) f = some (f (13 * x + y)) := by
  unfold fX1_coefficientAt
  rcases isSmall_c (nI x) (nI y) with ⟨e, -⟩ | ⟨e, g⟩
  · rw [e, Option.bind_some, if_neg n10, at_nI, ck_nI (by omega) (by omega), nI_clamp (by omega)]
  · exfalso; apply g; unfold smallP; rw [nI_toInt (by omega), nI_toInt (by omega)]; omega
theorem below_l (n : Nat) {u v x y p : Nat} (huv : 1 ≤ u + v) (huv2 : u + v ≤ 12) (hxy : x + y ≤ 12) (g : Nat → Nat → Int64) {f : Nat → Int64} (hf : ∀ x' y', x' + y' < x + y → f (13 * x' + y') = g x' y') : ∀ (d j K : Nat) (w : Int64), j + d = 13 → 1 ≤ j → d < K → lX1_fromBelow_9 n f K (nI x) (nI y) (nI u) (nI v) (nI p) w (cf p (j - 1)) (nI j) = some (w + sm (cf p) g u v x y d j) := by
  intro d
  induction d with
  | zero =>
    intro j K w hj h1 hK
    obtain ⟨K, rfl⟩ : ∃ q, K = q + 1 := ⟨K - 1, by omega⟩
    have : j = 13 := by omega
    subst this
    rw [lX1_fromBelow_9, if_pos (by decide), sm, Int64.add_zero]
  | succ d ih =>
    intro j K w hj h1 hK
    obtain ⟨K, rfl⟩ : ∃ q, K = q + 1 := ⟨K - 1, by omega⟩
    obtain ⟨i, rfl⟩ : ∃ i, j = i + 1 := ⟨j - 1, by omega⟩
    have hno : ¬ 12 < nI (i + 1) := fun q => by have := (nJ_lt (j := 12) (by omega) (by omega)).mp q; omega
    have b1 : (i + 1) * u ≤ 13 * 12 := Nat.mul_le_mul (by omega) (by omega)
    have b2 : (i + 1) * v ≤ 13 * 12 := Nat.mul_le_mul (by omega) (by omega)
    have b3 : u + v ≤ (i + 1) * u + (i + 1) * v := by rw [← Nat.mul_add]; exact Nat.le_mul_of_pos_left _ (by omega)
    rw [lX1_fromBelow_9, if_neg hno, pk_mul, pk_mul, sm_s]
    have hih := ih (i + 1 + 1) K
    by_cases c1 : (i + 1) * u ≤ x
    · by_cases c2 : (i + 1) * v ≤ y
      · rw [if_neg (fun q => by have := (nJ_lt (by omega) (by omega)).mp q; omega), if_neg (fun q => by have := (nJ_lt (by omega) (by omega)).mp q; omega), if_pos ⟨c1, c2⟩]
        have hd : decide (¬ Int32.toInt64 (nI (i + 1)) = 0) = true := decide_eq_true (fun e => by
          have e2 : (Int32.toInt64 (nI (i + 1))).toInt = 0 := by rw [e]; decide
          rw [Int32.toInt_toInt64, nI_toInt (by omega)] at e2; omega)
        rw [hd, nI_sub c1 (by omega), nI_sub c2 (by omega), coef_y f (by omega), hf _ _ (by omega), nI_p (i + 1)]
        show lX1_fromBelow_9 n f K (nI x) (nI y) (nI u) (nI v) (nI p) (w + cf p (i + 1) * g (x - (i + 1) * u) (y - (i + 1) * v)) (cf p (i + 1)) (nI (i + 1 + 1)) = _
        have h2 := hih (w + cf p (i + 1) * g (x - (i + 1) * u) (y - (i + 1) * v)) (by omega) (by omega) (by omega)
        rw [show i + 1 + 1 - 1 = i + 1 by omega] at h2
        rw [h2, Int64.add_assoc]
      · rw [if_neg (fun q => by have := (nJ_lt (by omega) (by omega)).mp q; omega), if_pos ((nJ_lt (by omega) (by omega)).mpr (by omega)), if_neg (fun q => c2 q.2), Int64.add_zero]
    · rw [if_pos ((nJ_lt (by omega) (by omega)).mpr (by omega)), if_neg (fun q => c1 q.1), Int64.add_zero]
theorem below_c {n : Nat} (hn : 100 ≤ n) {u v x y p : Nat} (huv : 1 ≤ u + v) (huv2 : u + v ≤ 12) (hp : p ≤ 75) (hxy : x + y ≤ 12) (g : Nat → Nat → Int64) {f : Nat → Int64} (hf : ∀ x' y', x' + y' < x + y → f (13 * x' + y') = g x' y') : ∃ s, fX1_fromBelow n (nI x) (nI y) (nI u) (nI v) (nI p) f = some s ∧ g x y + s = Mp u v g p x y := by
  refine ⟨0 + sm (cf p) g u v x y 12 1, below_l n huv huv2 hxy g hf 12 1 n 0 (by omega) (by omega) (by omega), ?_⟩
  rw [Mp_sum huv g p hp x y hxy, Int64.zero_add]
