-- ===== the class's tables of counts =====
def Done (a b h x : Nat) (S C : Nat → Int32) (H : Nat → Int64) : Prop := ∀ x' y' : Nat, 1 ≤ x' + y' → x' + y' ≤ 12 → (x' + y' < h ∨ (x' + y' = h ∧ x' < x)) → S (13 * x' + y') = srt (nI (a + 1)) (nI (b + 1)) (nI x') (nI y') ∧ C (13 * x' + y') = aC a b (13 * x' + y') ∧ H (13 * x' + y') = aH a b (13 * x' + y')
theorem nI_sub {x y : Nat} (h : y ≤ x) (hx : x < 2 ^ 31) : nI x - nI y = nI (x - y) := by
  apply Int32.toInt_inj.1
  rw [fb_subI (by rw [nI_toInt (by omega), nI_toInt (by omega)]; omega) (by rw [nI_toInt (by omega), nI_toInt (by omega)]; omega), nI_toInt (by omega), nI_toInt (by omega), nI_toInt (by omega)]
  omega
theorem fill_38 {a b h : Nat} (ha : a < 6) (hb : b < 6) (h1 : 1 ≤ h) (h12 : h ≤ 12) (K : Int32 → Int32 → Int32 → Int32 → Int32 → Int32 → Int32 → (Nat → Int32) → (Nat → Int32) → (Nat → Int64) → Option (Int32 × Int32 × Int32 × Int32 × Int32 × Int32 × (Nat → Int32) × (Nat → Int32) × (Nat → Int64))) : ∀ (d x k : Nat) (S C : Nat → Int32) (H : Nat → Int64) (l1 l2 l3 l4 : Int32), x + d = h + 1 → d < k → Done a b h x S C H → ∃ d1 d2 d3 d4 S' C' H', lX0_fillFor_38 5000 K k (nI h) (nI x) (nI (a + 1)) (nI (b + 1)) l1 l2 l3 l4 S C H = K (nI (h + 1)) (nI (a + 1)) (nI (b + 1)) d1 d2 d3 d4 S' C' H' ∧ Done a b (h + 1) 0 S' C' H' := by
  intro d
  induction d with
  | zero =>
    intro x k S C H l1 l2 l3 l4 hx hk hD
    obtain ⟨k, rfl⟩ : ∃ q, k = q + 1 := ⟨k - 1, by omega⟩
    rw [lX0_fillFor_38, if_pos ((nJ_lt (by omega) (by omega)).mpr (by omega)), nI_p]
    exact ⟨_, _, _, _, _, _, _, rfl, fun x' y' g1 g2 g3 => hD x' y' g1 g2 (by omega)⟩
  | succ d ih =>
    intro x k S C H l1 l2 l3 l4 hx hk hD
    obtain ⟨k, rfl⟩ : ∃ q, k = q + 1 := ⟨k - 1, by omega⟩
    have hs : x + (h - x) = h := by omega
    obtain ⟨d1, d2, d3, d4, e⟩ := fillPlace_c (x := x) (y := h - x) ha hb (by omega) (by omega) (S := S) (C := C) (H := H) (fun x' y' g1 g2 => (hD x' y' g1 (by omega) (by omega)).2.1) (fun x' y' g1 g2 => (hD x' y' g1 (by omega) (by omega)).2.2) l1 l2 l3 l4
    rw [lX0_fillFor_38, if_neg (fun q => by have := (nJ_lt (by omega) (by omega)).mp q; omega), nI_sub (by omega) (by omega), e, Option.bind_some, nI_p]
    refine ih (x + 1) k _ _ _ _ _ _ _ (by omega) (by omega) ?_
    intro x' y' g1 g2 g3
    by_cases q : x' = x ∧ y' = h - x
    · obtain ⟨rfl, rfl⟩ := q
      exact ⟨upd_y _ _ rfl, upd_y _ _ rfl, uL_y _ _ rfl⟩
    · have hne : 13 * x' + y' ≠ 13 * x + (h - x) := by omega
      obtain ⟨q1, q2, q3⟩ := hD x' y' g1 g2 (by omega)
      exact ⟨by rw [← q1]; exact upd_n _ _ hne, by rw [← q2]; exact upd_n _ _ hne, by rw [← q3]; exact uL_n _ _ hne⟩
theorem fill_29 {a b : Nat} (ha : a < 6) (hb : b < 6) : ∀ (d h k : Nat) (S C : Nat → Int32) (H : Nat → Int64) (l1 l2 l3 l4 : Int32), h + d = 13 → 1 ≤ h → d < k → Done a b h 0 S C H → ∃ d1 d2 d3 d4 S' C' H', lX0_fillFor_29 5000 k (nI h) (nI (a + 1)) (nI (b + 1)) l1 l2 l3 l4 S C H = some (nI (a + 1), nI (b + 1), d1, d2, d3, d4, S', C', H') ∧ Done a b 13 0 S' C' H' := by
  intro d
  induction d with
  | zero =>
    intro h k S C H l1 l2 l3 l4 hh h1 hk hD
    obtain ⟨k, rfl⟩ : ∃ q, k = q + 1 := ⟨k - 1, by omega⟩
    have : h = 13 := by omega
    subst this
    rw [lX0_fillFor_29, if_pos (by decide)]
    exact ⟨_, _, _, _, _, _, _, rfl, hD⟩
  | succ d ih =>
    intro h k S C H l1 l2 l3 l4 hh h1 hk hD
    obtain ⟨k, rfl⟩ : ∃ q, k = q + 1 := ⟨k - 1, by omega⟩
    rw [lX0_fillFor_29, if_neg (fun q => by have := (nJ_lt (j := 12) (by omega) (by omega)).mp q; omega)]
    obtain ⟨d1, d2, d3, d4, S', C', H', e, hD'⟩ := fill_38 ha hb h1 (by omega) (lX0_fillFor_29 5000 k) (h + 1) 0 5000 S C H l1 l2 l3 l4 (by omega) (by omega) hD
    rw [show (nI 0 : Int32) = 0 from rfl] at e
    rw [e]
    exact ih (h + 1) k S' C' H' d1 d2 d3 d4 (by omega) (by omega) (by omega) hD'
/-- what the class holds of counts: nothing, or a whole table -/
def CtX (ca cb : Int32) (S C : Nat → Int32) (H : Nat → Int64) : Prop := (ca = 0 ∧ cb = 0) ∨ ∃ a b, a < 6 ∧ b < 6 ∧ ca = nI (a + 1) ∧ cb = nI (b + 1) ∧ Done a b 13 0 S C H
theorem nI_inj {a b : Nat} (ha : a < 6) (hb : b < 6) (h : nI (a + 1) = nI (b + 1)) : a = b := by
  have := (nJ_eq (by omega) (by omega)).mp h; omega
theorem fillFor_c {a b : Nat} (ha : a < 6) (hb : b < 6) {ca cb : Int32} {S C : Nat → Int32} {H : Nat → Int64} (h : CtX ca cb S C H) (l1 l2 l3 l4 : Int32) : ∃ d1 d2 d3 d4 S' C' H', fX0_fillFor 5000 (nI (a + 1)) (nI (b + 1)) ca cb l1 l2 l3 l4 S C H = some (nI (a + 1), nI (b + 1), d1, d2, d3, d4, S', C', H') ∧ Done a b 13 0 S' C' H' := by
  have key : ∃ d1 d2 d3 d4 S' C' H', jX0_fillFor_17 5000 (nI (a + 1)) (nI (b + 1)) ca cb l1 l2 l3 l4 S C H = some (nI (a + 1), nI (b + 1), d1, d2, d3, d4, S', C', H') ∧ Done a b 13 0 S' C' H' := by
    unfold jX0_fillFor_17
    exact fill_29 ha hb 12 1 5000 S C H l1 l2 l3 l4 (by omega) (by omega) (by omega) (fun x' y' g1 g2 g3 => by omega)
  unfold fX0_fillFor
  by_cases q : ca = nI (a + 1)
  · rw [if_pos q]
    by_cases r : cb = nI (b + 1)
    · rw [if_pos r]
      rcases h with ⟨h1, h2⟩ | ⟨a', b', ha', hb', e1, e2, hD⟩
      · exfalso
        rw [h1] at q
        have := (nJ_eq (j := 0) (by omega) (by omega)).mp q
        omega
      · have ea : a' = a := nI_inj ha' ha (e1.symm.trans q)
        have eb : b' = b := nI_inj hb' hb (e2.symm.trans r)
        subst ea; subst eb
        rw [q, r]
        exact ⟨_, _, _, _, _, _, _, rfl, hD⟩
    · rw [if_neg r]; exact key
  · rw [if_neg q]; exact key
theorem countAt_y {a b x y : Nat} {S C : Nat → Int32} {H : Nat → Int64} (hD : Done a b 13 0 S C H) (h1 : 1 ≤ x + y) (hxy : x + y ≤ 12) : fX0_countAt (nI x) (nI y) C = some (aC a b (13 * x + y)) := by
  unfold fX0_countAt
  rcases isCountable_c (nI x) (nI y) with ⟨e, -⟩ | ⟨e, g⟩
  · rw [e, Option.bind_some, if_neg n10, at_nI, ck_nI (by omega) (by omega), nI_clamp (by omega), (hD x y h1 hxy (by omega)).2.1]
  · exfalso; apply g; unfold smallP; rw [nI_toInt (by omega), nI_toInt (by omega)]; omega
theorem shareAt_y {a b x y : Nat} {S C : Nat → Int32} {H : Nat → Int64} (hD : Done a b 13 0 S C H) (h1 : 1 ≤ x + y) (hxy : x + y ≤ 12) : fX0_shareAt (nI x) (nI y) H = some (aH a b (13 * x + y)) := by
  unfold fX0_shareAt
  rcases isCountable_c (nI x) (nI y) with ⟨e, -⟩ | ⟨e, g⟩
  · rw [e, Option.bind_some, if_neg n10, at_nI, ck_nI (by omega) (by omega), nI_clamp (by omega), (hD x y h1 hxy (by omega)).2.2]
  · exfalso; apply g; unfold smallP; rw [nI_toInt (by omega), nI_toInt (by omega)]; omega
