-- ===== the reference's tables of counts =====
theorem mC_p {a b x y : Nat} (h : mC a b x y = true) : mP a b (13 * x + y) (fX9_works 5000 (nI x) (nI y) (nI (a + 1)) (nI (b + 1)) 0 0 0 0 0 0 (aU a b) (aD a b) (aC a b)) := by
  unfold mC at h
  unfold mP
  revert h
  generalize fX9_works 5000 (nI x) (nI y) (nI (a + 1)) (nI (b + 1)) 0 0 0 0 0 0 (aU a b) (aD a b) (aC a b) = o
  intro h
  cases o with
  | none => cases h
  | some r =>
    simp only [Bool.and_eq_true, beq_iff_eq] at h
    exact ⟨h.1.1, h.1.2, h.2⟩
theorem bind_j {a b x y : Nat} (h1 : 1 ≤ x + y) (hxy : x + y ≤ 12) (v : Int32) {c1 c2 c3 c4 : Int32} {z z' : Option (Int64 × Int64)} (hz : z' = z) (hc : mP a b (13 * x + y) (z.bind fun r => jX9_works_49 5000 (nI x) (nI y) (nI (13 * x + y)) v c1 c2 c3 c4 r.1 r.2 (aU a b) (aD a b) (aC a b))) (l1 l2 l3 l4 : Int32) {U D : Nat → Int64} {C : Nat → Int32} (hC : LB (x + y) C (aC a b)) : ∃ d1 d2 d3 d4 u' w' U' D' C', (z'.bind fun r => jX9_works_49 5000 (nI x) (nI y) (nI (13 * x + y)) v l1 l2 l3 l4 r.1 r.2 U D C) = some (d1, d2, d3, d4, u', w', U', D', C') ∧ (U' (13 * x + y) = aU a b (13 * x + y) ∧ D' (13 * x + y) = aD a b (13 * x + y) ∧ C' (13 * x + y) = aC a b (13 * x + y)) ∧ ∀ j, j ≠ 13 * x + y → U' j = U j ∧ D' j = D j ∧ C' j = C j := by
  rw [hz]
  cases z with
  | none => exact absurd hc id
  | some r =>
    rw [Option.bind_some] at hc ⊢
    exact works_j h1 hxy v r.1 r.2 hc l1 l2 l3 l4 hC
theorem works_c {a b x y : Nat} (ha : a < 6) (hb : b < 6) (h1 : 1 ≤ x + y) (hxy : x + y ≤ 12) {U D : Nat → Int64} {C : Nat → Int32} (hU : LB (x + y) U (aU a b)) (hD : LB (x + y) D (aD a b)) (hC : LB (x + y) C (aC a b)) (l1 l2 l3 l4 : Int32) (u w : Int64) : ∃ d1 d2 d3 d4 u' w' U' D' C', fX9_works 5000 (nI x) (nI y) (nI (a + 1)) (nI (b + 1)) l1 l2 l3 l4 u w U D C = some (d1, d2, d3, d4, u', w', U', D', C') ∧ (U' (13 * x + y) = aU a b (13 * x + y) ∧ D' (13 * x + y) = aD a b (13 * x + y) ∧ C' (13 * x + y) = aC a b (13 * x + y)) ∧ ∀ j, j ≠ 13 * x + y → U' j = U j ∧ D' j = D j ∧ C' j = C j := by
  have hm := mC_p (mC_y ha hb h1 hxy)
  obtain ⟨c1, c2, c3, c4, ec⟩ := sort_M (n := 5000) (by omega) (r16_i ha) (r16_i hb) (small_pl hxy) 0 0 0 0
  obtain ⟨d1, d2, d3, d4, ed⟩ := sort_M (n := 5000) (by omega) (r16_i ha) (r16_i hb) (small_pl hxy) l1 l2 l3 l4
  unfold fX9_works at hm ⊢
  rw [at_y, ec, Option.bind_some, Option.bind_some] at hm
  rw [at_y, ed, Option.bind_some, Option.bind_some]
  generalize srt (nI (a + 1)) (nI (b + 1)) (nI x) (nI y) = v at hm ⊢
  by_cases e1 : v = 1
  · rw [if_pos e1] at hm ⊢
    exact bind_j h1 hxy v (lay_eq 1 1 u w 0 0) hm d1 d2 d3 d4 hC
  · rw [if_neg e1] at hm ⊢
    by_cases e0 : v = 0
    · rw [if_pos e0] at hm ⊢
      exact bind_j h1 hxy v (lp_eq 5000 h1 hxy hC u w) hm d1 d2 d3 d4 hC
    · rw [if_neg e0] at hm ⊢
      exact bind_j h1 hxy v (lq_eq 5000 _ _ hxy hU hD u w) hm d1 d2 d3 d4 hC
def DoneM (a b h x : Nat) (U D : Nat → Int64) (C : Nat → Int32) : Prop := ∀ x' y' : Nat, 1 ≤ x' + y' → x' + y' ≤ 12 → (x' + y' < h ∨ (x' + y' = h ∧ x' < x)) → U (13 * x' + y') = aU a b (13 * x' + y') ∧ D (13 * x' + y') = aD a b (13 * x' + y') ∧ C (13 * x' + y') = aC a b (13 * x' + y')
theorem lay_49 {a b h : Nat} (ha : a < 6) (hb : b < 6) (h1 : 1 ≤ h) (h12 : h ≤ 12) (ka kb : Int32) (K : Int32 → Int32 → Int32 → Int32 → Int32 → Int32 → Int32 → Int64 → Int64 → (Nat → Int64) → (Nat → Int64) → (Nat → Int32) → Option (Int32 × Int32 × Int32 × Int32 × Int32 × Int32 × Int64 × Int64 × (Nat → Int64) × (Nat → Int64) × (Nat → Int32))) : ∀ (d x k : Nat) (U D : Nat → Int64) (C : Nat → Int32) (l1 l2 l3 l4 : Int32) (u w : Int64), x + d = h + 1 → d < k → DoneM a b h x U D C → ∃ d1 d2 d3 d4 u' w' U' D' C', lX9_layCounts_49 5000 (nI (a + 1)) (nI (b + 1)) K k (nI h) (nI x) l1 l2 l3 l4 ka kb u w U D C = K (nI (h + 1)) d1 d2 d3 d4 ka kb u' w' U' D' C' ∧ DoneM a b (h + 1) 0 U' D' C' := by
  intro d
  induction d with
  | zero =>
    intro x k U D C l1 l2 l3 l4 u w hx hk hD
    obtain ⟨k, rfl⟩ : ∃ q, k = q + 1 := ⟨k - 1, by omega⟩
    rw [lX9_layCounts_49, if_pos ((nJ_lt (by omega) (by omega)).mpr (by omega)), nI_p]
    exact ⟨_, _, _, _, _, _, _, _, _, rfl, fun x' y' g1 g2 g3 => hD x' y' g1 g2 (by omega)⟩
  | succ d ih =>
    intro x k U D C l1 l2 l3 l4 u w hx hk hD
    obtain ⟨k, rfl⟩ : ∃ q, k = q + 1 := ⟨k - 1, by omega⟩
    have hs : x + (h - x) = h := by omega
    obtain ⟨d1, d2, d3, d4, u', w', U', D', C', e, ei, ej⟩ := works_c (x := x) (y := h - x) ha hb (by omega) (by omega) (U := U) (D := D) (C := C) (fun x' y' g1 g2 => (hD x' y' g1 (by omega) (by omega)).1) (fun x' y' g1 g2 => (hD x' y' g1 (by omega) (by omega)).2.1) (fun x' y' g1 g2 => (hD x' y' g1 (by omega) (by omega)).2.2) l1 l2 l3 l4 u w
    rw [lX9_layCounts_49, if_neg (fun q => by have := (nJ_lt (by omega) (by omega)).mp q; omega), nI_sub (by omega) (by omega), e, Option.bind_some, nI_p]
    refine ih (x + 1) k _ _ _ _ _ _ _ _ _ (by omega) (by omega) ?_
    intro x' y' g1 g2 g3
    by_cases q : x' = x ∧ y' = h - x
    · obtain ⟨rfl, rfl⟩ := q
      exact ei
    · have hne : 13 * x' + y' ≠ 13 * x + (h - x) := by omega
      obtain ⟨q1, q2, q3⟩ := hD x' y' g1 g2 (by omega)
      obtain ⟨p1, p2, p3⟩ := ej _ hne
      exact ⟨p1.trans q1, p2.trans q2, p3.trans q3⟩
theorem lay_41 {a b : Nat} (ha : a < 6) (hb : b < 6) (ka kb : Int32) : ∀ (d h k : Nat) (U D : Nat → Int64) (C : Nat → Int32) (l1 l2 l3 l4 : Int32) (u w : Int64), h + d = 13 → 1 ≤ h → d < k → DoneM a b h 0 U D C → ∃ d1 d2 d3 d4 u' w' U' D' C', lX9_layCounts_41 5000 (nI (a + 1)) (nI (b + 1)) k (nI h) l1 l2 l3 l4 ka kb u w U D C = some (d1, d2, d3, d4, ka, kb, u', w', U', D', C') ∧ DoneM a b 13 0 U' D' C' := by
  intro d
  induction d with
  | zero =>
    intro h k U D C l1 l2 l3 l4 u w hh h1 hk hD
    obtain ⟨k, rfl⟩ : ∃ q, k = q + 1 := ⟨k - 1, by omega⟩
    have : h = 13 := by omega
    subst this
    rw [lX9_layCounts_41, if_pos (by decide)]
    exact ⟨_, _, _, _, _, _, _, _, _, rfl, hD⟩
  | succ d ih =>
    intro h k U D C l1 l2 l3 l4 u w hh h1 hk hD
    obtain ⟨k, rfl⟩ : ∃ q, k = q + 1 := ⟨k - 1, by omega⟩
    rw [lX9_layCounts_41, if_neg (fun q => by have := (nJ_lt (j := 12) (by omega) (by omega)).mp q; omega)]
    obtain ⟨d1, d2, d3, d4, u', w', U', D', C', e, hD'⟩ := lay_49 ha hb h1 (by omega) ka kb (lX9_layCounts_41 5000 (nI (a + 1)) (nI (b + 1)) k) (h + 1) 0 5000 U D C l1 l2 l3 l4 u w (by omega) (by omega) hD
    rw [show (nI 0 : Int32) = 0 from rfl] at e
    rw [e]
    exact ih (h + 1) k U' D' C' d1 d2 d3 d4 u' w' (by omega) (by omega) (by omega) hD'
/-- what the reference holds of counts: nothing, or a whole table -/
def CtM (ka kb : Int32) (U D : Nat → Int64) (C : Nat → Int32) : Prop := (ka = 0 ∧ kb = 0) ∨ ∃ a b, a < 6 ∧ b < 6 ∧ ka = nI (a + 1) ∧ kb = nI (b + 1) ∧ DoneM a b 13 0 U D C
theorem lay_c {a b : Nat} (ha : a < 6) (hb : b < 6) {ka kb : Int32} {U D : Nat → Int64} {C : Nat → Int32} (h : CtM ka kb U D C) (l1 l2 l3 l4 : Int32) (u w : Int64) : ∃ d1 d2 d3 d4 u' w' U' D' C', fX9_layCounts 5000 (nI (a + 1)) (nI (b + 1)) l1 l2 l3 l4 ka kb u w U D C = some (d1, d2, d3, d4, nI (a + 1), nI (b + 1), u', w', U', D', C') ∧ DoneM a b 13 0 U' D' C' := by
  have key : ∃ d1 d2 d3 d4 u' w' U' D' C', jX9_layCounts_23 5000 (nI (a + 1)) (nI (b + 1)) l1 l2 l3 l4 ka kb u w U D C = some (d1, d2, d3, d4, nI (a + 1), nI (b + 1), u', w', U', D', C') ∧ DoneM a b 13 0 U' D' C' := by
    unfold jX9_layCounts_23
    exact lay_41 ha hb _ _ 12 1 5000 U D C l1 l2 l3 l4 u w (by omega) (by omega) (by omega) (fun x' y' g1 g2 g3 => by omega)
  unfold fX9_layCounts
  by_cases q : ka = nI (a + 1)
  · rw [if_pos q]
    by_cases r : kb = nI (b + 1)
    · rw [if_pos r]
      rcases h with ⟨h1, h2⟩ | ⟨a', b', ha', hb', e1, e2, hD⟩
      · exfalso
        rw [h1] at q
        have := (nJ_eq (j := 0) (by omega) (by omega)).mp q
        omega
      · have ea : a' = a := nI_inj ha' ha (e1.symm.trans q)
        have eb : b' = b := nI_inj hb' hb (e2.symm.trans r)
        subst ea; subst eb
        rw [q, r]
        exact ⟨_, _, _, _, _, _, _, _, _, rfl, hD⟩
    · rw [if_neg r]; exact key
  · rw [if_neg q]; exact key
