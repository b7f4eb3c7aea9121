-- ===== counted, c, level =====
theorem cnt_nI {p q : Int32} (h : smallP p q) (h1 : 1 ≤ p.toInt + q.toInt) : ∃ x y, 1 ≤ x + y ∧ x + y ≤ 12 ∧ p = nI x ∧ q = nI y := by
  obtain ⟨x, y, hxy, rfl, rfl⟩ := small_nI h
  rw [nI_toInt (by omega), nI_toInt (by omega)] at h1
  exact ⟨x, y, by omega, hxy, rfl, rfl⟩
theorem countOf_c {a b x y : Nat} (ha : a < 6) (hb : b < 6) (h1 : 1 ≤ x + y) (hxy : x + y ≤ 12) {ka kb : Int32} {U D : Nat → Int64} {C : Nat → Int32} (h : CtM ka kb U D C) (l1 l2 l3 l4 : Int32) (u w : Int64) : ∃ d1 d2 d3 d4 u' w' U' D' C', fX9_countOf 5000 (nI x) (nI y) (nI (a + 1)) (nI (b + 1)) l1 l2 l3 l4 ka kb u w U D C = some (aC a b (13 * x + y), d1, d2, d3, d4, nI (a + 1), nI (b + 1), u', w', U', D', C') ∧ DoneM a b 13 0 U' D' C' := by
  obtain ⟨d1, d2, d3, d4, u', w', U', D', C', e, hD⟩ := lay_c ha hb h l1 l2 l3 l4 u w
  refine ⟨d1, d2, d3, d4, u', w', U', D', C', ?_, hD⟩
  unfold fX9_countOf
  rw [e, Option.bind_some, at_y, Option.bind_some, ck_nI (by omega) (by omega), nI_clamp (by omega)]
  rw [← (hD x y h1 hxy (by omega)).2.2]
theorem CtM_of {a b : Nat} (ha : a < 6) (hb : b < 6) {U D : Nat → Int64} {C : Nat → Int32} (h : DoneM a b 13 0 U D C) : CtM (nI (a + 1)) (nI (b + 1)) U D C := Or.inr ⟨a, b, ha, hb, rfl, rfl, h⟩
theorem CtX_of {a b : Nat} (ha : a < 6) (hb : b < 6) {S C : Nat → Int32} {H : Nat → Int64} (h : Done a b 13 0 S C H) : CtX (nI (a + 1)) (nI (b + 1)) S C H := Or.inr ⟨a, b, ha, hb, rfl, rfl, h⟩
theorem pr_counted (p q : Int32) {A B : Int32} (hA : r16 A) (hB : r16 B) {ca cb ka kb : Int32} {S C C2 : Nat → Int32} {H U D : Nat → Int64} (hX : CtX ca cb S C H) (hM : CtM ka kb U D C2) (c1 c2 c3 c4 m1 m2 m3 m4 : Int32) (u w : Int64) : ∃ r d1 d2 d3 d4 ca' cb' S' C' H' e1 e2 e3 e4 ka' kb' u' w' U' D' C2', fX8_counted 5000 p q A B c1 c2 c3 c4 ca cb S C H = some (r, d1, d2, d3, d4, ca', cb', S', C', H') ∧ fX9_counted 5000 p q A B m1 m2 m3 m4 ka kb u w U D C2 = some (r, e1, e2, e3, e4, ka', kb', u', w', U', D', C2') ∧ CtX ca' cb' S' C' H' ∧ CtM ka' kb' U' D' C2' := by
  obtain ⟨a, ha, rfl⟩ := r16_nI hA
  obtain ⟨b, hb, rfl⟩ := r16_nI hB
  unfold fX8_counted fX9_counted
  rw [isLow_1]
  rcases isCountable_c p q with ⟨g, g1, g2⟩ | ⟨g, -⟩
  · obtain ⟨x, y, h1, hxy, rfl, rfl⟩ := cnt_nI g1 g2
    obtain ⟨d1, d2, d3, d4, S', C', H', e, hD⟩ := fillFor_c ha hb hX c1 c2 c3 c4
    obtain ⟨e1, e2, e3, e4, u', w', U', D', C2', e', hD'⟩ := countOf_c ha hb h1 hxy hM m1 m2 m3 m4 u w
    rw [g, e, e']
    simp only [Option.bind_some, if_neg n10]
    rw [countAt_y hD h1 hxy]
    exact ⟨_, _, _, _, _, _, _, _, _, _, _, _, _, _, _, _, _, _, _, _, _, rfl, rfl, CtX_of ha hb hD, CtM_of ha hb hD'⟩
  · rw [g]
    exact ⟨_, _, _, _, _, _, _, _, _, _, _, _, _, _, _, _, _, _, _, _, _, rfl, rfl, hX, hM⟩
theorem pr_c (p q r : Int32) {A B : Int32} (hA : r16 A) (hB : r16 B) {ca cb ka kb : Int32} {S C C2 : Nat → Int32} {H U D : Nat → Int64} (hX : CtX ca cb S C H) (hM : CtM ka kb U D C2) (c1 c2 c3 c4 m1 m2 m3 m4 : Int32) (u w : Int64) : ∃ o d1 d2 d3 d4 ca' cb' S' C' H' e1 e2 e3 e4 ka' kb' u' w' U' D' C2', fX8_c 5000 p q r A B c1 c2 c3 c4 ca cb S C H = some (o, d1, d2, d3, d4, ca', cb', S', C', H') ∧ fX9_c 5000 p q r A B m1 m2 m3 m4 ka kb u w U D C2 = some (o, e1, e2, e3, e4, ka', kb', u', w', U', D', C2') ∧ CtX ca' cb' S' C' H' ∧ CtM ka' kb' U' D' C2' := by
  obtain ⟨a, ha, rfl⟩ := r16_nI hA
  obtain ⟨b, hb, rfl⟩ := r16_nI hB
  unfold fX8_c fX9_c
  rw [isLow_1, in_eq r 0 1 (by decide) (by decide)]
  rcases isCountable_c p q with ⟨g, g1, g2⟩ | ⟨g, -⟩
  rotate_left
  · rw [g]
    exact ⟨_, _, _, _, _, _, _, _, _, _, _, _, _, _, _, _, _, _, _, _, _, rfl, rfl, hX, hM⟩
  rcases isIn_c r 0 1 with ⟨f, f1, f2⟩ | ⟨f, -⟩
  rotate_left
  · rw [g, f]
    exact ⟨_, _, _, _, _, _, _, _, _, _, _, _, _, _, _, _, _, _, _, _, _, rfl, rfl, hX, hM⟩
  obtain ⟨x, y, h1, hxy, rfl, rfl⟩ := cnt_nI g1 g2
  obtain ⟨d1, d2, d3, d4, S', C', H', e, hD⟩ := fillFor_c ha hb hX c1 c2 c3 c4
  obtain ⟨e1, e2, e3, e4, u', w', U', D', C2', e', hD'⟩ := lay_c ha hb hM m1 m2 m3 m4 u w
  have hp := pC_y ha hb h1 hxy
  unfold pC at hp
  simp only [Bool.and_eq_true, beq_iff_eq] at hp
  rw [g, f, e, e', at_y]
  simp only [Option.bind_some, if_neg n10]
  rw [shareAt_y hD h1 hxy]
  simp only [Option.bind_some]
  rw [ck_nI (by omega) (by omega), ck_nI (by omega) (by omega), nI_clamp (by omega), (hD' x y h1 hxy (by omega)).1, (hD' x y h1 hxy (by omega)).2.1]
  have t0 := ti0; have t1 := ti1
  have hr : r = 0 ∨ r = 1 := by rw [fa_eq, fa_eq]; omega
  rcases hr with rfl | rfl
  · rw [hp.1, if_pos rfl]
    exact ⟨_, _, _, _, _, _, _, _, _, _, _, _, _, _, _, _, _, _, _, _, _, rfl, rfl, CtX_of ha hb hD, CtM_of ha hb hD'⟩
  · rw [hp.2, if_neg n10]
    exact ⟨_, _, _, _, _, _, _, _, _, _, _, _, _, _, _, _, _, _, _, _, _, rfl, rfl, CtX_of ha hb hD, CtM_of ha hb hD'⟩
theorem aC_0 {a b x y : Nat} (ha : a < 6) (hb : b < 6) (h1 : 1 ≤ x + y) (hxy : x + y ≤ 12) (hs : srt (nI (a + 1)) (nI (b + 1)) (nI x) (nI y) = 0) : aC a b (13 * x + y) = 0 := by
  have hx := xC_y ha hb h1 hxy
  unfold xC at hx
  cases hP : fX0_sharesOfParts 5000 (nI x) (nI y) (aC a b) with
  | none => rw [hP] at hx; cases hx
  | some P =>
    rw [hP] at hx
    simp only [] at hx
    rw [hs, if_neg (by decide), if_neg (by decide)] at hx
    simp only [Bool.and_eq_true, beq_iff_eq] at hx
    exact hx.1
theorem ctb_y {x y : Nat} (h1 : 1 ≤ x + y) (hxy : x + y ≤ 12) : fX8_isCountable (nI x) (nI y) = some 1 := by
  rcases isCountable_c (nI x) (nI y) with ⟨e, -⟩ | ⟨e, g⟩
  · exact e
  · exfalso; apply g; unfold smallP; rw [nI_toInt (by omega), nI_toInt (by omega)]; omega
theorem lev0_l {a b h : Nat} (ha : a < 6) (hb : b < 6) (h1 : 1 ≤ h) (h12 : h ≤ 12) {S C : Nat → Int32} {H : Nat → Int64} (hD : Done a b 13 0 S C H) (ka kb : Int32) (u w : Int64) (U D : Nat → Int64) (C2 : Nat → Int32) : ∀ (d x K M : Nat) (v m1 m2 m3 m4 : Int32), x + d = h + 1 → d < K → d < M → ∃ r e1 e2 e3 e4, lX0_rootsOfHeight_4 5000 S K (nI h) v (nI x) = some r ∧ lX9_levelOf_5 5000 (nI (a + 1)) (nI (b + 1)) M (nI h) 0 v (nI x) m1 m2 m3 m4 ka kb u w U D C2 = some (r, e1, e2, e3, e4, ka, kb, u, w, U, D, C2) := by
  intro d
  induction d with
  | zero =>
    intro x K M v m1 m2 m3 m4 hx hK hM
    obtain ⟨K, rfl⟩ : ∃ q, K = q + 1 := ⟨K - 1, by omega⟩
    obtain ⟨M, rfl⟩ : ∃ q, M = q + 1 := ⟨M - 1, by omega⟩
    have hl := (nJ_lt (j := h) (k := x) (by omega) (by omega)).mpr (by omega)
    rw [lX0_rootsOfHeight_4, lX9_levelOf_5, if_pos hl, if_pos hl]
    exact ⟨_, _, _, _, _, rfl, rfl⟩
  | succ d ih =>
    intro x K M v m1 m2 m3 m4 hx hK hM
    obtain ⟨K, rfl⟩ : ∃ q, K = q + 1 := ⟨K - 1, by omega⟩
    obtain ⟨M, rfl⟩ : ∃ q, M = q + 1 := ⟨M - 1, by omega⟩
    have hl : ¬ nI h < nI x := fun q => by have := (nJ_lt (by omega) (by omega)).mp q; omega
    obtain ⟨e1, e2, e3, e4, e⟩ := sort_M (n := 5000) (by omega) (r16_i ha) (r16_i hb) (small_pl (x := x) (y := h - x) (by omega)) m1 m2 m3 m4
    rw [lX0_rootsOfHeight_4, lX9_levelOf_5, if_neg hl, if_neg hl, at_nI, nI_sub (by omega) (by omega), nI_sub (by omega) (by omega), ctb_y (by omega) (by omega), e, nI_p]
    unfold jX9_levelOf_47
    rw [show 13 * x + h - x = 13 * x + (h - x) by omega, ck_nI (by omega) (by omega), nI_clamp (by omega), (hD x (h - x) (by omega) (by omega) (by omega)).1, nI_p]
    simp only [Option.bind_some, if_neg n10, if_true]
    by_cases hs : srt (nI (a + 1)) (nI (b + 1)) (nI x) (nI (h - x)) = 0
    · rw [if_pos hs, if_pos hs, Int32.add_zero]
      exact ih (x + 1) K M v _ _ _ _ (by omega) (by omega) (by omega)
    · rw [if_neg hs, if_neg hs]
      exact ih (x + 1) K M (v + 1) _ _ _ _ (by omega) (by omega) (by omega)
theorem lev1_l {a b h : Nat} (ha : a < 6) (hb : b < 6) (h1 : 1 ≤ h) (h12 : h ≤ 12) {S C : Nat → Int32} {H : Nat → Int64} (hD : Done a b 13 0 S C H) : ∀ (d x K M : Nat) (v m1 m2 m3 m4 ka kb : Int32) (u w : Int64) (U D : Nat → Int64) (C2 : Nat → Int32), x + d = h + 1 → d < K → d < M → CtM ka kb U D C2 → ∃ r e1 e2 e3 e4 ka' kb' u' w' U' D' C2', lX0_sumOfHeight_4 5000 C K (nI h) v (nI x) = some r ∧ lX9_levelOf_5 5000 (nI (a + 1)) (nI (b + 1)) M (nI h) 1 v (nI x) m1 m2 m3 m4 ka kb u w U D C2 = some (r, e1, e2, e3, e4, ka', kb', u', w', U', D', C2') ∧ CtM ka' kb' U' D' C2' := by
  intro d
  induction d with
  | zero =>
    intro x K M v m1 m2 m3 m4 ka kb u w U D C2 hx hK hM hC
    obtain ⟨K, rfl⟩ : ∃ q, K = q + 1 := ⟨K - 1, by omega⟩
    obtain ⟨M, rfl⟩ : ∃ q, M = q + 1 := ⟨M - 1, by omega⟩
    have hl := (nJ_lt (j := h) (k := x) (by omega) (by omega)).mpr (by omega)
    rw [lX0_sumOfHeight_4, lX9_levelOf_5, if_pos hl, if_pos hl]
    exact ⟨_, _, _, _, _, _, _, _, _, _, _, _, rfl, rfl, hC⟩
  | succ d ih =>
    intro x K M v m1 m2 m3 m4 ka kb u w U D C2 hx hK hM hC
    obtain ⟨K, rfl⟩ : ∃ q, K = q + 1 := ⟨K - 1, by omega⟩
    obtain ⟨M, rfl⟩ : ∃ q, M = q + 1 := ⟨M - 1, by omega⟩
    have hl : ¬ nI h < nI x := fun q => by have := (nJ_lt (by omega) (by omega)).mp q; omega
    obtain ⟨e1, e2, e3, e4, e⟩ := sort_M (n := 5000) (by omega) (r16_i ha) (r16_i hb) (small_pl (x := x) (y := h - x) (by omega)) m1 m2 m3 m4
    rw [lX0_sumOfHeight_4, lX9_levelOf_5, if_neg hl, if_neg hl, nI_sub (by omega) (by omega), countAt_y hD (by omega) (by omega), e, nI_p]
    unfold jX9_levelOf_47
    rw [nI_p]
    simp only [Option.bind_some, if_neg n10]
    by_cases hs : srt (nI (a + 1)) (nI (b + 1)) (nI x) (nI (h - x)) = 0
    · rw [if_pos hs, aC_0 ha hb (by omega) (by omega) hs]
      exact ih (x + 1) K M (v + 0) _ _ _ _ _ _ _ _ _ _ _ (by omega) (by omega) (by omega) hC
    · rw [if_neg hs]
      obtain ⟨f1, f2, f3, f4, u', w', U', D', C2', f, hD'⟩ := countOf_c ha hb (x := x) (y := h - x) (by omega) (by omega) hC e1 e2 e3 e4 u w
      rw [f]
      simp only [Option.bind_some]
      exact ih (x + 1) K M _ _ _ _ _ _ _ _ _ _ _ _ (by omega) (by omega) (by omega) (CtM_of ha hb hD')
theorem h12_nI {p : Int32} (h1 : 1 ≤ p.toInt) (h2 : p.toInt ≤ 12) : ∃ h, 1 ≤ h ∧ h ≤ 12 ∧ p = nI h := by
  obtain ⟨j, rfl, hj, -⟩ := nI_of_rng (p := p) (by omega)
  exact ⟨j, by omega, by omega, rfl⟩
theorem pr_level (p q : Int32) {A B : Int32} (hA : r16 A) (hB : r16 B) {ca cb ka kb : Int32} {S C C2 : Nat → Int32} {H U D : Nat → Int64} (hX : CtX ca cb S C H) (hM : CtM ka kb U D C2) (c1 c2 c3 c4 m1 m2 m3 m4 : Int32) (u w : Int64) : ∃ o d1 d2 d3 d4 ca' cb' S' C' H' e1 e2 e3 e4 ka' kb' u' w' U' D' C2', fX8_level 5000 p q A B c1 c2 c3 c4 ca cb S C H = some (o, d1, d2, d3, d4, ca', cb', S', C', H') ∧ fX9_level 5000 p q A B m1 m2 m3 m4 ka kb u w U D C2 = some (o, e1, e2, e3, e4, ka', kb', u', w', U', D', C2') ∧ CtX ca' cb' S' C' H' ∧ CtM ka' kb' U' D' C2' := by
  obtain ⟨a, ha, rfl⟩ := r16_nI hA
  obtain ⟨b, hb, rfl⟩ := r16_nI hB
  unfold fX8_level fX9_level
  rw [in_eq p 1 12 (by decide) (by decide), in_eq q 0 1 (by decide) (by decide)]
  have t0 := ti0; have t1 := ti1; have t12 := ti12
  rcases isIn_c p 1 12 with ⟨g, g1, g2⟩ | ⟨g, -⟩
  rotate_left
  · rw [g]
    exact ⟨_, _, _, _, _, _, _, _, _, _, _, _, _, _, _, _, _, _, _, _, _, rfl, rfl, hX, hM⟩
  rcases isIn_c q 0 1 with ⟨f, f1, f2⟩ | ⟨f, -⟩
  rotate_left
  · rw [g, f]
    exact ⟨_, _, _, _, _, _, _, _, _, _, _, _, _, _, _, _, _, _, _, _, _, rfl, rfl, hX, hM⟩
  obtain ⟨h, h1, h12, rfl⟩ := h12_nI (p := p) (by omega) (by omega)
  obtain ⟨d1, d2, d3, d4, S', C', H', e, hD⟩ := fillFor_c ha hb hX c1 c2 c3 c4
  rw [g, f, e]
  simp only [Option.bind_some, if_neg n10]
  have hr : q = 0 ∨ q = 1 := by rw [fa_eq, fa_eq]; omega
  rcases hr with rfl | rfl
  · obtain ⟨r, e1, e2, e3, e4, k1, k2⟩ := lev0_l ha hb h1 h12 hD ka kb u w U D C2 (h + 1) 0 5000 5000 0 m1 m2 m3 m4 (by omega) (by omega) (by omega)
    rw [show (nI 0 : Int32) = 0 from rfl] at k1 k2
    unfold fX0_rootsOfHeight fX9_levelOf
    rw [if_pos rfl, if_neg (by decide), k1, k2]
    exact ⟨_, _, _, _, _, _, _, _, _, _, _, _, _, _, _, _, _, _, _, _, _, rfl, rfl, CtX_of ha hb hD, hM⟩
  · obtain ⟨r, e1, e2, e3, e4, ka', kb', u', w', U', D', C2', k1, k2, k3⟩ := lev1_l ha hb h1 h12 hD (h + 1) 0 5000 5000 0 m1 m2 m3 m4 ka kb u w U D C2 (by omega) (by omega) (by omega) hM
    rw [show (nI 0 : Int32) = 0 from rfl] at k1 k2
    unfold fX0_sumOfHeight fX9_levelOf
    rw [if_neg n10, if_pos rfl, k1, k2]
    exact ⟨_, _, _, _, _, _, _, _, _, _, _, _, _, _, _, _, _, _, _, _, _, rfl, rfl, CtX_of ha hb hD, k3⟩
