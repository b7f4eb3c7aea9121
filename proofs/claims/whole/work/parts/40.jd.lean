-- ===== odds, mean, judge =====
theorem sub_p {h : Nat} (hh : h ≤ 12) : (nI h + 1).toInt = h + 1 := by rw [nI_p, nI_toInt (by omega)]; omega
theorem pr_odds (p q : Int32) {A B : Int32} (hA : r16 A) (hB : r16 B) {ca cb ka kb : Int32} {S C C2 : Nat → Int32} {H U D : Nat → Int64} (hX : CtX ca cb S C H) (hM : CtM ka kb U D C2) (c1 c2 c3 c4 m1 m2 m3 m4 : Int32) (u w : Int64) : ∃ o d1 d2 d3 d4 ca' cb' S' C' H' e1 e2 e3 e4 ka' kb' u' w' U' D' C2', fX8_odds 5000 p q A B c1 c2 c3 c4 ca cb S C H = some (o, d1, d2, d3, d4, ca', cb', S', C', H') ∧ fX9_odds 5000 p q A B m1 m2 m3 m4 ka kb u w U D C2 = some (o, e1, e2, e3, e4, ka', kb', u', w', U', D', C2') ∧ CtX ca' cb' S' C' H' ∧ CtM ka' kb' U' D' C2' := by
  obtain ⟨a, ha, rfl⟩ := r16_nI hA
  obtain ⟨b, hb, rfl⟩ := r16_nI hB
  unfold fX8_odds fX9_odds
  rw [in_eq p 1 12 (by decide) (by decide), in_eq q 0 1 (by decide) (by decide)]
  have t0 := ti0; have t1 := ti1; have t12 := ti12
  rcases isIn_c p 1 12 with ⟨g, g1, g2⟩ | ⟨g, -⟩
  rotate_left
  · rw [g]
    exact ⟨_, _, _, _, _, _, _, _, _, _, _, _, _, _, _, _, _, _, _, _, _, rfl, rfl, hX, hM⟩
  rcases isIn_c q 0 1 with ⟨f, f1, f2⟩ | ⟨f, -⟩
  rotate_left
  · rw [g, f]
    exact ⟨_, _, _, _, _, _, _, _, _, _, _, _, _, _, _, _, _, _, _, _, _, rfl, rfl, hX, hM⟩
  obtain ⟨h, h1, h12, rfl⟩ := h12_nI (p := p) (by omega) (by omega)
  obtain ⟨d1, d2, d3, d4, S', C', H', e, hD⟩ := fillFor_c ha hb hX c1 c2 c3 c4
  obtain ⟨r, e1, e2, e3, e4, k1, k2⟩ := lev0_l ha hb h1 h12 hD ka kb u w U D C2 (h + 1) 0 5000 5000 0 m1 m2 m3 m4 (by omega) (by omega) (by omega)
  rw [show (nI 0 : Int32) = 0 from rfl] at k1 k2
  have hs := sub_p h12
  obtain ⟨o, u', w', j1, j2⟩ := pr_part r (nI h + 1) q (by omega) u w
  rw [g, f, e]
  unfold fX0_rootsOfHeight fX9_levelOf
  simp only [Option.bind_some, if_neg n10]
  rw [k1, k2]
  simp only [Option.bind_some]
  rw [j1, j2]
  exact ⟨_, _, _, _, _, _, _, _, _, _, _, _, _, _, _, _, _, _, _, _, _, rfl, rfl, CtX_of ha hb hD, hM⟩
theorem pr_mean (p q : Int32) {A B : Int32} (hA : r16 A) (hB : r16 B) {ca cb ka kb : Int32} {S C C2 : Nat → Int32} {H U D : Nat → Int64} (hX : CtX ca cb S C H) (hM : CtM ka kb U D C2) (c1 c2 c3 c4 m1 m2 m3 m4 : Int32) (u w : Int64) : ∃ o d1 d2 d3 d4 ca' cb' S' C' H' e1 e2 e3 e4 ka' kb' u' w' U' D' C2', fX8_mean 5000 p q A B c1 c2 c3 c4 ca cb S C H = some (o, d1, d2, d3, d4, ca', cb', S', C', H') ∧ fX9_mean 5000 p q A B m1 m2 m3 m4 ka kb u w U D C2 = some (o, e1, e2, e3, e4, ka', kb', u', w', U', D', C2') ∧ CtX ca' cb' S' C' H' ∧ CtM ka' kb' U' D' C2' := by
  obtain ⟨a, ha, rfl⟩ := r16_nI hA
  obtain ⟨b, hb, rfl⟩ := r16_nI hB
  unfold fX8_mean fX9_mean
  rw [in_eq p 1 12 (by decide) (by decide), in_eq q 0 1 (by decide) (by decide)]
  have t0 := ti0; have t1 := ti1; have t12 := ti12
  rcases isIn_c p 1 12 with ⟨g, g1, g2⟩ | ⟨g, -⟩
  rotate_left
  · rw [g]
    exact ⟨_, _, _, _, _, _, _, _, _, _, _, _, _, _, _, _, _, _, _, _, _, rfl, rfl, hX, hM⟩
  rcases isIn_c q 0 1 with ⟨f, f1, f2⟩ | ⟨f, -⟩
  rotate_left
  · rw [g, f]
    exact ⟨_, _, _, _, _, _, _, _, _, _, _, _, _, _, _, _, _, _, _, _, _, rfl, rfl, hX, hM⟩
  obtain ⟨h, h1, h12, rfl⟩ := h12_nI (p := p) (by omega) (by omega)
  obtain ⟨d1, d2, d3, d4, S', C', H', e, hD⟩ := fillFor_c ha hb hX c1 c2 c3 c4
  obtain ⟨r, e1, e2, e3, e4, ka', kb', u1, w1, U', D', C2', k1, k2, k3⟩ := lev1_l ha hb h1 h12 hD (h + 1) 0 5000 5000 0 m1 m2 m3 m4 ka kb u w U D C2 (by omega) (by omega) (by omega) hM
  rw [show (nI 0 : Int32) = 0 from rfl] at k1 k2
  have hs := sub_p h12
  obtain ⟨o, u', w', j1, j2⟩ := pr_part r (nI h + 1) q (by omega) u1 w1
  rw [g, f, e]
  unfold fX0_sumOfHeight fX9_levelOf
  simp only [Option.bind_some, if_neg n10]
  rw [k1, k2]
  simp only [Option.bind_some]
  rw [j1, j2]
  exact ⟨_, _, _, _, _, _, _, _, _, _, _, _, _, _, _, _, _, _, _, _, _, rfl, rfl, CtX_of ha hb hD, k3⟩
theorem j99 (v : Int32) : (100 + v) - 1 = 99 + v := by grind
theorem judge_l {a b t k : Nat} (ha : a < 6) (hb : b < 6) (ht : t < 6) (hk : k ≤ 60) {TL TS' TL' : Nat → Int32} {I : Nat → Int64} {R : Nat → Nat → Int64} (h4 : TL t = nI k) (h5 : TL' t = nI k) (h6 : (TS' t).toInt < 0 → k = 0) (h7 : ∀ j, j < k → I (60 * t + j) = R t j) (p : Int32) {S C : Nat → Int32} {H : Nat → Int64} (hD : Done a b 13 0 S C H) (l1 l2 l3 l4 ca cb : Int32) : ∀ (d h K M : Nat) (m1 m2 m3 m4 ka kb : Int32) (u w : Int64) (U D : Nat → Int64) (C2 : Nat → Int32), h + d = 13 → 1 ≤ h → d < K → d < M → CtM ka kb U D C2 → ∃ r e1 e2 e3 e4 ka' kb' u' w' U' D' C2', lX8_judge_68 5000 TL I K (nI t) p (nI h) l1 l2 l3 l4 ca cb S C H = some (r, l1, l2, l3, l4, ca, cb, S, C, H) ∧ lX9_judge_33 5000 (nI (a + 1)) (nI (b + 1)) TS' TL' R M (nI t) p (nI h) m1 m2 m3 m4 ka kb u w U D C2 = some (r, e1, e2, e3, e4, ka', kb', u', w', U', D', C2') ∧ CtM ka' kb' U' D' C2' := by
  intro d
  induction d with
  | zero =>
    intro h K M m1 m2 m3 m4 ka kb u w U D C2 hh h1 hK hM hC
    obtain ⟨K, rfl⟩ : ∃ q, K = q + 1 := ⟨K - 1, by omega⟩
    obtain ⟨M, rfl⟩ : ∃ q, M = q + 1 := ⟨M - 1, by omega⟩
    have : h = 13 := by omega
    subst this
    rw [lX8_judge_68, lX9_judge_33, if_pos (by decide), if_pos (by decide)]
    exact ⟨_, _, _, _, _, _, _, _, _, _, _, _, rfl, rfl, hC⟩
  | succ d ih =>
    intro h K M m1 m2 m3 m4 ka kb u w U D C2 hh h1 hK hM hC
    obtain ⟨K, rfl⟩ : ∃ q, K = q + 1 := ⟨K - 1, by omega⟩
    obtain ⟨M, rfl⟩ : ∃ q, M = q + 1 := ⟨M - 1, by omega⟩
    have hno : ¬ 12 < nI h := fun q => by have := (nJ_lt (j := 12) (by omega) (by omega)).mp q; omega
    have z0 := ti0
    have hhi : (nI h).toInt = h := nI_toInt (by omega)
    rw [lX8_judge_68, lX9_judge_33, if_neg hno, if_neg hno, j99]
    simp only [ck_nI ht (show 6 < 2 ^ 31 by omega), nI_clamp (show t < 2 ^ 31 by omega), h5]
    have back : ∃ r e1 e2 e3 e4 ka' kb' u' w' U' D' C2', some (99 + nI h, l1, l2, l3, l4, ca, cb, S, C, H) = some (r, l1, l2, l3, l4, ca, cb, S, C, H) ∧ some (99 + nI h, m1, m2, m3, m4, ka, kb, u, w, U, D, C2) = some (r, e1, e2, e3, e4, ka', kb', u', w', U', D', C2') ∧ CtM ka' kb' U' D' C2' := ⟨_, _, _, _, _, _, _, _, _, _, _, _, rfl, rfl, hC⟩
    rcases hasRun_c ht hk h4 p (nI h) with ⟨g, g1, g2, g3⟩ | ⟨g, g1⟩
    · have s0 : ¬ TS' t < 0 := fun q => by
        rw [fa_lt, z0] at q
        have := h6 q
        omega
      have p0 : ¬ p < 0 := by rw [fa_lt]; omega
      obtain ⟨i, rfl, hi, -⟩ := nI_of_rng (p := p) g1
      rw [hhi] at g3
      have c0 : nI h - 1 < nI k - nI i := by
        rw [fa_lt, nI_m (by omega), nI_sub (by omega) (by omega), nI_toInt (by omega)]; omega
      have ej : nI i + nI h - 1 = nI (i + h - 1) := by rw [nI_add, show (1 : Int32) = nI 1 from rfl, nI_sub (by omega) (by omega)]
      obtain ⟨r, e1, e2, e3, e4, ka', kb', u', w', U', D', C2', k1, k2, k3⟩ := lev1_l ha hb h1 (by omega) hD (h + 1) 0 5000 5000 0 m1 m2 m3 m4 ka kb u w U D C2 (by omega) (by omega) (by omega) hC
      rw [show (nI 0 : Int32) = 0 from rfl] at k1 k2
      have hit : fX7_itemAt (nI t) (nI (i + h - 1)) TL I = some (R t (i + h - 1)) := by
        unfold fX7_itemAt
        rcases hasRun_c ht hk h4 (nI (i + h - 1)) 1 with ⟨q, -⟩ | ⟨-, q⟩
        · rw [q, Option.bind_some, if_neg n10, m60, nI_add, ck_nI (by omega) (by omega), nI_clamp (by omega), h7 (i + h - 1) (by omega)]
        · exfalso; apply q; rw [nI_toInt (by omega), ti1]; omega
      rw [g, if_neg s0, if_neg p0, if_pos c0, ej, hit]
      unfold fX0_sumOfHeight fX9_levelOf
      simp only [Option.bind_some, if_neg n10]
      rw [ck_nI (by omega) (by omega), nI_clamp (by omega), k1, k2, nI_p]
      simp only [Option.bind_some]
      by_cases q : lg_cmp (R t (i + h - 1)) r.toInt64 = 0
      · rw [if_pos q, if_pos q]
        exact ih (h + 1) K M _ _ _ _ _ _ _ _ _ _ _ (by omega) (by omega) (by omega) (by omega) k3
      · rw [if_neg q, if_neg q]
        exact ⟨_, _, _, _, _, _, _, _, _, _, _, _, rfl, rfl, k3⟩
    · rw [g]
      simp only [Option.bind_some, if_true]
      by_cases s0 : TS' t < 0
      · rw [if_pos s0]; exact back
      · rw [if_neg s0]
        by_cases p0 : p < 0
        · rw [if_pos p0]; exact back
        · rw [if_neg p0]
          rw [fa_lt, z0] at p0
          have hp2 := (fb_rng p).2
          have c0 : ¬ nI h - 1 < nI k - p := by
            have es : (nI k - p).toInt = k - p.toInt := by
              rw [fb_subI (by rw [nI_toInt (by omega)]; omega) (by rw [nI_toInt (by omega)]; omega), nI_toInt (by omega)]
            rw [fa_lt, nI_m (by omega), es]; omega
          rw [if_neg c0]; exact back
theorem pr_judge (p q : Int32) {A B : Int32} (hA : r16 A) (hB : r16 B) {TS TL TS' TL' : Nat → Int32} {I : Nat → Int64} {R : Nat → Nat → Int64} (hT : Tps TS TL I TS' TL' R) {ca cb ka kb : Int32} {S C C2 : Nat → Int32} {H U D : Nat → Int64} (hX : CtX ca cb S C H) (hM : CtM ka kb U D C2) (c1 c2 c3 c4 m1 m2 m3 m4 : Int32) (u w : Int64) : ∃ o d1 d2 d3 d4 ca' cb' S' C' H' e1 e2 e3 e4 ka' kb' u' w' U' D' C2', fX8_judge 5000 p q A B c1 c2 c3 c4 ca cb S C H TS TL I = some (o, d1, d2, d3, d4, ca', cb', S', C', H') ∧ fX9_judge 5000 p q A B m1 m2 m3 m4 ka kb u w U D C2 TS' TL' R = some (o, e1, e2, e3, e4, ka', kb', u', w', U', D', C2') ∧ CtX ca' cb' S' C' H' ∧ CtM ka' kb' U' D' C2' := by
  obtain ⟨a, ha, rfl⟩ := r16_nI hA
  obtain ⟨b, hb, rfl⟩ := r16_nI hB
  unfold fX8_judge fX9_judge
  have z0 := ti0; have zm := tm1
  rcases isTape_c p with ⟨t, ht, rfl, f1, f2⟩ | ⟨f1, f2⟩
  rotate_left
  · rw [f1, f2]
    exact ⟨_, _, _, _, _, _, _, _, _, _, _, _, _, _, _, _, _, _, _, _, _, rfl, rfl, hX, hM⟩
  obtain ⟨h1, h2, k, h3, h4, h5, h6, h7⟩ := hT t ht
  obtain ⟨d1, d2, d3, d4, S', C', H', e, hD⟩ := fillFor_c ha hb hX c1 c2 c3 c4
  obtain ⟨r, e1, e2, e3, e4, ka', kb', u', w', U', D', C2', k1, k2, k3⟩ := judge_l (TS' := TS') ha hb ht h3 h4 h5 (fun q => h6 (by rw [fa_eq]; omega)) h7 q hD d1 d2 d3 d4 (nI (a + 1)) (nI (b + 1)) 12 1 5000 5000 m1 m2 m3 m4 ka kb u w U D C2 (by omega) (by omega) (by omega) (by omega) hM
  rw [show (nI 1 : Int32) = 1 from rfl] at k1 k2
  have hj : jX8_judge_39 5000 (nI (a + 1)) (nI (b + 1)) TL I (nI t) q c1 c2 c3 c4 ca cb S C H = some (r, d1, d2, d3, d4, nI (a + 1), nI (b + 1), S', C', H') := by
    unfold jX8_judge_39
    rw [e, Option.bind_some]
    exact k1
  rw [f1, f2, holds_c ht, sortAt_y ht, h1, hj]
  simp only [Option.bind_some, if_neg n10, ck_nI ht (show 6 < 2 ^ 31 by omega), nI_clamp (show t < 2 ^ 31 by omega)]
  by_cases hs : TS' t = -1
  · rw [if_pos hs, if_pos rfl, if_pos (show TS' t < 0 by rw [hs]; decide), k2]
    exact ⟨_, _, _, _, _, _, _, _, _, _, _, _, _, _, _, _, _, _, _, _, _, rfl, rfl, CtX_of ha hb hD, k3⟩
  · rw [if_neg hs, if_neg n10, if_neg (show ¬ TS' t < 0 by rw [fa_eq] at hs; rw [fa_lt]; omega)]
    by_cases h22 : TS' t = 2
    · rw [if_pos h22, if_pos h22, k2]
      exact ⟨_, _, _, _, _, _, _, _, _, _, _, _, _, _, _, _, _, _, _, _, _, rfl, rfl, CtX_of ha hb hD, k3⟩
    · rw [if_neg h22, if_neg h22]
      exact ⟨_, _, _, _, _, _, _, _, _, _, _, _, _, _, _, _, _, _, _, _, _, rfl, rfl, hX, hM⟩
