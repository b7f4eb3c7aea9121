-- ===== what a place's count reads lies below it =====
theorem m13 (t : Nat) : (13 : Int32) * nI t = nI (13 * t) := pk_mul 13 t
theorem at_nI (x y : Nat) : (13 : Int32) * nI x + nI y = nI (13 * x + y) := by rw [m13, nI_add]
def LB {α : Type} (h : Nat) (f g : Nat → α) : Prop := ∀ x y : Nat, 1 ≤ x + y → x + y < h → f (13 * x + y) = g (13 * x + y)
theorem shareAt_eq {h : Nat} {f g : Nat → Int64} (hfg : LB h f g) (p q : Int32) (hh : p.toInt + q.toInt < h) : fX0_shareAt p q f = fX0_shareAt p q g := by
  unfold fX0_shareAt
  rcases isCountable_c p q with ⟨e, h1, h2⟩ | ⟨e, -⟩
  · obtain ⟨x, y, hxy, rfl, rfl⟩ := small_nI h1
    rw [nI_toInt (by omega), nI_toInt (by omega)] at h2 hh
    rw [e, Option.bind_some, Option.bind_some, if_neg n10, if_neg n10, at_nI, ck_nI (by omega) (by omega), ck_nI (by omega) (by omega), nI_clamp (by omega), hfg x y (by omega) (by omega)]
  · rw [e]; rfl
theorem countAt_eq {h : Nat} {f g : Nat → Int32} (hfg : LB h f g) (p q : Int32) (hh : p.toInt + q.toInt < h) : fX0_countAt p q f = fX0_countAt p q g := by
  unfold fX0_countAt
  rcases isCountable_c p q with ⟨e, h1, h2⟩ | ⟨e, -⟩
  · obtain ⟨x, y, hxy, rfl, rfl⟩ := small_nI h1
    rw [nI_toInt (by omega), nI_toInt (by omega)] at h2 hh
    rw [e, Option.bind_some, Option.bind_some, if_neg n10, if_neg n10, at_nI, ck_nI (by omega) (by omega), ck_nI (by omega) (by omega), nI_clamp (by omega), hfg x y (by omega) (by omega)]
  · rw [e]; rfl
theorem soo_14 (n : Nat) (a b : Int32) {x y : Nat} (hxy : x + y ≤ 12) {f g : Nat → Int64} (hfg : LB (x + y) f g) {K K' : Int32 → Int32 → Int64 → Int32 → Option Int64} (hK : ∀ w3 w5, K (nI x) (nI y) w3 w5 = K' (nI x) (nI y) w3 w5) : ∀ (k : Nat) (v3 : Int64) (v5 v6 : Int32), lX0_shareOfOther_14 n a b f K k (nI x) (nI y) v3 v5 v6 = lX0_shareOfOther_14 n a b g K' k (nI x) (nI y) v3 v5 v6 := by
  intro k
  induction k with
  | zero => intro v3 v5 v6; rfl
  | succ k ih =>
    intro v3 v5 v6
    rw [lX0_shareOfOther_14, lX0_shareOfOther_14]
    by_cases h1 : nI y < v6
    · rw [if_pos h1, if_pos h1, hK]
    · rw [if_neg h1, if_neg h1]
      rcases isCountable_c v5 v6 with ⟨e, e1, e2⟩ | ⟨e, -⟩
      · rcases isCountable_c (nI x - v5) (nI y - v6) with ⟨g1, g2, g3⟩ | ⟨g1, -⟩
        · have q1 : (nI x - v5).toInt = x - v5.toInt := by
            unfold smallP at e1
            rw [fb_subI (by rw [nI_toInt (by omega)]; omega) (by rw [nI_toInt (by omega)]; omega), nI_toInt (by omega)]
          have q2 : (nI y - v6).toInt = y - v6.toInt := by
            unfold smallP at e1
            rw [fb_subI (by rw [nI_toInt (by omega)]; omega) (by rw [nI_toInt (by omega)]; omega), nI_toInt (by omega)]
          rw [q1, q2] at g3
          rw [e, g1, shareAt_eq hfg v5 v6 (by omega), shareAt_eq hfg (nI x - v5) (nI y - v6) (by rw [q1, q2]; omega)]
          simp only [ih]
        · rw [e, g1]
          simp only [Option.bind_some, if_neg n10, if_true, ih]
      · rw [e]
        simp only [Option.bind_some, if_true, ih]
theorem soo_5 (n : Nat) (a b : Int32) {x y : Nat} (hxy : x + y ≤ 12) {f g : Nat → Int64} (hfg : LB (x + y) f g) : ∀ (k : Nat) (v3 : Int64) (v5 : Int32), lX0_shareOfOther_5 n a b f k (nI x) (nI y) v3 v5 = lX0_shareOfOther_5 n a b g k (nI x) (nI y) v3 v5 := by
  intro k
  induction k with
  | zero => intro v3 v5; rfl
  | succ k ih =>
    intro v3 v5
    rw [lX0_shareOfOther_5, lX0_shareOfOther_5]
    by_cases h1 : nI x < v5
    · rw [if_pos h1, if_pos h1]
    · rw [if_neg h1, if_neg h1]
      exact soo_14 n a b hxy hfg ih n v3 v5 0
theorem soo_eq (n : Nat) (a b : Int32) {x y : Nat} (hxy : x + y ≤ 12) {f g : Nat → Int64} (hfg : LB (x + y) f g) : fX0_shareOfOther n (nI x) (nI y) a b f = fX0_shareOfOther n (nI x) (nI y) a b g := soo_5 n a b hxy hfg n 0 0
theorem nI_div {x d : Nat} (hx : x < 2 ^ 31) (hd : d < 2 ^ 31) : nI x / nI d = nI (x / d) := by
  apply Int32.toInt_inj.1
  have h1 : x / d ≤ x := Nat.div_le_self _ _
  rw [Int32.toInt_div, nI_toInt hx, nI_toInt hd, Int.tdiv_eq_ediv_of_nonneg (by omega), ← Int.natCast_ediv]
  generalize x / d = q at *
  rw [nI_toInt (by omega), fb_bmod (by omega) (by omega)]
theorem div_lt2 {x y d : Nat} (hd : 2 ≤ d) (h : 1 ≤ x + y) : x / d + y / d < x + y := by
  have h1 : x / d ≤ x / 2 := Nat.div_le_div_left hd (by omega)
  have h2 : y / d ≤ y / 2 := Nat.div_le_div_left hd (by omega)
  omega
theorem sop_5 (n : Nat) {x y : Nat} (h1 : 1 ≤ x + y) (hxy : x + y ≤ 12) {f g : Nat → Int32} (hfg : LB (x + y) f g) : ∀ (k d : Nat) (v3 : Int64), 2 ≤ d → d ≤ 13 → lX0_sharesOfParts_5 n f k (nI x) (nI y) v3 (nI d) = lX0_sharesOfParts_5 n g k (nI x) (nI y) v3 (nI d) := by
  intro k
  induction k with
  | zero => intro d v3 _ _; rfl
  | succ k ih =>
    intro d v3 hd hd2
    rw [lX0_sharesOfParts_5, lX0_sharesOfParts_5]
    by_cases q : 12 < nI d
    · rw [if_pos q, if_pos q]
    · rw [if_neg q, if_neg q]
      have hd3 : d < 13 := by
        have : ¬ nI 12 < nI d := q
        rw [nJ_lt (by omega) (by omega)] at this; omega
      have hl := div_lt2 (x := x) (y := y) hd h1
      rw [nI_p, nI_div (x := x) (by omega) (by omega), nI_div (x := y) (by omega) (by omega)]
      generalize x / d = u at *
      generalize y / d = w at *
      rw [countAt_eq hfg (nI u) (nI w) (by rw [nI_toInt (by omega), nI_toInt (by omega)]; omega)]
      simp only [ih (d + 1) _ (by omega) (by omega)]
theorem sop_eq (n : Nat) {x y : Nat} (h1 : 1 ≤ x + y) (hxy : x + y ≤ 12) {f g : Nat → Int32} (hfg : LB (x + y) f g) : fX0_sharesOfParts n (nI x) (nI y) f = fX0_sharesOfParts n (nI x) (nI y) g := sop_5 n h1 hxy hfg n 2 0 (by omega) (by omega)
theorem places_y {f : Nat → Nat → Bool} (h : places f = true) {x y : Nat} (h1 : 1 ≤ x + y) (hxy : x + y ≤ 12) : f x y = true := by
  have h2 := all_range (all_range h (show x < 13 by omega)) (show y < 13 - x by omega)
  rcases Bool.or_eq_true_iff.mp h2 with q | q
  · have := eq_of_beq q; omega
  · exact q
theorem xC_y {a b x y : Nat} (ha : a < 6) (hb : b < 6) (h1 : 1 ≤ x + y) (hxy : x + y ≤ 12) : xC a b x y = true := places_y (all_range (all_range xC_all ha) hb) h1 hxy
theorem pC_y {a b x y : Nat} (ha : a < 6) (hb : b < 6) (h1 : 1 ≤ x + y) (hxy : x + y ≤ 12) : pC a b x y = true := places_y (all_range (all_range pC_all ha) hb) h1 hxy
theorem mC_y {a b x y : Nat} (ha : a < 6) (hb : b < 6) (h1 : 1 ≤ x + y) (hxy : x + y ≤ 12) : mC a b x y = true := places_y (mC_all ha hb) h1 hxy
theorem small_pl {x y : Nat} (hxy : x + y ≤ 12) : isPl (nI x) (nI y) := by unfold isPl; rw [nI_toInt (by omega), nI_toInt (by omega)]; omega
theorem r16_i {a : Nat} (ha : a < 6) : r16 (nI (a + 1)) := by unfold r16; rw [nI_toInt (by omega)]; omega
theorem srt_012 (a b x y : Int32) : srt a b x y = 0 ∨ srt a b x y = 1 ∨ srt a b x y = 2 := by
  unfold srt
  split
  · simp
  · split
    · split
      · simp
      · split <;> simp
    · simp
theorem fillPlace_c {a b x y : Nat} (ha : a < 6) (hb : b < 6) (h1 : 1 ≤ x + y) (hxy : x + y ≤ 12) {S C : Nat → Int32} {H : Nat → Int64} (hC : LB (x + y) C (aC a b)) (hH : LB (x + y) H (aH a b)) (l1 l2 l3 l4 : Int32) : ∃ d1 d2 d3 d4, fX0_fillPlace 5000 (nI x) (nI y) (nI (a + 1)) (nI (b + 1)) l1 l2 l3 l4 S C H = some (d1, d2, d3, d4, upd S (13 * x + y) (srt (nI (a + 1)) (nI (b + 1)) (nI x) (nI y)), upd C (13 * x + y) (aC a b (13 * x + y)), vp_updL H (13 * x + y) (aH a b (13 * x + y))) := by
  have hx := xC_y ha hb h1 hxy
  obtain ⟨d1, d2, d3, d4, e⟩ := sort_X (n := 5000) (by omega) (r16_i ha) (r16_i hb) (small_pl hxy) l1 l2 l3 l4
  refine ⟨d1, d2, d3, d4, ?_⟩
  unfold fX0_fillPlace
  rw [e, sop_eq 5000 h1 hxy hC, soo_eq 5000 _ _ hxy hH]
  unfold xC at hx
  have hck : ∀ {α : Type} (q : Option α), ck (nI (13 * x + y)) 169 q = q := fun q => ck_nI (by omega) (by omega) q
  cases hP : fX0_sharesOfParts 5000 (nI x) (nI y) (aC a b) with
  | none => rw [hP] at hx; cases hx
  | some P =>
    rw [hP] at hx
    simp only [Option.bind_some, at_nI, hck, nI_clamp (show 13 * x + y < 2 ^ 31 by omega)]
    simp only [] at hx
    rcases srt_012 (nI (a + 1)) (nI (b + 1)) (nI x) (nI y) with q | q | q
    · rw [q] at hx ⊢
      rw [if_neg (by decide), if_neg (by decide)] at hx ⊢
      simp only [Bool.and_eq_true, beq_iff_eq] at hx
      rw [hx.1, hx.2]
    · rw [q] at hx ⊢
      rw [if_pos rfl] at hx ⊢
      simp only [Bool.and_eq_true, beq_iff_eq] at hx
      rw [hx.1, hx.2]
    · rw [q] at hx ⊢
      rw [if_neg (by decide), if_pos rfl] at hx ⊢
      simp only [Bool.and_eq_true, beq_iff_eq] at hx
      rw [hx.1, hx.2]
      simp only [Option.bind_some, hck, uL_y _ _ rfl]
