-- ===== the reference's tables: what a place reads lies below it =====
theorem at_y (x y : Nat) : fX9_at (nI x) (nI y) = some (nI (13 * x + y)) := by unfold fX9_at; rw [at_nI]
theorem dvd_nI {x d : Nat} (hx : x < 2 ^ 31) (hd : d < 2 ^ 31) : (nI x - nI x / nI d * nI d = 0) ↔ x / d * d = x := by
  have h := Nat.div_mul_le_self x d
  rw [nI_div hx hd, pk_mul, nI_sub h hx]
  generalize x / d * d = q at *
  constructor
  · intro e
    have := (nJ_eq (k := 0) (by omega) (by omega)).mp e
    omega
  · intro e; subst e; rw [Nat.sub_self]; rfl
theorem low_read {x y d h : Nat} (hx : x < 2 ^ 31) (hd : 2 ≤ d) (h1 : 1 ≤ x + y) (hh : x + y = h) (ex : x / d * d = x) (ey : y / d * d = y) : 1 ≤ x / d + y / d ∧ x / d + y / d < h := by
  refine ⟨?_, by rw [← hh]; exact div_lt2 hd h1⟩
  rcases Nat.eq_zero_or_pos (x / d) with e | e
  · rcases Nat.eq_zero_or_pos (y / d) with e' | e'
    · rw [e] at ex; rw [e'] at ey; omega
    · exact Nat.le_trans e' (Nat.le_add_left _ _)
  · exact Nat.le_trans e (Nat.le_add_right _ _)
theorem lay_eq (p q u w u' w' : Int64) : fX9_lay p q u w = fX9_lay p q u' w' := by
  unfold fX9_lay jX9_lay_27
  rfl
theorem lp_8 (n : Nat) {x y : Nat} (h1 : 1 ≤ x + y) (hxy : x + y ≤ 12) {f g : Nat → Int32} (hfg : LB (x + y) f g) : ∀ (k d : Nat) (u w : Int64), 2 ≤ d → d ≤ 13 → lX9_layParts_8 n f k (nI x) (nI y) (nI d) u w = lX9_layParts_8 n g k (nI x) (nI y) (nI d) u w := by
  intro k
  induction k with
  | zero => intro d u w _ _; rfl
  | succ k ih =>
    intro d u w hd hd2
    rw [lX9_layParts_8, lX9_layParts_8]
    by_cases q : 12 < nI d
    · rw [if_pos q, if_pos q]
    · rw [if_neg q, if_neg q]
      have hd3 : d < 13 := by
        have : ¬ nI 12 < nI d := q
        rw [nJ_lt (by omega) (by omega)] at this; omega
      simp only [dvd_nI (x := x) (d := d) (by omega) (by omega), dvd_nI (x := y) (d := d) (by omega) (by omega), nI_p, ih (d + 1) _ _ (by omega) (by omega)]
      by_cases ex : x / d * d = x
      · by_cases ey : y / d * d = y
        · obtain ⟨r1, r2⟩ := low_read (by omega) hd h1 rfl ex ey
          rw [nI_div (by omega) (by omega), nI_div (by omega) (by omega), at_y]
          generalize x / d = u at *
          generalize y / d = w at *
          simp only [Option.bind_some, nI_clamp (show 13 * u + w < 2 ^ 31 by omega), hfg u w r1 r2]
        · simp only [if_neg ey]
      · simp only [if_neg ex]
theorem lp_b (n : Nat) {x y : Nat} (h1 : 1 ≤ x + y) (hxy : x + y ≤ 12) {f g : Nat → Int32} (hfg : LB (x + y) f g) {z z' : Option (Int64 × Int64)} (hz : z = z') : (z.bind fun q3 => lX9_layParts_8 n f n (nI x) (nI y) 2 q3.1 q3.2) = z'.bind fun q3 => lX9_layParts_8 n g n (nI x) (nI y) 2 q3.1 q3.2 := by
  subst hz
  cases z with
  | none => exact (Option.bind_none _).trans (Option.bind_none _).symm
  | some r => rw [Option.bind_some, Option.bind_some]; exact lp_8 n h1 hxy hfg n 2 r.1 r.2 (by omega) (by omega)
theorem lp_eq (n : Nat) {x y : Nat} (h1 : 1 ≤ x + y) (hxy : x + y ≤ 12) {f g : Nat → Int32} (hfg : LB (x + y) f g) (u w : Int64) : fX9_layParts n (nI x) (nI y) u w f = fX9_layParts n (nI x) (nI y) 0 0 g := by
  unfold fX9_layParts
  exact lp_b n h1 hxy hfg (lay_eq 0 1 u w 0 0)
theorem lq_16 (n : Nat) (a b : Int32) {x y : Nat} (hxy : x + y ≤ 12) {U U' D D' : Nat → Int64} (hU : LB (x + y) U U') (hD : LB (x + y) D D') {K K' : Int32 → Int32 → Int32 → Int64 → Int64 → Option (Int64 × Int64)} {s : Nat} (hs : s ≤ x) (hK : ∀ u w, K (nI x) (nI y) (nI (s + 1)) u w = K' (nI x) (nI y) (nI (s + 1)) u w) : ∀ (k t : Nat) (u w : Int64), t ≤ y + 1 → lX9_layPairs_16 n a b U D K k (nI x) (nI y) (nI s) (nI t) u w = lX9_layPairs_16 n a b U' D' K' k (nI x) (nI y) (nI s) (nI t) u w := by
  intro k
  induction k with
  | zero => intro t u w _; rfl
  | succ k ih =>
    intro t u w ht
    rw [lX9_layPairs_16, lX9_layPairs_16]
    by_cases q : nI y < nI t
    · rw [if_pos q, if_pos q, nI_p, hK]
    · rw [if_neg q, if_neg q]
      have hty : t ≤ y := by
        rw [nJ_lt (by omega) (by omega)] at q; omega
      unfold jX9_layPairs_209
      simp only [nI_p, ih (t + 1) _ _ (by omega)]
      rw [nI_add, nI_add, nI_sub (by omega) (by omega), nI_sub (by omega) (by omega), at_y, at_y]
      by_cases q0 : nI (s + t) = 0
      · rw [if_pos q0, if_pos q0]
      · rw [if_neg q0, if_neg q0]
        have g0 : 1 ≤ s + t := by
          rcases Nat.eq_zero_or_pos (s + t) with e | e
          · exact absurd (by rw [e]; rfl) q0
          · exact e
        by_cases q1 : nI (s + t) = nI (x + y)
        · rw [if_pos q1, if_pos q1]
        · rw [if_neg q1, if_neg q1]
          have g1 : s + t ≠ x + y := fun e => q1 (by rw [e])
          simp only [Option.bind_some, nI_clamp (show 13 * s + t < 2 ^ 31 by omega), nI_clamp (show 13 * (x - s) + (y - t) < 2 ^ 31 by omega), hU s t g0 (by omega), hD s t g0 (by omega), hU (x - s) (y - t) (by omega) (by omega), hD (x - s) (y - t) (by omega) (by omega)]
theorem lq_8 (n : Nat) (a b : Int32) {x y : Nat} (hxy : x + y ≤ 12) {U U' D D' : Nat → Int64} (hU : LB (x + y) U U') (hD : LB (x + y) D D') : ∀ (k s : Nat) (u w : Int64), s ≤ x + 1 → lX9_layPairs_8 n a b U D k (nI x) (nI y) (nI s) u w = lX9_layPairs_8 n a b U' D' k (nI x) (nI y) (nI s) u w := by
  intro k
  induction k with
  | zero => intro s u w _; rfl
  | succ k ih =>
    intro s u w hs
    rw [lX9_layPairs_8, lX9_layPairs_8]
    by_cases q : nI x < nI s
    · rw [if_pos q, if_pos q]
    · rw [if_neg q, if_neg q]
      have hsx : s ≤ x := by
        rw [nJ_lt (by omega) (by omega)] at q; omega
      exact lq_16 n a b hxy hU hD hsx (fun u w => ih (s + 1) u w (by omega)) n 0 u w (by omega)
theorem lq_b (n : Nat) (a b : Int32) {x y : Nat} (hxy : x + y ≤ 12) {U U' D D' : Nat → Int64} (hU : LB (x + y) U U') (hD : LB (x + y) D D') {z z' : Option (Int64 × Int64)} (hz : z = z') : (z.bind fun q3 => lX9_layPairs_8 n a b U D n (nI x) (nI y) 0 q3.1 q3.2) = z'.bind fun q3 => lX9_layPairs_8 n a b U' D' n (nI x) (nI y) 0 q3.1 q3.2 := by
  subst hz
  cases z with
  | none => exact (Option.bind_none _).trans (Option.bind_none _).symm
  | some r => rw [Option.bind_some, Option.bind_some]; exact lq_8 n a b hxy hU hD n 0 r.1 r.2 (by omega)
theorem lq_eq (n : Nat) (a b : Int32) {x y : Nat} (hxy : x + y ≤ 12) {U U' D D' : Nat → Int64} (hU : LB (x + y) U U') (hD : LB (x + y) D D') (u w : Int64) : fX9_layPairs n (nI x) (nI y) a b u w U D = fX9_layPairs n (nI x) (nI y) a b 0 0 U' D' := by
  unfold fX9_layPairs
  exact lq_b n a b hxy hU hD (lay_eq 0 1 u w 0 0)
theorem wk_96 (n : Nat) {x y : Nat} (h1 : 1 ≤ x + y) (hxy : x + y ≤ 12) (g : Nat → Int32) : ∀ (k d : Nat) (u w : Int64), 2 ≤ d → d ≤ 13 → ∃ z : Option (Int64 × Int64 × Int32), ∀ (l1 l2 l3 l4 : Int32) (U D : Nat → Int64) (C : Nat → Int32), LB (x + y) C g → lX9_works_96 n k (nI x) (nI y) (nI (13 * x + y)) (nI d) l1 l2 l3 l4 u w U D C = z.map (fun r => (l1, l2, l3, l4, r.1, r.2.1, U, D, upd C (13 * x + y) r.2.2)) := by
  intro k
  induction k with
  | zero => intro d u w _ _; exact ⟨none, fun _ _ _ _ _ _ _ _ => rfl⟩
  | succ k ih =>
    intro d u w hd hd2
    by_cases q : 12 < nI d
    · by_cases e : w = 0
      · refine ⟨none, fun l1 l2 l3 l4 U D C hC => ?_⟩
        rw [lX9_works_96, if_pos q]
        have : decide (¬ w = 0) = false := by rw [e]; rfl
        rw [this]
        rfl
      · refine ⟨some (u, w, Int64.toInt32 (u / w)), fun l1 l2 l3 l4 U D C hC => ?_⟩
        rw [lX9_works_96, if_pos q]
        have : decide (¬ w = 0) = true := decide_eq_true e
        rw [this]
        show ck _ 169 _ = _
        rw [ck_nI (by omega) (by omega), nI_clamp (by omega)]
        rfl
    · have hd3 : d < 13 := by
        have : ¬ nI 12 < nI d := q
        rw [nJ_lt (by omega) (by omega)] at this; omega
      have hd0 : decide (¬ nI d = 0) = true := decide_eq_true (fun e => by
        have := (nJ_eq (k := 0) (by omega) (by omega)).mp e
        omega)
      obtain ⟨z, hz⟩ := ih (d + 1) u w (by omega) (by omega)
      by_cases ex : x / d * d = x
      · by_cases ey : y / d * d = y
        · obtain ⟨r1, r2⟩ := low_read (by omega) hd h1 rfl ex ey
          have key : ∃ z' : Option (Int64 × Int64 × Int32), ∀ (l1 l2 l3 l4 : Int32) (U D : Nat → Int64) (C : Nat → Int32), LB (x + y) C g → ((fX9_at (nI x / nI d) (nI y / nI d)).bind fun q130 => (ck q130 169 ((fX9_adds (Int32.toInt64 (-(C (Int32.toNatClampNeg q130)))) (Int32.toInt64 (nI d)) u w).bind fun q139 => (lX9_works_96 n k (nI x) (nI y) (nI (13 * x + y)) (nI d + 1) l1 l2 l3 l4 q139.1 q139.2 U D C)))) = z'.map (fun r => (l1, l2, l3, l4, r.1, r.2.1, U, D, upd C (13 * x + y) r.2.2)) := by
            rw [nI_div (by omega) (by omega), nI_div (by omega) (by omega), at_y, nI_p]
            generalize x / d = p at *
            generalize y / d = o at *
            simp only [Option.bind_some, ck_nI (show 13 * p + o < 169 by omega) (show 169 < 2 ^ 31 by omega), nI_clamp (show 13 * p + o < 2 ^ 31 by omega)]
            cases hA : fX9_adds (Int32.toInt64 (-(g (13 * p + o)))) (Int32.toInt64 (nI d)) u w with
            | none =>
              refine ⟨none, fun l1 l2 l3 l4 U D C hC => ?_⟩
              rw [hC p o r1 r2, hA]; rfl
            | some r =>
              obtain ⟨z', hz'⟩ := ih (d + 1) r.1 r.2 (by omega) (by omega)
              refine ⟨z', fun l1 l2 l3 l4 U D C hC => ?_⟩
              rw [hC p o r1 r2, hA]
              exact hz' l1 l2 l3 l4 U D C hC
          obtain ⟨z', hz'⟩ := key
          refine ⟨z', fun l1 l2 l3 l4 U D C hC => ?_⟩
          rw [lX9_works_96, if_neg q, hd0, if_pos ((dvd_nI (by omega) (by omega)).mpr ex), if_pos ((dvd_nI (by omega) (by omega)).mpr ey)]
          exact hz' l1 l2 l3 l4 U D C hC
        · refine ⟨z, fun l1 l2 l3 l4 U D C hC => ?_⟩
          rw [lX9_works_96, if_neg q, hd0, if_pos ((dvd_nI (by omega) (by omega)).mpr ex), if_neg (fun e => ey ((dvd_nI (by omega) (by omega)).mp e)), nI_p]
          exact hz l1 l2 l3 l4 U D C hC
      · refine ⟨z, fun l1 l2 l3 l4 U D C hC => ?_⟩
        rw [lX9_works_96, if_neg q, hd0, if_neg (fun e => ex ((dvd_nI (by omega) (by omega)).mp e)), nI_p]
        exact hz l1 l2 l3 l4 U D C hC
theorem LB_upd {x y : Nat} (hxy : x + y ≤ 12) {C g : Nat → Int32} (h : LB (x + y) C g) (v : Int32) : LB (x + y) (upd C (13 * x + y) v) g := by
  intro x' y' g1 g2
  rw [upd_n _ _ (by omega)]
  exact h x' y' g1 g2
abbrev WkT := Int32 × Int32 × Int32 × Int32 × Int64 × Int64 × (Nat → Int64) × (Nat → Int64) × (Nat → Int32)
def mP (a b i : Nat) (o : Option WkT) : Prop := match o with
  | none => False
  | some r => r.2.2.2.2.2.2.1 i = aU a b i ∧ r.2.2.2.2.2.2.2.1 i = aD a b i ∧ r.2.2.2.2.2.2.2.2 i = aC a b i
theorem works_j {a b x y : Nat} (h1 : 1 ≤ x + y) (hxy : x + y ≤ 12) (v : Int32) (u w : Int64) {c1 c2 c3 c4 : Int32} (hc : mP a b (13 * x + y) (jX9_works_49 5000 (nI x) (nI y) (nI (13 * x + y)) v c1 c2 c3 c4 u w (aU a b) (aD a b) (aC a b))) (l1 l2 l3 l4 : Int32) {U D : Nat → Int64} {C : Nat → Int32} (hC : LB (x + y) C (aC a b)) : ∃ d1 d2 d3 d4 u' w' U' D' C', jX9_works_49 5000 (nI x) (nI y) (nI (13 * x + y)) v l1 l2 l3 l4 u w U D C = some (d1, d2, d3, d4, u', w', U', D', C') ∧ (U' (13 * x + y) = aU a b (13 * x + y) ∧ D' (13 * x + y) = aD a b (13 * x + y) ∧ C' (13 * x + y) = aC a b (13 * x + y)) ∧ ∀ j, j ≠ 13 * x + y → U' j = U j ∧ D' j = D j ∧ C' j = C j := by
  have hck : ∀ {α : Type} (q : Option α), ck (nI (13 * x + y)) 169 q = q := fun q => ck_nI (by omega) (by omega) q
  have hcl := nI_clamp (show 13 * x + y < 2 ^ 31 by omega)
  unfold mP jX9_works_49 at hc
  unfold jX9_works_49
  simp only [hck, hcl] at hc ⊢
  obtain ⟨z, hz⟩ := wk_96 5000 h1 hxy (aC a b) 5000 2 u w (by omega) (by omega)
  rw [show (nI 2 : Int32) = 2 from rfl] at hz
  by_cases e1 : v = 1
  · subst e1
    simp only [if_true, if_neg (show ¬ (1 : Int32) = 2 by decide)] at hc ⊢
    rw [upd_y _ _ rfl, uL_y _ _ rfl, uL_y _ _ rfl] at hc
    obtain ⟨c1, c2, c3⟩ := hc
    refine ⟨_, _, _, _, _, _, _, _, _, rfl, ⟨by rw [uL_y _ _ rfl]; exact c1, by rw [uL_y _ _ rfl]; exact c2, by rw [upd_y _ _ rfl]; exact c3⟩, fun j hj => ⟨uL_n _ _ hj, uL_n _ _ hj, upd_n _ _ hj⟩⟩
  · simp only [if_neg e1] at hc ⊢
    by_cases e2 : v = 2
    · subst e2
      simp only [if_true] at hc ⊢
      rw [hz c1 c2 c3 c4 _ _ _ (LB_upd hxy (fun _ _ _ _ => rfl) 0)] at hc
      rw [hz l1 l2 l3 l4 _ _ _ (LB_upd hxy hC 0)]
      cases z with
      | none => exact absurd hc id
      | some r =>
        simp only [Option.map_some] at hc ⊢
        rw [upd_y _ _ rfl, uL_y _ _ rfl, uL_y _ _ rfl] at hc
        obtain ⟨c1, c2, c3⟩ := hc
        refine ⟨_, _, _, _, _, _, _, _, _, rfl, ⟨by rw [uL_y _ _ rfl]; exact c1, by rw [uL_y _ _ rfl]; exact c2, by rw [upd_y _ _ rfl]; exact c3⟩, fun j hj => ⟨uL_n _ _ hj, uL_n _ _ hj, ?_⟩⟩
        rw [upd_n _ _ hj, upd_n _ _ hj]
    · simp only [if_neg e2] at hc ⊢
      rw [upd_y _ _ rfl, uL_y _ _ rfl, uL_y _ _ rfl] at hc
      obtain ⟨c1, c2, c3⟩ := hc
      refine ⟨_, _, _, _, _, _, _, _, _, rfl, ⟨by rw [uL_y _ _ rfl]; exact c1, by rw [uL_y _ _ rfl]; exact c2, by rw [upd_y _ _ rfl]; exact c3⟩, fun j hj => ⟨uL_n _ _ hj, uL_n _ _ hj, upd_n _ _ hj⟩⟩
