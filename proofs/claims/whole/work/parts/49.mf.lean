-- ===== the reference's made =====
abbrev MdK := Int32 → Int32 → Int32 → Int32 → Int32 → Int32 → Int32 → Int32 → Int32 → Int64 → Int64 → (Nat → Int64) → (Nat → Int64) → (Nat → Int32) → (Nat → Int64) → Option (Int64 × Int32 × Int32 × Int32 × Int32 × Int32 × Int32 × Int64 × Int64 × (Nat → Int64) × (Nat → Int64) × (Nat → Int32) × (Nat → Int64))
theorem Mp_0 (u v : Nat) (g : Nat → Nat → Int64) : Mp u v g 0 = g := rfl
theorem mf_52 {a b X Y s : Nat} (ha : a < 6) (hb : b < 6) (hXY : X + Y ≤ 12) (hs : s ≤ X) (K : MdK) : ∀ (d t k : Nat) (f : Nat → Int64) (g : Nat → Nat → Int64) (l1 l2 l3 l4 ka kb : Int32) (u w : Int64) (U D : Nat → Int64) (C : Nat → Int32), t + d = Y + 1 → d < k → Rw f g → CtM ka kb U D C → ∃ l1' l2' l3' l4' ka' kb' u' w' U' D' C' f', lX9_made_52 5000 (nI (a + 1)) (nI (b + 1)) K k (nI X) (nI Y) (nI s) (nI t) l1 l2 l3 l4 ka kb u w U D C f = K (nI X) (nI Y) (nI (s + 1)) l1' l2' l3' l4' ka' kb' u' w' U' D' C' f' ∧ CtM ka' kb' U' D' C' ∧ Rw f' (Pr (cA a b) ((List.range' t d).map fun t => (s, t)) g) := by
  intro d
  induction d with
  | zero =>
    intro t k f g l1 l2 l3 l4 ka kb u w U D C ht hk hR hC
    obtain ⟨k, rfl⟩ : ∃ q, k = q + 1 := ⟨k - 1, by omega⟩
    rw [lX9_made_52, if_pos ((nJ_lt (by omega) (by omega)).mpr (by omega)), nI_p]
    exact ⟨_, _, _, _, _, _, _, _, _, _, _, _, rfl, hC, hR⟩
  | succ d ih =>
    intro t k f g l1 l2 l3 l4 ka kb u w U D C ht hk hR hC
    obtain ⟨k, rfl⟩ : ∃ q, k = q + 1 := ⟨k - 1, by omega⟩
    rw [lX9_made_52, if_neg (fun q => by have := (nJ_lt (by omega) (by omega)).mp q; omega), nI_add, nI_p]
    by_cases z : s + t = 0
    · obtain ⟨rfl, rfl⟩ : s = 0 ∧ t = 0 := by omega
      rw [if_pos (by decide)]
      have h2 := ih (0 + 1) k f g l1 l2 l3 l4 ka kb u w U D C (by omega) (by omega) hR hC
      have e : Pr (cA a b) ((List.range' 0 (d + 1)).map fun t => (0, t)) g = Pr (cA a b) ((List.range' (0 + 1) d).map fun t => (0, t)) g := by
        show Pr (cA a b) ((List.range' (0 + 1) d).map fun t => (0, t)) (Mp 0 0 g (cA a b (0, 0))) = _
        rw [cA_0 ha hb, Mp_0]
      rw [e]
      exact h2
    · have hz : ¬ nI (s + t) = 0 := fun q => z ((nJ_eq (k := 0) (by omega) (by omega)).mp q)
      rw [if_neg hz]
      obtain ⟨e1, e2, e3, e4, e⟩ := sort_M (n := 5000) (by omega) (r16_i ha) (r16_i hb) (small_pl (x := s) (y := t) (by omega)) l1 l2 l3 l4
      rw [e, Option.bind_some]
      have hst : Pr (cA a b) ((List.range' t (d + 1)).map fun t => (s, t)) g = Pr (cA a b) ((List.range' (t + 1) d).map fun t => (s, t)) (Mp s t g (tC a b (13 * s + t))) := rfl
      by_cases q : srt (nI (a + 1)) (nI (b + 1)) (nI s) (nI t) = 0
      · rw [if_pos q]
        have h0 := aC_0 ha hb (x := s) (y := t) (by omega) (by omega) q
        have h0' : tC a b (13 * s + t) = 0 := (nJ_eq (k := 0) (by have := tC_le ha hb (x := s) (y := t) (by omega); omega) (by omega)).mp h0
        rw [hst, h0', Mp_0]
        exact ih (t + 1) k f g _ _ _ _ _ _ _ _ _ _ _ (by omega) (by omega) hR hC
      · rw [if_neg q]
        obtain ⟨f1, f2, f3, f4, u', w', U', D', C2', f0, hD'⟩ := countOf_c ha hb (x := s) (y := t) (by omega) (by omega) hC e1 e2 e3 e4 u w
        rw [f0, Option.bind_some]
        obtain ⟨f', e5, hR'⟩ := made_87 (u := s) (v := t) (by omega) (by omega) (lX9_made_52 5000 (nI (a + 1)) (nI (b + 1)) K k) (nI X) (nI Y) f1 f2 f3 f4 (nI (a + 1)) (nI (b + 1)) u' w' U' D' C2' (tC a b (13 * s + t)) 5000 f g (tC_le ha hb (by omega)) (by have := tC_le ha hb (x := s) (y := t) (by omega); omega) hR
        rw [show aC a b (13 * s + t) = nI (tC a b (13 * s + t)) from rfl, e5, hst]
        exact ih (t + 1) k f' _ _ _ _ _ _ _ _ _ _ _ _ (by omega) (by omega) hR' (CtM_of ha hb hD')
theorem mf_44 {a b X Y : Nat} (ha : a < 6) (hb : b < 6) (hXY : X + Y ≤ 12) : ∀ (d s k : Nat) (f : Nat → Int64) (g : Nat → Nat → Int64) (l1 l2 l3 l4 ka kb : Int32) (u w : Int64) (U D : Nat → Int64) (C : Nat → Int32), s + d = X + 1 → d < k → Rw f g → CtM ka kb U D C → ∃ l1' l2' l3' l4' ka' kb' u' w' U' D' C' f', lX9_made_44 5000 (nI (a + 1)) (nI (b + 1)) k (nI X) (nI Y) (nI s) l1 l2 l3 l4 ka kb u w U D C f = some (Pr (cA a b) (LMr Y s d) g X Y, l1', l2', l3', l4', ka', kb', u', w', U', D', C', f') ∧ CtM ka' kb' U' D' C' := by
  intro d
  induction d with
  | zero =>
    intro s k f g l1 l2 l3 l4 ka kb u w U D C hd hk hR hC
    obtain ⟨k, rfl⟩ : ∃ q, k = q + 1 := ⟨k - 1, by omega⟩
    rw [lX9_made_44, if_pos ((nJ_lt (by omega) (by omega)).mpr (by omega)), at_y, Option.bind_some, ck_nI (by omega) (by omega), nI_clamp (by omega), hR X Y hXY]
    exact ⟨_, _, _, _, _, _, _, _, _, _, _, _, rfl, hC⟩
  | succ d ih =>
    intro s k f g l1 l2 l3 l4 ka kb u w U D C hd hk hR hC
    obtain ⟨k, rfl⟩ : ∃ q, k = q + 1 := ⟨k - 1, by omega⟩
    rw [lX9_made_44, if_neg (fun q => by have := (nJ_lt (by omega) (by omega)).mp q; omega)]
    obtain ⟨_, _, _, _, _, _, _, _, _, _, _, f', e, hC', hR'⟩ := mf_52 ha hb hXY (show s ≤ X by omega) (lX9_made_44 5000 (nI (a + 1)) (nI (b + 1)) k) (Y + 1) 0 5000 f g l1 l2 l3 l4 ka kb u w U D C (by omega) (by omega) hR hC
    rw [show (0 : Int32) = nI 0 from rfl, e]
    have e2 : Pr (cA a b) (LMr Y s (d + 1)) g = Pr (cA a b) (LMr Y (s + 1) d) (Pr (cA a b) ((List.range' 0 (Y + 1)).map fun t => (s, t)) g) := Pr_app (cA a b) ((List.range' 0 (Y + 1)).map fun t => (s, t)) (LMr Y (s + 1) d) g
    rw [e2]
    exact ih (s + 1) k f' _ _ _ _ _ _ _ _ _ _ _ _ (by omega) (by omega) hR' hC'
theorem mf_15 {a b X Y : Nat} (ha : a < 6) (hb : b < 6) (hXY : X + Y ≤ 12) (l1 l2 l3 l4 ka kb : Int32) (u w : Int64) (U D : Nat → Int64) (C : Nat → Int32) : ∀ (d i k : Nat) (f : Nat → Int64), i + d = 169 → d < k → (∀ j, j < i → f j = 0) → ∃ f', lX9_made_15 5000 (nI (a + 1)) (nI (b + 1)) k (nI X) (nI Y) (nI i) l1 l2 l3 l4 ka kb u w U D C f = lX9_made_44 5000 (nI (a + 1)) (nI (b + 1)) 5000 (nI X) (nI Y) (nI 0) l1 l2 l3 l4 ka kb u w U D C f' ∧ Rw f' un := by
  intro d
  induction d with
  | zero =>
    intro i k f hi hk hf
    obtain ⟨k, rfl⟩ : ∃ q, k = q + 1 := ⟨k - 1, by omega⟩
    have : i = 169 := by omega
    subst this
    rw [lX9_made_15, if_pos (by decide)]
    have e := ck_nI (j := 0) (N := 169) (by omega) (by omega) (lX9_made_44 5000 (nI (a + 1)) (nI (b + 1)) 5000 (nI X) (nI Y) (nI 0) l1 l2 l3 l4 ka kb u w U D C (vp_updL f 0 1))
    exact ⟨_, e, un_of hf⟩
  | succ d ih =>
    intro i k f hi hk hf
    obtain ⟨k, rfl⟩ : ∃ q, k = q + 1 := ⟨k - 1, by omega⟩
    rw [lX9_made_15, if_neg (fun q => by have := (nJ_le (j := 169) (by omega) (by omega)).mp q; omega), ck_nI (by omega) (by omega), nI_clamp (by omega), nI_p]
    refine ih (i + 1) k _ (by omega) (by omega) (fun j hj => ?_)
    by_cases c : j = i
    · rw [uL_y _ _ c]
    · rw [uL_n _ _ c, hf j (by omega)]
theorem CtE_of {a b : Nat} (ha : a < 6) (hb : b < 6) {E : Nat → Int64} (h : Rw E (Pr (cA a b) (LXr 1 12) un)) : CtE (nI (a + 1)) (nI (b + 1)) E := Or.inr ⟨a, b, ha, hb, rfl, rfl, h⟩
theorem pr_made (p q : Int32) {A B : Int32} (hA : r16 A) (hB : r16 B) {ca cb ka kb ea eb : Int32} {S C C2 : Nat → Int32} {H U D E : Nat → Int64} (hX : CtX ca cb S C H) (hE : CtE ea eb E) (hM : CtM ka kb U D C2) (c1 c2 c3 c4 m1 m2 m3 m4 : Int32) (u w : Int64) (f : Nat → Int64) : ∃ r d1 d2 d3 d4 ca' cb' S' C' H' ea' eb' E' e1 e2 e3 e4 ka' kb' u' w' U' D' C2' f', fX8_made 5000 p q A B c1 c2 c3 c4 ca cb S C H ea eb E = some (r, d1, d2, d3, d4, ca', cb', S', C', H', ea', eb', E') ∧ fX9_made 5000 p q A B m1 m2 m3 m4 ka kb u w U D C2 f = some (r, e1, e2, e3, e4, ka', kb', u', w', U', D', C2', f') ∧ CtX ca' cb' S' C' H' ∧ CtE ea' eb' E' ∧ CtM ka' kb' U' D' C2' := by
  obtain ⟨a, ha, rfl⟩ := r16_nI hA
  obtain ⟨b, hb, rfl⟩ := r16_nI hB
  unfold fX8_made fX9_made
  rw [isLow_0]
  rcases isSmall_c p q with ⟨g, g1⟩ | ⟨g, -⟩
  · obtain ⟨x, y, hxy, rfl, rfl⟩ := small_nI g1
    obtain ⟨d1, d2, d3, d4, S', C', H', e, hD⟩ := fillFor_c ha hb hX c1 c2 c3 c4
    obtain ⟨E', e2, hR⟩ := fillFrom_c ha hb hD hE
    obtain ⟨f', e3, hU⟩ := mf_15 ha hb hxy m1 m2 m3 m4 ka kb u w U D C2 169 0 5000 f (by omega) (by omega) (fun j hj => by omega)
    obtain ⟨_, _, _, _, _, _, _, _, _, _, _, f'', e4, hM'⟩ := mf_44 ha hb hxy (x + 1) 0 5000 f' un m1 m2 m3 m4 ka kb u w U D C2 (by omega) (by omega) hU hM
    rw [g, e]
    simp only [Option.bind_some, if_neg n10]
    rw [e2, Option.bind_some]
    simp only []
    rw [coef_y E' hxy, Option.bind_some, hR x y hxy, L_both ha hb hxy, show (0 : Int32) = nI 0 from rfl, e3, e4]
    exact ⟨_, _, _, _, _, _, _, _, _, _, _, _, _, _, _, _, _, _, _, _, _, _, _, _, _, rfl, rfl, CtX_of ha hb hD, CtE_of ha hb hR, hM'⟩
  · rw [g]
    exact ⟨_, _, _, _, _, _, _, _, _, _, _, _, _, _, _, _, _, _, _, _, _, _, _, _, _, rfl, rfl, hX, hE, hM⟩
