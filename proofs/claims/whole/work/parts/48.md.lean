-- ===== made =====
def cA (a b : Nat) : Nat × Nat → Nat := fun r => tC a b (13 * r.1 + r.2)
def un : Nat → Nat → Int64 := fun x y => if x = 0 ∧ y = 0 then 1 else 0
def LXr (h d : Nat) : List (Nat × Nat) := (List.range' h d).flatMap fun h => (List.range' 0 (h + 1)).map fun t => (t, h - t)
def LMr (Y s d : Nat) : List (Nat × Nat) := (List.range' s d).flatMap fun s => (List.range' 0 (Y + 1)).map fun t => (s, t)
theorem LX_r : LX = LXr 1 12 := by decide +kernel
theorem LM_r : ((List.range 13).all fun X => (List.range 13).all fun Y => LM X Y == (LMr Y 0 (X + 1)).filter fun r => !(r.1 + r.2 == 0)) = true := by decide +kernel
theorem Pr_app (c : Nat × Nat → Nat) (L L' : List (Nat × Nat)) (g : Nat → Nat → Int64) : Pr c (L ++ L') g = Pr c L' (Pr c L g) := List.foldl_append
theorem Pr_skip (c : Nat × Nat → Nat) (hc : c (0, 0) = 0) : ∀ (L : List (Nat × Nat)) (g : Nat → Nat → Int64), Pr c (L.filter fun r => !(r.1 + r.2 == 0)) g = Pr c L g
  | [], _ => rfl
  | (x, y) :: L, g => by
    by_cases h : x + y = 0
    · obtain ⟨rfl, rfl⟩ : x = 0 ∧ y = 0 := by omega
      show Pr c (L.filter fun r => !(r.1 + r.2 == 0)) g = Pr c L (Mp 0 0 g (c (0, 0)))
      rw [hc]
      exact Pr_skip c hc L g
    · rw [List.filter_cons_of_pos (by show (!(x + y == 0)) = true; rw [beq_false_of_ne h]; rfl)]
      exact Pr_skip c hc L _
theorem tC_0 : ((List.range 6).all fun a => (List.range 6).all fun b => tC a b 0 == 0) = true := by decide +kernel
theorem cA_0 {a b : Nat} (ha : a < 6) (hb : b < 6) : cA a b (0, 0) = 0 := eq_of_beq (all_range (all_range tC_0 ha) hb)
/-- both orders, the reference's with its first place -/
theorem L_both {a b X Y : Nat} (ha : a < 6) (hb : b < 6) (h : X + Y ≤ 12) : Pr (cA a b) (LXr 1 12) un X Y = Pr (cA a b) (LMr Y 0 (X + 1)) un X Y := by
  rw [← LX_r, L_same h, eq_of_beq (all_range (all_range LM_r (show X < 13 by omega)) (show Y < 13 by omega)), Pr_skip _ (cA_0 ha hb)]
theorem xf_80 {a b h : Nat} (ha : a < 6) (hb : b < 6) (h1 : 1 ≤ h) (h12 : h ≤ 12) {S C : Nat → Int32} {H : Nat → Int64} (hD : Done a b 13 0 S C H) (K : Int32 → Int32 → Int32 → (Nat → Int64) → Option (Int32 × Int32 × (Nat → Int64))) (A B : Int32) : ∀ (d t k : Nat) (f : Nat → Int64) (g : Nat → Nat → Int64), t + d = h + 1 → d < k → Rw f g → ∃ f', lX1_fillFrom_80 5000 C K k (nI h) (nI t) A B f = K (nI (h + 1)) A B f' ∧ Rw f' (Pr (cA a b) ((List.range' t d).map fun t => (t, h - t)) g) := by
  intro d
  induction d with
  | zero =>
    intro t k f g ht hk hR
    obtain ⟨k, rfl⟩ : ∃ q, k = q + 1 := ⟨k - 1, by omega⟩
    rw [lX1_fillFrom_80, if_pos ((nJ_lt (by omega) (by omega)).mpr (by omega)), nI_p]
    exact ⟨f, rfl, hR⟩
  | succ d ih =>
    intro t k f g ht hk hR
    obtain ⟨k, rfl⟩ : ∃ q, k = q + 1 := ⟨k - 1, by omega⟩
    have hc := tC_le ha hb (x := t) (y := h - t) (by omega)
    obtain ⟨f', e, hR'⟩ := xmult_c (n := 5000) (by omega) (u := t) (v := h - t) (by omega) (by omega) hc hR
    rw [lX1_fillFrom_80, if_neg (fun q => by have := (nJ_lt (by omega) (by omega)).mp q; omega), nI_sub (by omega) (by omega), countAt_y hD (x := t) (y := h - t) (by omega) (by omega), Option.bind_some, show aC a b (13 * t + (h - t)) = nI (tC a b (13 * t + (h - t))) from rfl, e, Option.bind_some, nI_p]
    exact ih (t + 1) k f' _ (by omega) (by omega) hR'
theorem xf_72 {a b : Nat} (ha : a < 6) (hb : b < 6) {S C : Nat → Int32} {H : Nat → Int64} (hD : Done a b 13 0 S C H) (A B : Int32) : ∀ (d h k : Nat) (f : Nat → Int64) (g : Nat → Nat → Int64), h + d = 13 → 1 ≤ h → d < k → Rw f g → ∃ f', lX1_fillFrom_72 5000 C k (nI h) A B f = some (A, B, f') ∧ Rw f' (Pr (cA a b) (LXr h d) g) := by
  intro d
  induction d with
  | zero =>
    intro h k f g hd h1 hk hR
    obtain ⟨k, rfl⟩ : ∃ q, k = q + 1 := ⟨k - 1, by omega⟩
    have hl : (12 : Int32) < nI h := (nJ_lt (j := 12) (k := h) (by omega) (by omega)).mpr (by omega)
    rw [lX1_fillFrom_72, if_pos hl]
    exact ⟨f, rfl, hR⟩
  | succ d ih =>
    intro h k f g hd h1 hk hR
    obtain ⟨k, rfl⟩ : ∃ q, k = q + 1 := ⟨k - 1, by omega⟩
    rw [lX1_fillFrom_72, if_neg (fun q => by have := (nJ_lt (j := 12) (by omega) (by omega)).mp q; omega)]
    obtain ⟨f', e, hR'⟩ := xf_80 ha hb h1 (by omega) hD (lX1_fillFrom_72 5000 C k) A B (h + 1) 0 5000 f g (by omega) (by omega) hR
    rw [show (0 : Int32) = nI 0 from rfl, e]
    obtain ⟨f'', e2, hR2⟩ := ih (h + 1) k f' _ (by omega) (by omega) (by omega) hR'
    refine ⟨f'', e2, ?_⟩
    rw [← Pr_app] at hR2
    exact hR2
theorem un_of {f : Nat → Int64} (h : ∀ j, j < 169 → f j = 0) : Rw (vp_updL f 0 1) un := by
  intro x y hxy
  unfold un
  by_cases c : x = 0 ∧ y = 0
  · obtain ⟨rfl, rfl⟩ := c
    rw [uL_y _ _ rfl, if_pos ⟨rfl, rfl⟩]
  · rw [uL_n _ _ (by omega), if_neg c, h _ (by omega)]
theorem xf_41 (C : Nat → Int32) (A B : Int32) : ∀ (d i k : Nat) (f : Nat → Int64), i + d = 169 → d < k → (∀ j, j < i → f j = 0) → ∃ f', lX1_fillFrom_41 5000 C k (nI i) A B f = lX1_fillFrom_72 5000 C 5000 (nI 1) A B f' ∧ Rw f' un := by
  intro d
  induction d with
  | zero =>
    intro i k f hi hk hf
    obtain ⟨k, rfl⟩ : ∃ q, k = q + 1 := ⟨k - 1, by omega⟩
    have : i = 169 := by omega
    subst this
    rw [lX1_fillFrom_41, if_pos (by decide)]
    have e := ck_nI (j := 0) (N := 169) (by omega) (by omega) (lX1_fillFrom_72 5000 C 5000 (nI 1) A B (vp_updL f 0 1))
    exact ⟨_, e, un_of hf⟩
  | succ d ih =>
    intro i k f hi hk hf
    obtain ⟨k, rfl⟩ : ∃ q, k = q + 1 := ⟨k - 1, by omega⟩
    rw [lX1_fillFrom_41, if_neg (fun q => by have := (nJ_le (j := 169) (by omega) (by omega)).mp q; omega), ck_nI (by omega) (by omega), nI_clamp (by omega), nI_p]
    refine ih (i + 1) k _ (by omega) (by omega) (fun j hj => ?_)
    by_cases c : j = i
    · rw [uL_y _ _ c]
    · rw [uL_n _ _ c, hf j (by omega)]
def CtE (ea eb : Int32) (E : Nat → Int64) : Prop := (ea = 0 ∧ eb = 0) ∨ ∃ a b, a < 6 ∧ b < 6 ∧ ea = nI (a + 1) ∧ eb = nI (b + 1) ∧ Rw E (Pr (cA a b) (LXr 1 12) un)
theorem fillFrom_c {a b : Nat} (ha : a < 6) (hb : b < 6) {S C : Nat → Int32} {H : Nat → Int64} (hD : Done a b 13 0 S C H) {ea eb : Int32} {E : Nat → Int64} (h : CtE ea eb E) : ∃ E', fX1_fillFrom 5000 ea eb E (nI (a + 1)) (nI (b + 1)) C = some (nI (a + 1), nI (b + 1), E') ∧ Rw E' (Pr (cA a b) (LXr 1 12) un) := by
  have new : ∃ E', jX1_fillFrom_23 5000 (nI (a + 1)) (nI (b + 1)) C ea eb E = some (nI (a + 1), nI (b + 1), E') ∧ Rw E' (Pr (cA a b) (LXr 1 12) un) := by
    unfold jX1_fillFrom_23
    obtain ⟨f', e, hR⟩ := xf_41 C (nI (a + 1)) (nI (b + 1)) 169 0 5000 E (by omega) (by omega) (fun j hj => by omega)
    obtain ⟨f'', e2, hR2⟩ := xf_72 ha hb hD (nI (a + 1)) (nI (b + 1)) 12 1 5000 f' un (by omega) (by omega) (by omega) hR
    exact ⟨f'', by rw [show (0 : Int32) = nI 0 from rfl, e, e2], hR2⟩
  unfold fX1_fillFrom
  rcases h with ⟨rfl, rfl⟩ | ⟨a', b', ha', hb', rfl, rfl, hR⟩
  · rw [if_neg (fun q => by have := (nJ_eq (j := 0) (by omega) (by omega)).mp q; omega)]
    exact new
  · by_cases c : nI (a' + 1) = nI (a + 1)
    · by_cases c2 : nI (b' + 1) = nI (b + 1)
      · rw [if_pos c, if_pos c2]
        have e1 := (nJ_eq (by omega) (by omega)).mp c
        have e2 := (nJ_eq (by omega) (by omega)).mp c2
        obtain rfl : a' = a := by omega
        obtain rfl : b' = b := by omega
        exact ⟨E, rfl, hR⟩
      · rw [if_pos c, if_neg c2]
        exact new
    · rw [if_neg c]
      exact new
