-- ===== reading: clauses =====
def Cl1 (t : Nat) (K W F F2 G G2 : Nat → Int32) (j : Nat) : Prop := ∃ k, k < 5 ∧ K j = nI k ∧ W j = nI k ∧ (k < 3 → F j = F2 j ∧ G j = G2 j) ∧ (k = 2 → ∃ f m, F j = nI f ∧ G j = nI m ∧ f + m ≤ t ∧ m ≤ 20)
theorem cl1_off {t c j : Nat} (hj : j ≠ c) {K W F F2 G G2 K' W' F' F2' G' G2' : Nat → Int32} (h : Cl1 t K W F F2 G G2 j) (o1 : Off c K K') (o2 : Off c W W') (o3 : Off c F F') (o4 : Off c F2 F2') (o5 : Off c G G') (o6 : Off c G2 G2') : Cl1 t K' W' F' F2' G' G2' j := by
  obtain ⟨k, h1, h2, h3, h4, h5⟩ := h
  refine ⟨k, h1, ?_, ?_, ?_, ?_⟩
  · rw [o1 j hj]; exact h2
  · rw [o2 j hj]; exact h3
  · rw [o3 j hj, o4 j hj, o5 j hj, o6 j hj]; exact h4
  · rw [o3 j hj, o5 j hj]; exact h5
theorem clause_c {n : Nat} (hn : 100 ≤ n) {t s c : Nat} (ht : t ≤ 100) (hs : s ≤ t) (hc : c < 12) {T T' : Nat → Int32} (hT : ∀ j, j < t → T' j = T j) (val r : Int32) (K W F F2 G G2 : Nat → Int32) : ∃ b s' val' r' K' W' F' F2' G' G2', b ≤ 1 ∧ s' ≤ t ∧ fX5_takeClause n (nI c) (nI t) (nI s) val T K F G = some (nI b, nI s', val', K', F', G') ∧ fX9_takesClause n (nI t) (nI s) (nI c) r T' W F2 G2 = some (nI b, nI s', nI (c + b), r', W', F2', G2') ∧ (b = 1 → Cl1 t K' W' F' F2' G' G2' c) ∧ Off c K K' ∧ Off c W W' ∧ Off c F F' ∧ Off c F2 F2' ∧ Off c G G' ∧ Off c G2 G2' := by
  obtain ⟨k, m, b, hk, hm, hb, e1, e2, e3⟩ := rkind_c hn ht hs hc hT W
  unfold fX5_takeClause fX9_takesClause
  rw [e1, e2]
  simp only [Option.bind_some]
  rw [ck_nI hc (by omega), ck_nI hc (by omega), nI_clamp (by omega), upd_y _ _ rfl]
  have hk' : k = 0 ∨ k = 1 ∨ k = 2 ∨ k = 3 ∨ k = 4 ∨ k = 5 := by omega
  rcases hk' with rfl | rfl | rfl | rfl | rfl | rfl
  · have := e3 (by omega)
    subst this
    obtain ⟨b, s', val', r', F', G', F2', G2', hb, h1, h2, h3, h4, h5, h6, h7, h8⟩ := two_c hn ht hm hc hT (Or.inl ⟨rfl, rfl, rfl⟩) val r F G F2 G2
    rw [if_pos (show nI 0 = 0 from rfl), if_neg (show ¬ (0 : Nat) = 5 by omega), if_neg n10, if_neg (by decide), h2]
    simp only [Option.bind_some]
    rw [show (nI 0 : Int32) = 0 from rfl, h3]
    simp only [Option.bind_some]
    rcases hb with rfl | rfl
    · rw [zk0, if_pos rfl]
      exact ⟨0, s', _, _, _, _, _, _, _, _, by omega, h1, rfl, rfl, fun z => by omega, off_u K _, off_u W _, h5, h7, h6, h8⟩
    · rw [zk1, if_neg n10]
      unfold jX9_takesClause_32
      rw [if_neg (by decide), nI_p]
      exact ⟨1, s', _, _, _, _, _, _, _, _, by omega, h1, rfl, rfl, fun _ => ⟨0, by omega, upd_y _ _ rfl, upd_y _ _ rfl, fun _ => h4 rfl, fun z => by omega⟩, off_u K _, off_u W _, h5, h7, h6, h8⟩
  · have := e3 (by omega)
    subst this
    obtain ⟨b, s', val', r', F', G', F2', G2', hb, h1, h2, h3, h4, h5, h6, h7, h8⟩ := two_c hn ht hm hc hT (Or.inr ⟨rfl, rfl, rfl⟩) val r F G F2 G2
    rw [if_neg (show ¬ nI 1 = 0 by decide), if_pos (show nI 1 = 1 from rfl), if_neg (show ¬ (1 : Nat) = 5 by omega), if_neg n10, if_neg (by decide), h2]
    simp only [Option.bind_some]
    rw [show (nI 1 : Int32) = 1 from rfl, h3]
    simp only [Option.bind_some]
    rcases hb with rfl | rfl
    · rw [zk0, if_pos rfl]
      exact ⟨0, s', _, _, _, _, _, _, _, _, by omega, h1, rfl, rfl, fun z => by omega, off_u K _, off_u W _, h5, h7, h6, h8⟩
    · rw [zk1, if_neg n10]
      unfold jX9_takesClause_32
      rw [if_neg (by decide), nI_p]
      exact ⟨1, s', _, _, _, _, _, _, _, _, by omega, h1, rfl, rfl, fun _ => ⟨1, by omega, upd_y _ _ rfl, upd_y _ _ rfl, fun _ => h4 rfl, fun z => by omega⟩, off_u K _, off_u W _, h5, h7, h6, h8⟩
  · have := e3 (by omega)
    subst this
    obtain ⟨b, s', F', G', F2', G2', hb, h1, h2, h3, h4, h5, h6, h7, h8⟩ := signs_c hn ht hm hc hT F G F2 G2
    unfold jX9_takesClause_32
    rw [if_neg (show ¬ nI 2 = 0 by decide), if_neg (show ¬ nI 2 = 1 by decide), if_pos (show nI 2 = 2 from rfl), if_neg (show ¬ (2 : Nat) = 5 by omega), if_neg n10, if_pos (by decide), if_pos (show nI 2 = 2 from rfl), h2, h3]
    simp only [Option.bind_some]
    rcases hb with rfl | rfl
    · rw [zk0, if_pos rfl]
      exact ⟨0, s', _, _, _, _, _, _, _, _, by omega, h1, rfl, rfl, fun z => by omega, off_u K _, off_u W _, h5, h7, h6, h8⟩
    · rw [zk1, if_neg n10, nI_p]
      exact ⟨1, s', _, _, _, _, _, _, _, _, by omega, h1, rfl, rfl, fun _ => ⟨2, by omega, upd_y _ _ rfl, upd_y _ _ rfl, fun _ => ⟨(h4 rfl).1, (h4 rfl).2.1⟩, fun _ => (h4 rfl).2.2⟩, off_u K _, off_u W _, h5, h7, h6, h8⟩
  · have := e3 (by omega)
    subst this
    unfold jX9_takesClause_32
    rw [if_neg (show ¬ nI 3 = 0 by decide), if_neg (show ¬ nI 3 = 1 by decide), if_neg (show ¬ nI 3 = 2 by decide), if_pos (show nI 3 = 3 from rfl), if_neg (show ¬ (3 : Nat) = 5 by omega), if_neg n10, if_pos (by decide), if_neg (show ¬ nI 3 = 2 by decide), nI_p]
    exact ⟨1, s + m, _, _, _, _, _, _, _, _, by omega, hm, rfl, rfl, fun _ => ⟨3, by omega, upd_y _ _ rfl, upd_y _ _ rfl, fun z => by omega, fun z => by omega⟩, off_u K _, off_u W _, off_r F, off_r F2, off_r G, off_r G2⟩
  · have := e3 (by omega)
    subst this
    unfold jX9_takesClause_32
    rw [if_neg (show ¬ nI 4 = 0 by decide), if_neg (show ¬ nI 4 = 1 by decide), if_neg (show ¬ nI 4 = 2 by decide), if_neg (show ¬ nI 4 = 3 by decide), if_pos (show nI 4 = 4 from rfl), if_neg (show ¬ (4 : Nat) = 5 by omega), if_neg n10, if_pos (by decide), if_neg (show ¬ nI 4 = 2 by decide), nI_p]
    exact ⟨1, s + m, _, _, _, _, _, _, _, _, by omega, hm, rfl, rfl, fun _ => ⟨4, by omega, upd_y _ _ rfl, upd_y _ _ rfl, fun z => by omega, fun z => by omega⟩, off_u K _, off_u W _, off_r F, off_r F2, off_r G, off_r G2⟩
  · rw [if_neg (show ¬ nI 5 = 0 by decide), if_neg (show ¬ nI 5 = 1 by decide), if_neg (show ¬ nI 5 = 2 by decide), if_neg (show ¬ nI 5 = 3 by decide), if_neg (show ¬ nI 5 = 4 by decide), if_pos (show (5 : Nat) = 5 from rfl), if_pos rfl]
    exact ⟨0, s + m, _, _, _, _, _, _, _, _, by omega, hm, rfl, rfl, fun z => by omega, off_u K _, off_u W _, off_r F, off_r F2, off_r G, off_r G2⟩
/-- the reference's round: a clause, then what follows -/
def rnd (n : Nat) (L : Int32) (T : Nat → Int32) (k : Nat) (s c r : Int32) (W F G : Nat → Int32) : Option (Int32 × Int32 × Int32 × Int32 × (Nat → Int32) × (Nat → Int32) × (Nat → Int32)) := (fX9_takesClause n L s c r T W F G).bind fun q11 => ((if q11.1 = 0 then some (0, q11.2.1, q11.2.2.1, q11.2.2.2.1, q11.2.2.2.2.1, q11.2.2.2.2.2.1, q11.2.2.2.2.2.2) else lX9_takesAll_19 n L T k q11.2.1 q11.2.2.1 q11.2.2.2.1 q11.2.2.2.2.1 q11.2.2.2.2.2.1 q11.2.2.2.2.2.2))
theorem all_l {n : Nat} (hn : 100 ≤ n) {t : Nat} (ht : t ≤ 100) {T T' : Nat → Int32} (hT : ∀ j, j < t → T' j = T j) : ∀ (d c s k k' : Nat) (val r : Int32) (K W F F2 G G2 : Nat → Int32), c + d = 12 → 1 ≤ d → s ≤ t → d < k → d < k' → (∀ j, j < c → Cl1 t K W F F2 G G2 j) → (∃ s' x1 x2 x3 x4 x5 x6 y1 y2 y3 y4 y5, s' ≤ t ∧ lX5_findFault_12 n (nI t) T k (nI c) (nI c) (nI s) val K F G = some (nI s', x1, x2, x3, x4, x5, x6) ∧ rnd n (nI t) T' k' (nI s) (nI c) r W F2 G2 = some (0, nI s', y1, y2, y3, y4, y5)) ∨ ∃ c' x2 x3 y1 y2 K' W' F' F2' G' G2', c' ≤ 12 ∧ lX5_findFault_12 n (nI t) T k (nI c) (nI c) (nI s) val K F G = some (-1, nI c', x2, x3, K', F', G') ∧ rnd n (nI t) T' k' (nI s) (nI c) r W F2 G2 = some (1, y1, nI c', y2, W', F2', G2') ∧ ∀ j, j < c' → Cl1 t K' W' F' F2' G' G2' j := by
  intro d
  induction d with
  | zero => intro c s k k' val r K W F F2 G G2 _ h; omega
  | succ d ih =>
    intro c s k k' val r K W F F2 G G2 hcd _ hs hk hk' hCl
    obtain ⟨k, rfl⟩ : ∃ q, k = q + 1 := ⟨k - 1, by omega⟩
    obtain ⟨k', rfl⟩ : ∃ q, k' = q + 1 := ⟨k' - 1, by omega⟩
    obtain ⟨b, s', val', r', K', W', F', F2', G', G2', hb, hs', e1, e2, hc1, o1, o2, o3, o4, o5, o6⟩ := clause_c hn ht hs (show c < 12 by omega) hT val r K W F F2 G G2
    rw [lX5_findFault_12, if_neg (fun q => by have := (nJ_le (j := 12) (by omega) (by omega)).mp q; omega), e1]
    unfold rnd
    rw [e2]
    simp only [Option.bind_some]
    have hb' : b = 0 ∨ b = 1 := by omega
    rcases hb' with rfl | rfl
    · left
      rw [if_pos (show nI 0 = 0 from rfl), if_pos (show nI 0 = 0 from rfl)]
      exact ⟨s', _, _, _, _, _, _, _, _, _, _, _, hs', rfl, rfl⟩
    have hCl' : ∀ j, j < c + 1 → Cl1 t K' W' F' F2' G' G2' j := by
      intro j hj
      by_cases q : j = c
      · rw [q]; exact hc1 rfl
      · exact cl1_off q (hCl j (by omega)) o1 o2 o3 o4 o5 o6
    rw [if_neg (show ¬ nI 1 = 0 by decide), if_neg (show ¬ nI 1 = 0 by decide), lX9_takesAll_19, nI_p]
    by_cases q : s' = t
    · right
      rw [if_pos (by rw [q]), if_pos ((nJ_le (by omega) (by omega)).mpr (by omega))]
      exact ⟨c + 1, _, _, _, _, _, _, _, _, _, _, by omega, rfl, rfl, hCl'⟩
    have z1 : ¬ nI s' = nI t := fun z => q ((nJ_eq (by omega) (by omega)).mp z)
    have z2 : ¬ nI t ≤ nI s' := fun z => by have := (nJ_le (by omega) (by omega)).mp z; omega
    rw [if_neg z1, if_neg z2]
    by_cases q2 : c + 1 = 12
    · left
      have q3 : nI (c + 1) = 12 := by rw [q2]; rfl
      rw [if_pos q3, if_pos q3]
      exact ⟨s', _, _, _, _, _, _, _, _, _, _, _, hs', rfl, rfl⟩
    have q3 : ¬ nI (c + 1) = 12 := fun z => q2 ((nJ_eq (k := 12) (by omega) (by omega)).mp z)
    rw [if_neg q3, if_neg q3, takeByte_c ht (by omega), ck_nI (show s' < 100 by omega) (by omega), nI_clamp (by omega), hT s' (by omega), ← bt_y T (show s' < t by omega)]
    simp only [Option.bind_some]
    by_cases q4 : bt t T s' = 59
    · rw [if_pos q4, if_pos q4]
      simp only [if_neg n10]
      rw [nI_p]
      exact ih (c + 1) (s' + 1) k k' val' r' K' W' F' F2' G' G2' (by omega) (by omega) (by omega) (by omega) (by omega) hCl'
    · left
      rw [if_neg q4, if_neg q4]
      exact ⟨s', _, _, _, _, _, _, _, _, _, _, _, hs', rfl, rfl⟩
theorem fault_c {n : Nat} (hn : 100 ≤ n) {t : Nat} (ht : t ≤ 100) {T T' : Nat → Int32} (hT : ∀ j, j < t → T' j = T j) (cl sp val at' cl' r : Int32) (K W F F2 G G2 : Nat → Int32) : (∃ s' x1 x2 x3 x4 x5 x6 y1 y2 y3 y4 y5, s' ≤ t ∧ fX5_findFault n (nI t) cl sp val T K F G = some (nI s', x1, x2, x3, x4, x5, x6) ∧ fX9_takesAll n (nI t) at' cl' r T' W F2 G2 = some (0, nI s', y1, y2, y3, y4, y5)) ∨ ∃ c' x2 x3 y1 y2 K' W' F' F2' G' G2', c' ≤ 12 ∧ fX5_findFault n (nI t) cl sp val T K F G = some (-1, nI c', x2, x3, K', F', G') ∧ fX9_takesAll n (nI t) at' cl' r T' W F2 G2 = some (1, y1, nI c', y2, W', F2', G2') ∧ ∀ j, j < c' → Cl1 t K' W' F' F2' G' G2' j :=
  all_l hn ht hT 12 0 0 n n val r K W F F2 G G2 (by omega) (by omega) (by omega) (by omega) (by omega) (fun j hj => by omega)
