/-- the image: what the class saved is what the reference keeps -/
def Img (f : Int32) (a b x y nu : Int32) (nc : Nat → Int32) (su : Int32) (sc : Nat → Int32) (eu : Int32) (ec : Nat → Int32) (bu : Int32) (bc : Nat → Int32) (g : Int32) (N : Nat → Int32) (R : Nat → Nat → Int32) : Prop :=
  f = g ∧ (f = 0 ∨ (f = 1 ∧ N 0 = a ∧ N 1 = b ∧ N 2 = x ∧ N 3 = y ∧ r16 a ∧ r16 b ∧ isPl x y ∧ Nts nu nc (N 4) (R 0) (R 1) ∧ Sns su sc (N 5) (R 2) (R 3) (R 4) ∧ Evs eu ec (N 6) (R 5) (R 6) ∧ Bks bu bc (N 7) (R 7) (R 8) (R 9)))
theorem cpy_c (f g : Nat → Int32) {n k : Nat} (h : k < n) : va_cpy f g 0 0 n k = f k := by
  unfold va_cpy
  rw [if_pos ⟨by omega, by omega⟩]
  congr 1; omega
theorem R3.copy {k n1 n2 n3 : Nat} {c c' A B C A' B' C' : Nat → Int32} (h : R3 k c A B C) (hc : R3 k c' (fun j => c (3 * j)) (fun j => c (3 * j + 1)) (fun j => c (3 * j + 2))) (h1 : k ≤ n1) (h2 : k ≤ n2) (h3 : k ≤ n3) : R3 k c' (va_cpy A A' 0 0 n1) (va_cpy B B' 0 0 n2) (va_cpy C C' 0 0 n3) := by
  intro j hj
  obtain ⟨e1, e2, e3⟩ := hc j hj
  obtain ⟨f1, f2, f3⟩ := h j hj
  rw [cpy_c _ _ (by omega), cpy_c _ _ (by omega), cpy_c _ _ (by omega), e1, e2, e3]
  exact ⟨f1, f2, f3⟩
theorem R2.copy {k n1 n2 : Nat} {c c' A B A' B' : Nat → Int32} (h : R2 k c A B) (hc : R3 k c' (fun j => c (3 * j)) (fun j => c (3 * j + 1)) (fun j => c (3 * j + 2))) (h1 : k ≤ n1) (h2 : k ≤ n2) : R2 k c' (va_cpy A A' 0 0 n1) (va_cpy B B' 0 0 n2) := by
  intro j hj
  obtain ⟨e1, e2, e3⟩ := hc j hj
  obtain ⟨f1, f2⟩ := h j hj
  rw [cpy_c _ _ (by omega), cpy_c _ _ (by omega), e1, e2]
  exact ⟨f1, f2⟩
theorem all_copy {P : Int32 → Int32 → Prop} {k n1 n2 : Nat} {A B A' B' : Nat → Int32} (h : ∀ j, j < k → P (A j) (B j)) (h1 : k ≤ n1) (h2 : k ≤ n2) : ∀ j, j < k → P (va_cpy A A' 0 0 n1 j) (va_cpy B B' 0 0 n2 j) := by
  intro j hj
  rw [cpy_c _ _ (by omega), cpy_c _ _ (by omega)]
  exact h j hj
/-- the four lists copied, both sides -/
theorem set_copy {n : Nat} (hn : 2000 ≤ n) {a b x y nu su eu bu : Int32} {nc sc ec bc : Nat → Int32} {nv sv ev bv : Int32} {r0 r1 r2 r3 r4 r5 r6 r7 r8 r9 : Nat → Int32} (h1 : Nts nu nc nv r0 r1) (h2 : Sns su sc sv r2 r3 r4) (h3 : Evs eu ec ev r5 r6) (h4 : Bks bu bc bv r7 r8 r9) (o1 o2 o3 o4 o5 o6 o7 o8 : Int32) (oc1 oc2 oc3 oc4 s0 s1 s2 s3 s4 s5 s6 s7 s8 s9 : Nat → Int32) : ∃ nc' sc' ec' bc', fX6_copyFrom n 24 12 24 24 24 12 24 24 o1 o2 o3 o4 8 o5 oc1 4 o6 oc2 8 o7 oc3 8 o8 oc4 a b x y nu nc su sc eu ec bu bc = some (a, b, x, y, nu, nc', su, sc', eu, ec', bu, bc') ∧ Nts nu nc' nv (va_cpy r0 s0 0 0 8) (va_cpy r1 s1 0 0 8) ∧ Sns su sc' sv (va_cpy r2 s2 0 0 4) (va_cpy r3 s3 0 0 4) (va_cpy r4 s4 0 0 4) ∧ Evs eu ec' ev (va_cpy r5 s5 0 0 8) (va_cpy r6 s6 0 0 8) ∧ Bks bu bc' bv (va_cpy r7 s7 0 0 8) (va_cpy r8 s8 0 0 8) (va_cpy r9 s9 0 0 8) := by
  obtain ⟨k1, hk1, rfl, rfl, f1, g1⟩ := h1
  obtain ⟨k2, hk2, rfl, rfl, f2, g2⟩ := h2
  obtain ⟨k3, hk3, rfl, rfl, f3, g3⟩ := h3
  obtain ⟨k4, hk4, rfl, rfl, f4, g4⟩ := h4
  obtain ⟨c1, e1, q1⟩ := copy_c (N := 24) (N' := 24) (L := 8) (k := k1) hn (by omega) (by omega) (by omega) (by omega) hk1 o5 oc1 nc
  obtain ⟨c2, e2, q2⟩ := copy_c (N := 12) (N' := 12) (L := 4) (k := k2) hn (by omega) (by omega) (by omega) (by omega) hk2 o6 oc2 sc
  obtain ⟨c3, e3, q3⟩ := copy_c (N := 24) (N' := 24) (L := 8) (k := k3) hn (by omega) (by omega) (by omega) (by omega) hk3 o7 oc3 ec
  obtain ⟨c4, e4, q4⟩ := copy_c (N := 24) (N' := 24) (L := 8) (k := k4) hn (by omega) (by omega) (by omega) (by omega) hk4 o8 oc4 bc
  refine ⟨c1, c2, c3, c4, ?_, ⟨k1, hk1, rfl, rfl, f1.copy q1 (by omega) (by omega), all_copy g1 (by omega) (by omega)⟩, ⟨k2, hk2, rfl, rfl, f2.copy q2 (by omega) (by omega) (by omega), all_copy g2 (by omega) (by omega)⟩, ⟨k3, hk3, rfl, rfl, f3.copy q3 (by omega) (by omega), all_copy g3 (by omega) (by omega)⟩, ⟨k4, hk4, rfl, rfl, f4.copy q4 (by omega) (by omega) (by omega), all_copy g4 (by omega) (by omega)⟩⟩
  unfold fX6_copyFrom fX2_copyFrom
  rw [show (8 : Int32) = nI 8 from rfl, show (4 : Int32) = nI 4 from rfl, e1, e2, e3, e4]
  rfl
theorem image_M (m : Nat) (a b x y nv sv ev bv g : Int32) (r0 r1 r2 r3 r4 r5 r6 r7 r8 r9 N : Nat → Int32) (R : Nat → Nat → Int32) : ∃ N' R', fX9_image (m + 11) a b x y nv sv ev bv g r0 r1 r2 r3 r4 r5 r6 r7 r8 r9 N R = some (10 * a + b, 1, N', R') ∧ N' 0 = a ∧ N' 1 = b ∧ N' 2 = x ∧ N' 3 = y ∧ N' 4 = nv ∧ N' 5 = sv ∧ N' 6 = ev ∧ N' 7 = bv ∧ R' 0 = va_cpy r0 (R 0) 0 0 8 ∧ R' 1 = va_cpy r1 (R 1) 0 0 8 ∧ R' 2 = va_cpy r2 (R 2) 0 0 4 ∧ R' 3 = va_cpy r3 (R 3) 0 0 4 ∧ R' 4 = va_cpy r4 (R 4) 0 0 4 ∧ R' 5 = va_cpy r5 (R 5) 0 0 8 ∧ R' 6 = va_cpy r6 (R 6) 0 0 8 ∧ R' 7 = va_cpy r7 (R 7) 0 0 8 ∧ R' 8 = va_cpy r8 (R 8) 0 0 8 ∧ R' 9 = va_cpy r9 (R 9) 0 0 8 := ⟨_, _, rfl, rfl, rfl, rfl, rfl, rfl, rfl, rfl, rfl, rfl, rfl, rfl, rfl, rfl, rfl, rfl, rfl, rfl, rfl⟩
theorem undo_M (m : Nat) (a b x y nv sv ev bv : Int32) (r0 r1 r2 r3 r4 r5 r6 r7 r8 r9 N : Nat → Int32) (R : Nat → Nat → Int32) : fX9_undo (m + 11) a b x y nv sv ev bv 1 r0 r1 r2 r3 r4 r5 r6 r7 r8 r9 N R = some (10 * N 0 + N 1, N 0, N 1, N 2, N 3, N 4, N 5, N 6, N 7, va_cpy (R 0) r0 0 0 8, va_cpy (R 1) r1 0 0 8, va_cpy (R 2) r2 0 0 4, va_cpy (R 3) r3 0 0 4, va_cpy (R 4) r4 0 0 4, va_cpy (R 5) r5 0 0 8, va_cpy (R 6) r6 0 0 8, va_cpy (R 7) r7 0 0 8, va_cpy (R 8) r8 0 0 8, va_cpy (R 9) r9 0 0 8) := rfl
theorem pr_image {n m : Nat} (hn : 2000 ≤ n) (hm : 2000 ≤ m) {a b x y nu su eu bu : Int32} {nc sc ec bc : Nat → Int32} {nv sv ev bv : Int32} {r0 r1 r2 r3 r4 r5 r6 r7 r8 r9 : Nat → Int32} (ha : r16 a) (hb : r16 b) (hp : isPl x y) (h1 : Nts nu nc nv r0 r1) (h2 : Sns su sc sv r2 r3 r4) (h3 : Evs eu ec ev r5 r6) (h4 : Bks bu bc bv r7 r8 r9) (f o1 o2 o3 o4 o5 o6 o7 o8 : Int32) (oc1 oc2 oc3 oc4 : Nat → Int32) (g : Int32) (N : Nat → Int32) (R : Nat → Nat → Int32) : ∃ r f' a' b' x' y' nu' nc' su' sc' eu' ec' bu' bc' g' N' R', fX8_image n 24 12 24 24 24 12 24 24 f a b x y nu nc su sc eu ec bu bc o1 o2 o3 o4 8 o5 oc1 4 o6 oc2 8 o7 oc3 8 o8 oc4 = some (r, f', a', b', x', y', nu', nc', su', sc', eu', ec', bu', bc') ∧ fX9_image m a b x y nv sv ev bv g r0 r1 r2 r3 r4 r5 r6 r7 r8 r9 N R = some (r, g', N', R') ∧ Img f' a' b' x' y' nu' nc' su' sc' eu' ec' bu' bc' g' N' R' := by
  obtain ⟨m, rfl⟩ : ∃ q, m = q + 11 := ⟨m - 11, by omega⟩
  obtain ⟨nc', sc', ec', bc', e, q1, q2, q3, q4⟩ := set_copy hn (a := a) (b := b) (x := x) (y := y) h1 h2 h3 h4 o1 o2 o3 o4 o5 o6 o7 o8 oc1 oc2 oc3 oc4 (R 0) (R 1) (R 2) (R 3) (R 4) (R 5) (R 6) (R 7) (R 8) (R 9)
  obtain ⟨N', R', eM, n0, n1, n2, n3, n4, n5, n6, n7, z0, z1, z2, z3, z4, z5, z6, z7, z8, z9⟩ := image_M m a b x y nv sv ev bv g r0 r1 r2 r3 r4 r5 r6 r7 r8 r9 N R
  unfold fX8_image
  rw [e, eM]
  refine ⟨_, _, _, _, _, _, _, _, _, _, _, _, _, _, _, _, _, rfl, rfl, rfl, Or.inr ⟨rfl, n0, n1, n2, n3, ha, hb, hp, ?_, ?_, ?_, ?_⟩⟩
  · rw [n4, z0, z1]; exact q1
  · rw [n5, z2, z3, z4]; exact q2
  · rw [n6, z5, z6]; exact q3
  · rw [n7, z7, z8, z9]; exact q4
theorem pr_undo {n m : Nat} (hn : 2000 ≤ n) (hm : 2000 ≤ m) {a b x y nu su eu bu : Int32} {nc sc ec bc : Nat → Int32} {nv sv ev bv : Int32} {r0 r1 r2 r3 r4 r5 r6 r7 r8 r9 : Nat → Int32} (ha : r16 a) (hb : r16 b) (hp : isPl x y) (h1 : Nts nu nc nv r0 r1) (h2 : Sns su sc sv r2 r3 r4) (h3 : Evs eu ec ev r5 r6) (h4 : Bks bu bc bv r7 r8 r9) {f o1 o2 o3 o4 o5 o6 o7 o8 : Int32} {oc1 oc2 oc3 oc4 : Nat → Int32} {g : Int32} {N : Nat → Int32} {R : Nat → Nat → Int32} (hI : Img f o1 o2 o3 o4 o5 oc1 o6 oc2 o7 oc3 o8 oc4 g N R) : ∃ r a' b' x' y' nu' nc' su' sc' eu' ec' bu' bc' nv' sv' ev' bv' s0 s1 s2 s3 s4 s5 s6 s7 s8 s9, fX8_undo n 24 12 24 24 24 12 24 24 f a b x y 8 nu nc 4 su sc 8 eu ec 8 bu bc o1 o2 o3 o4 o5 oc1 o6 oc2 o7 oc3 o8 oc4 = some (r, a', b', x', y', nu', nc', su', sc', eu', ec', bu', bc') ∧ fX9_undo m a b x y nv sv ev bv g r0 r1 r2 r3 r4 r5 r6 r7 r8 r9 N R = some (r, a', b', x', y', nv', sv', ev', bv', s0, s1, s2, s3, s4, s5, s6, s7, s8, s9) ∧ r16 a' ∧ r16 b' ∧ isPl x' y' ∧ Nts nu' nc' nv' s0 s1 ∧ Sns su' sc' sv' s2 s3 s4 ∧ Evs eu' ec' ev' s5 s6 ∧ Bks bu' bc' bv' s7 s8 s9 := by
  obtain ⟨m, rfl⟩ : ∃ q, m = q + 11 := ⟨m - 11, by omega⟩
  obtain ⟨rfl, hI⟩ := hI
  rcases hI with rfl | ⟨rfl, n0, n1, n2, n3, ka, kb, kp, k1, k2, k3, k4⟩
  · unfold fX8_undo fX9_undo
    rw [if_pos rfl, if_pos rfl]
    exact ⟨_, _, _, _, _, _, _, _, _, _, _, _, _, _, _, _, _, _, _, _, _, _, _, _, _, _, _, rfl, rfl, ha, hb, hp, h1, h2, h3, h4⟩
  · rw [undo_M]
    obtain ⟨nc', sc', ec', bc', e, q1, q2, q3, q4⟩ := set_copy hn (a := o1) (b := o2) (x := o3) (y := o4) k1 k2 k3 k4 a b x y nu su eu bu nc sc ec bc r0 r1 r2 r3 r4 r5 r6 r7 r8 r9
    unfold fX8_undo
    rw [if_neg n10, e, n0, n1, n2, n3]
    exact ⟨_, _, _, _, _, _, _, _, _, _, _, _, _, _, _, _, _, _, _, _, _, _, _, _, _, _, _, rfl, rfl, ka, kb, kp, q1, q2, q3, q4⟩
