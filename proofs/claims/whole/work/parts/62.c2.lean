section
variable {p : Program} {l : Launch} {e : Env} {s : State} {m : MethodId} {below : List Frame} {meth : Method} {c : Code} {b_ L : Nat} {xs : Nat → Int32} {G : va_G} {cy : Nat → ClassId} {ad av : Nat → Nat}
set_option maxRecDepth 100000 in
set_option maxHeartbeats 4000000 in
theorem cl_sort (C0 : LC p s m meth c b_ L xs G cy ad av) {k : Nat} (hk : k + 6 ≤ L) (hL : L ≤ 3072) {u rI rT : Nat → Nat} {i : Nat → Int32} {a : Nat → Nat → Int32} {b : Nat → Nat → Int64} {j : Nat → Int64} {R : Nat → Nat → Int32} {T : Nat → Nat → Int64} {H : Heap} {locs : List Loc} (hR : Rel i a b R T) (hP : va_P G vwCl (WW cy u rI rT i i a b j R T) H) (hD : va_D (LA s) (WW cy u rI rT i i a b j R T)) (hS : va_S (LA s) s.heap H locs) {ls : Array Slot} (hl : lv_has ls 4 [(0, .ref b_), (1, .ref (u 0)), (2, .ref (u 38)), (3, .int (nI k))]) (kk : Nx p l e s m below meth c b_ G cy u rI rT ls) : LW p l e s m below meth c b_ H locs (F0 m 530 ls []) := by
  obtain ⟨hx, hb0, hr, hml, hown, htA, hX, hbl, hlocks, hK, hN, hZ⟩ := C0
  have hb : c.code = cL_law := hb0
  obtain ⟨ha, hb, hp, hN, hT, hSn, hEv, hBk, hIm, hTp, hCX, hCE, hCM⟩ := hR
  have hA : ∀ q : Nat, s.heap.size ≤ q → LA s q := fun _ h => h
  have hbA : ¬ LA s b_ := Nat.not_le.mpr hbl
  have hv1 : vp_in (nI k + 1) L := by rw [show nI k + 1 = nI (k + 1) from nI_add k 1]; exact vp_in_nI (by omega) (by omega)
  have hv2 : vp_in (nI k + 2) L := by rw [show nI k + 2 = nI (k + 2) from nI_add k 2]; exact vp_in_nI (by omega) (by omega)
  obtain ⟨y0, y1, y2, y3, y4, y5, y6, y7, y8, e1, e2⟩ := pr_sort (n := 5000) (by omega) (xs (Int32.toNatClampNeg (nI k + 1))) (xs (Int32.toNatClampNeg (nI k + 2))) (a := (i 0)) (b := (i 1)) ha hb (i 21) (i 22) (i 23) (i 24) (i 33) (i 34) (i 35) (i 36)
  refine lv_aload_n hx hb dL_law_530 rfl (lv_at hl 1 rfl) ?_
  refine lv_aload_n hx hb dL_law_531 rfl (lv_at hl 0 rfl) ?_
  refine lv_iload_n hx hb dL_law_532 rfl (lv_at hl 3 rfl) ?_
  refine lv_iconst (v := 1) hx hb dL_law_533 (by decide) ?_
  refine lv_iadd hx hb dL_law_534 ?_
  refine va_sld hx hb hX hbl hbA hS hv1 dL_law_535 ?_
  refine lv_aload_n hx hb dL_law_536 rfl (lv_at hl 0 rfl) ?_
  refine lv_iload_n hx hb dL_law_537 rfl (lv_at hl 3 rfl) ?_
  refine lv_iconst (v := 2) hx hb dL_law_538 (by decide) ?_
  refine lv_iadd hx hb dL_law_539 ?_
  refine va_sld hx hb hX hbl hbA hS hv2 dL_law_540 ?_
  refine u_calli (WW cy u rI rT (upd (upd (upd (upd i 21 y1) 22 y2) 23 y3) 24 y4) i a b j R T) (va_runV (As := [.int (xs (Int32.toNatClampNeg (nI k + 1))), .int (xs (Int32.toNatClampNeg (nI k + 2)))]) (rest := []) ⟨hx, hb, hml, hown, htA⟩ (kX8_sort l G cy (u 0) (u 1) (u 11) (u 21) (u 22) (u 23) (u 27) (u 29) (u 34) (u 2) (u 3) (u 5) (u 7) (u 9) H.size (i 4) (i 0) (i 1) (i 2) (i 3) (i 21) (i 22) (i 23) (i 24) (xs (Int32.toNatClampNeg (nI k + 1))) (xs (Int32.toNatClampNeg (nI k + 2))) 5000 e1) (u_cwV htA a_ml_L_67 pk_X8_sort ⟨(Nat.le_of_ble_eq_true rfl), (Nat.le_of_ble_eq_true rfl)⟩) (u_preV hK hN hP hD [0, 1, 2, 22] rfl (by decide) 0 rfl rfl) rfl rfl hl.1 rfl (lv_room (Nat.le_of_ble_eq_true rfl)) dL_law_541 ⟨(Nat.le_of_ble_eq_true rfl), (Nat.le_of_ble_eq_true rfl)⟩) hP hD hS hA [0, 1, 2, 22] rfl [3, 4, 5, 6, 7, 8, 9, 10, 11, 12, 13, 14, 15, 16, 17, 18, 19, 20, 21, 23, 24, 25, 26, 27, 28, 29, 30, 31, 32, 33, 34, 35, 36, 37, 38, 39, 40, 41, 42, 43, 44, 45, 46, 47, 48, 49, 50, 51, 52, 53, 54, 55, 56, 57, 58, 59, 60, 61, 62, 63, 64, 65, 66, 67, 68, 69, 70, 71, 72, 73, 74, 75, 76, 77] 78 rfl rfl rfl (by decide) rfl (fun H locs hP hD hS => ?_)
  refine lv_aload_n hx hb dL_law_544 rfl (lv_at hl 2 rfl) ?_
  refine lv_aload_n hx hb dL_law_545 rfl (lv_at hl 0 rfl) ?_
  refine lv_iload_n hx hb dL_law_546 rfl (lv_at hl 3 rfl) ?_
  refine lv_iconst (v := 1) hx hb dL_law_547 (by decide) ?_
  refine lv_iadd hx hb dL_law_548 ?_
  refine va_sld hx hb hX hbl hbA hS hv1 dL_law_549 ?_
  refine lv_aload_n hx hb dL_law_550 rfl (lv_at hl 0 rfl) ?_
  refine lv_iload_n hx hb dL_law_551 rfl (lv_at hl 3 rfl) ?_
  refine lv_iconst (v := 2) hx hb dL_law_552 (by decide) ?_
  refine lv_iadd hx hb dL_law_553 ?_
  refine va_sld hx hb hX hbl hbA hS hv2 dL_law_554 ?_
  refine u_calli (WW cy u rI rT (upd (upd (upd (upd (upd (upd (upd (upd i 21 y1) 22 y2) 23 y3) 24 y4) 33 y5) 34 y6) 35 y7) 36 y8) (upd (upd (upd (upd (upd (upd (upd (upd i 21 y1) 22 y2) 23 y3) 24 y4) 33 y5) 34 y6) 35 y7) 36 y8) a b j R T) (va_runV (As := [.int (xs (Int32.toNatClampNeg (nI k + 1))), .int (xs (Int32.toNatClampNeg (nI k + 2)))]) (rest := [.int y0]) ⟨hx, hb, hml, hown, htA⟩ (kX9_sort l G cy (u 38) (u 39) (u 40) (u 41) (u 42) (u 43) (u 44) (u 45) (u 46) (u 47) (u 48) (u 49) (u 50) (u 51) (u 52) (u 53) (u 54) (u 55) (u 56) (u 57) (u 58) (u 69) (u 70) (u 71) H.size (i 0) (i 1) (i 2) (i 3) (i 33) (i 34) (i 35) (i 36) (i 37) (i 38) (j 0) (j 1) (i 39) (i 40) (i 41) (i 42) (i 43) (i 44) (i 45) (i 46) (i 47) (xs (Int32.toNatClampNeg (nI k + 1))) (xs (Int32.toNatClampNeg (nI k + 2))) 5000 e2) (u_cwV htA a_ml_L_70 pk_X9_sort ⟨(Nat.le_of_ble_eq_true rfl), (Nat.le_of_ble_eq_true rfl)⟩) (u_preV hK hN hP hD [38] rfl (by decide) 38 rfl rfl) rfl rfl hl.1 rfl (lv_room (Nat.le_of_ble_eq_true rfl)) dL_law_555 ⟨(Nat.le_of_ble_eq_true rfl), (Nat.le_of_ble_eq_true rfl)⟩) hP hD hS hA [38] rfl [0, 1, 2, 3, 4, 5, 6, 7, 8, 9, 10, 11, 12, 13, 14, 15, 16, 17, 18, 19, 20, 21, 22, 23, 24, 25, 26, 27, 28, 29, 30, 31, 32, 33, 34, 35, 36, 37, 39, 40, 41, 42, 43, 44, 45, 46, 47, 48, 49, 50, 51, 52, 53, 54, 55, 56, 57, 58, 59, 60, 61, 62, 63, 64, 65, 66, 67, 68, 69, 70, 71, 72, 73, 74, 75, 76, 77] 78 rfl rfl rfl (by decide) rfl (fun H locs hP hD hS => ?_)
  refine lv_icmp_eq (tgt := 1368) hx hb dL_law_558 (by decide) (fun _ => ?_) (fun c_1 => absurd rfl c_1)
  exact kk (upd (upd (upd (upd (upd (upd (upd (upd i 21 y1) 22 y2) 23 y3) 24 y4) 33 y5) 34 y6) 35 y7) 36 y8) a b j R T H locs ⟨ha, hb, hp, hN, hT, hSn, hEv, hBk, hIm, hTp, hCX, hCE, hCM⟩ hP hD hS
set_option maxRecDepth 100000 in
set_option maxHeartbeats 4000000 in
theorem cl_lowered (C0 : LC p s m meth c b_ L xs G cy ad av) {k : Nat} (hk : k + 6 ≤ L) (hL : L ≤ 3072) {u rI rT : Nat → Nat} {i : Nat → Int32} {a : Nat → Nat → Int32} {b : Nat → Nat → Int64} {j : Nat → Int64} {R : Nat → Nat → Int32} {T : Nat → Nat → Int64} {H : Heap} {locs : List Loc} (hR : Rel i a b R T) (hP : va_P G vwCl (WW cy u rI rT i i a b j R T) H) (hD : va_D (LA s) (WW cy u rI rT i i a b j R T)) (hS : va_S (LA s) s.heap H locs) {ls : Array Slot} (hl : lv_has ls 4 [(0, .ref b_), (1, .ref (u 0)), (2, .ref (u 38)), (3, .int (nI k))]) (kk : Nx p l e s m below meth c b_ G cy u rI rT ls) : LW p l e s m below meth c b_ H locs (F0 m 563 ls []) := by
  obtain ⟨hx, hb0, hr, hml, hown, htA, hX, hbl, hlocks, hK, hN, hZ⟩ := C0
  have hb : c.code = cL_law := hb0
  obtain ⟨ha, hb, hp, hN, hT, hSn, hEv, hBk, hIm, hTp, hCX, hCE, hCM⟩ := hR
  have hA : ∀ q : Nat, s.heap.size ≤ q → LA s q := fun _ h => h
  have hbA : ¬ LA s b_ := Nat.not_le.mpr hbl
  have hv1 : vp_in (nI k + 1) L := by rw [show nI k + 1 = nI (k + 1) from nI_add k 1]; exact vp_in_nI (by omega) (by omega)
  have hv2 : vp_in (nI k + 2) L := by rw [show nI k + 2 = nI (k + 2) from nI_add k 2]; exact vp_in_nI (by omega) (by omega)
  have hv3 : vp_in (nI k + 3) L := by rw [show nI k + 3 = nI (k + 3) from nI_add k 3]; exact vp_in_nI (by omega) (by omega)
  obtain ⟨y0, y1, y2, y3, y4, y5, y6, y7, y8, e1, e2⟩ := pr_lowered (n := 5000) (by omega) (xs (Int32.toNatClampNeg (nI k + 1))) (xs (Int32.toNatClampNeg (nI k + 2))) (xs (Int32.toNatClampNeg (nI k + 3))) (a := (i 0)) (b := (i 1)) ha hb (i 21) (i 22) (i 23) (i 24) (i 33) (i 34) (i 35) (i 36)
  refine lv_aload_n hx hb dL_law_563 rfl (lv_at hl 1 rfl) ?_
  refine lv_aload_n hx hb dL_law_564 rfl (lv_at hl 0 rfl) ?_
  refine lv_iload_n hx hb dL_law_565 rfl (lv_at hl 3 rfl) ?_
  refine lv_iconst (v := 1) hx hb dL_law_566 (by decide) ?_
  refine lv_iadd hx hb dL_law_567 ?_
  refine va_sld hx hb hX hbl hbA hS hv1 dL_law_568 ?_
  refine lv_aload_n hx hb dL_law_569 rfl (lv_at hl 0 rfl) ?_
  refine lv_iload_n hx hb dL_law_570 rfl (lv_at hl 3 rfl) ?_
  refine lv_iconst (v := 2) hx hb dL_law_571 (by decide) ?_
  refine lv_iadd hx hb dL_law_572 ?_
  refine va_sld hx hb hX hbl hbA hS hv2 dL_law_573 ?_
  refine lv_aload_n hx hb dL_law_574 rfl (lv_at hl 0 rfl) ?_
  refine lv_iload_n hx hb dL_law_575 rfl (lv_at hl 3 rfl) ?_
  refine lv_iconst (v := 3) hx hb dL_law_576 (by decide) ?_
  refine lv_iadd hx hb dL_law_577 ?_
  refine va_sld hx hb hX hbl hbA hS hv3 dL_law_578 ?_
  refine u_calli (WW cy u rI rT (upd (upd (upd (upd i 21 y1) 22 y2) 23 y3) 24 y4) i a b j R T) (va_runV (As := [.int (xs (Int32.toNatClampNeg (nI k + 1))), .int (xs (Int32.toNatClampNeg (nI k + 2))), .int (xs (Int32.toNatClampNeg (nI k + 3)))]) (rest := []) ⟨hx, hb, hml, hown, htA⟩ (kX8_lowered l G cy (u 0) (u 1) (u 11) (u 21) (u 22) (u 23) (u 27) (u 29) (u 34) (u 2) (u 3) (u 5) (u 7) (u 9) H.size (i 4) (i 0) (i 1) (i 2) (i 3) (i 21) (i 22) (i 23) (i 24) (xs (Int32.toNatClampNeg (nI k + 1))) (xs (Int32.toNatClampNeg (nI k + 2))) (xs (Int32.toNatClampNeg (nI k + 3))) 5000 e1) (u_cwV htA a_ml_L_71 pk_X8_lowered ⟨(Nat.le_of_ble_eq_true rfl), (Nat.le_of_ble_eq_true rfl)⟩) (u_preV hK hN hP hD [0, 1, 2, 22] rfl (by decide) 0 rfl rfl) rfl rfl hl.1 rfl (lv_room (Nat.le_of_ble_eq_true rfl)) dL_law_579 ⟨(Nat.le_of_ble_eq_true rfl), (Nat.le_of_ble_eq_true rfl)⟩) hP hD hS hA [0, 1, 2, 22] rfl [3, 4, 5, 6, 7, 8, 9, 10, 11, 12, 13, 14, 15, 16, 17, 18, 19, 20, 21, 23, 24, 25, 26, 27, 28, 29, 30, 31, 32, 33, 34, 35, 36, 37, 38, 39, 40, 41, 42, 43, 44, 45, 46, 47, 48, 49, 50, 51, 52, 53, 54, 55, 56, 57, 58, 59, 60, 61, 62, 63, 64, 65, 66, 67, 68, 69, 70, 71, 72, 73, 74, 75, 76, 77] 78 rfl rfl rfl (by decide) rfl (fun H locs hP hD hS => ?_)
  refine lv_aload_n hx hb dL_law_582 rfl (lv_at hl 2 rfl) ?_
  refine lv_aload_n hx hb dL_law_583 rfl (lv_at hl 0 rfl) ?_
  refine lv_iload_n hx hb dL_law_584 rfl (lv_at hl 3 rfl) ?_
  refine lv_iconst (v := 1) hx hb dL_law_585 (by decide) ?_
  refine lv_iadd hx hb dL_law_586 ?_
  refine va_sld hx hb hX hbl hbA hS hv1 dL_law_587 ?_
  refine lv_aload_n hx hb dL_law_588 rfl (lv_at hl 0 rfl) ?_
  refine lv_iload_n hx hb dL_law_589 rfl (lv_at hl 3 rfl) ?_
  refine lv_iconst (v := 2) hx hb dL_law_590 (by decide) ?_
  refine lv_iadd hx hb dL_law_591 ?_
  refine va_sld hx hb hX hbl hbA hS hv2 dL_law_592 ?_
  refine lv_aload_n hx hb dL_law_593 rfl (lv_at hl 0 rfl) ?_
  refine lv_iload_n hx hb dL_law_594 rfl (lv_at hl 3 rfl) ?_
  refine lv_iconst (v := 3) hx hb dL_law_595 (by decide) ?_
  refine lv_iadd hx hb dL_law_596 ?_
  refine va_sld hx hb hX hbl hbA hS hv3 dL_law_597 ?_
  refine u_calli (WW cy u rI rT (upd (upd (upd (upd (upd (upd (upd (upd i 21 y1) 22 y2) 23 y3) 24 y4) 33 y5) 34 y6) 35 y7) 36 y8) (upd (upd (upd (upd (upd (upd (upd (upd i 21 y1) 22 y2) 23 y3) 24 y4) 33 y5) 34 y6) 35 y7) 36 y8) a b j R T) (va_runV (As := [.int (xs (Int32.toNatClampNeg (nI k + 1))), .int (xs (Int32.toNatClampNeg (nI k + 2))), .int (xs (Int32.toNatClampNeg (nI k + 3)))]) (rest := [.int y0]) ⟨hx, hb, hml, hown, htA⟩ (kX9_lowered l G cy (u 38) (u 39) (u 40) (u 41) (u 42) (u 43) (u 44) (u 45) (u 46) (u 47) (u 48) (u 49) (u 50) (u 51) (u 52) (u 53) (u 54) (u 55) (u 56) (u 57) (u 58) (u 69) (u 70) (u 71) H.size (i 0) (i 1) (i 2) (i 3) (i 33) (i 34) (i 35) (i 36) (i 37) (i 38) (j 0) (j 1) (i 39) (i 40) (i 41) (i 42) (i 43) (i 44) (i 45) (i 46) (i 47) (xs (Int32.toNatClampNeg (nI k + 1))) (xs (Int32.toNatClampNeg (nI k + 2))) (xs (Int32.toNatClampNeg (nI k + 3))) 5000 e2) (u_cwV htA a_ml_L_74 pk_X9_lowered ⟨(Nat.le_of_ble_eq_true rfl), (Nat.le_of_ble_eq_true rfl)⟩) (u_preV hK hN hP hD [38] rfl (by decide) 38 rfl rfl) rfl rfl hl.1 rfl (lv_room (Nat.le_of_ble_eq_true rfl)) dL_law_598 ⟨(Nat.le_of_ble_eq_true rfl), (Nat.le_of_ble_eq_true rfl)⟩) hP hD hS hA [38] rfl [0, 1, 2, 3, 4, 5, 6, 7, 8, 9, 10, 11, 12, 13, 14, 15, 16, 17, 18, 19, 20, 21, 22, 23, 24, 25, 26, 27, 28, 29, 30, 31, 32, 33, 34, 35, 36, 37, 39, 40, 41, 42, 43, 44, 45, 46, 47, 48, 49, 50, 51, 52, 53, 54, 55, 56, 57, 58, 59, 60, 61, 62, 63, 64, 65, 66, 67, 68, 69, 70, 71, 72, 73, 74, 75, 76, 77] 78 rfl rfl rfl (by decide) rfl (fun H locs hP hD hS => ?_)
  refine lv_icmp_eq (tgt := 1368) hx hb dL_law_601 (by decide) (fun _ => ?_) (fun c_1 => absurd rfl c_1)
  exact kk (upd (upd (upd (upd (upd (upd (upd (upd i 21 y1) 22 y2) 23 y3) 24 y4) 33 y5) 34 y6) 35 y7) 36 y8) a b j R T H locs ⟨ha, hb, hp, hN, hT, hSn, hEv, hBk, hIm, hTp, hCX, hCE, hCM⟩ hP hD hS
set_option maxRecDepth 100000 in
set_option maxHeartbeats 4000000 in
theorem cl_string (C0 : LC p s m meth c b_ L xs G cy ad av) {k : Nat} (hk : k + 6 ≤ L) (hL : L ≤ 3072) {u rI rT : Nat → Nat} {i : Nat → Int32} {a : Nat → Nat → Int32} {b : Nat → Nat → Int64} {j : Nat → Int64} {R : Nat → Nat → Int32} {T : Nat → Nat → Int64} {H : Heap} {locs : List Loc} (hR : Rel i a b R T) (hP : va_P G vwCl (WW cy u rI rT i i a b j R T) H) (hD : va_D (LA s) (WW cy u rI rT i i a b j R T)) (hS : va_S (LA s) s.heap H locs) {ls : Array Slot} (hl : lv_has ls 4 [(0, .ref b_), (1, .ref (u 0)), (2, .ref (u 38)), (3, .int (nI k))]) (kk : Nx p l e s m below meth c b_ G cy u rI rT ls) : LW p l e s m below meth c b_ H locs (F0 m 606 ls []) := by
  obtain ⟨hx, hb0, hr, hml, hown, htA, hX, hbl, hlocks, hK, hN, hZ⟩ := C0
  have hb : c.code = cL_law := hb0
  obtain ⟨ha, hb, hp, hN, hT, hSn, hEv, hBk, hIm, hTp, hCX, hCE, hCM⟩ := hR
  have hA : ∀ q : Nat, s.heap.size ≤ q → LA s q := fun _ h => h
  have hbA : ¬ LA s b_ := Nat.not_le.mpr hbl
  have hv1 : vp_in (nI k + 1) L := by rw [show nI k + 1 = nI (k + 1) from nI_add k 1]; exact vp_in_nI (by omega) (by omega)
  have hv2 : vp_in (nI k + 2) L := by rw [show nI k + 2 = nI (k + 2) from nI_add k 2]; exact vp_in_nI (by omega) (by omega)
  have hv3 : vp_in (nI k + 3) L := by rw [show nI k + 3 = nI (k + 3) from nI_add k 3]; exact vp_in_nI (by omega) (by omega)
  have hv4 : vp_in (nI k + 4) L := by rw [show nI k + 4 = nI (k + 4) from nI_add k 4]; exact vp_in_nI (by omega) (by omega)
  obtain ⟨y0, y1, y2, y3, y4, y5, y6, y7, y8, e1, e2⟩ := pr_string (n := 5000) (m := 5000) (by omega) (by omega) (xs (Int32.toNatClampNeg (nI k + 1))) (xs (Int32.toNatClampNeg (nI k + 2))) (xs (Int32.toNatClampNeg (nI k + 3))) (xs (Int32.toNatClampNeg (nI k + 4))) (a := (i 0)) (b := (i 1)) ha hb (i 21) (i 22) (i 23) (i 24) (i 33) (i 34) (i 35) (i 36)
  refine lv_aload_n hx hb dL_law_606 rfl (lv_at hl 1 rfl) ?_
  refine lv_aload_n hx hb dL_law_607 rfl (lv_at hl 0 rfl) ?_
  refine lv_iload_n hx hb dL_law_608 rfl (lv_at hl 3 rfl) ?_
  refine lv_iconst (v := 1) hx hb dL_law_609 (by decide) ?_
  refine lv_iadd hx hb dL_law_610 ?_
  refine va_sld hx hb hX hbl hbA hS hv1 dL_law_611 ?_
  refine lv_aload_n hx hb dL_law_612 rfl (lv_at hl 0 rfl) ?_
  refine lv_iload_n hx hb dL_law_613 rfl (lv_at hl 3 rfl) ?_
  refine lv_iconst (v := 2) hx hb dL_law_614 (by decide) ?_
  refine lv_iadd hx hb dL_law_615 ?_
  refine va_sld hx hb hX hbl hbA hS hv2 dL_law_616 ?_
  refine lv_aload_n hx hb dL_law_617 rfl (lv_at hl 0 rfl) ?_
  refine lv_iload_n hx hb dL_law_618 rfl (lv_at hl 3 rfl) ?_
  refine lv_iconst (v := 3) hx hb dL_law_619 (by decide) ?_
  refine lv_iadd hx hb dL_law_620 ?_
  refine va_sld hx hb hX hbl hbA hS hv3 dL_law_621 ?_
  refine lv_aload_n hx hb dL_law_622 rfl (lv_at hl 0 rfl) ?_
  refine lv_iload_n hx hb dL_law_623 rfl (lv_at hl 3 rfl) ?_
  refine lv_iconst (v := 4) hx hb dL_law_624 (by decide) ?_
  refine lv_iadd hx hb dL_law_625 ?_
  refine va_sld hx hb hX hbl hbA hS hv4 dL_law_626 ?_
  refine u_calli (WW cy u rI rT (upd (upd (upd (upd i 21 y1) 22 y2) 23 y3) 24 y4) i a b j R T) (va_runV (As := [.int (xs (Int32.toNatClampNeg (nI k + 1))), .int (xs (Int32.toNatClampNeg (nI k + 2))), .int (xs (Int32.toNatClampNeg (nI k + 3))), .int (xs (Int32.toNatClampNeg (nI k + 4)))]) (rest := []) ⟨hx, hb, hml, hown, htA⟩ (kX8_string l G cy (u 0) (u 1) (u 11) (u 21) (u 22) (u 23) (u 27) (u 29) (u 34) (u 2) (u 3) (u 5) (u 7) (u 9) H.size (i 4) (i 0) (i 1) (i 2) (i 3) (i 21) (i 22) (i 23) (i 24) (xs (Int32.toNatClampNeg (nI k + 1))) (xs (Int32.toNatClampNeg (nI k + 2))) (xs (Int32.toNatClampNeg (nI k + 3))) (xs (Int32.toNatClampNeg (nI k + 4))) 5000 e1) (u_cwV htA a_ml_L_75 pk_X8_string ⟨(Nat.le_of_ble_eq_true rfl), (Nat.le_of_ble_eq_true rfl)⟩) (u_preV hK hN hP hD [0, 1, 2, 22] rfl (by decide) 0 rfl rfl) rfl rfl hl.1 rfl (lv_room (Nat.le_of_ble_eq_true rfl)) dL_law_627 ⟨(Nat.le_of_ble_eq_true rfl), (Nat.le_of_ble_eq_true rfl)⟩) hP hD hS hA [0, 1, 2, 22] rfl [3, 4, 5, 6, 7, 8, 9, 10, 11, 12, 13, 14, 15, 16, 17, 18, 19, 20, 21, 23, 24, 25, 26, 27, 28, 29, 30, 31, 32, 33, 34, 35, 36, 37, 38, 39, 40, 41, 42, 43, 44, 45, 46, 47, 48, 49, 50, 51, 52, 53, 54, 55, 56, 57, 58, 59, 60, 61, 62, 63, 64, 65, 66, 67, 68, 69, 70, 71, 72, 73, 74, 75, 76, 77] 78 rfl rfl rfl (by decide) rfl (fun H locs hP hD hS => ?_)
  refine lv_aload_n hx hb dL_law_630 rfl (lv_at hl 2 rfl) ?_
  refine lv_aload_n hx hb dL_law_631 rfl (lv_at hl 0 rfl) ?_
  refine lv_iload_n hx hb dL_law_632 rfl (lv_at hl 3 rfl) ?_
  refine lv_iconst (v := 1) hx hb dL_law_633 (by decide) ?_
  refine lv_iadd hx hb dL_law_634 ?_
  refine va_sld hx hb hX hbl hbA hS hv1 dL_law_635 ?_
  refine lv_aload_n hx hb dL_law_636 rfl (lv_at hl 0 rfl) ?_
  refine lv_iload_n hx hb dL_law_637 rfl (lv_at hl 3 rfl) ?_
  refine lv_iconst (v := 2) hx hb dL_law_638 (by decide) ?_
  refine lv_iadd hx hb dL_law_639 ?_
  refine va_sld hx hb hX hbl hbA hS hv2 dL_law_640 ?_
  refine lv_aload_n hx hb dL_law_641 rfl (lv_at hl 0 rfl) ?_
  refine lv_iload_n hx hb dL_law_642 rfl (lv_at hl 3 rfl) ?_
  refine lv_iconst (v := 3) hx hb dL_law_643 (by decide) ?_
  refine lv_iadd hx hb dL_law_644 ?_
  refine va_sld hx hb hX hbl hbA hS hv3 dL_law_645 ?_
  refine lv_aload_n hx hb dL_law_646 rfl (lv_at hl 0 rfl) ?_
  refine lv_iload_n hx hb dL_law_647 rfl (lv_at hl 3 rfl) ?_
  refine lv_iconst (v := 4) hx hb dL_law_648 (by decide) ?_
  refine lv_iadd hx hb dL_law_649 ?_
  refine va_sld hx hb hX hbl hbA hS hv4 dL_law_650 ?_
  refine u_calli (WW cy u rI rT (upd (upd (upd (upd (upd (upd (upd (upd i 21 y1) 22 y2) 23 y3) 24 y4) 33 y5) 34 y6) 35 y7) 36 y8) (upd (upd (upd (upd (upd (upd (upd (upd i 21 y1) 22 y2) 23 y3) 24 y4) 33 y5) 34 y6) 35 y7) 36 y8) a b j R T) (va_runV (As := [.int (xs (Int32.toNatClampNeg (nI k + 1))), .int (xs (Int32.toNatClampNeg (nI k + 2))), .int (xs (Int32.toNatClampNeg (nI k + 3))), .int (xs (Int32.toNatClampNeg (nI k + 4)))]) (rest := [.int y0]) ⟨hx, hb, hml, hown, htA⟩ (kX9_string l G cy (u 38) (u 39) (u 40) (u 41) (u 42) (u 43) (u 44) (u 45) (u 46) (u 47) (u 48) (u 49) (u 50) (u 51) (u 52) (u 53) (u 54) (u 55) (u 56) (u 57) (u 58) (u 69) (u 70) (u 71) H.size (i 0) (i 1) (i 2) (i 3) (i 33) (i 34) (i 35) (i 36) (i 37) (i 38) (j 0) (j 1) (i 39) (i 40) (i 41) (i 42) (i 43) (i 44) (i 45) (i 46) (i 47) (xs (Int32.toNatClampNeg (nI k + 1))) (xs (Int32.toNatClampNeg (nI k + 2))) (xs (Int32.toNatClampNeg (nI k + 3))) (xs (Int32.toNatClampNeg (nI k + 4))) 5000 e2) (u_cwV htA a_ml_L_79 pk_X9_string ⟨(Nat.le_of_ble_eq_true rfl), (Nat.le_of_ble_eq_true rfl)⟩) (u_preV hK hN hP hD [38] rfl (by decide) 38 rfl rfl) rfl rfl hl.1 rfl (lv_room (Nat.le_of_ble_eq_true rfl)) dL_law_651 ⟨(Nat.le_of_ble_eq_true rfl), (Nat.le_of_ble_eq_true rfl)⟩) hP hD hS hA [38] rfl [0, 1, 2, 3, 4, 5, 6, 7, 8, 9, 10, 11, 12, 13, 14, 15, 16, 17, 18, 19, 20, 21, 22, 23, 24, 25, 26, 27, 28, 29, 30, 31, 32, 33, 34, 35, 36, 37, 39, 40, 41, 42, 43, 44, 45, 46, 47, 48, 49, 50, 51, 52, 53, 54, 55, 56, 57, 58, 59, 60, 61, 62, 63, 64, 65, 66, 67, 68, 69, 70, 71, 72, 73, 74, 75, 76, 77] 78 rfl rfl rfl (by decide) rfl (fun H locs hP hD hS => ?_)
  refine lv_icmp_eq (tgt := 1368) hx hb dL_law_654 (by decide) (fun _ => ?_) (fun c_1 => absurd rfl c_1)
  exact kk (upd (upd (upd (upd (upd (upd (upd (upd i 21 y1) 22 y2) 23 y3) 24 y4) 33 y5) 34 y6) 35 y7) 36 y8) a b j R T H locs ⟨ha, hb, hp, hN, hT, hSn, hEv, hBk, hIm, hTp, hCX, hCE, hCM⟩ hP hD hS
set_option maxRecDepth 100000 in
set_option maxHeartbeats 4000000 in
theorem cl_counted (C0 : LC p s m meth c b_ L xs G cy ad av) {k : Nat} (hk : k + 6 ≤ L) (hL : L ≤ 3072) {u rI rT : Nat → Nat} {i : Nat → Int32} {a : Nat → Nat → Int32} {b : Nat → Nat → Int64} {j : Nat → Int64} {R : Nat → Nat → Int32} {T : Nat → Nat → Int64} {H : Heap} {locs : List Loc} (hR : Rel i a b R T) (hP : va_P G vwCl (WW cy u rI rT i i a b j R T) H) (hD : va_D (LA s) (WW cy u rI rT i i a b j R T)) (hS : va_S (LA s) s.heap H locs) {ls : Array Slot} (hl : lv_has ls 4 [(0, .ref b_), (1, .ref (u 0)), (2, .ref (u 38)), (3, .int (nI k))]) (kk : Nx p l e s m below meth c b_ G cy u rI rT ls) : LW p l e s m below meth c b_ H locs (F0 m 659 ls []) := by
  obtain ⟨hx, hb0, hr, hml, hown, htA, hX, hbl, hlocks, hK, hN, hZ⟩ := C0
  have hb : c.code = cL_law := hb0
  obtain ⟨ha, hb, hp, hN, hT, hSn, hEv, hBk, hIm, hTp, hCX, hCE, hCM⟩ := hR
  have hA : ∀ q : Nat, s.heap.size ≤ q → LA s q := fun _ h => h
  have hbA : ¬ LA s b_ := Nat.not_le.mpr hbl
  have hv1 : vp_in (nI k + 1) L := by rw [show nI k + 1 = nI (k + 1) from nI_add k 1]; exact vp_in_nI (by omega) (by omega)
  have hv2 : vp_in (nI k + 2) L := by rw [show nI k + 2 = nI (k + 2) from nI_add k 2]; exact vp_in_nI (by omega) (by omega)
  obtain ⟨y0, y1, y2, y3, y4, y5, y6, y7, y8, y9, y10, y11, y12, y13, y14, y15, y16, y17, y18, y19, y20, e1, e2, g0, g1⟩ := pr_counted (xs (Int32.toNatClampNeg (nI k + 1))) (xs (Int32.toNatClampNeg (nI k + 2))) (A := (i 0)) (B := (i 1)) ha hb (ca := (i 25)) (cb := (i 26)) (ka := (i 37)) (kb := (i 38)) (S := (a 8)) (C := (a 9)) (C2 := (a 16)) (H := (b 0)) (U := (b 3)) (D := (b 4)) hCX hCM (i 21) (i 22) (i 23) (i 24) (i 33) (i 34) (i 35) (i 36) (j 0) (j 1)
  refine lv_aload_n hx hb dL_law_659 rfl (lv_at hl 1 rfl) ?_
  refine lv_aload_n hx hb dL_law_660 rfl (lv_at hl 0 rfl) ?_
  refine lv_iload_n hx hb dL_law_661 rfl (lv_at hl 3 rfl) ?_
  refine lv_iconst (v := 1) hx hb dL_law_662 (by decide) ?_
  refine lv_iadd hx hb dL_law_663 ?_
  refine va_sld hx hb hX hbl hbA hS hv1 dL_law_664 ?_
  refine lv_aload_n hx hb dL_law_665 rfl (lv_at hl 0 rfl) ?_
  refine lv_iload_n hx hb dL_law_666 rfl (lv_at hl 3 rfl) ?_
  refine lv_iconst (v := 2) hx hb dL_law_667 (by decide) ?_
  refine lv_iadd hx hb dL_law_668 ?_
  refine va_sld hx hb hX hbl hbA hS hv2 dL_law_669 ?_
  refine u_calli (WW cy u rI rT (upd (upd (upd (upd (upd (upd i 21 y1) 22 y2) 23 y3) 24 y4) 25 y5) 26 y6) i (gup (gup a 8 y7) 9 y8) (gup b 0 y9) j R T) (va_runV (As := [.int (xs (Int32.toNatClampNeg (nI k + 1))), .int (xs (Int32.toNatClampNeg (nI k + 2)))]) (rest := []) ⟨hx, hb, hml, hown, htA⟩ (kX8_counted l G cy (u 0) (u 1) (u 11) (u 21) (u 22) (u 23) (u 27) (u 29) (u 34) (u 2) (u 3) (u 5) (u 7) (u 9) (u 24) (u 25) (u 26) H.size (i 4) (i 0) (i 1) (i 2) (i 3) (i 21) (i 22) (i 23) (i 24) (i 25) (i 26) (a 8) (a 9) (b 0) (xs (Int32.toNatClampNeg (nI k + 1))) (xs (Int32.toNatClampNeg (nI k + 2))) 5000 e1) (u_cwV htA a_ml_L_80 pk_X8_counted ⟨(Nat.le_of_ble_eq_true rfl), (Nat.le_of_ble_eq_true rfl)⟩) (u_preV hK hN hP hD [0, 1, 2, 22, 23, 24, 25, 26] rfl (by decide) 0 rfl rfl) rfl rfl hl.1 rfl (lv_room (Nat.le_of_ble_eq_true rfl)) dL_law_670 ⟨(Nat.le_of_ble_eq_true rfl), (Nat.le_of_ble_eq_true rfl)⟩) hP hD hS hA [0, 1, 2, 22, 23, 24, 25, 26] rfl [3, 4, 5, 6, 7, 8, 9, 10, 11, 12, 13, 14, 15, 16, 17, 18, 19, 20, 21, 27, 28, 29, 30, 31, 32, 33, 34, 35, 36, 37, 38, 39, 40, 41, 42, 43, 44, 45, 46, 47, 48, 49, 50, 51, 52, 53, 54, 55, 56, 57, 58, 59, 60, 61, 62, 63, 64, 65, 66, 67, 68, 69, 70, 71, 72, 73, 74, 75, 76, 77] 78 rfl rfl rfl (by decide) rfl (fun H locs hP hD hS => ?_)
  refine lv_aload_n hx hb dL_law_673 rfl (lv_at hl 2 rfl) ?_
  refine lv_aload_n hx hb dL_law_674 rfl (lv_at hl 0 rfl) ?_
  refine lv_iload_n hx hb dL_law_675 rfl (lv_at hl 3 rfl) ?_
  refine lv_iconst (v := 1) hx hb dL_law_676 (by decide) ?_
  refine lv_iadd hx hb dL_law_677 ?_
  refine va_sld hx hb hX hbl hbA hS hv1 dL_law_678 ?_
  refine lv_aload_n hx hb dL_law_679 rfl (lv_at hl 0 rfl) ?_
  refine lv_iload_n hx hb dL_law_680 rfl (lv_at hl 3 rfl) ?_
  refine lv_iconst (v := 2) hx hb dL_law_681 (by decide) ?_
  refine lv_iadd hx hb dL_law_682 ?_
  refine va_sld hx hb hX hbl hbA hS hv2 dL_law_683 ?_
  refine u_calli (WW cy u rI rT (upd (upd (upd (upd (upd (upd (upd (upd (upd (upd (upd (upd i 21 y1) 22 y2) 23 y3) 24 y4) 25 y5) 26 y6) 33 y10) 34 y11) 35 y12) 36 y13) 37 y14) 38 y15) (upd (upd (upd (upd (upd (upd (upd (upd (upd (upd (upd (upd i 21 y1) 22 y2) 23 y3) 24 y4) 25 y5) 26 y6) 33 y10) 34 y11) 35 y12) 36 y13) 37 y14) 38 y15) (gup (gup (gup a 8 y7) 9 y8) 16 y20) (gup (gup (gup b 0 y9) 3 y18) 4 y19) (vp_updL (vp_updL j 0 y16) 1 y17) R T) (va_runV (As := [.int (xs (Int32.toNatClampNeg (nI k + 1))), .int (xs (Int32.toNatClampNeg (nI k + 2)))]) (rest := [.int y0]) ⟨hx, hb, hml, hown, htA⟩ (kX9_counted l G cy (u 38) (u 39) (u 40) (u 41) (u 42) (u 43) (u 44) (u 45) (u 46) (u 47) (u 48) (u 49) (u 50) (u 51) (u 52) (u 53) (u 54) (u 55) (u 56) (u 57) (u 58) (u 69) (u 70) (u 71) H.size (i 0) (i 1) (i 2) (i 3) (i 33) (i 34) (i 35) (i 36) (i 37) (i 38) (j 0) (j 1) (i 39) (i 40) (i 41) (i 42) (i 43) (i 44) (i 45) (i 46) (i 47) (b 3) (b 4) (a 16) (xs (Int32.toNatClampNeg (nI k + 1))) (xs (Int32.toNatClampNeg (nI k + 2))) 5000 e2) (u_cwV htA a_ml_L_83 pk_X9_counted ⟨(Nat.le_of_ble_eq_true rfl), (Nat.le_of_ble_eq_true rfl)⟩) (u_preV hK hN hP hD [38, 39, 40, 41] rfl (by decide) 38 rfl rfl) rfl rfl hl.1 rfl (lv_room (Nat.le_of_ble_eq_true rfl)) dL_law_684 ⟨(Nat.le_of_ble_eq_true rfl), (Nat.le_of_ble_eq_true rfl)⟩) hP hD hS hA [38, 39, 40, 41] rfl [0, 1, 2, 3, 4, 5, 6, 7, 8, 9, 10, 11, 12, 13, 14, 15, 16, 17, 18, 19, 20, 21, 22, 23, 24, 25, 26, 27, 28, 29, 30, 31, 32, 33, 34, 35, 36, 37, 42, 43, 44, 45, 46, 47, 48, 49, 50, 51, 52, 53, 54, 55, 56, 57, 58, 59, 60, 61, 62, 63, 64, 65, 66, 67, 68, 69, 70, 71, 72, 73, 74, 75, 76, 77] 78 rfl rfl rfl (by decide) rfl (fun H locs hP hD hS => ?_)
  refine lv_icmp_eq (tgt := 1368) hx hb dL_law_687 (by decide) (fun _ => ?_) (fun c_1 => absurd rfl c_1)
  exact kk (upd (upd (upd (upd (upd (upd (upd (upd (upd (upd (upd (upd i 21 y1) 22 y2) 23 y3) 24 y4) 25 y5) 26 y6) 33 y10) 34 y11) 35 y12) 36 y13) 37 y14) 38 y15) (gup (gup (gup a 8 y7) 9 y8) 16 y20) (gup (gup (gup b 0 y9) 3 y18) 4 y19) (vp_updL (vp_updL j 0 y16) 1 y17) R T H locs ⟨ha, hb, hp, hN, hT, hSn, hEv, hBk, hIm, hTp, g0, hCE, g1⟩ hP hD hS
set_option maxRecDepth 100000 in
set_option maxHeartbeats 4000000 in
theorem cl_c (C0 : LC p s m meth c b_ L xs G cy ad av) {k : Nat} (hk : k + 6 ≤ L) (hL : L ≤ 3072) {u rI rT : Nat → Nat} {i : Nat → Int32} {a : Nat → Nat → Int32} {b : Nat → Nat → Int64} {j : Nat → Int64} {R : Nat → Nat → Int32} {T : Nat → Nat → Int64} {H : Heap} {locs : List Loc} (hR : Rel i a b R T) (hP : va_P G vwCl (WW cy u rI rT i i a b j R T) H) (hD : va_D (LA s) (WW cy u rI rT i i a b j R T)) (hS : va_S (LA s) s.heap H locs) {ls : Array Slot} (hl : lv_has ls 4 [(0, .ref b_), (1, .ref (u 0)), (2, .ref (u 38)), (3, .int (nI k))]) (kk : Nx p l e s m below meth c b_ G cy u rI rT ls) : LW p l e s m below meth c b_ H locs (F0 m 692 ls []) := by
  obtain ⟨hx, hb0, hr, hml, hown, htA, hX, hbl, hlocks, hK, hN, hZ⟩ := C0
  have hb : c.code = cL_law := hb0
  obtain ⟨ha, hb, hp, hN, hT, hSn, hEv, hBk, hIm, hTp, hCX, hCE, hCM⟩ := hR
  have hA : ∀ q : Nat, s.heap.size ≤ q → LA s q := fun _ h => h
  have hbA : ¬ LA s b_ := Nat.not_le.mpr hbl
  have hv1 : vp_in (nI k + 1) L := by rw [show nI k + 1 = nI (k + 1) from nI_add k 1]; exact vp_in_nI (by omega) (by omega)
  have hv2 : vp_in (nI k + 2) L := by rw [show nI k + 2 = nI (k + 2) from nI_add k 2]; exact vp_in_nI (by omega) (by omega)
  have hv3 : vp_in (nI k + 3) L := by rw [show nI k + 3 = nI (k + 3) from nI_add k 3]; exact vp_in_nI (by omega) (by omega)
  obtain ⟨y0, y1, y2, y3, y4, y5, y6, y7, y8, y9, y10, y11, y12, y13, y14, y15, y16, y17, y18, y19, y20, e1, e2, g0, g1⟩ := pr_c (xs (Int32.toNatClampNeg (nI k + 1))) (xs (Int32.toNatClampNeg (nI k + 2))) (xs (Int32.toNatClampNeg (nI k + 3))) (A := (i 0)) (B := (i 1)) ha hb (ca := (i 25)) (cb := (i 26)) (ka := (i 37)) (kb := (i 38)) (S := (a 8)) (C := (a 9)) (C2 := (a 16)) (H := (b 0)) (U := (b 3)) (D := (b 4)) hCX hCM (i 21) (i 22) (i 23) (i 24) (i 33) (i 34) (i 35) (i 36) (j 0) (j 1)
  refine lv_aload_n hx hb dL_law_692 rfl (lv_at hl 1 rfl) ?_
  refine lv_aload_n hx hb dL_law_693 rfl (lv_at hl 0 rfl) ?_
  refine lv_iload_n hx hb dL_law_694 rfl (lv_at hl 3 rfl) ?_
  refine lv_iconst (v := 1) hx hb dL_law_695 (by decide) ?_
  refine lv_iadd hx hb dL_law_696 ?_
  refine va_sld hx hb hX hbl hbA hS hv1 dL_law_697 ?_
  refine lv_aload_n hx hb dL_law_698 rfl (lv_at hl 0 rfl) ?_
  refine lv_iload_n hx hb dL_law_699 rfl (lv_at hl 3 rfl) ?_
  refine lv_iconst (v := 2) hx hb dL_law_700 (by decide) ?_
  refine lv_iadd hx hb dL_law_701 ?_
  refine va_sld hx hb hX hbl hbA hS hv2 dL_law_702 ?_
  refine lv_aload_n hx hb dL_law_703 rfl (lv_at hl 0 rfl) ?_
  refine lv_iload_n hx hb dL_law_704 rfl (lv_at hl 3 rfl) ?_
  refine lv_iconst (v := 3) hx hb dL_law_705 (by decide) ?_
  refine lv_iadd hx hb dL_law_706 ?_
  refine va_sld hx hb hX hbl hbA hS hv3 dL_law_707 ?_
  refine u_calll (WW cy u rI rT (upd (upd (upd (upd (upd (upd i 21 y1) 22 y2) 23 y3) 24 y4) 25 y5) 26 y6) i (gup (gup a 8 y7) 9 y8) (gup b 0 y9) j R T) (va_runV (As := [.int (xs (Int32.toNatClampNeg (nI k + 1))), .int (xs (Int32.toNatClampNeg (nI k + 2))), .int (xs (Int32.toNatClampNeg (nI k + 3)))]) (rest := []) ⟨hx, hb, hml, hown, htA⟩ (kX8_c l G cy (u 0) (u 1) (u 11) (u 21) (u 22) (u 23) (u 27) (u 29) (u 34) (u 2) (u 3) (u 5) (u 7) (u 9) (u 24) (u 25) (u 26) H.size (i 4) (i 0) (i 1) (i 2) (i 3) (i 21) (i 22) (i 23) (i 24) (i 25) (i 26) (a 8) (a 9) (b 0) (xs (Int32.toNatClampNeg (nI k + 1))) (xs (Int32.toNatClampNeg (nI k + 2))) (xs (Int32.toNatClampNeg (nI k + 3))) 5000 e1) (u_cwV htA a_ml_L_84 pk_X8_c ⟨(Nat.le_of_ble_eq_true rfl), (Nat.le_of_ble_eq_true rfl)⟩) (u_preV hK hN hP hD [0, 1, 2, 22, 23, 24, 25, 26] rfl (by decide) 0 rfl rfl) rfl rfl hl.1 rfl (lv_room (Nat.le_of_ble_eq_true rfl)) dL_law_708 ⟨(Nat.le_of_ble_eq_true rfl), (Nat.le_of_ble_eq_true rfl)⟩) hP hD hS hA [0, 1, 2, 22, 23, 24, 25, 26] rfl [3, 4, 5, 6, 7, 8, 9, 10, 11, 12, 13, 14, 15, 16, 17, 18, 19, 20, 21, 27, 28, 29, 30, 31, 32, 33, 34, 35, 36, 37, 38, 39, 40, 41, 42, 43, 44, 45, 46, 47, 48, 49, 50, 51, 52, 53, 54, 55, 56, 57, 58, 59, 60, 61, 62, 63, 64, 65, 66, 67, 68, 69, 70, 71, 72, 73, 74, 75, 76, 77] 78 rfl rfl rfl (by decide) rfl (fun H locs hP hD hS => ?_)
  refine lv_aload_n hx hb dL_law_711 rfl (lv_at hl 2 rfl) ?_
  refine lv_aload_n hx hb dL_law_712 rfl (lv_at hl 0 rfl) ?_
  refine lv_iload_n hx hb dL_law_713 rfl (lv_at hl 3 rfl) ?_
  refine lv_iconst (v := 1) hx hb dL_law_714 (by decide) ?_
  refine lv_iadd hx hb dL_law_715 ?_
  refine va_sld hx hb hX hbl hbA hS hv1 dL_law_716 ?_
  refine lv_aload_n hx hb dL_law_717 rfl (lv_at hl 0 rfl) ?_
  refine lv_iload_n hx hb dL_law_718 rfl (lv_at hl 3 rfl) ?_
  refine lv_iconst (v := 2) hx hb dL_law_719 (by decide) ?_
  refine lv_iadd hx hb dL_law_720 ?_
  refine va_sld hx hb hX hbl hbA hS hv2 dL_law_721 ?_
  refine lv_aload_n hx hb dL_law_722 rfl (lv_at hl 0 rfl) ?_
  refine lv_iload_n hx hb dL_law_723 rfl (lv_at hl 3 rfl) ?_
  refine lv_iconst (v := 3) hx hb dL_law_724 (by decide) ?_
  refine lv_iadd hx hb dL_law_725 ?_
  refine va_sld hx hb hX hbl hbA hS hv3 dL_law_726 ?_
  refine u_calll (WW cy u rI rT (upd (upd (upd (upd (upd (upd (upd (upd (upd (upd (upd (upd i 21 y1) 22 y2) 23 y3) 24 y4) 25 y5) 26 y6) 33 y10) 34 y11) 35 y12) 36 y13) 37 y14) 38 y15) (upd (upd (upd (upd (upd (upd (upd (upd (upd (upd (upd (upd i 21 y1) 22 y2) 23 y3) 24 y4) 25 y5) 26 y6) 33 y10) 34 y11) 35 y12) 36 y13) 37 y14) 38 y15) (gup (gup (gup a 8 y7) 9 y8) 16 y20) (gup (gup (gup b 0 y9) 3 y18) 4 y19) (vp_updL (vp_updL j 0 y16) 1 y17) R T) (va_runV (As := [.int (xs (Int32.toNatClampNeg (nI k + 1))), .int (xs (Int32.toNatClampNeg (nI k + 2))), .int (xs (Int32.toNatClampNeg (nI k + 3)))]) (rest := [.long y0]) ⟨hx, hb, hml, hown, htA⟩ (kX9_c l G cy (u 38) (u 39) (u 40) (u 41) (u 42) (u 43) (u 44) (u 45) (u 46) (u 47) (u 48) (u 49) (u 50) (u 51) (u 52) (u 53) (u 54) (u 55) (u 56) (u 57) (u 58) (u 69) (u 70) (u 71) H.size (i 0) (i 1) (i 2) (i 3) (i 33) (i 34) (i 35) (i 36) (i 37) (i 38) (j 0) (j 1) (i 39) (i 40) (i 41) (i 42) (i 43) (i 44) (i 45) (i 46) (i 47) (b 3) (b 4) (a 16) (xs (Int32.toNatClampNeg (nI k + 1))) (xs (Int32.toNatClampNeg (nI k + 2))) (xs (Int32.toNatClampNeg (nI k + 3))) 5000 e2) (u_cwV htA a_ml_L_88 pk_X9_c ⟨(Nat.le_of_ble_eq_true rfl), (Nat.le_of_ble_eq_true rfl)⟩) (u_preV hK hN hP hD [38, 39, 40, 41] rfl (by decide) 38 rfl rfl) rfl rfl hl.1 rfl (lv_room (Nat.le_of_ble_eq_true rfl)) dL_law_727 ⟨(Nat.le_of_ble_eq_true rfl), (Nat.le_of_ble_eq_true rfl)⟩) hP hD hS hA [38, 39, 40, 41] rfl [0, 1, 2, 3, 4, 5, 6, 7, 8, 9, 10, 11, 12, 13, 14, 15, 16, 17, 18, 19, 20, 21, 22, 23, 24, 25, 26, 27, 28, 29, 30, 31, 32, 33, 34, 35, 36, 37, 42, 43, 44, 45, 46, 47, 48, 49, 50, 51, 52, 53, 54, 55, 56, 57, 58, 59, 60, 61, 62, 63, 64, 65, 66, 67, 68, 69, 70, 71, 72, 73, 74, 75, 76, 77] 78 rfl rfl rfl (by decide) rfl (fun H locs hP hD hS => ?_)
  refine W.lcmp hx hb dL_law_730 ?_
  refine lv_if_eq (tgt := 1368) hx hb dL_law_731 (by decide) (fun _ => ?_) (fun c_1 => absurd ((lg_eq _ _).mpr rfl) c_1)
  exact kk (upd (upd (upd (upd (upd (upd (upd (upd (upd (upd (upd (upd i 21 y1) 22 y2) 23 y3) 24 y4) 25 y5) 26 y6) 33 y10) 34 y11) 35 y12) 36 y13) 37 y14) 38 y15) (gup (gup (gup a 8 y7) 9 y8) 16 y20) (gup (gup (gup b 0 y9) 3 y18) 4 y19) (vp_updL (vp_updL j 0 y16) 1 y17) R T H locs ⟨ha, hb, hp, hN, hT, hSn, hEv, hBk, hIm, hTp, g0, hCE, g1⟩ hP hD hS
set_option maxRecDepth 100000 in
set_option maxHeartbeats 4000000 in
theorem cl_level (C0 : LC p s m meth c b_ L xs G cy ad av) {k : Nat} (hk : k + 6 ≤ L) (hL : L ≤ 3072) {u rI rT : Nat → Nat} {i : Nat → Int32} {a : Nat → Nat → Int32} {b : Nat → Nat → Int64} {j : Nat → Int64} {R : Nat → Nat → Int32} {T : Nat → Nat → Int64} {H : Heap} {locs : List Loc} (hR : Rel i a b R T) (hP : va_P G vwCl (WW cy u rI rT i i a b j R T) H) (hD : va_D (LA s) (WW cy u rI rT i i a b j R T)) (hS : va_S (LA s) s.heap H locs) {ls : Array Slot} (hl : lv_has ls 4 [(0, .ref b_), (1, .ref (u 0)), (2, .ref (u 38)), (3, .int (nI k))]) (kk : Nx p l e s m below meth c b_ G cy u rI rT ls) : LW p l e s m below meth c b_ H locs (F0 m 736 ls []) := by
  obtain ⟨hx, hb0, hr, hml, hown, htA, hX, hbl, hlocks, hK, hN, hZ⟩ := C0
  have hb : c.code = cL_law := hb0
  obtain ⟨ha, hb, hp, hN, hT, hSn, hEv, hBk, hIm, hTp, hCX, hCE, hCM⟩ := hR
  have hA : ∀ q : Nat, s.heap.size ≤ q → LA s q := fun _ h => h
  have hbA : ¬ LA s b_ := Nat.not_le.mpr hbl
  have hv1 : vp_in (nI k + 1) L := by rw [show nI k + 1 = nI (k + 1) from nI_add k 1]; exact vp_in_nI (by omega) (by omega)
  have hv2 : vp_in (nI k + 2) L := by rw [show nI k + 2 = nI (k + 2) from nI_add k 2]; exact vp_in_nI (by omega) (by omega)
  obtain ⟨y0, y1, y2, y3, y4, y5, y6, y7, y8, y9, y10, y11, y12, y13, y14, y15, y16, y17, y18, y19, y20, e1, e2, g0, g1⟩ := pr_level (xs (Int32.toNatClampNeg (nI k + 1))) (xs (Int32.toNatClampNeg (nI k + 2))) (A := (i 0)) (B := (i 1)) ha hb (ca := (i 25)) (cb := (i 26)) (ka := (i 37)) (kb := (i 38)) (S := (a 8)) (C := (a 9)) (C2 := (a 16)) (H := (b 0)) (U := (b 3)) (D := (b 4)) hCX hCM (i 21) (i 22) (i 23) (i 24) (i 33) (i 34) (i 35) (i 36) (j 0) (j 1)
  refine lv_aload_n hx hb dL_law_736 rfl (lv_at hl 1 rfl) ?_
  refine lv_aload_n hx hb dL_law_737 rfl (lv_at hl 0 rfl) ?_
  refine lv_iload_n hx hb dL_law_738 rfl (lv_at hl 3 rfl) ?_
  refine lv_iconst (v := 1) hx hb dL_law_739 (by decide) ?_
  refine lv_iadd hx hb dL_law_740 ?_
  refine va_sld hx hb hX hbl hbA hS hv1 dL_law_741 ?_
  refine lv_aload_n hx hb dL_law_742 rfl (lv_at hl 0 rfl) ?_
  refine lv_iload_n hx hb dL_law_743 rfl (lv_at hl 3 rfl) ?_
  refine lv_iconst (v := 2) hx hb dL_law_744 (by decide) ?_
  refine lv_iadd hx hb dL_law_745 ?_
  refine va_sld hx hb hX hbl hbA hS hv2 dL_law_746 ?_
  refine u_calli (WW cy u rI rT (upd (upd (upd (upd (upd (upd i 21 y1) 22 y2) 23 y3) 24 y4) 25 y5) 26 y6) i (gup (gup a 8 y7) 9 y8) (gup b 0 y9) j R T) (va_runV (As := [.int (xs (Int32.toNatClampNeg (nI k + 1))), .int (xs (Int32.toNatClampNeg (nI k + 2)))]) (rest := []) ⟨hx, hb, hml, hown, htA⟩ (kX8_level l G cy (u 0) (u 1) (u 11) (u 21) (u 22) (u 23) (u 27) (u 29) (u 34) (u 2) (u 3) (u 5) (u 7) (u 9) (u 24) (u 25) (u 26) H.size (i 4) (i 0) (i 1) (i 2) (i 3) (i 21) (i 22) (i 23) (i 24) (i 25) (i 26) (a 8) (a 9) (b 0) (xs (Int32.toNatClampNeg (nI k + 1))) (xs (Int32.toNatClampNeg (nI k + 2))) 5000 e1) (u_cwV htA a_ml_L_89 pk_X8_level ⟨(Nat.le_of_ble_eq_true rfl), (Nat.le_of_ble_eq_true rfl)⟩) (u_preV hK hN hP hD [0, 1, 2, 22, 23, 24, 25, 26] rfl (by decide) 0 rfl rfl) rfl rfl hl.1 rfl (lv_room (Nat.le_of_ble_eq_true rfl)) dL_law_747 ⟨(Nat.le_of_ble_eq_true rfl), (Nat.le_of_ble_eq_true rfl)⟩) hP hD hS hA [0, 1, 2, 22, 23, 24, 25, 26] rfl [3, 4, 5, 6, 7, 8, 9, 10, 11, 12, 13, 14, 15, 16, 17, 18, 19, 20, 21, 27, 28, 29, 30, 31, 32, 33, 34, 35, 36, 37, 38, 39, 40, 41, 42, 43, 44, 45, 46, 47, 48, 49, 50, 51, 52, 53, 54, 55, 56, 57, 58, 59, 60, 61, 62, 63, 64, 65, 66, 67, 68, 69, 70, 71, 72, 73, 74, 75, 76, 77] 78 rfl rfl rfl (by decide) rfl (fun H locs hP hD hS => ?_)
  refine lv_aload_n hx hb dL_law_750 rfl (lv_at hl 2 rfl) ?_
  refine lv_aload_n hx hb dL_law_751 rfl (lv_at hl 0 rfl) ?_
  refine lv_iload_n hx hb dL_law_752 rfl (lv_at hl 3 rfl) ?_
  refine lv_iconst (v := 1) hx hb dL_law_753 (by decide) ?_
  refine lv_iadd hx hb dL_law_754 ?_
  refine va_sld hx hb hX hbl hbA hS hv1 dL_law_755 ?_
  refine lv_aload_n hx hb dL_law_756 rfl (lv_at hl 0 rfl) ?_
  refine lv_iload_n hx hb dL_law_757 rfl (lv_at hl 3 rfl) ?_
  refine lv_iconst (v := 2) hx hb dL_law_758 (by decide) ?_
  refine lv_iadd hx hb dL_law_759 ?_
  refine va_sld hx hb hX hbl hbA hS hv2 dL_law_760 ?_
  refine u_calli (WW cy u rI rT (upd (upd (upd (upd (upd (upd (upd (upd (upd (upd (upd (upd i 21 y1) 22 y2) 23 y3) 24 y4) 25 y5) 26 y6) 33 y10) 34 y11) 35 y12) 36 y13) 37 y14) 38 y15) (upd (upd (upd (upd (upd (upd (upd (upd (upd (upd (upd (upd i 21 y1) 22 y2) 23 y3) 24 y4) 25 y5) 26 y6) 33 y10) 34 y11) 35 y12) 36 y13) 37 y14) 38 y15) (gup (gup (gup a 8 y7) 9 y8) 16 y20) (gup (gup (gup b 0 y9) 3 y18) 4 y19) (vp_updL (vp_updL j 0 y16) 1 y17) R T) (va_runV (As := [.int (xs (Int32.toNatClampNeg (nI k + 1))), .int (xs (Int32.toNatClampNeg (nI k + 2)))]) (rest := [.int y0]) ⟨hx, hb, hml, hown, htA⟩ (kX9_level l G cy (u 38) (u 39) (u 40) (u 41) (u 42) (u 43) (u 44) (u 45) (u 46) (u 47) (u 48) (u 49) (u 50) (u 51) (u 52) (u 53) (u 54) (u 55) (u 56) (u 57) (u 58) (u 69) (u 70) (u 71) H.size (i 0) (i 1) (i 2) (i 3) (i 33) (i 34) (i 35) (i 36) (i 37) (i 38) (j 0) (j 1) (i 39) (i 40) (i 41) (i 42) (i 43) (i 44) (i 45) (i 46) (i 47) (b 3) (b 4) (a 16) (xs (Int32.toNatClampNeg (nI k + 1))) (xs (Int32.toNatClampNeg (nI k + 2))) 5000 e2) (u_cwV htA a_ml_L_92 pk_X9_level ⟨(Nat.le_of_ble_eq_true rfl), (Nat.le_of_ble_eq_true rfl)⟩) (u_preV hK hN hP hD [38, 39, 40, 41] rfl (by decide) 38 rfl rfl) rfl rfl hl.1 rfl (lv_room (Nat.le_of_ble_eq_true rfl)) dL_law_761 ⟨(Nat.le_of_ble_eq_true rfl), (Nat.le_of_ble_eq_true rfl)⟩) hP hD hS hA [38, 39, 40, 41] rfl [0, 1, 2, 3, 4, 5, 6, 7, 8, 9, 10, 11, 12, 13, 14, 15, 16, 17, 18, 19, 20, 21, 22, 23, 24, 25, 26, 27, 28, 29, 30, 31, 32, 33, 34, 35, 36, 37, 42, 43, 44, 45, 46, 47, 48, 49, 50, 51, 52, 53, 54, 55, 56, 57, 58, 59, 60, 61, 62, 63, 64, 65, 66, 67, 68, 69, 70, 71, 72, 73, 74, 75, 76, 77] 78 rfl rfl rfl (by decide) rfl (fun H locs hP hD hS => ?_)
  refine lv_icmp_eq (tgt := 1368) hx hb dL_law_764 (by decide) (fun _ => ?_) (fun c_1 => absurd rfl c_1)
  exact kk (upd (upd (upd (upd (upd (upd (upd (upd (upd (upd (upd (upd i 21 y1) 22 y2) 23 y3) 24 y4) 25 y5) 26 y6) 33 y10) 34 y11) 35 y12) 36 y13) 37 y14) 38 y15) (gup (gup (gup a 8 y7) 9 y8) 16 y20) (gup (gup (gup b 0 y9) 3 y18) 4 y19) (vp_updL (vp_updL j 0 y16) 1 y17) R T H locs ⟨ha, hb, hp, hN, hT, hSn, hEv, hBk, hIm, hTp, g0, hCE, g1⟩ hP hD hS
end
