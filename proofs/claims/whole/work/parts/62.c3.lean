section
variable {p : Program} {l : Launch} {e : Env} {s : State} {m : MethodId} {below : List Frame} {meth : Method} {c : Code} {b_ L : Nat} {xs : Nat → Int32} {G : va_G} {cy : Nat → ClassId} {ad av : Nat → Nat}
set_option maxRecDepth 100000 in
set_option maxHeartbeats 4000000 in
theorem cl_made (C0 : LC p s m meth c b_ L xs G cy ad av) {k : Nat} (hk : k + 6 ≤ L) (hL : L ≤ 3072) {u rI rT : Nat → Nat} {i : Nat → Int32} {a : Nat → Nat → Int32} {b : Nat → Nat → Int64} {j : Nat → Int64} {R : Nat → Nat → Int32} {T : Nat → Nat → Int64} {H : Heap} {locs : List Loc} (hR : Rel i a b R T) (hP : va_P G vwCl (WW cy u rI rT i i a b j R T) H) (hD : va_D (LA s) (WW cy u rI rT i i a b j R T)) (hS : va_S (LA s) s.heap H locs) {ls : Array Slot} (hl : lv_has ls 4 [(0, .ref b_), (1, .ref (u 0)), (2, .ref (u 38)), (3, .int (nI k))]) (kk : Nx p l e s m below meth c b_ G cy u rI rT ls) : LW p l e s m below meth c b_ H locs (F0 m 769 ls []) := by
  obtain ⟨hx, hb0, hr, hml, hown, htA, hX, hbl, hlocks, hK, hN, hZ⟩ := C0
  have hb : c.code = cL_law := hb0
  obtain ⟨ha, hb, hp, hN, hT, hSn, hEv, hBk, hIm, hTp, hCX, hCE, hCM⟩ := hR
  have hA : ∀ q : Nat, s.heap.size ≤ q → LA s q := fun _ h => h
  have hbA : ¬ LA s b_ := Nat.not_le.mpr hbl
  have hv1 : vp_in (nI k + 1) L := by rw [show nI k + 1 = nI (k + 1) from nI_add k 1]; exact vp_in_nI (by omega) (by omega)
  have hv2 : vp_in (nI k + 2) L := by rw [show nI k + 2 = nI (k + 2) from nI_add k 2]; exact vp_in_nI (by omega) (by omega)
  obtain ⟨y0, y1, y2, y3, y4, y5, y6, y7, y8, y9, y10, y11, y12, y13, y14, y15, y16, y17, y18, y19, y20, y21, y22, y23, y24, e1, e2, g0, g1, g2⟩ := pr_made (xs (Int32.toNatClampNeg (nI k + 1))) (xs (Int32.toNatClampNeg (nI k + 2))) (A := (i 0)) (B := (i 1)) ha hb (ca := (i 25)) (cb := (i 26)) (ka := (i 37)) (kb := (i 38)) (ea := (i 27)) (eb := (i 28)) (S := (a 8)) (C := (a 9)) (C2 := (a 16)) (H := (b 0)) (U := (b 3)) (D := (b 4)) (E := (b 1)) hCX hCE hCM (i 21) (i 22) (i 23) (i 24) (i 33) (i 34) (i 35) (i 36) (j 0) (j 1) (b 5)
  refine lv_aload_n hx hb dL_law_769 rfl (lv_at hl 1 rfl) ?_
  refine lv_aload_n hx hb dL_law_770 rfl (lv_at hl 0 rfl) ?_
  refine lv_iload_n hx hb dL_law_771 rfl (lv_at hl 3 rfl) ?_
  refine lv_iconst (v := 1) hx hb dL_law_772 (by decide) ?_
  refine lv_iadd hx hb dL_law_773 ?_
  refine va_sld hx hb hX hbl hbA hS hv1 dL_law_774 ?_
  refine lv_aload_n hx hb dL_law_775 rfl (lv_at hl 0 rfl) ?_
  refine lv_iload_n hx hb dL_law_776 rfl (lv_at hl 3 rfl) ?_
  refine lv_iconst (v := 2) hx hb dL_law_777 (by decide) ?_
  refine lv_iadd hx hb dL_law_778 ?_
  refine va_sld hx hb hX hbl hbA hS hv2 dL_law_779 ?_
  refine u_calll (WW cy u rI rT (upd (upd (upd (upd (upd (upd (upd (upd i 21 y1) 22 y2) 23 y3) 24 y4) 25 y5) 26 y6) 27 y10) 28 y11) i (gup (gup a 8 y7) 9 y8) (gup (gup b 0 y9) 1 y12) j R T) (va_runV (As := [.int (xs (Int32.toNatClampNeg (nI k + 1))), .int (xs (Int32.toNatClampNeg (nI k + 2)))]) (rest := []) ⟨hx, hb, hml, hown, htA⟩ (kX8_made l G cy (u 0) (u 1) (u 11) (u 21) (u 22) (u 23) (u 27) (u 29) (u 34) (u 2) (u 3) (u 5) (u 7) (u 9) (u 24) (u 25) (u 26) (u 28) H.size (i 4) (i 0) (i 1) (i 2) (i 3) (i 21) (i 22) (i 23) (i 24) (i 25) (i 26) (a 8) (a 9) (b 0) (i 27) (i 28) (b 1) (xs (Int32.toNatClampNeg (nI k + 1))) (xs (Int32.toNatClampNeg (nI k + 2))) 5000 e1) (u_cwV htA a_ml_L_93 pk_X8_made ⟨(Nat.le_of_ble_eq_true rfl), (Nat.le_of_ble_eq_true rfl)⟩) (u_preV hK hN hP hD [0, 1, 2, 22, 23, 24, 25, 26, 27, 28] rfl (by decide) 0 rfl rfl) rfl rfl hl.1 rfl (lv_room (Nat.le_of_ble_eq_true rfl)) dL_law_780 ⟨(Nat.le_of_ble_eq_true rfl), (Nat.le_of_ble_eq_true rfl)⟩) hP hD hS hA [0, 1, 2, 22, 23, 24, 25, 26, 27, 28] rfl [3, 4, 5, 6, 7, 8, 9, 10, 11, 12, 13, 14, 15, 16, 17, 18, 19, 20, 21, 29, 30, 31, 32, 33, 34, 35, 36, 37, 38, 39, 40, 41, 42, 43, 44, 45, 46, 47, 48, 49, 50, 51, 52, 53, 54, 55, 56, 57, 58, 59, 60, 61, 62, 63, 64, 65, 66, 67, 68, 69, 70, 71, 72, 73, 74, 75, 76, 77] 78 rfl rfl rfl (by decide) rfl (fun H locs hP hD hS => ?_)
  refine lv_aload_n hx hb dL_law_783 rfl (lv_at hl 2 rfl) ?_
  refine lv_aload_n hx hb dL_law_784 rfl (lv_at hl 0 rfl) ?_
  refine lv_iload_n hx hb dL_law_785 rfl (lv_at hl 3 rfl) ?_
  refine lv_iconst (v := 1) hx hb dL_law_786 (by decide) ?_
  refine lv_iadd hx hb dL_law_787 ?_
  refine va_sld hx hb hX hbl hbA hS hv1 dL_law_788 ?_
  refine lv_aload_n hx hb dL_law_789 rfl (lv_at hl 0 rfl) ?_
  refine lv_iload_n hx hb dL_law_790 rfl (lv_at hl 3 rfl) ?_
  refine lv_iconst (v := 2) hx hb dL_law_791 (by decide) ?_
  refine lv_iadd hx hb dL_law_792 ?_
  refine va_sld hx hb hX hbl hbA hS hv2 dL_law_793 ?_
  refine u_calll (WW cy u rI rT (upd (upd (upd (upd (upd (upd (upd (upd (upd (upd (upd (upd (upd (upd i 21 y1) 22 y2) 23 y3) 24 y4) 25 y5) 26 y6) 27 y10) 28 y11) 33 y13) 34 y14) 35 y15) 36 y16) 37 y17) 38 y18) (upd (upd (upd (upd (upd (upd (upd (upd (upd (upd (upd (upd (upd (upd i 21 y1) 22 y2) 23 y3) 24 y4) 25 y5) 26 y6) 27 y10) 28 y11) 33 y13) 34 y14) 35 y15) 36 y16) 37 y17) 38 y18) (gup (gup (gup a 8 y7) 9 y8) 16 y23) (gup (gup (gup (gup (gup b 0 y9) 1 y12) 3 y21) 4 y22) 5 y24) (vp_updL (vp_updL j 0 y19) 1 y20) R T) (va_runV (As := [.int (xs (Int32.toNatClampNeg (nI k + 1))), .int (xs (Int32.toNatClampNeg (nI k + 2)))]) (rest := [.long y0]) ⟨hx, hb, hml, hown, htA⟩ (kX9_made l G cy (u 38) (u 39) (u 40) (u 41) (u 42) (u 43) (u 44) (u 45) (u 46) (u 47) (u 48) (u 49) (u 50) (u 51) (u 52) (u 53) (u 54) (u 55) (u 56) (u 57) (u 58) (u 69) (u 70) (u 71) H.size (i 0) (i 1) (i 2) (i 3) (i 33) (i 34) (i 35) (i 36) (i 37) (i 38) (j 0) (j 1) (i 39) (i 40) (i 41) (i 42) (i 43) (i 44) (i 45) (i 46) (i 47) (b 3) (b 4) (a 16) (b 5) (xs (Int32.toNatClampNeg (nI k + 1))) (xs (Int32.toNatClampNeg (nI k + 2))) 5000 e2) (u_cwV htA a_ml_L_96 pk_X9_made ⟨(Nat.le_of_ble_eq_true rfl), (Nat.le_of_ble_eq_true rfl)⟩) (u_preV hK hN hP hD [38, 39, 40, 41, 48] rfl (by decide) 38 rfl rfl) rfl rfl hl.1 rfl (lv_room (Nat.le_of_ble_eq_true rfl)) dL_law_794 ⟨(Nat.le_of_ble_eq_true rfl), (Nat.le_of_ble_eq_true rfl)⟩) hP hD hS hA [38, 39, 40, 41, 48] rfl [0, 1, 2, 3, 4, 5, 6, 7, 8, 9, 10, 11, 12, 13, 14, 15, 16, 17, 18, 19, 20, 21, 22, 23, 24, 25, 26, 27, 28, 29, 30, 31, 32, 33, 34, 35, 36, 37, 42, 43, 44, 45, 46, 47, 49, 50, 51, 52, 53, 54, 55, 56, 57, 58, 59, 60, 61, 62, 63, 64, 65, 66, 67, 68, 69, 70, 71, 72, 73, 74, 75, 76, 77] 78 rfl rfl rfl (by decide) rfl (fun H locs hP hD hS => ?_)
  refine W.lcmp hx hb dL_law_797 ?_
  refine lv_if_eq (tgt := 1368) hx hb dL_law_798 (by decide) (fun _ => ?_) (fun c_1 => absurd ((lg_eq _ _).mpr rfl) c_1)
  exact kk (upd (upd (upd (upd (upd (upd (upd (upd (upd (upd (upd (upd (upd (upd i 21 y1) 22 y2) 23 y3) 24 y4) 25 y5) 26 y6) 27 y10) 28 y11) 33 y13) 34 y14) 35 y15) 36 y16) 37 y17) 38 y18) (gup (gup (gup a 8 y7) 9 y8) 16 y23) (gup (gup (gup (gup (gup b 0 y9) 1 y12) 3 y21) 4 y22) 5 y24) (vp_updL (vp_updL j 0 y19) 1 y20) R T H locs ⟨ha, hb, hp, hN, hT, hSn, hEv, hBk, hIm, hTp, g0, g1, g2⟩ hP hD hS
set_option maxRecDepth 100000 in
set_option maxHeartbeats 4000000 in
theorem cl_signed (C0 : LC p s m meth c b_ L xs G cy ad av) {k : Nat} (hk : k + 6 ≤ L) (hL : L ≤ 3072) {u rI rT : Nat → Nat} {i : Nat → Int32} {a : Nat → Nat → Int32} {b : Nat → Nat → Int64} {j : Nat → Int64} {R : Nat → Nat → Int32} {T : Nat → Nat → Int64} {H : Heap} {locs : List Loc} (hR : Rel i a b R T) (hP : va_P G vwCl (WW cy u rI rT i i a b j R T) H) (hD : va_D (LA s) (WW cy u rI rT i i a b j R T)) (hS : va_S (LA s) s.heap H locs) {ls : Array Slot} (hl : lv_has ls 4 [(0, .ref b_), (1, .ref (u 0)), (2, .ref (u 38)), (3, .int (nI k))]) (kk : Nx p l e s m below meth c b_ G cy u rI rT ls) : LW p l e s m below meth c b_ H locs (F0 m 803 ls []) := by
  obtain ⟨hx, hb0, hr, hml, hown, htA, hX, hbl, hlocks, hK, hN, hZ⟩ := C0
  have hb : c.code = cL_law := hb0
  obtain ⟨ha, hb, hp, hN, hT, hSn, hEv, hBk, hIm, hTp, hCX, hCE, hCM⟩ := hR
  have hA : ∀ q : Nat, s.heap.size ≤ q → LA s q := fun _ h => h
  have hbA : ¬ LA s b_ := Nat.not_le.mpr hbl
  have hv1 : vp_in (nI k + 1) L := by rw [show nI k + 1 = nI (k + 1) from nI_add k 1]; exact vp_in_nI (by omega) (by omega)
  have hv2 : vp_in (nI k + 2) L := by rw [show nI k + 2 = nI (k + 2) from nI_add k 2]; exact vp_in_nI (by omega) (by omega)
  obtain ⟨y0, e1, e2⟩ := pr_signed (xs (Int32.toNatClampNeg (nI k + 1))) (xs (Int32.toNatClampNeg (nI k + 2))) (a := (i 0)) (b := (i 1)) ha hb
  refine lv_aload_n hx hb dL_law_803 rfl (lv_at hl 1 rfl) ?_
  refine lv_aload_n hx hb dL_law_804 rfl (lv_at hl 0 rfl) ?_
  refine lv_iload_n hx hb dL_law_805 rfl (lv_at hl 3 rfl) ?_
  refine lv_iconst (v := 1) hx hb dL_law_806 (by decide) ?_
  refine lv_iadd hx hb dL_law_807 ?_
  refine va_sld hx hb hX hbl hbA hS hv1 dL_law_808 ?_
  refine lv_aload_n hx hb dL_law_809 rfl (lv_at hl 0 rfl) ?_
  refine lv_iload_n hx hb dL_law_810 rfl (lv_at hl 3 rfl) ?_
  refine lv_iconst (v := 2) hx hb dL_law_811 (by decide) ?_
  refine lv_iadd hx hb dL_law_812 ?_
  refine va_sld hx hb hX hbl hbA hS hv2 dL_law_813 ?_
  refine u_calli (WW cy u rI rT i i a b j R T) (va_runV (As := [.int (xs (Int32.toNatClampNeg (nI k + 1))), .int (xs (Int32.toNatClampNeg (nI k + 2)))]) (rest := []) ⟨hx, hb, hml, hown, htA⟩ (kX8_signed l G cy (u 0) (u 1) (u 11) (u 21) (u 22) (u 23) (u 27) (u 29) (u 34) (u 2) (u 3) (u 5) (u 7) (u 9) H.size (i 4) (i 0) (i 1) (i 2) (i 3) (xs (Int32.toNatClampNeg (nI k + 1))) (xs (Int32.toNatClampNeg (nI k + 2))) 5000 e1) (u_cwV htA a_ml_L_97 pk_X8_signed ⟨(Nat.le_of_ble_eq_true rfl), (Nat.le_of_ble_eq_true rfl)⟩) (u_preV hK hN hP hD [0, 1, 2] rfl (by decide) 0 rfl rfl) rfl rfl hl.1 rfl (lv_room (Nat.le_of_ble_eq_true rfl)) dL_law_814 ⟨(Nat.le_of_ble_eq_true rfl), (Nat.le_of_ble_eq_true rfl)⟩) hP hD hS hA [0, 1, 2] rfl [3, 4, 5, 6, 7, 8, 9, 10, 11, 12, 13, 14, 15, 16, 17, 18, 19, 20, 21, 22, 23, 24, 25, 26, 27, 28, 29, 30, 31, 32, 33, 34, 35, 36, 37, 38, 39, 40, 41, 42, 43, 44, 45, 46, 47, 48, 49, 50, 51, 52, 53, 54, 55, 56, 57, 58, 59, 60, 61, 62, 63, 64, 65, 66, 67, 68, 69, 70, 71, 72, 73, 74, 75, 76, 77] 78 rfl rfl rfl (by decide) rfl (fun H locs hP hD hS => ?_)
  refine lv_aload_n hx hb dL_law_817 rfl (lv_at hl 2 rfl) ?_
  refine lv_aload_n hx hb dL_law_818 rfl (lv_at hl 0 rfl) ?_
  refine lv_iload_n hx hb dL_law_819 rfl (lv_at hl 3 rfl) ?_
  refine lv_iconst (v := 1) hx hb dL_law_820 (by decide) ?_
  refine lv_iadd hx hb dL_law_821 ?_
  refine va_sld hx hb hX hbl hbA hS hv1 dL_law_822 ?_
  refine lv_aload_n hx hb dL_law_823 rfl (lv_at hl 0 rfl) ?_
  refine lv_iload_n hx hb dL_law_824 rfl (lv_at hl 3 rfl) ?_
  refine lv_iconst (v := 2) hx hb dL_law_825 (by decide) ?_
  refine lv_iadd hx hb dL_law_826 ?_
  refine va_sld hx hb hX hbl hbA hS hv2 dL_law_827 ?_
  refine u_calli (WW cy u rI rT i i a b j R T) (va_runV (As := [.int (xs (Int32.toNatClampNeg (nI k + 1))), .int (xs (Int32.toNatClampNeg (nI k + 2)))]) (rest := [.int y0]) ⟨hx, hb, hml, hown, htA⟩ (kX9_signed l G cy (u 38) (u 39) (u 40) (u 41) (u 42) (u 43) (u 44) (u 45) (u 46) (u 47) (u 48) (u 49) (u 50) (u 51) (u 52) (u 53) (u 54) (u 55) (u 56) (u 57) (u 58) (u 69) (u 70) (u 71) H.size (i 0) (i 1) (i 2) (i 3) (i 33) (i 34) (i 35) (i 36) (i 37) (i 38) (j 0) (j 1) (i 39) (i 40) (i 41) (i 42) (i 43) (i 44) (i 45) (i 46) (i 47) (xs (Int32.toNatClampNeg (nI k + 1))) (xs (Int32.toNatClampNeg (nI k + 2))) 5000 e2) (u_cwV htA a_ml_L_100 pk_X9_signed ⟨(Nat.le_of_ble_eq_true rfl), (Nat.le_of_ble_eq_true rfl)⟩) (u_preV hK hN hP hD [38] rfl (by decide) 38 rfl rfl) rfl rfl hl.1 rfl (lv_room (Nat.le_of_ble_eq_true rfl)) dL_law_828 ⟨(Nat.le_of_ble_eq_true rfl), (Nat.le_of_ble_eq_true rfl)⟩) hP hD hS hA [38] rfl [0, 1, 2, 3, 4, 5, 6, 7, 8, 9, 10, 11, 12, 13, 14, 15, 16, 17, 18, 19, 20, 21, 22, 23, 24, 25, 26, 27, 28, 29, 30, 31, 32, 33, 34, 35, 36, 37, 39, 40, 41, 42, 43, 44, 45, 46, 47, 48, 49, 50, 51, 52, 53, 54, 55, 56, 57, 58, 59, 60, 61, 62, 63, 64, 65, 66, 67, 68, 69, 70, 71, 72, 73, 74, 75, 76, 77] 78 rfl rfl rfl (by decide) rfl (fun H locs hP hD hS => ?_)
  refine lv_icmp_eq (tgt := 1368) hx hb dL_law_831 (by decide) (fun _ => ?_) (fun c_1 => absurd rfl c_1)
  exact kk i a b j R T H locs ⟨ha, hb, hp, hN, hT, hSn, hEv, hBk, hIm, hTp, hCX, hCE, hCM⟩ hP hD hS
set_option maxRecDepth 100000 in
set_option maxHeartbeats 4000000 in
theorem cl_see (C0 : LC p s m meth c b_ L xs G cy ad av) {k : Nat} (hk : k + 6 ≤ L) (hL : L ≤ 3072) {u rI rT : Nat → Nat} {i : Nat → Int32} {a : Nat → Nat → Int32} {b : Nat → Nat → Int64} {j : Nat → Int64} {R : Nat → Nat → Int32} {T : Nat → Nat → Int64} {H : Heap} {locs : List Loc} (hR : Rel i a b R T) (hP : va_P G vwCl (WW cy u rI rT i i a b j R T) H) (hD : va_D (LA s) (WW cy u rI rT i i a b j R T)) (hS : va_S (LA s) s.heap H locs) {ls : Array Slot} (hl : lv_has ls 4 [(0, .ref b_), (1, .ref (u 0)), (2, .ref (u 38)), (3, .int (nI k))]) (kk : Nx p l e s m below meth c b_ G cy u rI rT ls) : LW p l e s m below meth c b_ H locs (F0 m 836 ls []) := by
  obtain ⟨hx, hb0, hr, hml, hown, htA, hX, hbl, hlocks, hK, hN, hZ⟩ := C0
  have hb : c.code = cL_law := hb0
  obtain ⟨ha, hb, hp, hN, hT, hSn, hEv, hBk, hIm, hTp, hCX, hCE, hCM⟩ := hR
  have hA : ∀ q : Nat, s.heap.size ≤ q → LA s q := fun _ h => h
  have hbA : ¬ LA s b_ := Nat.not_le.mpr hbl
  have hv1 : vp_in (nI k + 1) L := by rw [show nI k + 1 = nI (k + 1) from nI_add k 1]; exact vp_in_nI (by omega) (by omega)
  have hv2 : vp_in (nI k + 2) L := by rw [show nI k + 2 = nI (k + 2) from nI_add k 2]; exact vp_in_nI (by omega) (by omega)
  have hv3 : vp_in (nI k + 3) L := by rw [show nI k + 3 = nI (k + 3) from nI_add k 3]; exact vp_in_nI (by omega) (by omega)
  obtain ⟨y0, y1, y2, y3, y4, y5, y6, e1, e2, g0⟩ := pr_see (xs (Int32.toNatClampNeg (nI k + 1))) (xs (Int32.toNatClampNeg (nI k + 2))) (xs (Int32.toNatClampNeg (nI k + 3))) (u := (i 6)) (v := (i 44)) (c := (a 1)) (A := (a 23)) (B := (a 24)) (C := (a 25)) hSn
  refine lv_aload_n hx hb dL_law_836 rfl (lv_at hl 1 rfl) ?_
  refine lv_aload_n hx hb dL_law_837 rfl (lv_at hl 0 rfl) ?_
  refine lv_iload_n hx hb dL_law_838 rfl (lv_at hl 3 rfl) ?_
  refine lv_iconst (v := 1) hx hb dL_law_839 (by decide) ?_
  refine lv_iadd hx hb dL_law_840 ?_
  refine va_sld hx hb hX hbl hbA hS hv1 dL_law_841 ?_
  refine lv_aload_n hx hb dL_law_842 rfl (lv_at hl 0 rfl) ?_
  refine lv_iload_n hx hb dL_law_843 rfl (lv_at hl 3 rfl) ?_
  refine lv_iconst (v := 2) hx hb dL_law_844 (by decide) ?_
  refine lv_iadd hx hb dL_law_845 ?_
  refine va_sld hx hb hX hbl hbA hS hv2 dL_law_846 ?_
  refine lv_aload_n hx hb dL_law_847 rfl (lv_at hl 0 rfl) ?_
  refine lv_iload_n hx hb dL_law_848 rfl (lv_at hl 3 rfl) ?_
  refine lv_iconst (v := 3) hx hb dL_law_849 (by decide) ?_
  refine lv_iadd hx hb dL_law_850 ?_
  refine va_sld hx hb hX hbl hbA hS hv3 dL_law_851 ?_
  refine u_calli (WW cy u rI rT (upd i 6 y1) i (gup a 1 y2) b j R T) (va_runV (As := [.int (xs (Int32.toNatClampNeg (nI k + 1))), .int (xs (Int32.toNatClampNeg (nI k + 2))), .int (xs (Int32.toNatClampNeg (nI k + 3)))]) (rest := []) ⟨hx, hb, hml, hown, htA⟩ (kX8_see l G cy (u 0) (u 1) (u 11) (u 21) (u 22) (u 23) (u 27) (u 29) (u 34) (u 2) (u 3) (u 5) (u 7) (u 9) (u 6) H.size 12 (i 4) 4 (i 6) (a 1) (xs (Int32.toNatClampNeg (nI k + 1))) (xs (Int32.toNatClampNeg (nI k + 2))) (xs (Int32.toNatClampNeg (nI k + 3))) e1) (u_cwV htA a_ml_L_101 pk_X8_see ⟨(Nat.le_of_ble_eq_true rfl), (Nat.le_of_ble_eq_true rfl)⟩) (u_preV hK hN hP hD [0, 1, 5, 6] rfl (by decide) 0 rfl rfl) rfl rfl hl.1 rfl (lv_room (Nat.le_of_ble_eq_true rfl)) dL_law_852 ⟨(Nat.le_of_ble_eq_true rfl), (Nat.le_of_ble_eq_true rfl)⟩) hP hD hS hA [0, 1, 5, 6] rfl [2, 3, 4, 7, 8, 9, 10, 11, 12, 13, 14, 15, 16, 17, 18, 19, 20, 21, 22, 23, 24, 25, 26, 27, 28, 29, 30, 31, 32, 33, 34, 35, 36, 37, 38, 39, 40, 41, 42, 43, 44, 45, 46, 47, 48, 49, 50, 51, 52, 53, 54, 55, 56, 57, 58, 59, 60, 61, 62, 63, 64, 65, 66, 67, 68, 69, 70, 71, 72, 73, 74, 75, 76, 77] 78 rfl rfl rfl (by decide) rfl (fun H locs hP hD hS => ?_)
  refine lv_aload_n hx hb dL_law_855 rfl (lv_at hl 2 rfl) ?_
  refine lv_aload_n hx hb dL_law_856 rfl (lv_at hl 0 rfl) ?_
  refine lv_iload_n hx hb dL_law_857 rfl (lv_at hl 3 rfl) ?_
  refine lv_iconst (v := 1) hx hb dL_law_858 (by decide) ?_
  refine lv_iadd hx hb dL_law_859 ?_
  refine va_sld hx hb hX hbl hbA hS hv1 dL_law_860 ?_
  refine lv_aload_n hx hb dL_law_861 rfl (lv_at hl 0 rfl) ?_
  refine lv_iload_n hx hb dL_law_862 rfl (lv_at hl 3 rfl) ?_
  refine lv_iconst (v := 2) hx hb dL_law_863 (by decide) ?_
  refine lv_iadd hx hb dL_law_864 ?_
  refine va_sld hx hb hX hbl hbA hS hv2 dL_law_865 ?_
  refine lv_aload_n hx hb dL_law_866 rfl (lv_at hl 0 rfl) ?_
  refine lv_iload_n hx hb dL_law_867 rfl (lv_at hl 3 rfl) ?_
  refine lv_iconst (v := 3) hx hb dL_law_868 (by decide) ?_
  refine lv_iadd hx hb dL_law_869 ?_
  refine va_sld hx hb hX hbl hbA hS hv3 dL_law_870 ?_
  refine u_calli (WW cy u rI rT (upd (upd i 6 y1) 44 y3) (upd (upd i 6 y1) 44 y3) (gup (gup (gup (gup a 1 y2) 23 y4) 24 y5) 25 y6) b j R T) (va_runV (As := [.int (xs (Int32.toNatClampNeg (nI k + 1))), .int (xs (Int32.toNatClampNeg (nI k + 2))), .int (xs (Int32.toNatClampNeg (nI k + 3)))]) (rest := [.int y0]) ⟨hx, hb, hml, hown, htA⟩ (kX9_see l G cy (u 38) (u 39) (u 40) (u 41) (u 42) (u 43) (u 44) (u 45) (u 46) (u 47) (u 48) (u 49) (u 50) (u 51) (u 52) (u 53) (u 54) (u 55) (u 56) (u 57) (u 58) (u 69) (u 70) (u 71) H.size (i 0) (i 1) (i 2) (i 3) (i 33) (i 34) (i 35) (i 36) (i 37) (i 38) (j 0) (j 1) (i 39) (i 40) (i 41) (i 42) (i 43) (i 44) (i 45) (i 46) (i 47) (a 23) (a 24) (a 25) (xs (Int32.toNatClampNeg (nI k + 1))) (xs (Int32.toNatClampNeg (nI k + 2))) (xs (Int32.toNatClampNeg (nI k + 3))) e2) (u_cwV htA a_ml_L_104 pk_X9_see ⟨(Nat.le_of_ble_eq_true rfl), (Nat.le_of_ble_eq_true rfl)⟩) (u_preV hK hN hP hD [38, 49, 50, 51] rfl (by decide) 38 rfl rfl) rfl rfl hl.1 rfl (lv_room (Nat.le_of_ble_eq_true rfl)) dL_law_871 ⟨(Nat.le_of_ble_eq_true rfl), (Nat.le_of_ble_eq_true rfl)⟩) hP hD hS hA [38, 49, 50, 51] rfl [0, 1, 2, 3, 4, 5, 6, 7, 8, 9, 10, 11, 12, 13, 14, 15, 16, 17, 18, 19, 20, 21, 22, 23, 24, 25, 26, 27, 28, 29, 30, 31, 32, 33, 34, 35, 36, 37, 39, 40, 41, 42, 43, 44, 45, 46, 47, 48, 52, 53, 54, 55, 56, 57, 58, 59, 60, 61, 62, 63, 64, 65, 66, 67, 68, 69, 70, 71, 72, 73, 74, 75, 76, 77] 78 rfl rfl rfl (by decide) rfl (fun H locs hP hD hS => ?_)
  refine lv_icmp_eq (tgt := 1368) hx hb dL_law_874 (by decide) (fun _ => ?_) (fun c_1 => absurd rfl c_1)
  exact kk (upd (upd i 6 y1) 44 y3) (gup (gup (gup (gup a 1 y2) 23 y4) 24 y5) 25 y6) b j R T H locs ⟨ha, hb, hp, hN, hT, g0, hEv, hBk, hIm, hTp, hCX, hCE, hCM⟩ hP hD hS
set_option maxRecDepth 100000 in
set_option maxHeartbeats 4000000 in
theorem cl_fits (C0 : LC p s m meth c b_ L xs G cy ad av) {k : Nat} (hk : k + 6 ≤ L) (hL : L ≤ 3072) {u rI rT : Nat → Nat} {i : Nat → Int32} {a : Nat → Nat → Int32} {b : Nat → Nat → Int64} {j : Nat → Int64} {R : Nat → Nat → Int32} {T : Nat → Nat → Int64} {H : Heap} {locs : List Loc} (hR : Rel i a b R T) (hP : va_P G vwCl (WW cy u rI rT i i a b j R T) H) (hD : va_D (LA s) (WW cy u rI rT i i a b j R T)) (hS : va_S (LA s) s.heap H locs) {ls : Array Slot} (hl : lv_has ls 4 [(0, .ref b_), (1, .ref (u 0)), (2, .ref (u 38)), (3, .int (nI k))]) (kk : Nx p l e s m below meth c b_ G cy u rI rT ls) : LW p l e s m below meth c b_ H locs (F0 m 879 ls []) := by
  obtain ⟨hx, hb0, hr, hml, hown, htA, hX, hbl, hlocks, hK, hN, hZ⟩ := C0
  have hb : c.code = cL_law := hb0
  obtain ⟨ha, hb, hp, hN, hT, hSn, hEv, hBk, hIm, hTp, hCX, hCE, hCM⟩ := hR
  have hA : ∀ q : Nat, s.heap.size ≤ q → LA s q := fun _ h => h
  have hbA : ¬ LA s b_ := Nat.not_le.mpr hbl
  obtain ⟨y0, y1, y2, y3, y4, y5, y6, y7, y8, e1, e2⟩ := pr_fits (n := 5000) (m := 5000) (by omega) (by omega) (a := (i 0)) (b := (i 1)) hb (u := (i 6)) (v := (i 44)) (c := (a 1)) (A := (a 23)) (B := (a 24)) (C := (a 25)) hSn (i 21) (i 22) (i 23) (i 24) (i 33) (i 34) (i 35) (i 36)
  refine lv_aload_n hx hb dL_law_879 rfl (lv_at hl 1 rfl) ?_
  refine u_calli (WW cy u rI rT (upd (upd (upd (upd i 21 y1) 22 y2) 23 y3) 24 y4) i a b j R T) (va_runV (As := []) (rest := []) ⟨hx, hb, hml, hown, htA⟩ (kX8_fits l G cy (u 0) (u 1) (u 11) (u 21) (u 22) (u 23) (u 27) (u 29) (u 34) (u 2) (u 3) (u 5) (u 7) (u 9) (u 6) H.size 12 (i 4) (i 0) (i 1) (i 2) (i 3) 4 (i 6) (a 1) (i 21) (i 22) (i 23) (i 24) 5000 e1) (u_cwV htA a_ml_L_105 pk_X8_fits ⟨(Nat.le_of_ble_eq_true rfl), (Nat.le_of_ble_eq_true rfl)⟩) (u_preV hK hN hP hD [0, 1, 2, 5, 6, 22] rfl (by decide) 0 rfl rfl) rfl rfl hl.1 rfl (lv_room (Nat.le_of_ble_eq_true rfl)) dL_law_880 ⟨(Nat.le_of_ble_eq_true rfl), (Nat.le_of_ble_eq_true rfl)⟩) hP hD hS hA [0, 1, 2, 5, 6, 22] rfl [3, 4, 7, 8, 9, 10, 11, 12, 13, 14, 15, 16, 17, 18, 19, 20, 21, 23, 24, 25, 26, 27, 28, 29, 30, 31, 32, 33, 34, 35, 36, 37, 38, 39, 40, 41, 42, 43, 44, 45, 46, 47, 48, 49, 50, 51, 52, 53, 54, 55, 56, 57, 58, 59, 60, 61, 62, 63, 64, 65, 66, 67, 68, 69, 70, 71, 72, 73, 74, 75, 76, 77] 78 rfl rfl rfl (by decide) rfl (fun H locs hP hD hS => ?_)
  refine lv_aload_n hx hb dL_law_883 rfl (lv_at hl 2 rfl) ?_
  refine u_calli (WW cy u rI rT (upd (upd (upd (upd (upd (upd (upd (upd i 21 y1) 22 y2) 23 y3) 24 y4) 33 y5) 34 y6) 35 y7) 36 y8) (upd (upd (upd (upd (upd (upd (upd (upd i 21 y1) 22 y2) 23 y3) 24 y4) 33 y5) 34 y6) 35 y7) 36 y8) a b j R T) (va_runV (As := []) (rest := [.int y0]) ⟨hx, hb, hml, hown, htA⟩ (kX9_fits l G cy (u 38) (u 39) (u 40) (u 41) (u 42) (u 43) (u 44) (u 45) (u 46) (u 47) (u 48) (u 49) (u 50) (u 51) (u 52) (u 53) (u 54) (u 55) (u 56) (u 57) (u 58) (u 69) (u 70) (u 71) H.size (i 0) (i 1) (i 2) (i 3) (i 33) (i 34) (i 35) (i 36) (i 37) (i 38) (j 0) (j 1) (i 39) (i 40) (i 41) (i 42) (i 43) (i 44) (i 45) (i 46) (i 47) (a 23) (a 24) (a 25) 5000 e2) (u_cwV htA a_ml_L_108 pk_X9_fits ⟨(Nat.le_of_ble_eq_true rfl), (Nat.le_of_ble_eq_true rfl)⟩) (u_preV hK hN hP hD [38, 49, 50, 51] rfl (by decide) 38 rfl rfl) rfl rfl hl.1 rfl (lv_room (Nat.le_of_ble_eq_true rfl)) dL_law_884 ⟨(Nat.le_of_ble_eq_true rfl), (Nat.le_of_ble_eq_true rfl)⟩) hP hD hS hA [38, 49, 50, 51] rfl [0, 1, 2, 3, 4, 5, 6, 7, 8, 9, 10, 11, 12, 13, 14, 15, 16, 17, 18, 19, 20, 21, 22, 23, 24, 25, 26, 27, 28, 29, 30, 31, 32, 33, 34, 35, 36, 37, 39, 40, 41, 42, 43, 44, 45, 46, 47, 48, 52, 53, 54, 55, 56, 57, 58, 59, 60, 61, 62, 63, 64, 65, 66, 67, 68, 69, 70, 71, 72, 73, 74, 75, 76, 77] 78 rfl rfl rfl (by decide) rfl (fun H locs hP hD hS => ?_)
  refine lv_icmp_eq (tgt := 1368) hx hb dL_law_887 (by decide) (fun _ => ?_) (fun c_1 => absurd rfl c_1)
  exact kk (upd (upd (upd (upd (upd (upd (upd (upd i 21 y1) 22 y2) 23 y3) 24 y4) 33 y5) 34 y6) 35 y7) 36 y8) a b j R T H locs ⟨ha, hb, hp, hN, hT, hSn, hEv, hBk, hIm, hTp, hCX, hCE, hCM⟩ hP hD hS
set_option maxRecDepth 100000 in
set_option maxHeartbeats 4000000 in
theorem cl_odds (C0 : LC p s m meth c b_ L xs G cy ad av) {k : Nat} (hk : k + 6 ≤ L) (hL : L ≤ 3072) {u rI rT : Nat → Nat} {i : Nat → Int32} {a : Nat → Nat → Int32} {b : Nat → Nat → Int64} {j : Nat → Int64} {R : Nat → Nat → Int32} {T : Nat → Nat → Int64} {H : Heap} {locs : List Loc} (hR : Rel i a b R T) (hP : va_P G vwCl (WW cy u rI rT i i a b j R T) H) (hD : va_D (LA s) (WW cy u rI rT i i a b j R T)) (hS : va_S (LA s) s.heap H locs) {ls : Array Slot} (hl : lv_has ls 4 [(0, .ref b_), (1, .ref (u 0)), (2, .ref (u 38)), (3, .int (nI k))]) (kk : Nx p l e s m below meth c b_ G cy u rI rT ls) : LW p l e s m below meth c b_ H locs (F0 m 892 ls []) := by
  obtain ⟨hx, hb0, hr, hml, hown, htA, hX, hbl, hlocks, hK, hN, hZ⟩ := C0
  have hb : c.code = cL_law := hb0
  obtain ⟨ha, hb, hp, hN, hT, hSn, hEv, hBk, hIm, hTp, hCX, hCE, hCM⟩ := hR
  have hA : ∀ q : Nat, s.heap.size ≤ q → LA s q := fun _ h => h
  have hbA : ¬ LA s b_ := Nat.not_le.mpr hbl
  have hv1 : vp_in (nI k + 1) L := by rw [show nI k + 1 = nI (k + 1) from nI_add k 1]; exact vp_in_nI (by omega) (by omega)
  have hv2 : vp_in (nI k + 2) L := by rw [show nI k + 2 = nI (k + 2) from nI_add k 2]; exact vp_in_nI (by omega) (by omega)
  obtain ⟨y0, y1, y2, y3, y4, y5, y6, y7, y8, y9, y10, y11, y12, y13, y14, y15, y16, y17, y18, y19, y20, e1, e2, g0, g1⟩ := pr_odds (xs (Int32.toNatClampNeg (nI k + 1))) (xs (Int32.toNatClampNeg (nI k + 2))) (A := (i 0)) (B := (i 1)) ha hb (ca := (i 25)) (cb := (i 26)) (ka := (i 37)) (kb := (i 38)) (S := (a 8)) (C := (a 9)) (C2 := (a 16)) (H := (b 0)) (U := (b 3)) (D := (b 4)) hCX hCM (i 21) (i 22) (i 23) (i 24) (i 33) (i 34) (i 35) (i 36) (j 0) (j 1)
  refine lv_aload_n hx hb dL_law_892 rfl (lv_at hl 1 rfl) ?_
  refine lv_aload_n hx hb dL_law_893 rfl (lv_at hl 0 rfl) ?_
  refine lv_iload_n hx hb dL_law_894 rfl (lv_at hl 3 rfl) ?_
  refine lv_iconst (v := 1) hx hb dL_law_895 (by decide) ?_
  refine lv_iadd hx hb dL_law_896 ?_
  refine va_sld hx hb hX hbl hbA hS hv1 dL_law_897 ?_
  refine lv_aload_n hx hb dL_law_898 rfl (lv_at hl 0 rfl) ?_
  refine lv_iload_n hx hb dL_law_899 rfl (lv_at hl 3 rfl) ?_
  refine lv_iconst (v := 2) hx hb dL_law_900 (by decide) ?_
  refine lv_iadd hx hb dL_law_901 ?_
  refine va_sld hx hb hX hbl hbA hS hv2 dL_law_902 ?_
  refine u_calll (WW cy u rI rT (upd (upd (upd (upd (upd (upd i 21 y1) 22 y2) 23 y3) 24 y4) 25 y5) 26 y6) i (gup (gup a 8 y7) 9 y8) (gup b 0 y9) j R T) (va_runV (As := [.int (xs (Int32.toNatClampNeg (nI k + 1))), .int (xs (Int32.toNatClampNeg (nI k + 2)))]) (rest := []) ⟨hx, hb, hml, hown, htA⟩ (kX8_odds l G cy (u 0) (u 1) (u 11) (u 21) (u 22) (u 23) (u 27) (u 29) (u 34) (u 2) (u 3) (u 5) (u 7) (u 9) (u 24) (u 25) (u 26) H.size (i 4) (i 0) (i 1) (i 2) (i 3) (i 21) (i 22) (i 23) (i 24) (i 25) (i 26) (a 8) (a 9) (b 0) (xs (Int32.toNatClampNeg (nI k + 1))) (xs (Int32.toNatClampNeg (nI k + 2))) 5000 e1) (u_cwV htA a_ml_L_109 pk_X8_odds ⟨(Nat.le_of_ble_eq_true rfl), (Nat.le_of_ble_eq_true rfl)⟩) (u_preV hK hN hP hD [0, 1, 2, 22, 23, 24, 25, 26] rfl (by decide) 0 rfl rfl) rfl rfl hl.1 rfl (lv_room (Nat.le_of_ble_eq_true rfl)) dL_law_903 ⟨(Nat.le_of_ble_eq_true rfl), (Nat.le_of_ble_eq_true rfl)⟩) hP hD hS hA [0, 1, 2, 22, 23, 24, 25, 26] rfl [3, 4, 5, 6, 7, 8, 9, 10, 11, 12, 13, 14, 15, 16, 17, 18, 19, 20, 21, 27, 28, 29, 30, 31, 32, 33, 34, 35, 36, 37, 38, 39, 40, 41, 42, 43, 44, 45, 46, 47, 48, 49, 50, 51, 52, 53, 54, 55, 56, 57, 58, 59, 60, 61, 62, 63, 64, 65, 66, 67, 68, 69, 70, 71, 72, 73, 74, 75, 76, 77] 78 rfl rfl rfl (by decide) rfl (fun H locs hP hD hS => ?_)
  refine lv_aload_n hx hb dL_law_906 rfl (lv_at hl 2 rfl) ?_
  refine lv_aload_n hx hb dL_law_907 rfl (lv_at hl 0 rfl) ?_
  refine lv_iload_n hx hb dL_law_908 rfl (lv_at hl 3 rfl) ?_
  refine lv_iconst (v := 1) hx hb dL_law_909 (by decide) ?_
  refine lv_iadd hx hb dL_law_910 ?_
  refine va_sld hx hb hX hbl hbA hS hv1 dL_law_911 ?_
  refine lv_aload_n hx hb dL_law_912 rfl (lv_at hl 0 rfl) ?_
  refine lv_iload_n hx hb dL_law_913 rfl (lv_at hl 3 rfl) ?_
  refine lv_iconst (v := 2) hx hb dL_law_914 (by decide) ?_
  refine lv_iadd hx hb dL_law_915 ?_
  refine va_sld hx hb hX hbl hbA hS hv2 dL_law_916 ?_
  refine u_calll (WW cy u rI rT (upd (upd (upd (upd (upd (upd (upd (upd (upd (upd (upd (upd i 21 y1) 22 y2) 23 y3) 24 y4) 25 y5) 26 y6) 33 y10) 34 y11) 35 y12) 36 y13) 37 y14) 38 y15) (upd (upd (upd (upd (upd (upd (upd (upd (upd (upd (upd (upd i 21 y1) 22 y2) 23 y3) 24 y4) 25 y5) 26 y6) 33 y10) 34 y11) 35 y12) 36 y13) 37 y14) 38 y15) (gup (gup (gup a 8 y7) 9 y8) 16 y20) (gup (gup (gup b 0 y9) 3 y18) 4 y19) (vp_updL (vp_updL j 0 y16) 1 y17) R T) (va_runV (As := [.int (xs (Int32.toNatClampNeg (nI k + 1))), .int (xs (Int32.toNatClampNeg (nI k + 2)))]) (rest := [.long y0]) ⟨hx, hb, hml, hown, htA⟩ (kX9_odds l G cy (u 38) (u 39) (u 40) (u 41) (u 42) (u 43) (u 44) (u 45) (u 46) (u 47) (u 48) (u 49) (u 50) (u 51) (u 52) (u 53) (u 54) (u 55) (u 56) (u 57) (u 58) (u 69) (u 70) (u 71) H.size (i 0) (i 1) (i 2) (i 3) (i 33) (i 34) (i 35) (i 36) (i 37) (i 38) (j 0) (j 1) (i 39) (i 40) (i 41) (i 42) (i 43) (i 44) (i 45) (i 46) (i 47) (b 3) (b 4) (a 16) (xs (Int32.toNatClampNeg (nI k + 1))) (xs (Int32.toNatClampNeg (nI k + 2))) 5000 e2) (u_cwV htA a_ml_L_112 pk_X9_odds ⟨(Nat.le_of_ble_eq_true rfl), (Nat.le_of_ble_eq_true rfl)⟩) (u_preV hK hN hP hD [38, 39, 40, 41] rfl (by decide) 38 rfl rfl) rfl rfl hl.1 rfl (lv_room (Nat.le_of_ble_eq_true rfl)) dL_law_917 ⟨(Nat.le_of_ble_eq_true rfl), (Nat.le_of_ble_eq_true rfl)⟩) hP hD hS hA [38, 39, 40, 41] rfl [0, 1, 2, 3, 4, 5, 6, 7, 8, 9, 10, 11, 12, 13, 14, 15, 16, 17, 18, 19, 20, 21, 22, 23, 24, 25, 26, 27, 28, 29, 30, 31, 32, 33, 34, 35, 36, 37, 42, 43, 44, 45, 46, 47, 48, 49, 50, 51, 52, 53, 54, 55, 56, 57, 58, 59, 60, 61, 62, 63, 64, 65, 66, 67, 68, 69, 70, 71, 72, 73, 74, 75, 76, 77] 78 rfl rfl rfl (by decide) rfl (fun H locs hP hD hS => ?_)
  refine W.lcmp hx hb dL_law_920 ?_
  refine lv_if_eq (tgt := 1368) hx hb dL_law_921 (by decide) (fun _ => ?_) (fun c_1 => absurd ((lg_eq _ _).mpr rfl) c_1)
  exact kk (upd (upd (upd (upd (upd (upd (upd (upd (upd (upd (upd (upd i 21 y1) 22 y2) 23 y3) 24 y4) 25 y5) 26 y6) 33 y10) 34 y11) 35 y12) 36 y13) 37 y14) 38 y15) (gup (gup (gup a 8 y7) 9 y8) 16 y20) (gup (gup (gup b 0 y9) 3 y18) 4 y19) (vp_updL (vp_updL j 0 y16) 1 y17) R T H locs ⟨ha, hb, hp, hN, hT, hSn, hEv, hBk, hIm, hTp, g0, hCE, g1⟩ hP hD hS
set_option maxRecDepth 100000 in
set_option maxHeartbeats 4000000 in
theorem cl_mean (C0 : LC p s m meth c b_ L xs G cy ad av) {k : Nat} (hk : k + 6 ≤ L) (hL : L ≤ 3072) {u rI rT : Nat → Nat} {i : Nat → Int32} {a : Nat → Nat → Int32} {b : Nat → Nat → Int64} {j : Nat → Int64} {R : Nat → Nat → Int32} {T : Nat → Nat → Int64} {H : Heap} {locs : List Loc} (hR : Rel i a b R T) (hP : va_P G vwCl (WW cy u rI rT i i a b j R T) H) (hD : va_D (LA s) (WW cy u rI rT i i a b j R T)) (hS : va_S (LA s) s.heap H locs) {ls : Array Slot} (hl : lv_has ls 4 [(0, .ref b_), (1, .ref (u 0)), (2, .ref (u 38)), (3, .int (nI k))]) (kk : Nx p l e s m below meth c b_ G cy u rI rT ls) : LW p l e s m below meth c b_ H locs (F0 m 926 ls []) := by
  obtain ⟨hx, hb0, hr, hml, hown, htA, hX, hbl, hlocks, hK, hN, hZ⟩ := C0
  have hb : c.code = cL_law := hb0
  obtain ⟨ha, hb, hp, hN, hT, hSn, hEv, hBk, hIm, hTp, hCX, hCE, hCM⟩ := hR
  have hA : ∀ q : Nat, s.heap.size ≤ q → LA s q := fun _ h => h
  have hbA : ¬ LA s b_ := Nat.not_le.mpr hbl
  have hv1 : vp_in (nI k + 1) L := by rw [show nI k + 1 = nI (k + 1) from nI_add k 1]; exact vp_in_nI (by omega) (by omega)
  have hv2 : vp_in (nI k + 2) L := by rw [show nI k + 2 = nI (k + 2) from nI_add k 2]; exact vp_in_nI (by omega) (by omega)
  obtain ⟨y0, y1, y2, y3, y4, y5, y6, y7, y8, y9, y10, y11, y12, y13, y14, y15, y16, y17, y18, y19, y20, e1, e2, g0, g1⟩ := pr_mean (xs (Int32.toNatClampNeg (nI k + 1))) (xs (Int32.toNatClampNeg (nI k + 2))) (A := (i 0)) (B := (i 1)) ha hb (ca := (i 25)) (cb := (i 26)) (ka := (i 37)) (kb := (i 38)) (S := (a 8)) (C := (a 9)) (C2 := (a 16)) (H := (b 0)) (U := (b 3)) (D := (b 4)) hCX hCM (i 21) (i 22) (i 23) (i 24) (i 33) (i 34) (i 35) (i 36) (j 0) (j 1)
  refine lv_aload_n hx hb dL_law_926 rfl (lv_at hl 1 rfl) ?_
  refine lv_aload_n hx hb dL_law_927 rfl (lv_at hl 0 rfl) ?_
  refine lv_iload_n hx hb dL_law_928 rfl (lv_at hl 3 rfl) ?_
  refine lv_iconst (v := 1) hx hb dL_law_929 (by decide) ?_
  refine lv_iadd hx hb dL_law_930 ?_
  refine va_sld hx hb hX hbl hbA hS hv1 dL_law_931 ?_
  refine lv_aload_n hx hb dL_law_932 rfl (lv_at hl 0 rfl) ?_
  refine lv_iload_n hx hb dL_law_933 rfl (lv_at hl 3 rfl) ?_
  refine lv_iconst (v := 2) hx hb dL_law_934 (by decide) ?_
  refine lv_iadd hx hb dL_law_935 ?_
  refine va_sld hx hb hX hbl hbA hS hv2 dL_law_936 ?_
  refine u_calll (WW cy u rI rT (upd (upd (upd (upd (upd (upd i 21 y1) 22 y2) 23 y3) 24 y4) 25 y5) 26 y6) i (gup (gup a 8 y7) 9 y8) (gup b 0 y9) j R T) (va_runV (As := [.int (xs (Int32.toNatClampNeg (nI k + 1))), .int (xs (Int32.toNatClampNeg (nI k + 2)))]) (rest := []) ⟨hx, hb, hml, hown, htA⟩ (kX8_mean l G cy (u 0) (u 1) (u 11) (u 21) (u 22) (u 23) (u 27) (u 29) (u 34) (u 2) (u 3) (u 5) (u 7) (u 9) (u 24) (u 25) (u 26) H.size (i 4) (i 0) (i 1) (i 2) (i 3) (i 21) (i 22) (i 23) (i 24) (i 25) (i 26) (a 8) (a 9) (b 0) (xs (Int32.toNatClampNeg (nI k + 1))) (xs (Int32.toNatClampNeg (nI k + 2))) 5000 e1) (u_cwV htA a_ml_L_113 pk_X8_mean ⟨(Nat.le_of_ble_eq_true rfl), (Nat.le_of_ble_eq_true rfl)⟩) (u_preV hK hN hP hD [0, 1, 2, 22, 23, 24, 25, 26] rfl (by decide) 0 rfl rfl) rfl rfl hl.1 rfl (lv_room (Nat.le_of_ble_eq_true rfl)) dL_law_937 ⟨(Nat.le_of_ble_eq_true rfl), (Nat.le_of_ble_eq_true rfl)⟩) hP hD hS hA [0, 1, 2, 22, 23, 24, 25, 26] rfl [3, 4, 5, 6, 7, 8, 9, 10, 11, 12, 13, 14, 15, 16, 17, 18, 19, 20, 21, 27, 28, 29, 30, 31, 32, 33, 34, 35, 36, 37, 38, 39, 40, 41, 42, 43, 44, 45, 46, 47, 48, 49, 50, 51, 52, 53, 54, 55, 56, 57, 58, 59, 60, 61, 62, 63, 64, 65, 66, 67, 68, 69, 70, 71, 72, 73, 74, 75, 76, 77] 78 rfl rfl rfl (by decide) rfl (fun H locs hP hD hS => ?_)
  refine lv_aload_n hx hb dL_law_940 rfl (lv_at hl 2 rfl) ?_
  refine lv_aload_n hx hb dL_law_941 rfl (lv_at hl 0 rfl) ?_
  refine lv_iload_n hx hb dL_law_942 rfl (lv_at hl 3 rfl) ?_
  refine lv_iconst (v := 1) hx hb dL_law_943 (by decide) ?_
  refine lv_iadd hx hb dL_law_944 ?_
  refine va_sld hx hb hX hbl hbA hS hv1 dL_law_945 ?_
  refine lv_aload_n hx hb dL_law_946 rfl (lv_at hl 0 rfl) ?_
  refine lv_iload_n hx hb dL_law_947 rfl (lv_at hl 3 rfl) ?_
  refine lv_iconst (v := 2) hx hb dL_law_948 (by decide) ?_
  refine lv_iadd hx hb dL_law_949 ?_
  refine va_sld hx hb hX hbl hbA hS hv2 dL_law_950 ?_
  refine u_calll (WW cy u rI rT (upd (upd (upd (upd (upd (upd (upd (upd (upd (upd (upd (upd i 21 y1) 22 y2) 23 y3) 24 y4) 25 y5) 26 y6) 33 y10) 34 y11) 35 y12) 36 y13) 37 y14) 38 y15) (upd (upd (upd (upd (upd (upd (upd (upd (upd (upd (upd (upd i 21 y1) 22 y2) 23 y3) 24 y4) 25 y5) 26 y6) 33 y10) 34 y11) 35 y12) 36 y13) 37 y14) 38 y15) (gup (gup (gup a 8 y7) 9 y8) 16 y20) (gup (gup (gup b 0 y9) 3 y18) 4 y19) (vp_updL (vp_updL j 0 y16) 1 y17) R T) (va_runV (As := [.int (xs (Int32.toNatClampNeg (nI k + 1))), .int (xs (Int32.toNatClampNeg (nI k + 2)))]) (rest := [.long y0]) ⟨hx, hb, hml, hown, htA⟩ (kX9_mean l G cy (u 38) (u 39) (u 40) (u 41) (u 42) (u 43) (u 44) (u 45) (u 46) (u 47) (u 48) (u 49) (u 50) (u 51) (u 52) (u 53) (u 54) (u 55) (u 56) (u 57) (u 58) (u 69) (u 70) (u 71) H.size (i 0) (i 1) (i 2) (i 3) (i 33) (i 34) (i 35) (i 36) (i 37) (i 38) (j 0) (j 1) (i 39) (i 40) (i 41) (i 42) (i 43) (i 44) (i 45) (i 46) (i 47) (b 3) (b 4) (a 16) (xs (Int32.toNatClampNeg (nI k + 1))) (xs (Int32.toNatClampNeg (nI k + 2))) 5000 e2) (u_cwV htA a_ml_L_116 pk_X9_mean ⟨(Nat.le_of_ble_eq_true rfl), (Nat.le_of_ble_eq_true rfl)⟩) (u_preV hK hN hP hD [38, 39, 40, 41] rfl (by decide) 38 rfl rfl) rfl rfl hl.1 rfl (lv_room (Nat.le_of_ble_eq_true rfl)) dL_law_951 ⟨(Nat.le_of_ble_eq_true rfl), (Nat.le_of_ble_eq_true rfl)⟩) hP hD hS hA [38, 39, 40, 41] rfl [0, 1, 2, 3, 4, 5, 6, 7, 8, 9, 10, 11, 12, 13, 14, 15, 16, 17, 18, 19, 20, 21, 22, 23, 24, 25, 26, 27, 28, 29, 30, 31, 32, 33, 34, 35, 36, 37, 42, 43, 44, 45, 46, 47, 48, 49, 50, 51, 52, 53, 54, 55, 56, 57, 58, 59, 60, 61, 62, 63, 64, 65, 66, 67, 68, 69, 70, 71, 72, 73, 74, 75, 76, 77] 78 rfl rfl rfl (by decide) rfl (fun H locs hP hD hS => ?_)
  refine W.lcmp hx hb dL_law_954 ?_
  refine lv_if_eq (tgt := 1368) hx hb dL_law_955 (by decide) (fun _ => ?_) (fun c_1 => absurd ((lg_eq _ _).mpr rfl) c_1)
  exact kk (upd (upd (upd (upd (upd (upd (upd (upd (upd (upd (upd (upd i 21 y1) 22 y2) 23 y3) 24 y4) 25 y5) 26 y6) 33 y10) 34 y11) 35 y12) 36 y13) 37 y14) 38 y15) (gup (gup (gup a 8 y7) 9 y8) 16 y20) (gup (gup (gup b 0 y9) 3 y18) 4 y19) (vp_updL (vp_updL j 0 y16) 1 y17) R T H locs ⟨ha, hb, hp, hN, hT, hSn, hEv, hBk, hIm, hTp, g0, hCE, g1⟩ hP hD hS
end
