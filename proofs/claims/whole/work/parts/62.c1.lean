section
variable {p : Program} {l : Launch} {e : Env} {s : State} {m : MethodId} {below : List Frame} {meth : Method} {c : Code} {b_ L : Nat} {xs : Nat → Int32} {G : va_G} {cy : Nat → ClassId} {ad av : Nat → Nat}
set_option maxRecDepth 100000 in
set_option maxHeartbeats 4000000 in
theorem cl_read (C0 : LC p s m meth c b_ L xs G cy ad av) {k : Nat} (hk : k + 6 ≤ L) (hL : L ≤ 3072) {u rI rT : Nat → Nat} {i : Nat → Int32} {a : Nat → Nat → Int32} {b : Nat → Nat → Int64} {j : Nat → Int64} {R : Nat → Nat → Int32} {T : Nat → Nat → Int64} {H : Heap} {locs : List Loc} (hR : Rel i a b R T) (hP : va_P G vwCl (WW cy u rI rT i i a b j R T) H) (hD : va_D (LA s) (WW cy u rI rT i i a b j R T)) (hS : va_S (LA s) s.heap H locs) {ls : Array Slot} (hl : lv_has ls 4 [(0, .ref b_), (1, .ref (u 0)), (2, .ref (u 38)), (3, .int (nI k))]) (kk : Nx p l e s m below meth c b_ G cy u rI rT ls) : LW p l e s m below meth c b_ H locs (F0 m 330 ls []) := by
  obtain ⟨hx, hb0, hr, hml, hown, htA, hX, hbl, hlocks, hK, hN, hZ⟩ := C0
  have hb : c.code = cL_law := hb0
  obtain ⟨ha, hb, hp, hN, hT, hSn, hEv, hBk, hIm, hTp, hCX, hCE, hCM⟩ := hR
  have hA : ∀ q : Nat, s.heap.size ≤ q → LA s q := fun _ h => h
  have hbA : ¬ LA s b_ := Nat.not_le.mpr hbl
  obtain ⟨y0, y1, y2, y3, y4, y5, y6, y7, y8, y9, y10, y11, y12, y13, y14, y15, y16, y17, y18, y19, y20, y21, y22, y23, y24, y25, y26, y27, y28, y29, y30, y31, y32, y33, y34, y35, e1, e2, g0, g1, g2, g3, g4⟩ := pr_read (n := 5000) (by omega) (a := (i 0)) (b := (i 1)) (x := (i 2)) (y := (i 3)) ha hb hp (u := (i 5)) (v := (i 39)) (c := (a 0)) (A := (a 17)) (B := (a 18)) hN (L := (i 29)) (L' := (i 40)) (T := (a 10)) (T' := (a 19)) hT (i 17) (i 18) (i 19) (i 20) (i 21) (i 22) (i 23) (i 24) (i 33) (i 34) (i 35) (i 36) (i 30) (i 31) (i 32) (i 41) (i 42) (i 43) (a 11) (a 20) (a 12) (a 21) (a 13) (a 22)
  refine lv_aload_n hx hb dL_law_330 rfl (lv_at hl 1 rfl) ?_
  refine u_calli (WW cy u rI rT (upd (upd (upd (upd (upd (upd (upd (upd (upd (upd (upd (upd (upd (upd (upd (upd (upd i 0 y1) 1 y2) 2 y3) 3 y4) 5 y5) 17 y7) 18 y8) 19 y9) 20 y10) 21 y11) 22 y12) 23 y13) 24 y14) 29 y15) 30 y16) 31 y17) 32 y18) i (gup (gup (gup (gup a 0 y6) 11 y19) 12 y20) 13 y21) b j R T) (va_runV (As := []) (rest := []) ⟨hx, hb, hml, hown, htA⟩ (kX8_read l G cy ad av (u 0) (u 1) (u 11) (u 21) (u 22) (u 23) (u 27) (u 29) (u 34) (u 2) (u 3) (u 5) (u 7) (u 9) (u 4) (u 30) (u 31) (u 32) (u 33) H.size 24 (i 4) (i 0) (i 1) (i 2) (i 3) 8 (i 5) (a 0) (i 17) (i 18) (i 19) (i 20) (i 21) (i 22) (i 23) (i 24) (i 29) (i 30) (i 31) (i 32) (a 10) (a 11) (a 12) (a 13) 5000 e1) (u_cwV htA a_ml_L_40 pk_X8_read ⟨(Nat.le_of_ble_eq_true rfl), (Nat.le_of_ble_eq_true rfl)⟩) (s_preV hK hN hZ hA hS hP hD [0, 1, 2, 3, 4, 21, 22, 29, 30, 31, 32, 33] rfl (by decide) 0 rfl rfl) rfl rfl hl.1 rfl (lv_room (Nat.le_of_ble_eq_true rfl)) dL_law_331 ⟨(Nat.le_of_ble_eq_true rfl), (Nat.le_of_ble_eq_true rfl)⟩) hP hD hS hA [0, 1, 2, 3, 4, 21, 22, 29, 30, 31, 32, 33] rfl [5, 6, 7, 8, 9, 10, 11, 12, 13, 14, 15, 16, 17, 18, 19, 20, 23, 24, 25, 26, 27, 28, 34, 35, 36, 37, 38, 39, 40, 41, 42, 43, 44, 45, 46, 47, 48, 49, 50, 51, 52, 53, 54, 55, 56, 57, 58, 59, 60, 61, 62, 63, 64, 65, 66, 67, 68, 69, 70, 71, 72, 73, 74, 75, 76, 77] 78 rfl rfl rfl (by decide) rfl (fun H locs hP hD hS => ?_)
  refine lv_aload_n hx hb dL_law_334 rfl (lv_at hl 2 rfl) ?_
  refine u_calli (WW cy u rI rT (upd (upd (upd (upd (upd (upd (upd (upd (upd (upd (upd (upd (upd (upd (upd (upd (upd (upd (upd (upd (upd (upd (upd (upd (upd (upd i 0 y1) 1 y2) 2 y3) 3 y4) 5 y5) 17 y7) 18 y8) 19 y9) 20 y10) 21 y11) 22 y12) 23 y13) 24 y14) 29 y15) 30 y16) 31 y17) 32 y18) 33 y22) 34 y23) 35 y24) 36 y25) 39 y26) 40 y27) 41 y28) 42 y29) 43 y30) (upd (upd (upd (upd (upd (upd (upd (upd (upd (upd (upd (upd (upd (upd (upd (upd (upd (upd (upd (upd (upd (upd (upd (upd (upd (upd i 0 y1) 1 y2) 2 y3) 3 y4) 5 y5) 17 y7) 18 y8) 19 y9) 20 y10) 21 y11) 22 y12) 23 y13) 24 y14) 29 y15) 30 y16) 31 y17) 32 y18) 33 y22) 34 y23) 35 y24) 36 y25) 39 y26) 40 y27) 41 y28) 42 y29) 43 y30) (gup (gup (gup (gup (gup (gup (gup (gup (gup a 0 y6) 11 y19) 12 y20) 13 y21) 17 y31) 18 y32) 20 y33) 21 y34) 22 y35) b j R T) (va_runV (As := []) (rest := [.int y0]) ⟨hx, hb, hml, hown, htA⟩ (kX9_read l G cy ad av (u 38) (u 39) (u 40) (u 41) (u 42) (u 43) (u 44) (u 45) (u 46) (u 47) (u 48) (u 49) (u 50) (u 51) (u 52) (u 53) (u 54) (u 55) (u 56) (u 57) (u 58) (u 69) (u 70) (u 71) H.size (i 0) (i 1) (i 2) (i 3) (i 33) (i 34) (i 35) (i 36) (i 37) (i 38) (j 0) (j 1) (i 39) (i 40) (i 41) (i 42) (i 43) (i 44) (i 45) (i 46) (i 47) (a 17) (a 18) (a 19) (a 20) (a 21) (a 22) 5000 e2) (u_cwV htA a_ml_L_43 pk_X9_read ⟨(Nat.le_of_ble_eq_true rfl), (Nat.le_of_ble_eq_true rfl)⟩) (s_preV hK hN hZ hA hS hP hD [38, 42, 43, 44, 45, 46, 47] rfl (by decide) 38 rfl rfl) rfl rfl hl.1 rfl (lv_room (Nat.le_of_ble_eq_true rfl)) dL_law_335 ⟨(Nat.le_of_ble_eq_true rfl), (Nat.le_of_ble_eq_true rfl)⟩) hP hD hS hA [38, 42, 43, 44, 45, 46, 47] rfl [0, 1, 2, 3, 4, 5, 6, 7, 8, 9, 10, 11, 12, 13, 14, 15, 16, 17, 18, 19, 20, 21, 22, 23, 24, 25, 26, 27, 28, 29, 30, 31, 32, 33, 34, 35, 36, 37, 39, 40, 41, 48, 49, 50, 51, 52, 53, 54, 55, 56, 57, 58, 59, 60, 61, 62, 63, 64, 65, 66, 67, 68, 69, 70, 71, 72, 73, 74, 75, 76, 77] 78 rfl rfl rfl (by decide) rfl (fun H locs hP hD hS => ?_)
  refine lv_icmp_eq (tgt := 1368) hx hb dL_law_338 (by decide) (fun _ => ?_) (fun c_1 => absurd rfl c_1)
  exact kk (upd (upd (upd (upd (upd (upd (upd (upd (upd (upd (upd (upd (upd (upd (upd (upd (upd (upd (upd (upd (upd (upd (upd (upd (upd (upd i 0 y1) 1 y2) 2 y3) 3 y4) 5 y5) 17 y7) 18 y8) 19 y9) 20 y10) 21 y11) 22 y12) 23 y13) 24 y14) 29 y15) 30 y16) 31 y17) 32 y18) 33 y22) 34 y23) 35 y24) 36 y25) 39 y26) 40 y27) 41 y28) 42 y29) 43 y30) (gup (gup (gup (gup (gup (gup (gup (gup (gup a 0 y6) 11 y19) 12 y20) 13 y21) 17 y31) 18 y32) 20 y33) 21 y34) 22 y35) b j R T H locs ⟨g0, g1, g2, g3, g4, hSn, hEv, hBk, hIm, hTp, hCX, hCE, hCM⟩ hP hD hS
set_option maxRecDepth 100000 in
set_option maxHeartbeats 4000000 in
theorem cl_told (C0 : LC p s m meth c b_ L xs G cy ad av) {k : Nat} (hk : k + 6 ≤ L) (hL : L ≤ 3072) {u rI rT : Nat → Nat} {i : Nat → Int32} {a : Nat → Nat → Int32} {b : Nat → Nat → Int64} {j : Nat → Int64} {R : Nat → Nat → Int32} {T : Nat → Nat → Int64} {H : Heap} {locs : List Loc} (hR : Rel i a b R T) (hP : va_P G vwCl (WW cy u rI rT i i a b j R T) H) (hD : va_D (LA s) (WW cy u rI rT i i a b j R T)) (hS : va_S (LA s) s.heap H locs) {ls : Array Slot} (hl : lv_has ls 4 [(0, .ref b_), (1, .ref (u 0)), (2, .ref (u 38)), (3, .int (nI k))]) (kk : Nx p l e s m below meth c b_ G cy u rI rT ls) : LW p l e s m below meth c b_ H locs (F0 m 343 ls []) := by
  obtain ⟨hx, hb0, hr, hml, hown, htA, hX, hbl, hlocks, hK, hN, hZ⟩ := C0
  have hb : c.code = cL_law := hb0
  obtain ⟨ha, hb, hp, hN, hT, hSn, hEv, hBk, hIm, hTp, hCX, hCE, hCM⟩ := hR
  have hA : ∀ q : Nat, s.heap.size ≤ q → LA s q := fun _ h => h
  have hbA : ¬ LA s b_ := Nat.not_le.mpr hbl
  have hv1 : vp_in (nI k + 1) L := by rw [show nI k + 1 = nI (k + 1) from nI_add k 1]; exact vp_in_nI (by omega) (by omega)
  obtain ⟨y0, y1, y2, y3, y4, y5, y6, y7, y8, e1, e2⟩ := pr_told (n := 5000) (by omega) (xs (Int32.toNatClampNeg (nI k + 1))) (a := (i 0)) (b := (i 1)) (x := (i 2)) (y := (i 3)) ha hb hp (i 5) (i 21) (i 22) (i 23) (i 24) (i 33) (i 34) (i 35) (i 36)
  have e2 : fX9_told_ 5000 (xs (Int32.toNatClampNeg (nI k + 1))) (i 0) (i 1) (i 2) (i 3) (i 33) (i 34) (i 35) (i 36) (i 39) = some (y0, y5, y6, y7, y8) := by rw [Nts_eq hN]; exact e2
  refine lv_aload_n hx hb dL_law_343 rfl (lv_at hl 1 rfl) ?_
  refine lv_aload_n hx hb dL_law_344 rfl (lv_at hl 0 rfl) ?_
  refine lv_iload_n hx hb dL_law_345 rfl (lv_at hl 3 rfl) ?_
  refine lv_iconst (v := 1) hx hb dL_law_346 (by decide) ?_
  refine lv_iadd hx hb dL_law_347 ?_
  refine va_sld hx hb hX hbl hbA hS hv1 dL_law_348 ?_
  refine u_calli (WW cy u rI rT (upd (upd (upd (upd i 21 y1) 22 y2) 23 y3) 24 y4) i a b j R T) (va_runV (As := [.int (xs (Int32.toNatClampNeg (nI k + 1)))]) (rest := []) ⟨hx, hb, hml, hown, htA⟩ (kX8_told l G cy (u 0) (u 1) (u 11) (u 21) (u 22) (u 23) (u 27) (u 29) (u 34) (u 2) (u 3) (u 5) (u 7) (u 9) (u 4) H.size (i 4) (i 0) (i 1) (i 2) (i 3) 8 (i 5) (i 21) (i 22) (i 23) (i 24) (xs (Int32.toNatClampNeg (nI k + 1))) 5000 e1) (u_cwV htA a_ml_L_44 pk_X8_told ⟨(Nat.le_of_ble_eq_true rfl), (Nat.le_of_ble_eq_true rfl)⟩) (u_preV hK hN hP hD [0, 1, 2, 3, 22] rfl (by decide) 0 rfl rfl) rfl rfl hl.1 rfl (lv_room (Nat.le_of_ble_eq_true rfl)) dL_law_349 ⟨(Nat.le_of_ble_eq_true rfl), (Nat.le_of_ble_eq_true rfl)⟩) hP hD hS hA [0, 1, 2, 3, 22] rfl [4, 5, 6, 7, 8, 9, 10, 11, 12, 13, 14, 15, 16, 17, 18, 19, 20, 21, 23, 24, 25, 26, 27, 28, 29, 30, 31, 32, 33, 34, 35, 36, 37, 38, 39, 40, 41, 42, 43, 44, 45, 46, 47, 48, 49, 50, 51, 52, 53, 54, 55, 56, 57, 58, 59, 60, 61, 62, 63, 64, 65, 66, 67, 68, 69, 70, 71, 72, 73, 74, 75, 76, 77] 78 rfl rfl rfl (by decide) rfl (fun H locs hP hD hS => ?_)
  refine lv_aload_n hx hb dL_law_352 rfl (lv_at hl 2 rfl) ?_
  refine lv_aload_n hx hb dL_law_353 rfl (lv_at hl 0 rfl) ?_
  refine lv_iload_n hx hb dL_law_354 rfl (lv_at hl 3 rfl) ?_
  refine lv_iconst (v := 1) hx hb dL_law_355 (by decide) ?_
  refine lv_iadd hx hb dL_law_356 ?_
  refine va_sld hx hb hX hbl hbA hS hv1 dL_law_357 ?_
  refine u_calli (WW cy u rI rT (upd (upd (upd (upd (upd (upd (upd (upd i 21 y1) 22 y2) 23 y3) 24 y4) 33 y5) 34 y6) 35 y7) 36 y8) (upd (upd (upd (upd (upd (upd (upd (upd i 21 y1) 22 y2) 23 y3) 24 y4) 33 y5) 34 y6) 35 y7) 36 y8) a b j R T) (va_runV (As := [.int (xs (Int32.toNatClampNeg (nI k + 1)))]) (rest := [.int y0]) ⟨hx, hb, hml, hown, htA⟩ (kX9_told_ l G cy (u 38) (u 39) (u 40) (u 41) (u 42) (u 43) (u 44) (u 45) (u 46) (u 47) (u 48) (u 49) (u 50) (u 51) (u 52) (u 53) (u 54) (u 55) (u 56) (u 57) (u 58) (u 69) (u 70) (u 71) H.size (i 0) (i 1) (i 2) (i 3) (i 33) (i 34) (i 35) (i 36) (i 37) (i 38) (j 0) (j 1) (i 39) (i 40) (i 41) (i 42) (i 43) (i 44) (i 45) (i 46) (i 47) (xs (Int32.toNatClampNeg (nI k + 1))) 5000 e2) (u_cwV htA a_ml_L_47 pk_X9_told_ ⟨(Nat.le_of_ble_eq_true rfl), (Nat.le_of_ble_eq_true rfl)⟩) (u_preV hK hN hP hD [38] rfl (by decide) 38 rfl rfl) rfl rfl hl.1 rfl (lv_room (Nat.le_of_ble_eq_true rfl)) dL_law_358 ⟨(Nat.le_of_ble_eq_true rfl), (Nat.le_of_ble_eq_true rfl)⟩) hP hD hS hA [38] rfl [0, 1, 2, 3, 4, 5, 6, 7, 8, 9, 10, 11, 12, 13, 14, 15, 16, 17, 18, 19, 20, 21, 22, 23, 24, 25, 26, 27, 28, 29, 30, 31, 32, 33, 34, 35, 36, 37, 39, 40, 41, 42, 43, 44, 45, 46, 47, 48, 49, 50, 51, 52, 53, 54, 55, 56, 57, 58, 59, 60, 61, 62, 63, 64, 65, 66, 67, 68, 69, 70, 71, 72, 73, 74, 75, 76, 77] 78 rfl rfl rfl (by decide) rfl (fun H locs hP hD hS => ?_)
  refine lv_icmp_eq (tgt := 1368) hx hb dL_law_361 (by decide) (fun _ => ?_) (fun c_1 => absurd rfl c_1)
  exact kk (upd (upd (upd (upd (upd (upd (upd (upd i 21 y1) 22 y2) 23 y3) 24 y4) 33 y5) 34 y6) 35 y7) 36 y8) a b j R T H locs ⟨ha, hb, hp, hN, hT, hSn, hEv, hBk, hIm, hTp, hCX, hCE, hCM⟩ hP hD hS
set_option maxRecDepth 100000 in
set_option maxHeartbeats 4000000 in
theorem cl_noted (C0 : LC p s m meth c b_ L xs G cy ad av) {k : Nat} (hk : k + 6 ≤ L) (hL : L ≤ 3072) {u rI rT : Nat → Nat} {i : Nat → Int32} {a : Nat → Nat → Int32} {b : Nat → Nat → Int64} {j : Nat → Int64} {R : Nat → Nat → Int32} {T : Nat → Nat → Int64} {H : Heap} {locs : List Loc} (hR : Rel i a b R T) (hP : va_P G vwCl (WW cy u rI rT i i a b j R T) H) (hD : va_D (LA s) (WW cy u rI rT i i a b j R T)) (hS : va_S (LA s) s.heap H locs) {ls : Array Slot} (hl : lv_has ls 4 [(0, .ref b_), (1, .ref (u 0)), (2, .ref (u 38)), (3, .int (nI k))]) (kk : Nx p l e s m below meth c b_ G cy u rI rT ls) : LW p l e s m below meth c b_ H locs (F0 m 366 ls []) := by
  obtain ⟨hx, hb0, hr, hml, hown, htA, hX, hbl, hlocks, hK, hN, hZ⟩ := C0
  have hb : c.code = cL_law := hb0
  obtain ⟨ha, hb, hp, hN, hT, hSn, hEv, hBk, hIm, hTp, hCX, hCE, hCM⟩ := hR
  have hA : ∀ q : Nat, s.heap.size ≤ q → LA s q := fun _ h => h
  have hbA : ¬ LA s b_ := Nat.not_le.mpr hbl
  have hv1 : vp_in (nI k + 1) L := by rw [show nI k + 1 = nI (k + 1) from nI_add k 1]; exact vp_in_nI (by omega) (by omega)
  have hv2 : vp_in (nI k + 2) L := by rw [show nI k + 2 = nI (k + 2) from nI_add k 2]; exact vp_in_nI (by omega) (by omega)
  obtain ⟨y0, y1, y2, y3, y4, y5, y6, y7, y8, e1, e2⟩ := pr_noted (n := 5000) (m := 5000) (by omega) (by omega) (xs (Int32.toNatClampNeg (nI k + 1))) (xs (Int32.toNatClampNeg (nI k + 2))) (a := (i 0)) (b := (i 1)) ha hb (u := (i 5)) (v := (i 39)) (c := (a 0)) (A := (a 17)) (B := (a 18)) hN (i 21) (i 22) (i 23) (i 24) (i 33) (i 34) (i 35) (i 36)
  refine lv_aload_n hx hb dL_law_366 rfl (lv_at hl 1 rfl) ?_
  refine lv_aload_n hx hb dL_law_367 rfl (lv_at hl 0 rfl) ?_
  refine lv_iload_n hx hb dL_law_368 rfl (lv_at hl 3 rfl) ?_
  refine lv_iconst (v := 1) hx hb dL_law_369 (by decide) ?_
  refine lv_iadd hx hb dL_law_370 ?_
  refine va_sld hx hb hX hbl hbA hS hv1 dL_law_371 ?_
  refine lv_aload_n hx hb dL_law_372 rfl (lv_at hl 0 rfl) ?_
  refine lv_iload_n hx hb dL_law_373 rfl (lv_at hl 3 rfl) ?_
  refine lv_iconst (v := 2) hx hb dL_law_374 (by decide) ?_
  refine lv_iadd hx hb dL_law_375 ?_
  refine va_sld hx hb hX hbl hbA hS hv2 dL_law_376 ?_
  refine u_calli (WW cy u rI rT (upd (upd (upd (upd i 21 y1) 22 y2) 23 y3) 24 y4) i a b j R T) (va_runV (As := [.int (xs (Int32.toNatClampNeg (nI k + 1))), .int (xs (Int32.toNatClampNeg (nI k + 2)))]) (rest := []) ⟨hx, hb, hml, hown, htA⟩ (kX8_noted l G cy (u 0) (u 1) (u 11) (u 21) (u 22) (u 23) (u 27) (u 29) (u 34) (u 2) (u 3) (u 5) (u 7) (u 9) (u 4) H.size 24 (i 4) (i 0) (i 1) (i 2) (i 3) 8 (i 5) (a 0) (i 21) (i 22) (i 23) (i 24) (xs (Int32.toNatClampNeg (nI k + 1))) (xs (Int32.toNatClampNeg (nI k + 2))) 5000 e1) (u_cwV htA a_ml_L_48 pk_X8_noted ⟨(Nat.le_of_ble_eq_true rfl), (Nat.le_of_ble_eq_true rfl)⟩) (u_preV hK hN hP hD [0, 1, 2, 3, 4, 22] rfl (by decide) 0 rfl rfl) rfl rfl hl.1 rfl (lv_room (Nat.le_of_ble_eq_true rfl)) dL_law_377 ⟨(Nat.le_of_ble_eq_true rfl), (Nat.le_of_ble_eq_true rfl)⟩) hP hD hS hA [0, 1, 2, 3, 4, 22] rfl [5, 6, 7, 8, 9, 10, 11, 12, 13, 14, 15, 16, 17, 18, 19, 20, 21, 23, 24, 25, 26, 27, 28, 29, 30, 31, 32, 33, 34, 35, 36, 37, 38, 39, 40, 41, 42, 43, 44, 45, 46, 47, 48, 49, 50, 51, 52, 53, 54, 55, 56, 57, 58, 59, 60, 61, 62, 63, 64, 65, 66, 67, 68, 69, 70, 71, 72, 73, 74, 75, 76, 77] 78 rfl rfl rfl (by decide) rfl (fun H locs hP hD hS => ?_)
  refine lv_aload_n hx hb dL_law_380 rfl (lv_at hl 2 rfl) ?_
  refine lv_aload_n hx hb dL_law_381 rfl (lv_at hl 0 rfl) ?_
  refine lv_iload_n hx hb dL_law_382 rfl (lv_at hl 3 rfl) ?_
  refine lv_iconst (v := 1) hx hb dL_law_383 (by decide) ?_
  refine lv_iadd hx hb dL_law_384 ?_
  refine va_sld hx hb hX hbl hbA hS hv1 dL_law_385 ?_
  refine lv_aload_n hx hb dL_law_386 rfl (lv_at hl 0 rfl) ?_
  refine lv_iload_n hx hb dL_law_387 rfl (lv_at hl 3 rfl) ?_
  refine lv_iconst (v := 2) hx hb dL_law_388 (by decide) ?_
  refine lv_iadd hx hb dL_law_389 ?_
  refine va_sld hx hb hX hbl hbA hS hv2 dL_law_390 ?_
  refine u_calli (WW cy u rI rT (upd (upd (upd (upd (upd (upd (upd (upd i 21 y1) 22 y2) 23 y3) 24 y4) 33 y5) 34 y6) 35 y7) 36 y8) (upd (upd (upd (upd (upd (upd (upd (upd i 21 y1) 22 y2) 23 y3) 24 y4) 33 y5) 34 y6) 35 y7) 36 y8) a b j R T) (va_runV (As := [.int (xs (Int32.toNatClampNeg (nI k + 1))), .int (xs (Int32.toNatClampNeg (nI k + 2)))]) (rest := [.int y0]) ⟨hx, hb, hml, hown, htA⟩ (kX9_noted l G cy (u 38) (u 39) (u 40) (u 41) (u 42) (u 43) (u 44) (u 45) (u 46) (u 47) (u 48) (u 49) (u 50) (u 51) (u 52) (u 53) (u 54) (u 55) (u 56) (u 57) (u 58) (u 69) (u 70) (u 71) H.size (i 0) (i 1) (i 2) (i 3) (i 33) (i 34) (i 35) (i 36) (i 37) (i 38) (j 0) (j 1) (i 39) (i 40) (i 41) (i 42) (i 43) (i 44) (i 45) (i 46) (i 47) (a 17) (a 18) (xs (Int32.toNatClampNeg (nI k + 1))) (xs (Int32.toNatClampNeg (nI k + 2))) 5000 e2) (u_cwV htA a_ml_L_51 pk_X9_noted ⟨(Nat.le_of_ble_eq_true rfl), (Nat.le_of_ble_eq_true rfl)⟩) (u_preV hK hN hP hD [38, 42, 43] rfl (by decide) 38 rfl rfl) rfl rfl hl.1 rfl (lv_room (Nat.le_of_ble_eq_true rfl)) dL_law_391 ⟨(Nat.le_of_ble_eq_true rfl), (Nat.le_of_ble_eq_true rfl)⟩) hP hD hS hA [38, 42, 43] rfl [0, 1, 2, 3, 4, 5, 6, 7, 8, 9, 10, 11, 12, 13, 14, 15, 16, 17, 18, 19, 20, 21, 22, 23, 24, 25, 26, 27, 28, 29, 30, 31, 32, 33, 34, 35, 36, 37, 39, 40, 41, 44, 45, 46, 47, 48, 49, 50, 51, 52, 53, 54, 55, 56, 57, 58, 59, 60, 61, 62, 63, 64, 65, 66, 67, 68, 69, 70, 71, 72, 73, 74, 75, 76, 77] 78 rfl rfl rfl (by decide) rfl (fun H locs hP hD hS => ?_)
  refine lv_icmp_eq (tgt := 1368) hx hb dL_law_394 (by decide) (fun _ => ?_) (fun c_1 => absurd rfl c_1)
  exact kk (upd (upd (upd (upd (upd (upd (upd (upd i 21 y1) 22 y2) 23 y3) 24 y4) 33 y5) 34 y6) 35 y7) 36 y8) a b j R T H locs ⟨ha, hb, hp, hN, hT, hSn, hEv, hBk, hIm, hTp, hCX, hCE, hCM⟩ hP hD hS
set_option maxRecDepth 100000 in
set_option maxHeartbeats 4000000 in
theorem cl_norm (C0 : LC p s m meth c b_ L xs G cy ad av) {k : Nat} (hk : k + 6 ≤ L) (hL : L ≤ 3072) {u rI rT : Nat → Nat} {i : Nat → Int32} {a : Nat → Nat → Int32} {b : Nat → Nat → Int64} {j : Nat → Int64} {R : Nat → Nat → Int32} {T : Nat → Nat → Int64} {H : Heap} {locs : List Loc} (hR : Rel i a b R T) (hP : va_P G vwCl (WW cy u rI rT i i a b j R T) H) (hD : va_D (LA s) (WW cy u rI rT i i a b j R T)) (hS : va_S (LA s) s.heap H locs) {ls : Array Slot} (hl : lv_has ls 4 [(0, .ref b_), (1, .ref (u 0)), (2, .ref (u 38)), (3, .int (nI k))]) (kk : Nx p l e s m below meth c b_ G cy u rI rT ls) : LW p l e s m below meth c b_ H locs (F0 m 399 ls []) := by
  obtain ⟨hx, hb0, hr, hml, hown, htA, hX, hbl, hlocks, hK, hN, hZ⟩ := C0
  have hb : c.code = cL_law := hb0
  obtain ⟨ha, hb, hp, hN, hT, hSn, hEv, hBk, hIm, hTp, hCX, hCE, hCM⟩ := hR
  have hA : ∀ q : Nat, s.heap.size ≤ q → LA s q := fun _ h => h
  have hbA : ¬ LA s b_ := Nat.not_le.mpr hbl
  have hv1 : vp_in (nI k + 1) L := by rw [show nI k + 1 = nI (k + 1) from nI_add k 1]; exact vp_in_nI (by omega) (by omega)
  have hv2 : vp_in (nI k + 2) L := by rw [show nI k + 2 = nI (k + 2) from nI_add k 2]; exact vp_in_nI (by omega) (by omega)
  obtain ⟨y0, e1, e2⟩ := pr_norm (xs (Int32.toNatClampNeg (nI k + 1))) (xs (Int32.toNatClampNeg (nI k + 2))) (i 0) (i 1)
  refine lv_aload_n hx hb dL_law_399 rfl (lv_at hl 1 rfl) ?_
  refine lv_aload_n hx hb dL_law_400 rfl (lv_at hl 0 rfl) ?_
  refine lv_iload_n hx hb dL_law_401 rfl (lv_at hl 3 rfl) ?_
  refine lv_iconst (v := 1) hx hb dL_law_402 (by decide) ?_
  refine lv_iadd hx hb dL_law_403 ?_
  refine va_sld hx hb hX hbl hbA hS hv1 dL_law_404 ?_
  refine lv_aload_n hx hb dL_law_405 rfl (lv_at hl 0 rfl) ?_
  refine lv_iload_n hx hb dL_law_406 rfl (lv_at hl 3 rfl) ?_
  refine lv_iconst (v := 2) hx hb dL_law_407 (by decide) ?_
  refine lv_iadd hx hb dL_law_408 ?_
  refine va_sld hx hb hX hbl hbA hS hv2 dL_law_409 ?_
  refine u_calll (WW cy u rI rT i i a b j R T) (va_runV (As := [.int (xs (Int32.toNatClampNeg (nI k + 1))), .int (xs (Int32.toNatClampNeg (nI k + 2)))]) (rest := []) ⟨hx, hb, hml, hown, htA⟩ (kX8_norm l G cy (u 0) (u 1) (u 11) (u 21) (u 22) (u 23) (u 27) (u 29) (u 34) (u 2) (u 3) (u 5) (u 7) (u 9) H.size (i 4) (i 0) (i 1) (i 2) (i 3) (xs (Int32.toNatClampNeg (nI k + 1))) (xs (Int32.toNatClampNeg (nI k + 2))) e1) (u_cwV htA a_ml_L_52 pk_X8_norm ⟨(Nat.le_of_ble_eq_true rfl), (Nat.le_of_ble_eq_true rfl)⟩) (u_preV hK hN hP hD [0, 1, 2] rfl (by decide) 0 rfl rfl) rfl rfl hl.1 rfl (lv_room (Nat.le_of_ble_eq_true rfl)) dL_law_410 ⟨(Nat.le_of_ble_eq_true rfl), (Nat.le_of_ble_eq_true rfl)⟩) hP hD hS hA [0, 1, 2] rfl [3, 4, 5, 6, 7, 8, 9, 10, 11, 12, 13, 14, 15, 16, 17, 18, 19, 20, 21, 22, 23, 24, 25, 26, 27, 28, 29, 30, 31, 32, 33, 34, 35, 36, 37, 38, 39, 40, 41, 42, 43, 44, 45, 46, 47, 48, 49, 50, 51, 52, 53, 54, 55, 56, 57, 58, 59, 60, 61, 62, 63, 64, 65, 66, 67, 68, 69, 70, 71, 72, 73, 74, 75, 76, 77] 78 rfl rfl rfl (by decide) rfl (fun H locs hP hD hS => ?_)
  refine lv_aload_n hx hb dL_law_413 rfl (lv_at hl 2 rfl) ?_
  refine lv_aload_n hx hb dL_law_414 rfl (lv_at hl 0 rfl) ?_
  refine lv_iload_n hx hb dL_law_415 rfl (lv_at hl 3 rfl) ?_
  refine lv_iconst (v := 1) hx hb dL_law_416 (by decide) ?_
  refine lv_iadd hx hb dL_law_417 ?_
  refine va_sld hx hb hX hbl hbA hS hv1 dL_law_418 ?_
  refine lv_aload_n hx hb dL_law_419 rfl (lv_at hl 0 rfl) ?_
  refine lv_iload_n hx hb dL_law_420 rfl (lv_at hl 3 rfl) ?_
  refine lv_iconst (v := 2) hx hb dL_law_421 (by decide) ?_
  refine lv_iadd hx hb dL_law_422 ?_
  refine va_sld hx hb hX hbl hbA hS hv2 dL_law_423 ?_
  refine u_calll (WW cy u rI rT i i a b j R T) (va_runV (As := [.int (xs (Int32.toNatClampNeg (nI k + 1))), .int (xs (Int32.toNatClampNeg (nI k + 2)))]) (rest := [.long y0]) ⟨hx, hb, hml, hown, htA⟩ (kX9_norm l G cy (u 38) (u 39) (u 40) (u 41) (u 42) (u 43) (u 44) (u 45) (u 46) (u 47) (u 48) (u 49) (u 50) (u 51) (u 52) (u 53) (u 54) (u 55) (u 56) (u 57) (u 58) (u 69) (u 70) (u 71) H.size (i 0) (i 1) (i 2) (i 3) (i 33) (i 34) (i 35) (i 36) (i 37) (i 38) (j 0) (j 1) (i 39) (i 40) (i 41) (i 42) (i 43) (i 44) (i 45) (i 46) (i 47) (xs (Int32.toNatClampNeg (nI k + 1))) (xs (Int32.toNatClampNeg (nI k + 2))) e2) (u_cwV htA a_ml_L_56 pk_X9_norm ⟨(Nat.le_of_ble_eq_true rfl), (Nat.le_of_ble_eq_true rfl)⟩) (u_preV hK hN hP hD [38] rfl (by decide) 38 rfl rfl) rfl rfl hl.1 rfl (lv_room (Nat.le_of_ble_eq_true rfl)) dL_law_424 ⟨(Nat.le_of_ble_eq_true rfl), (Nat.le_of_ble_eq_true rfl)⟩) hP hD hS hA [38] rfl [0, 1, 2, 3, 4, 5, 6, 7, 8, 9, 10, 11, 12, 13, 14, 15, 16, 17, 18, 19, 20, 21, 22, 23, 24, 25, 26, 27, 28, 29, 30, 31, 32, 33, 34, 35, 36, 37, 39, 40, 41, 42, 43, 44, 45, 46, 47, 48, 49, 50, 51, 52, 53, 54, 55, 56, 57, 58, 59, 60, 61, 62, 63, 64, 65, 66, 67, 68, 69, 70, 71, 72, 73, 74, 75, 76, 77] 78 rfl rfl rfl (by decide) rfl (fun H locs hP hD hS => ?_)
  refine W.lcmp hx hb dL_law_427 ?_
  refine lv_if_eq (tgt := 1368) hx hb dL_law_428 (by decide) (fun _ => ?_) (fun c_1 => absurd ((lg_eq _ _).mpr rfl) c_1)
  exact kk i a b j R T H locs ⟨ha, hb, hp, hN, hT, hSn, hEv, hBk, hIm, hTp, hCX, hCE, hCM⟩ hP hD hS
set_option maxRecDepth 100000 in
set_option maxHeartbeats 4000000 in
theorem cl_product (C0 : LC p s m meth c b_ L xs G cy ad av) {k : Nat} (hk : k + 6 ≤ L) (hL : L ≤ 3072) {u rI rT : Nat → Nat} {i : Nat → Int32} {a : Nat → Nat → Int32} {b : Nat → Nat → Int64} {j : Nat → Int64} {R : Nat → Nat → Int32} {T : Nat → Nat → Int64} {H : Heap} {locs : List Loc} (hR : Rel i a b R T) (hP : va_P G vwCl (WW cy u rI rT i i a b j R T) H) (hD : va_D (LA s) (WW cy u rI rT i i a b j R T)) (hS : va_S (LA s) s.heap H locs) {ls : Array Slot} (hl : lv_has ls 4 [(0, .ref b_), (1, .ref (u 0)), (2, .ref (u 38)), (3, .int (nI k))]) (kk : Nx p l e s m below meth c b_ G cy u rI rT ls) : LW p l e s m below meth c b_ H locs (F0 m 433 ls []) := by
  obtain ⟨hx, hb0, hr, hml, hown, htA, hX, hbl, hlocks, hK, hN, hZ⟩ := C0
  have hb : c.code = cL_law := hb0
  obtain ⟨ha, hb, hp, hN, hT, hSn, hEv, hBk, hIm, hTp, hCX, hCE, hCM⟩ := hR
  have hA : ∀ q : Nat, s.heap.size ≤ q → LA s q := fun _ h => h
  have hbA : ¬ LA s b_ := Nat.not_le.mpr hbl
  have hv1 : vp_in (nI k + 1) L := by rw [show nI k + 1 = nI (k + 1) from nI_add k 1]; exact vp_in_nI (by omega) (by omega)
  have hv2 : vp_in (nI k + 2) L := by rw [show nI k + 2 = nI (k + 2) from nI_add k 2]; exact vp_in_nI (by omega) (by omega)
  have hv3 : vp_in (nI k + 3) L := by rw [show nI k + 3 = nI (k + 3) from nI_add k 3]; exact vp_in_nI (by omega) (by omega)
  have hv4 : vp_in (nI k + 4) L := by rw [show nI k + 4 = nI (k + 4) from nI_add k 4]; exact vp_in_nI (by omega) (by omega)
  obtain ⟨y0, e1, e2⟩ := pr_product (xs (Int32.toNatClampNeg (nI k + 1))) (xs (Int32.toNatClampNeg (nI k + 2))) (xs (Int32.toNatClampNeg (nI k + 3))) (xs (Int32.toNatClampNeg (nI k + 4))) (i 0) (i 1)
  refine lv_aload_n hx hb dL_law_433 rfl (lv_at hl 1 rfl) ?_
  refine lv_aload_n hx hb dL_law_434 rfl (lv_at hl 0 rfl) ?_
  refine lv_iload_n hx hb dL_law_435 rfl (lv_at hl 3 rfl) ?_
  refine lv_iconst (v := 1) hx hb dL_law_436 (by decide) ?_
  refine lv_iadd hx hb dL_law_437 ?_
  refine va_sld hx hb hX hbl hbA hS hv1 dL_law_438 ?_
  refine lv_aload_n hx hb dL_law_439 rfl (lv_at hl 0 rfl) ?_
  refine lv_iload_n hx hb dL_law_440 rfl (lv_at hl 3 rfl) ?_
  refine lv_iconst (v := 2) hx hb dL_law_441 (by decide) ?_
  refine lv_iadd hx hb dL_law_442 ?_
  refine va_sld hx hb hX hbl hbA hS hv2 dL_law_443 ?_
  refine lv_aload_n hx hb dL_law_444 rfl (lv_at hl 0 rfl) ?_
  refine lv_iload_n hx hb dL_law_445 rfl (lv_at hl 3 rfl) ?_
  refine lv_iconst (v := 3) hx hb dL_law_446 (by decide) ?_
  refine lv_iadd hx hb dL_law_447 ?_
  refine va_sld hx hb hX hbl hbA hS hv3 dL_law_448 ?_
  refine lv_aload_n hx hb dL_law_449 rfl (lv_at hl 0 rfl) ?_
  refine lv_iload_n hx hb dL_law_450 rfl (lv_at hl 3 rfl) ?_
  refine lv_iconst (v := 4) hx hb dL_law_451 (by decide) ?_
  refine lv_iadd hx hb dL_law_452 ?_
  refine va_sld hx hb hX hbl hbA hS hv4 dL_law_453 ?_
  refine u_calll (WW cy u rI rT i i a b j R T) (va_runV (As := [.int (xs (Int32.toNatClampNeg (nI k + 1))), .int (xs (Int32.toNatClampNeg (nI k + 2))), .int (xs (Int32.toNatClampNeg (nI k + 3))), .int (xs (Int32.toNatClampNeg (nI k + 4)))]) (rest := []) ⟨hx, hb, hml, hown, htA⟩ (kX8_product l G cy (u 0) (u 1) (u 11) (u 21) (u 22) (u 23) (u 27) (u 29) (u 34) (u 2) (u 3) (u 5) (u 7) (u 9) H.size (i 4) (i 0) (i 1) (i 2) (i 3) (xs (Int32.toNatClampNeg (nI k + 1))) (xs (Int32.toNatClampNeg (nI k + 2))) (xs (Int32.toNatClampNeg (nI k + 3))) (xs (Int32.toNatClampNeg (nI k + 4))) e1) (u_cwV htA a_ml_L_57 pk_X8_product ⟨(Nat.le_of_ble_eq_true rfl), (Nat.le_of_ble_eq_true rfl)⟩) (u_preV hK hN hP hD [0, 1, 2] rfl (by decide) 0 rfl rfl) rfl rfl hl.1 rfl (lv_room (Nat.le_of_ble_eq_true rfl)) dL_law_454 ⟨(Nat.le_of_ble_eq_true rfl), (Nat.le_of_ble_eq_true rfl)⟩) hP hD hS hA [0, 1, 2] rfl [3, 4, 5, 6, 7, 8, 9, 10, 11, 12, 13, 14, 15, 16, 17, 18, 19, 20, 21, 22, 23, 24, 25, 26, 27, 28, 29, 30, 31, 32, 33, 34, 35, 36, 37, 38, 39, 40, 41, 42, 43, 44, 45, 46, 47, 48, 49, 50, 51, 52, 53, 54, 55, 56, 57, 58, 59, 60, 61, 62, 63, 64, 65, 66, 67, 68, 69, 70, 71, 72, 73, 74, 75, 76, 77] 78 rfl rfl rfl (by decide) rfl (fun H locs hP hD hS => ?_)
  refine lv_aload_n hx hb dL_law_457 rfl (lv_at hl 2 rfl) ?_
  refine lv_aload_n hx hb dL_law_458 rfl (lv_at hl 0 rfl) ?_
  refine lv_iload_n hx hb dL_law_459 rfl (lv_at hl 3 rfl) ?_
  refine lv_iconst (v := 1) hx hb dL_law_460 (by decide) ?_
  refine lv_iadd hx hb dL_law_461 ?_
  refine va_sld hx hb hX hbl hbA hS hv1 dL_law_462 ?_
  refine lv_aload_n hx hb dL_law_463 rfl (lv_at hl 0 rfl) ?_
  refine lv_iload_n hx hb dL_law_464 rfl (lv_at hl 3 rfl) ?_
  refine lv_iconst (v := 2) hx hb dL_law_465 (by decide) ?_
  refine lv_iadd hx hb dL_law_466 ?_
  refine va_sld hx hb hX hbl hbA hS hv2 dL_law_467 ?_
  refine lv_aload_n hx hb dL_law_468 rfl (lv_at hl 0 rfl) ?_
  refine lv_iload_n hx hb dL_law_469 rfl (lv_at hl 3 rfl) ?_
  refine lv_iconst (v := 3) hx hb dL_law_470 (by decide) ?_
  refine lv_iadd hx hb dL_law_471 ?_
  refine va_sld hx hb hX hbl hbA hS hv3 dL_law_472 ?_
  refine lv_aload_n hx hb dL_law_473 rfl (lv_at hl 0 rfl) ?_
  refine lv_iload_n hx hb dL_law_474 rfl (lv_at hl 3 rfl) ?_
  refine lv_iconst (v := 4) hx hb dL_law_475 (by decide) ?_
  refine lv_iadd hx hb dL_law_476 ?_
  refine va_sld hx hb hX hbl hbA hS hv4 dL_law_477 ?_
  refine u_calll (WW cy u rI rT i i a b j R T) (va_runV (As := [.int (xs (Int32.toNatClampNeg (nI k + 1))), .int (xs (Int32.toNatClampNeg (nI k + 2))), .int (xs (Int32.toNatClampNeg (nI k + 3))), .int (xs (Int32.toNatClampNeg (nI k + 4)))]) (rest := [.long y0]) ⟨hx, hb, hml, hown, htA⟩ (kX9_product l G cy (u 38) (u 39) (u 40) (u 41) (u 42) (u 43) (u 44) (u 45) (u 46) (u 47) (u 48) (u 49) (u 50) (u 51) (u 52) (u 53) (u 54) (u 55) (u 56) (u 57) (u 58) (u 69) (u 70) (u 71) H.size (i 0) (i 1) (i 2) (i 3) (i 33) (i 34) (i 35) (i 36) (i 37) (i 38) (j 0) (j 1) (i 39) (i 40) (i 41) (i 42) (i 43) (i 44) (i 45) (i 46) (i 47) (xs (Int32.toNatClampNeg (nI k + 1))) (xs (Int32.toNatClampNeg (nI k + 2))) (xs (Int32.toNatClampNeg (nI k + 3))) (xs (Int32.toNatClampNeg (nI k + 4))) e2) (u_cwV htA a_ml_L_61 pk_X9_product ⟨(Nat.le_of_ble_eq_true rfl), (Nat.le_of_ble_eq_true rfl)⟩) (u_preV hK hN hP hD [38] rfl (by decide) 38 rfl rfl) rfl rfl hl.1 rfl (lv_room (Nat.le_of_ble_eq_true rfl)) dL_law_478 ⟨(Nat.le_of_ble_eq_true rfl), (Nat.le_of_ble_eq_true rfl)⟩) hP hD hS hA [38] rfl [0, 1, 2, 3, 4, 5, 6, 7, 8, 9, 10, 11, 12, 13, 14, 15, 16, 17, 18, 19, 20, 21, 22, 23, 24, 25, 26, 27, 28, 29, 30, 31, 32, 33, 34, 35, 36, 37, 39, 40, 41, 42, 43, 44, 45, 46, 47, 48, 49, 50, 51, 52, 53, 54, 55, 56, 57, 58, 59, 60, 61, 62, 63, 64, 65, 66, 67, 68, 69, 70, 71, 72, 73, 74, 75, 76, 77] 78 rfl rfl rfl (by decide) rfl (fun H locs hP hD hS => ?_)
  refine W.lcmp hx hb dL_law_481 ?_
  refine lv_if_eq (tgt := 1368) hx hb dL_law_482 (by decide) (fun _ => ?_) (fun c_1 => absurd ((lg_eq _ _).mpr rfl) c_1)
  exact kk i a b j R T H locs ⟨ha, hb, hp, hN, hT, hSn, hEv, hBk, hIm, hTp, hCX, hCE, hCM⟩ hP hD hS
set_option maxRecDepth 100000 in
set_option maxHeartbeats 4000000 in
theorem cl_coat (C0 : LC p s m meth c b_ L xs G cy ad av) {k : Nat} (hk : k + 6 ≤ L) (hL : L ≤ 3072) {u rI rT : Nat → Nat} {i : Nat → Int32} {a : Nat → Nat → Int32} {b : Nat → Nat → Int64} {j : Nat → Int64} {R : Nat → Nat → Int32} {T : Nat → Nat → Int64} {H : Heap} {locs : List Loc} (hR : Rel i a b R T) (hP : va_P G vwCl (WW cy u rI rT i i a b j R T) H) (hD : va_D (LA s) (WW cy u rI rT i i a b j R T)) (hS : va_S (LA s) s.heap H locs) {ls : Array Slot} (hl : lv_has ls 4 [(0, .ref b_), (1, .ref (u 0)), (2, .ref (u 38)), (3, .int (nI k))]) (kk : Nx p l e s m below meth c b_ G cy u rI rT ls) : LW p l e s m below meth c b_ H locs (F0 m 487 ls []) := by
  obtain ⟨hx, hb0, hr, hml, hown, htA, hX, hbl, hlocks, hK, hN, hZ⟩ := C0
  have hb : c.code = cL_law := hb0
  obtain ⟨ha, hb, hp, hN, hT, hSn, hEv, hBk, hIm, hTp, hCX, hCE, hCM⟩ := hR
  have hA : ∀ q : Nat, s.heap.size ≤ q → LA s q := fun _ h => h
  have hbA : ¬ LA s b_ := Nat.not_le.mpr hbl
  have hv1 : vp_in (nI k + 1) L := by rw [show nI k + 1 = nI (k + 1) from nI_add k 1]; exact vp_in_nI (by omega) (by omega)
  have hv2 : vp_in (nI k + 2) L := by rw [show nI k + 2 = nI (k + 2) from nI_add k 2]; exact vp_in_nI (by omega) (by omega)
  have hv3 : vp_in (nI k + 3) L := by rw [show nI k + 3 = nI (k + 3) from nI_add k 3]; exact vp_in_nI (by omega) (by omega)
  obtain ⟨y0, e1, e2⟩ := pr_coat (xs (Int32.toNatClampNeg (nI k + 1))) (xs (Int32.toNatClampNeg (nI k + 2))) (xs (Int32.toNatClampNeg (nI k + 3))) (i 0) (i 1)
  refine lv_aload_n hx hb dL_law_487 rfl (lv_at hl 1 rfl) ?_
  refine lv_aload_n hx hb dL_law_488 rfl (lv_at hl 0 rfl) ?_
  refine lv_iload_n hx hb dL_law_489 rfl (lv_at hl 3 rfl) ?_
  refine lv_iconst (v := 1) hx hb dL_law_490 (by decide) ?_
  refine lv_iadd hx hb dL_law_491 ?_
  refine va_sld hx hb hX hbl hbA hS hv1 dL_law_492 ?_
  refine lv_aload_n hx hb dL_law_493 rfl (lv_at hl 0 rfl) ?_
  refine lv_iload_n hx hb dL_law_494 rfl (lv_at hl 3 rfl) ?_
  refine lv_iconst (v := 2) hx hb dL_law_495 (by decide) ?_
  refine lv_iadd hx hb dL_law_496 ?_
  refine va_sld hx hb hX hbl hbA hS hv2 dL_law_497 ?_
  refine lv_aload_n hx hb dL_law_498 rfl (lv_at hl 0 rfl) ?_
  refine lv_iload_n hx hb dL_law_499 rfl (lv_at hl 3 rfl) ?_
  refine lv_iconst (v := 3) hx hb dL_law_500 (by decide) ?_
  refine lv_iadd hx hb dL_law_501 ?_
  refine va_sld hx hb hX hbl hbA hS hv3 dL_law_502 ?_
  refine u_calli (WW cy u rI rT i i a b j R T) (va_runV (As := [.int (xs (Int32.toNatClampNeg (nI k + 1))), .int (xs (Int32.toNatClampNeg (nI k + 2))), .int (xs (Int32.toNatClampNeg (nI k + 3)))]) (rest := []) ⟨hx, hb, hml, hown, htA⟩ (kX8_coat l G cy (u 0) (u 1) (u 11) (u 21) (u 22) (u 23) (u 27) (u 29) (u 34) (u 2) (u 3) (u 5) (u 7) (u 9) H.size (i 4) (i 0) (i 1) (i 2) (i 3) (xs (Int32.toNatClampNeg (nI k + 1))) (xs (Int32.toNatClampNeg (nI k + 2))) (xs (Int32.toNatClampNeg (nI k + 3))) e1) (u_cwV htA a_ml_L_62 pk_X8_coat ⟨(Nat.le_of_ble_eq_true rfl), (Nat.le_of_ble_eq_true rfl)⟩) (u_preV hK hN hP hD [0, 1, 2] rfl (by decide) 0 rfl rfl) rfl rfl hl.1 rfl (lv_room (Nat.le_of_ble_eq_true rfl)) dL_law_503 ⟨(Nat.le_of_ble_eq_true rfl), (Nat.le_of_ble_eq_true rfl)⟩) hP hD hS hA [0, 1, 2] rfl [3, 4, 5, 6, 7, 8, 9, 10, 11, 12, 13, 14, 15, 16, 17, 18, 19, 20, 21, 22, 23, 24, 25, 26, 27, 28, 29, 30, 31, 32, 33, 34, 35, 36, 37, 38, 39, 40, 41, 42, 43, 44, 45, 46, 47, 48, 49, 50, 51, 52, 53, 54, 55, 56, 57, 58, 59, 60, 61, 62, 63, 64, 65, 66, 67, 68, 69, 70, 71, 72, 73, 74, 75, 76, 77] 78 rfl rfl rfl (by decide) rfl (fun H locs hP hD hS => ?_)
  refine lv_aload_n hx hb dL_law_506 rfl (lv_at hl 2 rfl) ?_
  refine lv_aload_n hx hb dL_law_507 rfl (lv_at hl 0 rfl) ?_
  refine lv_iload_n hx hb dL_law_508 rfl (lv_at hl 3 rfl) ?_
  refine lv_iconst (v := 1) hx hb dL_law_509 (by decide) ?_
  refine lv_iadd hx hb dL_law_510 ?_
  refine va_sld hx hb hX hbl hbA hS hv1 dL_law_511 ?_
  refine lv_aload_n hx hb dL_law_512 rfl (lv_at hl 0 rfl) ?_
  refine lv_iload_n hx hb dL_law_513 rfl (lv_at hl 3 rfl) ?_
  refine lv_iconst (v := 2) hx hb dL_law_514 (by decide) ?_
  refine lv_iadd hx hb dL_law_515 ?_
  refine va_sld hx hb hX hbl hbA hS hv2 dL_law_516 ?_
  refine lv_aload_n hx hb dL_law_517 rfl (lv_at hl 0 rfl) ?_
  refine lv_iload_n hx hb dL_law_518 rfl (lv_at hl 3 rfl) ?_
  refine lv_iconst (v := 3) hx hb dL_law_519 (by decide) ?_
  refine lv_iadd hx hb dL_law_520 ?_
  refine va_sld hx hb hX hbl hbA hS hv3 dL_law_521 ?_
  refine u_calli (WW cy u rI rT i i a b j R T) (va_runV (As := [.int (xs (Int32.toNatClampNeg (nI k + 1))), .int (xs (Int32.toNatClampNeg (nI k + 2))), .int (xs (Int32.toNatClampNeg (nI k + 3)))]) (rest := [.int y0]) ⟨hx, hb, hml, hown, htA⟩ (kX9_coat l G cy (u 38) (u 39) (u 40) (u 41) (u 42) (u 43) (u 44) (u 45) (u 46) (u 47) (u 48) (u 49) (u 50) (u 51) (u 52) (u 53) (u 54) (u 55) (u 56) (u 57) (u 58) (u 69) (u 70) (u 71) H.size (i 0) (i 1) (i 2) (i 3) (i 33) (i 34) (i 35) (i 36) (i 37) (i 38) (j 0) (j 1) (i 39) (i 40) (i 41) (i 42) (i 43) (i 44) (i 45) (i 46) (i 47) (xs (Int32.toNatClampNeg (nI k + 1))) (xs (Int32.toNatClampNeg (nI k + 2))) (xs (Int32.toNatClampNeg (nI k + 3))) e2) (u_cwV htA a_ml_L_66 pk_X9_coat ⟨(Nat.le_of_ble_eq_true rfl), (Nat.le_of_ble_eq_true rfl)⟩) (u_preV hK hN hP hD [38] rfl (by decide) 38 rfl rfl) rfl rfl hl.1 rfl (lv_room (Nat.le_of_ble_eq_true rfl)) dL_law_522 ⟨(Nat.le_of_ble_eq_true rfl), (Nat.le_of_ble_eq_true rfl)⟩) hP hD hS hA [38] rfl [0, 1, 2, 3, 4, 5, 6, 7, 8, 9, 10, 11, 12, 13, 14, 15, 16, 17, 18, 19, 20, 21, 22, 23, 24, 25, 26, 27, 28, 29, 30, 31, 32, 33, 34, 35, 36, 37, 39, 40, 41, 42, 43, 44, 45, 46, 47, 48, 49, 50, 51, 52, 53, 54, 55, 56, 57, 58, 59, 60, 61, 62, 63, 64, 65, 66, 67, 68, 69, 70, 71, 72, 73, 74, 75, 76, 77] 78 rfl rfl rfl (by decide) rfl (fun H locs hP hD hS => ?_)
  refine lv_icmp_eq (tgt := 1368) hx hb dL_law_525 (by decide) (fun _ => ?_) (fun c_1 => absurd rfl c_1)
  exact kk i a b j R T H locs ⟨ha, hb, hp, hN, hT, hSn, hEv, hBk, hIm, hTp, hCX, hCE, hCM⟩ hP hD hS
end
