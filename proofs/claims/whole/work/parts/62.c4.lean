section
variable {p : Program} {l : Launch} {e : Env} {s : State} {m : MethodId} {below : List Frame} {meth : Method} {c : Code} {b_ L : Nat} {xs : Nat → Int32} {G : va_G} {cy : Nat → ClassId} {ad av : Nat → Nat}
set_option maxRecDepth 100000 in
set_option maxHeartbeats 4000000 in
theorem cl_event (C0 : LC p s m meth c b_ L xs G cy ad av) {k : Nat} (hk : k + 6 ≤ L) (hL : L ≤ 3072) {u rI rT : Nat → Nat} {i : Nat → Int32} {a : Nat → Nat → Int32} {b : Nat → Nat → Int64} {j : Nat → Int64} {R : Nat → Nat → Int32} {T : Nat → Nat → Int64} {H : Heap} {locs : List Loc} (hR : Rel i a b R T) (hP : va_P G vwCl (WW cy u rI rT i i a b j R T) H) (hD : va_D (LA s) (WW cy u rI rT i i a b j R T)) (hS : va_S (LA s) s.heap H locs) {ls : Array Slot} (hl : lv_has ls 4 [(0, .ref b_), (1, .ref (u 0)), (2, .ref (u 38)), (3, .int (nI k))]) (kk : Nx p l e s m below meth c b_ G cy u rI rT ls) : LW p l e s m below meth c b_ H locs (F0 m 960 ls []) := by
  obtain ⟨hx, hb0, hr, hml, hown, htA, hX, hbl, hlocks, hK, hN, hZ⟩ := C0
  have hb : c.code = cL_law := hb0
  obtain ⟨ha, hb, hp, hN, hT, hSn, hEv, hBk, hIm, hTp, hCX, hCE, hCM⟩ := hR
  have hA : ∀ q : Nat, s.heap.size ≤ q → LA s q := fun _ h => h
  have hbA : ¬ LA s b_ := Nat.not_le.mpr hbl
  have hv1 : vp_in (nI k + 1) L := by rw [show nI k + 1 = nI (k + 1) from nI_add k 1]; exact vp_in_nI (by omega) (by omega)
  have hv2 : vp_in (nI k + 2) L := by rw [show nI k + 2 = nI (k + 2) from nI_add k 2]; exact vp_in_nI (by omega) (by omega)
  obtain ⟨y0, y1, y2, y3, y4, y5, e1, e2, g0⟩ := pr_event (xs (Int32.toNatClampNeg (nI k + 1))) (xs (Int32.toNatClampNeg (nI k + 2))) (u := (i 7)) (v := (i 45)) (c := (a 2)) (A := (a 26)) (B := (a 27)) hEv
  refine lv_aload_n hx hb dL_law_960 rfl (lv_at hl 1 rfl) ?_
  refine lv_aload_n hx hb dL_law_961 rfl (lv_at hl 0 rfl) ?_
  refine lv_iload_n hx hb dL_law_962 rfl (lv_at hl 3 rfl) ?_
  refine lv_iconst (v := 1) hx hb dL_law_963 (by decide) ?_
  refine lv_iadd hx hb dL_law_964 ?_
  refine va_sld hx hb hX hbl hbA hS hv1 dL_law_965 ?_
  refine lv_aload_n hx hb dL_law_966 rfl (lv_at hl 0 rfl) ?_
  refine lv_iload_n hx hb dL_law_967 rfl (lv_at hl 3 rfl) ?_
  refine lv_iconst (v := 2) hx hb dL_law_968 (by decide) ?_
  refine lv_iadd hx hb dL_law_969 ?_
  refine va_sld hx hb hX hbl hbA hS hv2 dL_law_970 ?_
  refine u_calli (WW cy u rI rT (upd i 7 y1) i (gup a 2 y2) b j R T) (va_runV (As := [.int (xs (Int32.toNatClampNeg (nI k + 1))), .int (xs (Int32.toNatClampNeg (nI k + 2)))]) (rest := []) ⟨hx, hb, hml, hown, htA⟩ (kX8_event l G cy (u 0) (u 1) (u 11) (u 21) (u 22) (u 23) (u 27) (u 29) (u 34) (u 2) (u 3) (u 5) (u 7) (u 9) (u 8) H.size 24 (i 4) 8 (i 7) (a 2) (xs (Int32.toNatClampNeg (nI k + 1))) (xs (Int32.toNatClampNeg (nI k + 2))) e1) (u_cwV htA a_ml_L_117 pk_X8_event ⟨(Nat.le_of_ble_eq_true rfl), (Nat.le_of_ble_eq_true rfl)⟩) (u_preV hK hN hP hD [0, 1, 7, 8] rfl (by decide) 0 rfl rfl) rfl rfl hl.1 rfl (lv_room (Nat.le_of_ble_eq_true rfl)) dL_law_971 ⟨(Nat.le_of_ble_eq_true rfl), (Nat.le_of_ble_eq_true rfl)⟩) hP hD hS hA [0, 1, 7, 8] rfl [2, 3, 4, 5, 6, 9, 10, 11, 12, 13, 14, 15, 16, 17, 18, 19, 20, 21, 22, 23, 24, 25, 26, 27, 28, 29, 30, 31, 32, 33, 34, 35, 36, 37, 38, 39, 40, 41, 42, 43, 44, 45, 46, 47, 48, 49, 50, 51, 52, 53, 54, 55, 56, 57, 58, 59, 60, 61, 62, 63, 64, 65, 66, 67, 68, 69, 70, 71, 72, 73, 74, 75, 76, 77] 78 rfl rfl rfl (by decide) rfl (fun H locs hP hD hS => ?_)
  refine lv_aload_n hx hb dL_law_974 rfl (lv_at hl 2 rfl) ?_
  refine lv_aload_n hx hb dL_law_975 rfl (lv_at hl 0 rfl) ?_
  refine lv_iload_n hx hb dL_law_976 rfl (lv_at hl 3 rfl) ?_
  refine lv_iconst (v := 1) hx hb dL_law_977 (by decide) ?_
  refine lv_iadd hx hb dL_law_978 ?_
  refine va_sld hx hb hX hbl hbA hS hv1 dL_law_979 ?_
  refine lv_aload_n hx hb dL_law_980 rfl (lv_at hl 0 rfl) ?_
  refine lv_iload_n hx hb dL_law_981 rfl (lv_at hl 3 rfl) ?_
  refine lv_iconst (v := 2) hx hb dL_law_982 (by decide) ?_
  refine lv_iadd hx hb dL_law_983 ?_
  refine va_sld hx hb hX hbl hbA hS hv2 dL_law_984 ?_
  refine u_calli (WW cy u rI rT (upd (upd i 7 y1) 45 y3) (upd (upd i 7 y1) 45 y3) (gup (gup (gup a 2 y2) 26 y4) 27 y5) b j R T) (va_runV (As := [.int (xs (Int32.toNatClampNeg (nI k + 1))), .int (xs (Int32.toNatClampNeg (nI k + 2)))]) (rest := [.int y0]) ⟨hx, hb, hml, hown, htA⟩ (kX9_event l G cy (u 38) (u 39) (u 40) (u 41) (u 42) (u 43) (u 44) (u 45) (u 46) (u 47) (u 48) (u 49) (u 50) (u 51) (u 52) (u 53) (u 54) (u 55) (u 56) (u 57) (u 58) (u 69) (u 70) (u 71) H.size (i 0) (i 1) (i 2) (i 3) (i 33) (i 34) (i 35) (i 36) (i 37) (i 38) (j 0) (j 1) (i 39) (i 40) (i 41) (i 42) (i 43) (i 44) (i 45) (i 46) (i 47) (a 26) (a 27) (xs (Int32.toNatClampNeg (nI k + 1))) (xs (Int32.toNatClampNeg (nI k + 2))) e2) (u_cwV htA a_ml_L_120 pk_X9_event ⟨(Nat.le_of_ble_eq_true rfl), (Nat.le_of_ble_eq_true rfl)⟩) (u_preV hK hN hP hD [38, 52, 53] rfl (by decide) 38 rfl rfl) rfl rfl hl.1 rfl (lv_room (Nat.le_of_ble_eq_true rfl)) dL_law_985 ⟨(Nat.le_of_ble_eq_true rfl), (Nat.le_of_ble_eq_true rfl)⟩) hP hD hS hA [38, 52, 53] rfl [0, 1, 2, 3, 4, 5, 6, 7, 8, 9, 10, 11, 12, 13, 14, 15, 16, 17, 18, 19, 20, 21, 22, 23, 24, 25, 26, 27, 28, 29, 30, 31, 32, 33, 34, 35, 36, 37, 39, 40, 41, 42, 43, 44, 45, 46, 47, 48, 49, 50, 51, 54, 55, 56, 57, 58, 59, 60, 61, 62, 63, 64, 65, 66, 67, 68, 69, 70, 71, 72, 73, 74, 75, 76, 77] 78 rfl rfl rfl (by decide) rfl (fun H locs hP hD hS => ?_)
  refine lv_icmp_eq (tgt := 1368) hx hb dL_law_988 (by decide) (fun _ => ?_) (fun c_1 => absurd rfl c_1)
  exact kk (upd (upd i 7 y1) 45 y3) (gup (gup (gup a 2 y2) 26 y4) 27 y5) b j R T H locs ⟨ha, hb, hp, hN, hT, hSn, g0, hBk, hIm, hTp, hCX, hCE, hCM⟩ hP hD hS
set_option maxRecDepth 100000 in
set_option maxHeartbeats 4000000 in
theorem cl_after (C0 : LC p s m meth c b_ L xs G cy ad av) {k : Nat} (hk : k + 6 ≤ L) (hL : L ≤ 3072) {u rI rT : Nat → Nat} {i : Nat → Int32} {a : Nat → Nat → Int32} {b : Nat → Nat → Int64} {j : Nat → Int64} {R : Nat → Nat → Int32} {T : Nat → Nat → Int64} {H : Heap} {locs : List Loc} (hR : Rel i a b R T) (hP : va_P G vwCl (WW cy u rI rT i i a b j R T) H) (hD : va_D (LA s) (WW cy u rI rT i i a b j R T)) (hS : va_S (LA s) s.heap H locs) {ls : Array Slot} (hl : lv_has ls 4 [(0, .ref b_), (1, .ref (u 0)), (2, .ref (u 38)), (3, .int (nI k))]) (kk : Nx p l e s m below meth c b_ G cy u rI rT ls) : LW p l e s m below meth c b_ H locs (F0 m 993 ls []) := by
  obtain ⟨hx, hb0, hr, hml, hown, htA, hX, hbl, hlocks, hK, hN, hZ⟩ := C0
  have hb : c.code = cL_law := hb0
  obtain ⟨ha, hb, hp, hN, hT, hSn, hEv, hBk, hIm, hTp, hCX, hCE, hCM⟩ := hR
  have hA : ∀ q : Nat, s.heap.size ≤ q → LA s q := fun _ h => h
  have hbA : ¬ LA s b_ := Nat.not_le.mpr hbl
  have hv1 : vp_in (nI k + 1) L := by rw [show nI k + 1 = nI (k + 1) from nI_add k 1]; exact vp_in_nI (by omega) (by omega)
  obtain ⟨y0, y1, y2, y3, y4, y5, y6, y7, y8, y9, y10, y11, y12, e1, e2⟩ := pr_after (n := 5000) (m := 5000) (by omega) (by omega) (xs (Int32.toNatClampNeg (nI k + 1))) (a := (i 0)) (b := (i 1)) (x := (i 2)) (y := (i 3)) ha hb hp (u := (i 7)) (v := (i 45)) (c := (a 2)) (A := (a 26)) (B := (a 27)) hEv (i 17) (i 18) (i 19) (i 20) (i 21) (i 22) (i 23) (i 24) (i 33) (i 34) (i 35) (i 36)
  refine lv_aload_n hx hb dL_law_993 rfl (lv_at hl 1 rfl) ?_
  refine lv_aload_n hx hb dL_law_994 rfl (lv_at hl 0 rfl) ?_
  refine lv_iload_n hx hb dL_law_995 rfl (lv_at hl 3 rfl) ?_
  refine lv_iconst (v := 1) hx hb dL_law_996 (by decide) ?_
  refine lv_iadd hx hb dL_law_997 ?_
  refine va_sld hx hb hX hbl hbA hS hv1 dL_law_998 ?_
  refine u_calll (WW cy u rI rT (upd (upd (upd (upd (upd (upd (upd (upd i 17 y1) 18 y2) 19 y3) 20 y4) 21 y5) 22 y6) 23 y7) 24 y8) i a b j R T) (va_runV (As := [.int (xs (Int32.toNatClampNeg (nI k + 1)))]) (rest := []) ⟨hx, hb, hml, hown, htA⟩ (kX8_after l G cy (u 0) (u 1) (u 11) (u 21) (u 22) (u 23) (u 27) (u 29) (u 34) (u 2) (u 3) (u 5) (u 7) (u 9) (u 8) H.size 24 (i 4) (i 0) (i 1) (i 2) (i 3) 8 (i 7) (a 2) (i 17) (i 18) (i 19) (i 20) (i 21) (i 22) (i 23) (i 24) (xs (Int32.toNatClampNeg (nI k + 1))) 5000 e1) (u_cwV htA a_ml_L_121 pk_X8_after ⟨(Nat.le_of_ble_eq_true rfl), (Nat.le_of_ble_eq_true rfl)⟩) (u_preV hK hN hP hD [0, 1, 2, 7, 8, 21, 22] rfl (by decide) 0 rfl rfl) rfl rfl hl.1 rfl (lv_room (Nat.le_of_ble_eq_true rfl)) dL_law_999 ⟨(Nat.le_of_ble_eq_true rfl), (Nat.le_of_ble_eq_true rfl)⟩) hP hD hS hA [0, 1, 2, 7, 8, 21, 22] rfl [3, 4, 5, 6, 9, 10, 11, 12, 13, 14, 15, 16, 17, 18, 19, 20, 23, 24, 25, 26, 27, 28, 29, 30, 31, 32, 33, 34, 35, 36, 37, 38, 39, 40, 41, 42, 43, 44, 45, 46, 47, 48, 49, 50, 51, 52, 53, 54, 55, 56, 57, 58, 59, 60, 61, 62, 63, 64, 65, 66, 67, 68, 69, 70, 71, 72, 73, 74, 75, 76, 77] 78 rfl rfl rfl (by decide) rfl (fun H locs hP hD hS => ?_)
  refine lv_aload_n hx hb dL_law_1002 rfl (lv_at hl 2 rfl) ?_
  refine lv_aload_n hx hb dL_law_1003 rfl (lv_at hl 0 rfl) ?_
  refine lv_iload_n hx hb dL_law_1004 rfl (lv_at hl 3 rfl) ?_
  refine lv_iconst (v := 1) hx hb dL_law_1005 (by decide) ?_
  refine lv_iadd hx hb dL_law_1006 ?_
  refine va_sld hx hb hX hbl hbA hS hv1 dL_law_1007 ?_
  refine u_calll (WW cy u rI rT (upd (upd (upd (upd (upd (upd (upd (upd (upd (upd (upd (upd i 17 y1) 18 y2) 19 y3) 20 y4) 21 y5) 22 y6) 23 y7) 24 y8) 33 y9) 34 y10) 35 y11) 36 y12) (upd (upd (upd (upd (upd (upd (upd (upd (upd (upd (upd (upd i 17 y1) 18 y2) 19 y3) 20 y4) 21 y5) 22 y6) 23 y7) 24 y8) 33 y9) 34 y10) 35 y11) 36 y12) a b j R T) (va_runV (As := [.int (xs (Int32.toNatClampNeg (nI k + 1)))]) (rest := [.long y0]) ⟨hx, hb, hml, hown, htA⟩ (kX9_after l G cy (u 38) (u 39) (u 40) (u 41) (u 42) (u 43) (u 44) (u 45) (u 46) (u 47) (u 48) (u 49) (u 50) (u 51) (u 52) (u 53) (u 54) (u 55) (u 56) (u 57) (u 58) (u 69) (u 70) (u 71) H.size (i 0) (i 1) (i 2) (i 3) (i 33) (i 34) (i 35) (i 36) (i 37) (i 38) (j 0) (j 1) (i 39) (i 40) (i 41) (i 42) (i 43) (i 44) (i 45) (i 46) (i 47) (a 26) (a 27) (xs (Int32.toNatClampNeg (nI k + 1))) 5000 e2) (u_cwV htA a_ml_L_125 pk_X9_after ⟨(Nat.le_of_ble_eq_true rfl), (Nat.le_of_ble_eq_true rfl)⟩) (u_preV hK hN hP hD [38, 52, 53] rfl (by decide) 38 rfl rfl) rfl rfl hl.1 rfl (lv_room (Nat.le_of_ble_eq_true rfl)) dL_law_1008 ⟨(Nat.le_of_ble_eq_true rfl), (Nat.le_of_ble_eq_true rfl)⟩) hP hD hS hA [38, 52, 53] rfl [0, 1, 2, 3, 4, 5, 6, 7, 8, 9, 10, 11, 12, 13, 14, 15, 16, 17, 18, 19, 20, 21, 22, 23, 24, 25, 26, 27, 28, 29, 30, 31, 32, 33, 34, 35, 36, 37, 39, 40, 41, 42, 43, 44, 45, 46, 47, 48, 49, 50, 51, 54, 55, 56, 57, 58, 59, 60, 61, 62, 63, 64, 65, 66, 67, 68, 69, 70, 71, 72, 73, 74, 75, 76, 77] 78 rfl rfl rfl (by decide) rfl (fun H locs hP hD hS => ?_)
  refine W.lcmp hx hb dL_law_1011 ?_
  refine lv_if_eq (tgt := 1368) hx hb dL_law_1012 (by decide) (fun _ => ?_) (fun c_1 => absurd ((lg_eq _ _).mpr rfl) c_1)
  exact kk (upd (upd (upd (upd (upd (upd (upd (upd (upd (upd (upd (upd i 17 y1) 18 y2) 19 y3) 20 y4) 21 y5) 22 y6) 23 y7) 24 y8) 33 y9) 34 y10) 35 y11) 36 y12) a b j R T H locs ⟨ha, hb, hp, hN, hT, hSn, hEv, hBk, hIm, hTp, hCX, hCE, hCM⟩ hP hD hS
set_option maxRecDepth 100000 in
set_option maxHeartbeats 4000000 in
theorem cl_book (C0 : LC p s m meth c b_ L xs G cy ad av) {k : Nat} (hk : k + 6 ≤ L) (hL : L ≤ 3072) {u rI rT : Nat → Nat} {i : Nat → Int32} {a : Nat → Nat → Int32} {b : Nat → Nat → Int64} {j : Nat → Int64} {R : Nat → Nat → Int32} {T : Nat → Nat → Int64} {H : Heap} {locs : List Loc} (hR : Rel i a b R T) (hP : va_P G vwCl (WW cy u rI rT i i a b j R T) H) (hD : va_D (LA s) (WW cy u rI rT i i a b j R T)) (hS : va_S (LA s) s.heap H locs) {ls : Array Slot} (hl : lv_has ls 4 [(0, .ref b_), (1, .ref (u 0)), (2, .ref (u 38)), (3, .int (nI k))]) (kk : Nx p l e s m below meth c b_ G cy u rI rT ls) : LW p l e s m below meth c b_ H locs (F0 m 1017 ls []) := by
  obtain ⟨hx, hb0, hr, hml, hown, htA, hX, hbl, hlocks, hK, hN, hZ⟩ := C0
  have hb : c.code = cL_law := hb0
  obtain ⟨ha, hb, hp, hN, hT, hSn, hEv, hBk, hIm, hTp, hCX, hCE, hCM⟩ := hR
  have hA : ∀ q : Nat, s.heap.size ≤ q → LA s q := fun _ h => h
  have hbA : ¬ LA s b_ := Nat.not_le.mpr hbl
  have hv1 : vp_in (nI k + 1) L := by rw [show nI k + 1 = nI (k + 1) from nI_add k 1]; exact vp_in_nI (by omega) (by omega)
  have hv2 : vp_in (nI k + 2) L := by rw [show nI k + 2 = nI (k + 2) from nI_add k 2]; exact vp_in_nI (by omega) (by omega)
  have hv3 : vp_in (nI k + 3) L := by rw [show nI k + 3 = nI (k + 3) from nI_add k 3]; exact vp_in_nI (by omega) (by omega)
  obtain ⟨y0, y1, y2, y3, y4, y5, y6, e1, e2, g0⟩ := pr_book (xs (Int32.toNatClampNeg (nI k + 1))) (xs (Int32.toNatClampNeg (nI k + 2))) (xs (Int32.toNatClampNeg (nI k + 3))) (u := (i 8)) (v := (i 46)) (c := (a 3)) (A := (a 28)) (B := (a 29)) (C := (a 30)) hBk
  refine lv_aload_n hx hb dL_law_1017 rfl (lv_at hl 1 rfl) ?_
  refine lv_aload_n hx hb dL_law_1018 rfl (lv_at hl 0 rfl) ?_
  refine lv_iload_n hx hb dL_law_1019 rfl (lv_at hl 3 rfl) ?_
  refine lv_iconst (v := 1) hx hb dL_law_1020 (by decide) ?_
  refine lv_iadd hx hb dL_law_1021 ?_
  refine va_sld hx hb hX hbl hbA hS hv1 dL_law_1022 ?_
  refine lv_aload_n hx hb dL_law_1023 rfl (lv_at hl 0 rfl) ?_
  refine lv_iload_n hx hb dL_law_1024 rfl (lv_at hl 3 rfl) ?_
  refine lv_iconst (v := 2) hx hb dL_law_1025 (by decide) ?_
  refine lv_iadd hx hb dL_law_1026 ?_
  refine va_sld hx hb hX hbl hbA hS hv2 dL_law_1027 ?_
  refine lv_aload_n hx hb dL_law_1028 rfl (lv_at hl 0 rfl) ?_
  refine lv_iload_n hx hb dL_law_1029 rfl (lv_at hl 3 rfl) ?_
  refine lv_iconst (v := 3) hx hb dL_law_1030 (by decide) ?_
  refine lv_iadd hx hb dL_law_1031 ?_
  refine va_sld hx hb hX hbl hbA hS hv3 dL_law_1032 ?_
  refine u_calli (WW cy u rI rT (upd i 8 y1) i (gup a 3 y2) b j R T) (va_runV (As := [.int (xs (Int32.toNatClampNeg (nI k + 1))), .int (xs (Int32.toNatClampNeg (nI k + 2))), .int (xs (Int32.toNatClampNeg (nI k + 3)))]) (rest := []) ⟨hx, hb, hml, hown, htA⟩ (kX8_book l G cy (u 0) (u 1) (u 11) (u 21) (u 22) (u 23) (u 27) (u 29) (u 34) (u 2) (u 3) (u 5) (u 7) (u 9) (u 10) H.size 24 (i 4) 8 (i 8) (a 3) (xs (Int32.toNatClampNeg (nI k + 1))) (xs (Int32.toNatClampNeg (nI k + 2))) (xs (Int32.toNatClampNeg (nI k + 3))) e1) (u_cwV htA a_ml_L_126 pk_X8_book ⟨(Nat.le_of_ble_eq_true rfl), (Nat.le_of_ble_eq_true rfl)⟩) (u_preV hK hN hP hD [0, 1, 9, 10] rfl (by decide) 0 rfl rfl) rfl rfl hl.1 rfl (lv_room (Nat.le_of_ble_eq_true rfl)) dL_law_1033 ⟨(Nat.le_of_ble_eq_true rfl), (Nat.le_of_ble_eq_true rfl)⟩) hP hD hS hA [0, 1, 9, 10] rfl [2, 3, 4, 5, 6, 7, 8, 11, 12, 13, 14, 15, 16, 17, 18, 19, 20, 21, 22, 23, 24, 25, 26, 27, 28, 29, 30, 31, 32, 33, 34, 35, 36, 37, 38, 39, 40, 41, 42, 43, 44, 45, 46, 47, 48, 49, 50, 51, 52, 53, 54, 55, 56, 57, 58, 59, 60, 61, 62, 63, 64, 65, 66, 67, 68, 69, 70, 71, 72, 73, 74, 75, 76, 77] 78 rfl rfl rfl (by decide) rfl (fun H locs hP hD hS => ?_)
  refine lv_aload_n hx hb dL_law_1036 rfl (lv_at hl 2 rfl) ?_
  refine lv_aload_n hx hb dL_law_1037 rfl (lv_at hl 0 rfl) ?_
  refine lv_iload_n hx hb dL_law_1038 rfl (lv_at hl 3 rfl) ?_
  refine lv_iconst (v := 1) hx hb dL_law_1039 (by decide) ?_
  refine lv_iadd hx hb dL_law_1040 ?_
  refine va_sld hx hb hX hbl hbA hS hv1 dL_law_1041 ?_
  refine lv_aload_n hx hb dL_law_1042 rfl (lv_at hl 0 rfl) ?_
  refine lv_iload_n hx hb dL_law_1043 rfl (lv_at hl 3 rfl) ?_
  refine lv_iconst (v := 2) hx hb dL_law_1044 (by decide) ?_
  refine lv_iadd hx hb dL_law_1045 ?_
  refine va_sld hx hb hX hbl hbA hS hv2 dL_law_1046 ?_
  refine lv_aload_n hx hb dL_law_1047 rfl (lv_at hl 0 rfl) ?_
  refine lv_iload_n hx hb dL_law_1048 rfl (lv_at hl 3 rfl) ?_
  refine lv_iconst (v := 3) hx hb dL_law_1049 (by decide) ?_
  refine lv_iadd hx hb dL_law_1050 ?_
  refine va_sld hx hb hX hbl hbA hS hv3 dL_law_1051 ?_
  refine u_calli (WW cy u rI rT (upd (upd i 8 y1) 46 y3) (upd (upd i 8 y1) 46 y3) (gup (gup (gup (gup a 3 y2) 28 y4) 29 y5) 30 y6) b j R T) (va_runV (As := [.int (xs (Int32.toNatClampNeg (nI k + 1))), .int (xs (Int32.toNatClampNeg (nI k + 2))), .int (xs (Int32.toNatClampNeg (nI k + 3)))]) (rest := [.int y0]) ⟨hx, hb, hml, hown, htA⟩ (kX9_book l G cy (u 38) (u 39) (u 40) (u 41) (u 42) (u 43) (u 44) (u 45) (u 46) (u 47) (u 48) (u 49) (u 50) (u 51) (u 52) (u 53) (u 54) (u 55) (u 56) (u 57) (u 58) (u 69) (u 70) (u 71) H.size (i 0) (i 1) (i 2) (i 3) (i 33) (i 34) (i 35) (i 36) (i 37) (i 38) (j 0) (j 1) (i 39) (i 40) (i 41) (i 42) (i 43) (i 44) (i 45) (i 46) (i 47) (a 28) (a 29) (a 30) (xs (Int32.toNatClampNeg (nI k + 1))) (xs (Int32.toNatClampNeg (nI k + 2))) (xs (Int32.toNatClampNeg (nI k + 3))) e2) (u_cwV htA a_ml_L_129 pk_X9_book ⟨(Nat.le_of_ble_eq_true rfl), (Nat.le_of_ble_eq_true rfl)⟩) (u_preV hK hN hP hD [38, 54, 55, 56] rfl (by decide) 38 rfl rfl) rfl rfl hl.1 rfl (lv_room (Nat.le_of_ble_eq_true rfl)) dL_law_1052 ⟨(Nat.le_of_ble_eq_true rfl), (Nat.le_of_ble_eq_true rfl)⟩) hP hD hS hA [38, 54, 55, 56] rfl [0, 1, 2, 3, 4, 5, 6, 7, 8, 9, 10, 11, 12, 13, 14, 15, 16, 17, 18, 19, 20, 21, 22, 23, 24, 25, 26, 27, 28, 29, 30, 31, 32, 33, 34, 35, 36, 37, 39, 40, 41, 42, 43, 44, 45, 46, 47, 48, 49, 50, 51, 52, 53, 57, 58, 59, 60, 61, 62, 63, 64, 65, 66, 67, 68, 69, 70, 71, 72, 73, 74, 75, 76, 77] 78 rfl rfl rfl (by decide) rfl (fun H locs hP hD hS => ?_)
  refine lv_icmp_eq (tgt := 1368) hx hb dL_law_1055 (by decide) (fun _ => ?_) (fun c_1 => absurd rfl c_1)
  exact kk (upd (upd i 8 y1) 46 y3) (gup (gup (gup (gup a 3 y2) 28 y4) 29 y5) 30 y6) b j R T H locs ⟨ha, hb, hp, hN, hT, hSn, hEv, g0, hIm, hTp, hCX, hCE, hCM⟩ hP hD hS
set_option maxRecDepth 100000 in
set_option maxHeartbeats 4000000 in
theorem cl_looked (C0 : LC p s m meth c b_ L xs G cy ad av) {k : Nat} (hk : k + 6 ≤ L) (hL : L ≤ 3072) {u rI rT : Nat → Nat} {i : Nat → Int32} {a : Nat → Nat → Int32} {b : Nat → Nat → Int64} {j : Nat → Int64} {R : Nat → Nat → Int32} {T : Nat → Nat → Int64} {H : Heap} {locs : List Loc} (hR : Rel i a b R T) (hP : va_P G vwCl (WW cy u rI rT i i a b j R T) H) (hD : va_D (LA s) (WW cy u rI rT i i a b j R T)) (hS : va_S (LA s) s.heap H locs) {ls : Array Slot} (hl : lv_has ls 4 [(0, .ref b_), (1, .ref (u 0)), (2, .ref (u 38)), (3, .int (nI k))]) (kk : Nx p l e s m below meth c b_ G cy u rI rT ls) : LW p l e s m below meth c b_ H locs (F0 m 1060 ls []) := by
  obtain ⟨hx, hb0, hr, hml, hown, htA, hX, hbl, hlocks, hK, hN, hZ⟩ := C0
  have hb : c.code = cL_law := hb0
  obtain ⟨ha, hb, hp, hN, hT, hSn, hEv, hBk, hIm, hTp, hCX, hCE, hCM⟩ := hR
  have hA : ∀ q : Nat, s.heap.size ≤ q → LA s q := fun _ h => h
  have hbA : ¬ LA s b_ := Nat.not_le.mpr hbl
  obtain ⟨y0, y1, y2, y3, y4, y5, y6, y7, y8, y9, y10, y11, y12, y13, y14, y15, y16, y17, y18, y19, y20, e1, e2, g0, g1⟩ := pr_looked (A := (i 0)) (B := (i 1)) ha hb (bu := (i 8)) (bv := (i 46)) (bc := (a 3)) (bx := (a 28)) (bz := (a 29)) (be := (a 30)) hBk (ca := (i 25)) (cb := (i 26)) (ka := (i 37)) (kb := (i 38)) (S := (a 8)) (C := (a 9)) (C2 := (a 16)) (H := (b 0)) (U := (b 3)) (D := (b 4)) hCX hCM (i 21) (i 22) (i 23) (i 24) (i 33) (i 34) (i 35) (i 36) (j 0) (j 1)
  refine lv_aload_n hx hb dL_law_1060 rfl (lv_at hl 1 rfl) ?_
  refine u_calli (WW cy u rI rT (upd (upd (upd (upd (upd (upd i 21 y1) 22 y2) 23 y3) 24 y4) 25 y5) 26 y6) i (gup (gup a 8 y7) 9 y8) (gup b 0 y9) j R T) (va_runV (As := []) (rest := []) ⟨hx, hb, hml, hown, htA⟩ (kX8_looked l G cy (u 0) (u 1) (u 11) (u 21) (u 22) (u 23) (u 27) (u 29) (u 34) (u 2) (u 3) (u 5) (u 7) (u 9) (u 10) (u 24) (u 25) (u 26) H.size 24 (i 4) (i 0) (i 1) (i 2) (i 3) 8 (i 8) (a 3) (i 21) (i 22) (i 23) (i 24) (i 25) (i 26) (a 8) (a 9) (b 0) 5000 e1) (u_cwV htA a_ml_L_130 pk_X8_looked ⟨(Nat.le_of_ble_eq_true rfl), (Nat.le_of_ble_eq_true rfl)⟩) (u_preV hK hN hP hD [0, 1, 2, 9, 10, 22, 23, 24, 25, 26] rfl (by decide) 0 rfl rfl) rfl rfl hl.1 rfl (lv_room (Nat.le_of_ble_eq_true rfl)) dL_law_1061 ⟨(Nat.le_of_ble_eq_true rfl), (Nat.le_of_ble_eq_true rfl)⟩) hP hD hS hA [0, 1, 2, 9, 10, 22, 23, 24, 25, 26] rfl [3, 4, 5, 6, 7, 8, 11, 12, 13, 14, 15, 16, 17, 18, 19, 20, 21, 27, 28, 29, 30, 31, 32, 33, 34, 35, 36, 37, 38, 39, 40, 41, 42, 43, 44, 45, 46, 47, 48, 49, 50, 51, 52, 53, 54, 55, 56, 57, 58, 59, 60, 61, 62, 63, 64, 65, 66, 67, 68, 69, 70, 71, 72, 73, 74, 75, 76, 77] 78 rfl rfl rfl (by decide) rfl (fun H locs hP hD hS => ?_)
  refine lv_aload_n hx hb dL_law_1064 rfl (lv_at hl 2 rfl) ?_
  refine u_calli (WW cy u rI rT (upd (upd (upd (upd (upd (upd (upd (upd (upd (upd (upd (upd i 21 y1) 22 y2) 23 y3) 24 y4) 25 y5) 26 y6) 33 y10) 34 y11) 35 y12) 36 y13) 37 y14) 38 y15) (upd (upd (upd (upd (upd (upd (upd (upd (upd (upd (upd (upd i 21 y1) 22 y2) 23 y3) 24 y4) 25 y5) 26 y6) 33 y10) 34 y11) 35 y12) 36 y13) 37 y14) 38 y15) (gup (gup (gup a 8 y7) 9 y8) 16 y20) (gup (gup (gup b 0 y9) 3 y18) 4 y19) (vp_updL (vp_updL j 0 y16) 1 y17) R T) (va_runV (As := []) (rest := [.int y0]) ⟨hx, hb, hml, hown, htA⟩ (kX9_looked l G cy (u 38) (u 39) (u 40) (u 41) (u 42) (u 43) (u 44) (u 45) (u 46) (u 47) (u 48) (u 49) (u 50) (u 51) (u 52) (u 53) (u 54) (u 55) (u 56) (u 57) (u 58) (u 69) (u 70) (u 71) H.size (i 0) (i 1) (i 2) (i 3) (i 33) (i 34) (i 35) (i 36) (i 37) (i 38) (j 0) (j 1) (i 39) (i 40) (i 41) (i 42) (i 43) (i 44) (i 45) (i 46) (i 47) (b 3) (b 4) (a 16) (a 28) (a 29) (a 30) 5000 e2) (u_cwV htA a_ml_L_133 pk_X9_looked ⟨(Nat.le_of_ble_eq_true rfl), (Nat.le_of_ble_eq_true rfl)⟩) (u_preV hK hN hP hD [38, 39, 40, 41, 54, 55, 56] rfl (by decide) 38 rfl rfl) rfl rfl hl.1 rfl (lv_room (Nat.le_of_ble_eq_true rfl)) dL_law_1065 ⟨(Nat.le_of_ble_eq_true rfl), (Nat.le_of_ble_eq_true rfl)⟩) hP hD hS hA [38, 39, 40, 41, 54, 55, 56] rfl [0, 1, 2, 3, 4, 5, 6, 7, 8, 9, 10, 11, 12, 13, 14, 15, 16, 17, 18, 19, 20, 21, 22, 23, 24, 25, 26, 27, 28, 29, 30, 31, 32, 33, 34, 35, 36, 37, 42, 43, 44, 45, 46, 47, 48, 49, 50, 51, 52, 53, 57, 58, 59, 60, 61, 62, 63, 64, 65, 66, 67, 68, 69, 70, 71, 72, 73, 74, 75, 76, 77] 78 rfl rfl rfl (by decide) rfl (fun H locs hP hD hS => ?_)
  refine lv_icmp_eq (tgt := 1368) hx hb dL_law_1068 (by decide) (fun _ => ?_) (fun c_1 => absurd rfl c_1)
  exact kk (upd (upd (upd (upd (upd (upd (upd (upd (upd (upd (upd (upd i 21 y1) 22 y2) 23 y3) 24 y4) 25 y5) 26 y6) 33 y10) 34 y11) 35 y12) 36 y13) 37 y14) 38 y15) (gup (gup (gup a 8 y7) 9 y8) 16 y20) (gup (gup (gup b 0 y9) 3 y18) 4 y19) (vp_updL (vp_updL j 0 y16) 1 y17) R T H locs ⟨ha, hb, hp, hN, hT, hSn, hEv, hBk, hIm, hTp, g0, hCE, g1⟩ hP hD hS
set_option maxRecDepth 100000 in
set_option maxHeartbeats 4000000 in
theorem cl_judge (C0 : LC p s m meth c b_ L xs G cy ad av) {k : Nat} (hk : k + 6 ≤ L) (hL : L ≤ 3072) {u rI rT : Nat → Nat} {i : Nat → Int32} {a : Nat → Nat → Int32} {b : Nat → Nat → Int64} {j : Nat → Int64} {R : Nat → Nat → Int32} {T : Nat → Nat → Int64} {H : Heap} {locs : List Loc} (hR : Rel i a b R T) (hP : va_P G vwCl (WW cy u rI rT i i a b j R T) H) (hD : va_D (LA s) (WW cy u rI rT i i a b j R T)) (hS : va_S (LA s) s.heap H locs) {ls : Array Slot} (hl : lv_has ls 4 [(0, .ref b_), (1, .ref (u 0)), (2, .ref (u 38)), (3, .int (nI k))]) (kk : Nx p l e s m below meth c b_ G cy u rI rT ls) : LW p l e s m below meth c b_ H locs (F0 m 1073 ls []) := by
  obtain ⟨hx, hb0, hr, hml, hown, htA, hX, hbl, hlocks, hK, hN, hZ⟩ := C0
  have hb : c.code = cL_law := hb0
  obtain ⟨ha, hb, hp, hN, hT, hSn, hEv, hBk, hIm, hTp, hCX, hCE, hCM⟩ := hR
  have hA : ∀ q : Nat, s.heap.size ≤ q → LA s q := fun _ h => h
  have hbA : ¬ LA s b_ := Nat.not_le.mpr hbl
  have hv1 : vp_in (nI k + 1) L := by rw [show nI k + 1 = nI (k + 1) from nI_add k 1]; exact vp_in_nI (by omega) (by omega)
  have hv2 : vp_in (nI k + 2) L := by rw [show nI k + 2 = nI (k + 2) from nI_add k 2]; exact vp_in_nI (by omega) (by omega)
  obtain ⟨y0, y1, y2, y3, y4, y5, y6, y7, y8, y9, y10, y11, y12, y13, y14, y15, y16, y17, y18, y19, y20, e1, e2, g0, g1⟩ := pr_judge (xs (Int32.toNatClampNeg (nI k + 1))) (xs (Int32.toNatClampNeg (nI k + 2))) (A := (i 0)) (B := (i 1)) ha hb (TS := (a 14)) (TL := (a 15)) (TS' := (a 32)) (TL' := (a 33)) (I := (b 2)) (R := T) hTp (ca := (i 25)) (cb := (i 26)) (ka := (i 37)) (kb := (i 38)) (S := (a 8)) (C := (a 9)) (C2 := (a 16)) (H := (b 0)) (U := (b 3)) (D := (b 4)) hCX hCM (i 21) (i 22) (i 23) (i 24) (i 33) (i 34) (i 35) (i 36) (j 0) (j 1)
  refine lv_aload_n hx hb dL_law_1073 rfl (lv_at hl 1 rfl) ?_
  refine lv_aload_n hx hb dL_law_1074 rfl (lv_at hl 0 rfl) ?_
  refine lv_iload_n hx hb dL_law_1075 rfl (lv_at hl 3 rfl) ?_
  refine lv_iconst (v := 1) hx hb dL_law_1076 (by decide) ?_
  refine lv_iadd hx hb dL_law_1077 ?_
  refine va_sld hx hb hX hbl hbA hS hv1 dL_law_1078 ?_
  refine lv_aload_n hx hb dL_law_1079 rfl (lv_at hl 0 rfl) ?_
  refine lv_iload_n hx hb dL_law_1080 rfl (lv_at hl 3 rfl) ?_
  refine lv_iconst (v := 2) hx hb dL_law_1081 (by decide) ?_
  refine lv_iadd hx hb dL_law_1082 ?_
  refine va_sld hx hb hX hbl hbA hS hv2 dL_law_1083 ?_
  refine u_calli (WW cy u rI rT (upd (upd (upd (upd (upd (upd i 21 y1) 22 y2) 23 y3) 24 y4) 25 y5) 26 y6) i (gup (gup a 8 y7) 9 y8) (gup b 0 y9) j R T) (va_runV (As := [.int (xs (Int32.toNatClampNeg (nI k + 1))), .int (xs (Int32.toNatClampNeg (nI k + 2)))]) (rest := []) ⟨hx, hb, hml, hown, htA⟩ (kX8_judge l G cy (u 0) (u 1) (u 11) (u 21) (u 22) (u 23) (u 27) (u 29) (u 34) (u 2) (u 3) (u 5) (u 7) (u 9) (u 24) (u 25) (u 26) (u 35) (u 36) (u 37) H.size (i 4) (i 0) (i 1) (i 2) (i 3) (i 21) (i 22) (i 23) (i 24) (i 25) (i 26) (a 8) (a 9) (b 0) (a 14) (a 15) (b 2) (xs (Int32.toNatClampNeg (nI k + 1))) (xs (Int32.toNatClampNeg (nI k + 2))) 5000 e1) (u_cwV htA a_ml_L_134 pk_X8_judge ⟨(Nat.le_of_ble_eq_true rfl), (Nat.le_of_ble_eq_true rfl)⟩) (u_preV hK hN hP hD [0, 1, 2, 22, 23, 24, 25, 26, 34, 35, 36, 37] rfl (by decide) 0 rfl rfl) rfl rfl hl.1 rfl (lv_room (Nat.le_of_ble_eq_true rfl)) dL_law_1084 ⟨(Nat.le_of_ble_eq_true rfl), (Nat.le_of_ble_eq_true rfl)⟩) hP hD hS hA [0, 1, 2, 22, 23, 24, 25, 26, 34, 35, 36, 37] rfl [3, 4, 5, 6, 7, 8, 9, 10, 11, 12, 13, 14, 15, 16, 17, 18, 19, 20, 21, 27, 28, 29, 30, 31, 32, 33, 38, 39, 40, 41, 42, 43, 44, 45, 46, 47, 48, 49, 50, 51, 52, 53, 54, 55, 56, 57, 58, 59, 60, 61, 62, 63, 64, 65, 66, 67, 68, 69, 70, 71, 72, 73, 74, 75, 76, 77] 78 rfl rfl rfl (by decide) rfl (fun H locs hP hD hS => ?_)
  refine lv_aload_n hx hb dL_law_1087 rfl (lv_at hl 2 rfl) ?_
  refine lv_aload_n hx hb dL_law_1088 rfl (lv_at hl 0 rfl) ?_
  refine lv_iload_n hx hb dL_law_1089 rfl (lv_at hl 3 rfl) ?_
  refine lv_iconst (v := 1) hx hb dL_law_1090 (by decide) ?_
  refine lv_iadd hx hb dL_law_1091 ?_
  refine va_sld hx hb hX hbl hbA hS hv1 dL_law_1092 ?_
  refine lv_aload_n hx hb dL_law_1093 rfl (lv_at hl 0 rfl) ?_
  refine lv_iload_n hx hb dL_law_1094 rfl (lv_at hl 3 rfl) ?_
  refine lv_iconst (v := 2) hx hb dL_law_1095 (by decide) ?_
  refine lv_iadd hx hb dL_law_1096 ?_
  refine va_sld hx hb hX hbl hbA hS hv2 dL_law_1097 ?_
  refine u_calli (WW cy u rI rT (upd (upd (upd (upd (upd (upd (upd (upd (upd (upd (upd (upd i 21 y1) 22 y2) 23 y3) 24 y4) 25 y5) 26 y6) 33 y10) 34 y11) 35 y12) 36 y13) 37 y14) 38 y15) (upd (upd (upd (upd (upd (upd (upd (upd (upd (upd (upd (upd i 21 y1) 22 y2) 23 y3) 24 y4) 25 y5) 26 y6) 33 y10) 34 y11) 35 y12) 36 y13) 37 y14) 38 y15) (gup (gup (gup a 8 y7) 9 y8) 16 y20) (gup (gup (gup b 0 y9) 3 y18) 4 y19) (vp_updL (vp_updL j 0 y16) 1 y17) R T) (va_runV (As := [.int (xs (Int32.toNatClampNeg (nI k + 1))), .int (xs (Int32.toNatClampNeg (nI k + 2)))]) (rest := [.int y0]) ⟨hx, hb, hml, hown, htA⟩ (kX9_judge l G cy (u 38) (u 39) (u 40) (u 41) (u 42) (u 43) (u 44) (u 45) (u 46) (u 47) (u 48) (u 49) (u 50) (u 51) (u 52) (u 53) (u 54) (u 55) (u 56) (u 57) (u 58) (u 69) (u 70) (u 71) rT H.size (i 0) (i 1) (i 2) (i 3) (i 33) (i 34) (i 35) (i 36) (i 37) (i 38) (j 0) (j 1) (i 39) (i 40) (i 41) (i 42) (i 43) (i 44) (i 45) (i 46) (i 47) (b 3) (b 4) (a 16) (a 32) (a 33) T (xs (Int32.toNatClampNeg (nI k + 1))) (xs (Int32.toNatClampNeg (nI k + 2))) 5000 e2) (u_cwV htA a_ml_L_137 pk_X9_judge ⟨(Nat.le_of_ble_eq_true rfl), (Nat.le_of_ble_eq_true rfl)⟩) (u_preV hK hN hP hD [38, 39, 40, 41, 69, 70, 71, 72, 73, 74, 75, 76, 77] rfl (by decide) 38 rfl rfl) rfl rfl hl.1 rfl (lv_room (Nat.le_of_ble_eq_true rfl)) dL_law_1098 ⟨(Nat.le_of_ble_eq_true rfl), (Nat.le_of_ble_eq_true rfl)⟩) hP hD hS hA [38, 39, 40, 41, 69, 70, 71, 72, 73, 74, 75, 76, 77] rfl [0, 1, 2, 3, 4, 5, 6, 7, 8, 9, 10, 11, 12, 13, 14, 15, 16, 17, 18, 19, 20, 21, 22, 23, 24, 25, 26, 27, 28, 29, 30, 31, 32, 33, 34, 35, 36, 37, 42, 43, 44, 45, 46, 47, 48, 49, 50, 51, 52, 53, 54, 55, 56, 57, 58, 59, 60, 61, 62, 63, 64, 65, 66, 67, 68] 78 rfl rfl rfl (by decide) rfl (fun H locs hP hD hS => ?_)
  refine lv_icmp_eq (tgt := 1368) hx hb dL_law_1101 (by decide) (fun _ => ?_) (fun c_1 => absurd rfl c_1)
  exact kk (upd (upd (upd (upd (upd (upd (upd (upd (upd (upd (upd (upd i 21 y1) 22 y2) 23 y3) 24 y4) 25 y5) 26 y6) 33 y10) 34 y11) 35 y12) 36 y13) 37 y14) 38 y15) (gup (gup (gup a 8 y7) 9 y8) 16 y20) (gup (gup (gup b 0 y9) 3 y18) 4 y19) (vp_updL (vp_updL j 0 y16) 1 y17) R T H locs ⟨ha, hb, hp, hN, hT, hSn, hEv, hBk, hIm, hTp, g0, hCE, g1⟩ hP hD hS
set_option maxRecDepth 100000 in
set_option maxHeartbeats 4000000 in
theorem cl_image (C0 : LC p s m meth c b_ L xs G cy ad av) {k : Nat} (hk : k + 6 ≤ L) (hL : L ≤ 3072) {u rI rT : Nat → Nat} {i : Nat → Int32} {a : Nat → Nat → Int32} {b : Nat → Nat → Int64} {j : Nat → Int64} {R : Nat → Nat → Int32} {T : Nat → Nat → Int64} {H : Heap} {locs : List Loc} (hR : Rel i a b R T) (hP : va_P G vwCl (WW cy u rI rT i i a b j R T) H) (hD : va_D (LA s) (WW cy u rI rT i i a b j R T)) (hS : va_S (LA s) s.heap H locs) {ls : Array Slot} (hl : lv_has ls 4 [(0, .ref b_), (1, .ref (u 0)), (2, .ref (u 38)), (3, .int (nI k))]) (kk : Nx p l e s m below meth c b_ G cy u rI rT ls) : LW p l e s m below meth c b_ H locs (F0 m 1106 ls []) := by
  obtain ⟨hx, hb0, hr, hml, hown, htA, hX, hbl, hlocks, hK, hN, hZ⟩ := C0
  have hb : c.code = cL_law := hb0
  obtain ⟨ha, hb, hp, hN, hT, hSn, hEv, hBk, hIm, hTp, hCX, hCE, hCM⟩ := hR
  have hA : ∀ q : Nat, s.heap.size ≤ q → LA s q := fun _ h => h
  have hbA : ¬ LA s b_ := Nat.not_le.mpr hbl
  obtain ⟨y0, y1, y2, y3, y4, y5, y6, y7, y8, y9, y10, y11, y12, y13, y14, y15, y16, e1, e2, g0⟩ := pr_image (n := 5000) (m := 5000) (by omega) (by omega) (a := (i 0)) (b := (i 1)) (x := (i 2)) (y := (i 3)) (nu := (i 5)) (su := (i 6)) (eu := (i 7)) (bu := (i 8)) (nc := (a 0)) (sc := (a 1)) (ec := (a 2)) (bc := (a 3)) (nv := (i 39)) (sv := (i 44)) (ev := (i 45)) (bv := (i 46)) (r0 := (a 17)) (r1 := (a 18)) (r2 := (a 23)) (r3 := (a 24)) (r4 := (a 25)) (r5 := (a 26)) (r6 := (a 27)) (r7 := (a 28)) (r8 := (a 29)) (r9 := (a 30)) ha hb hp hN hSn hEv hBk (i 4) (i 9) (i 10) (i 11) (i 12) (i 13) (i 14) (i 15) (i 16) (a 4) (a 5) (a 6) (a 7) (i 47) (a 31) R
  refine lv_aload_n hx hb dL_law_1106 rfl (lv_at hl 1 rfl) ?_
  refine u_calli (WW cy u rI rT (upd (upd (upd (upd (upd (upd (upd (upd (upd i 4 y1) 9 y2) 10 y3) 11 y4) 12 y5) 13 y6) 14 y8) 15 y10) 16 y12) i (gup (gup (gup (gup a 4 y7) 5 y9) 6 y11) 7 y13) b j R T) (va_runV (As := []) (rest := []) ⟨hx, hb, hml, hown, htA⟩ (kX8_image l G cy (u 0) (u 1) (u 11) (u 21) (u 22) (u 23) (u 27) (u 29) (u 34) (u 2) (u 3) (u 5) (u 7) (u 9) (u 4) (u 6) (u 8) (u 10) (u 12) (u 13) (u 15) (u 17) (u 19) (u 14) (u 16) (u 18) (u 20) H.size 24 12 24 24 24 12 24 24 (i 4) (i 0) (i 1) (i 2) (i 3) 8 (i 5) (a 0) 4 (i 6) (a 1) 8 (i 7) (a 2) 8 (i 8) (a 3) (i 9) (i 10) (i 11) (i 12) 8 (i 13) (a 4) 4 (i 14) (a 5) 8 (i 15) (a 6) 8 (i 16) (a 7) 5000 e1) (u_cwV htA a_ml_L_138 pk_X8_image ⟨(Nat.le_of_ble_eq_true rfl), (Nat.le_of_ble_eq_true rfl)⟩) (u_preV hK hN hP hD [0, 1, 2, 3, 4, 5, 6, 7, 8, 9, 10, 11, 12, 13, 14, 15, 16, 17, 18, 19, 20] rfl (by decide) 0 rfl rfl) rfl rfl hl.1 rfl (lv_room (Nat.le_of_ble_eq_true rfl)) dL_law_1107 ⟨(Nat.le_of_ble_eq_true rfl), (Nat.le_of_ble_eq_true rfl)⟩) hP hD hS hA [0, 1, 2, 3, 4, 5, 6, 7, 8, 9, 10, 11, 12, 13, 14, 15, 16, 17, 18, 19, 20] rfl [21, 22, 23, 24, 25, 26, 27, 28, 29, 30, 31, 32, 33, 34, 35, 36, 37, 38, 39, 40, 41, 42, 43, 44, 45, 46, 47, 48, 49, 50, 51, 52, 53, 54, 55, 56, 57, 58, 59, 60, 61, 62, 63, 64, 65, 66, 67, 68, 69, 70, 71, 72, 73, 74, 75, 76, 77] 78 rfl rfl rfl (by decide) rfl (fun H locs hP hD hS => ?_)
  refine lv_aload_n hx hb dL_law_1110 rfl (lv_at hl 2 rfl) ?_
  refine u_calli (WW cy u rI rT (upd (upd (upd (upd (upd (upd (upd (upd (upd (upd i 4 y1) 9 y2) 10 y3) 11 y4) 12 y5) 13 y6) 14 y8) 15 y10) 16 y12) 47 y14) (upd (upd (upd (upd (upd (upd (upd (upd (upd (upd i 4 y1) 9 y2) 10 y3) 11 y4) 12 y5) 13 y6) 14 y8) 15 y10) 16 y12) 47 y14) (gup (gup (gup (gup (gup a 4 y7) 5 y9) 6 y11) 7 y13) 31 y15) b j y16 T) (va_runV (As := []) (rest := [.int y0]) ⟨hx, hb, hml, hown, htA⟩ (kX9_image l G cy (u 38) (u 39) (u 40) (u 41) (u 42) (u 43) (u 44) (u 45) (u 46) (u 47) (u 48) (u 49) (u 50) (u 51) (u 52) (u 53) (u 54) (u 55) (u 56) (u 57) (u 58) (u 69) (u 70) (u 71) rI H.size (i 0) (i 1) (i 2) (i 3) (i 33) (i 34) (i 35) (i 36) (i 37) (i 38) (j 0) (j 1) (i 39) (i 40) (i 41) (i 42) (i 43) (i 44) (i 45) (i 46) (i 47) (a 17) (a 18) (a 23) (a 24) (a 25) (a 26) (a 27) (a 28) (a 29) (a 30) (a 31) R 5000 e2) (u_cwV htA a_ml_L_141 pk_X9_image ⟨(Nat.le_of_ble_eq_true rfl), (Nat.le_of_ble_eq_true rfl)⟩) (u_preV hK hN hP hD [38, 42, 43, 49, 50, 51, 52, 53, 54, 55, 56, 57, 58, 59, 60, 61, 62, 63, 64, 65, 66, 67, 68] rfl (by decide) 38 rfl rfl) rfl rfl hl.1 rfl (lv_room (Nat.le_of_ble_eq_true rfl)) dL_law_1111 ⟨(Nat.le_of_ble_eq_true rfl), (Nat.le_of_ble_eq_true rfl)⟩) hP hD hS hA [38, 42, 43, 49, 50, 51, 52, 53, 54, 55, 56, 57, 58, 59, 60, 61, 62, 63, 64, 65, 66, 67, 68] rfl [0, 1, 2, 3, 4, 5, 6, 7, 8, 9, 10, 11, 12, 13, 14, 15, 16, 17, 18, 19, 20, 21, 22, 23, 24, 25, 26, 27, 28, 29, 30, 31, 32, 33, 34, 35, 36, 37, 39, 40, 41, 44, 45, 46, 47, 48, 69, 70, 71, 72, 73, 74, 75, 76, 77] 78 rfl rfl rfl (by decide) rfl (fun H locs hP hD hS => ?_)
  refine lv_icmp_eq (tgt := 1368) hx hb dL_law_1114 (by decide) (fun _ => ?_) (fun c_1 => absurd rfl c_1)
  exact kk (upd (upd (upd (upd (upd (upd (upd (upd (upd (upd i 4 y1) 9 y2) 10 y3) 11 y4) 12 y5) 13 y6) 14 y8) 15 y10) 16 y12) 47 y14) (gup (gup (gup (gup (gup a 4 y7) 5 y9) 6 y11) 7 y13) 31 y15) b j y16 T H locs ⟨ha, hb, hp, hN, hT, hSn, hEv, hBk, g0, hTp, hCX, hCE, hCM⟩ hP hD hS
end
