section
variable {p : Program} {l : Launch} {e : Env} {s : State} {m : MethodId} {below : List Frame} {meth : Method} {c : Code} {b_ L : Nat} {xs : Nat → Int32} {G : va_G} {cy : Nat → ClassId} {ad av : Nat → Nat}
set_option maxRecDepth 100000 in
set_option maxHeartbeats 4000000 in
theorem cl_undo (C0 : LC p s m meth c b_ L xs G cy ad av) {k : Nat} (hk : k + 6 ≤ L) (hL : L ≤ 3072) {u rI rT : Nat → Nat} {i : Nat → Int32} {a : Nat → Nat → Int32} {b : Nat → Nat → Int64} {j : Nat → Int64} {R : Nat → Nat → Int32} {T : Nat → Nat → Int64} {H : Heap} {locs : List Loc} (hR : Rel i a b R T) (hP : va_P G vwCl (WW cy u rI rT i i a b j R T) H) (hD : va_D (LA s) (WW cy u rI rT i i a b j R T)) (hS : va_S (LA s) s.heap H locs) {ls : Array Slot} (hl : lv_has ls 4 [(0, .ref b_), (1, .ref (u 0)), (2, .ref (u 38)), (3, .int (nI k))]) (kk : Nx p l e s m below meth c b_ G cy u rI rT ls) : LW p l e s m below meth c b_ H locs (F0 m 1119 ls []) := by
  obtain ⟨hx, hb0, hr, hml, hown, htA, hX, hbl, hlocks, hK, hN, hZ⟩ := C0
  have hb : c.code = cL_law := hb0
  obtain ⟨ha, hb, hp, hN, hT, hSn, hEv, hBk, hIm, hTp, hCX, hCE, hCM⟩ := hR
  have hA : ∀ q : Nat, s.heap.size ≤ q → LA s q := fun _ h => h
  have hbA : ¬ LA s b_ := Nat.not_le.mpr hbl
  obtain ⟨y0, y1, y2, y3, y4, y5, y6, y7, y8, y9, y10, y11, y12, y13, y14, y15, y16, y17, y18, y19, y20, y21, y22, y23, y24, y25, y26, e1, e2, g0, g1, g2, g3, g4, g5, g6⟩ := pr_undo (n := 5000) (m := 5000) (by omega) (by omega) (a := (i 0)) (b := (i 1)) (x := (i 2)) (y := (i 3)) (nu := (i 5)) (su := (i 6)) (eu := (i 7)) (bu := (i 8)) (nc := (a 0)) (sc := (a 1)) (ec := (a 2)) (bc := (a 3)) (nv := (i 39)) (sv := (i 44)) (ev := (i 45)) (bv := (i 46)) (r0 := (a 17)) (r1 := (a 18)) (r2 := (a 23)) (r3 := (a 24)) (r4 := (a 25)) (r5 := (a 26)) (r6 := (a 27)) (r7 := (a 28)) (r8 := (a 29)) (r9 := (a 30)) ha hb hp hN hSn hEv hBk (f := (i 4)) (o1 := (i 9)) (o2 := (i 10)) (o3 := (i 11)) (o4 := (i 12)) (o5 := (i 13)) (o6 := (i 14)) (o7 := (i 15)) (o8 := (i 16)) (oc1 := (a 4)) (oc2 := (a 5)) (oc3 := (a 6)) (oc4 := (a 7)) (g := (i 47)) (N := (a 31)) (R := R) hIm
  refine lv_aload_n hx hb dL_law_1119 rfl (lv_at hl 1 rfl) ?_
  refine u_calli (WW cy u rI rT (upd (upd (upd (upd (upd (upd (upd (upd i 0 y1) 1 y2) 2 y3) 3 y4) 5 y5) 6 y7) 7 y9) 8 y11) i (gup (gup (gup (gup a 0 y6) 1 y8) 2 y10) 3 y12) b j R T) (va_runV (As := []) (rest := []) ⟨hx, hb, hml, hown, htA⟩ (kX8_undo l G cy (u 0) (u 1) (u 11) (u 21) (u 22) (u 23) (u 27) (u 29) (u 34) (u 2) (u 3) (u 5) (u 7) (u 9) (u 4) (u 6) (u 8) (u 10) (u 12) (u 13) (u 15) (u 17) (u 19) (u 14) (u 16) (u 18) (u 20) H.size 24 12 24 24 24 12 24 24 (i 4) (i 0) (i 1) (i 2) (i 3) 8 (i 5) (a 0) 4 (i 6) (a 1) 8 (i 7) (a 2) 8 (i 8) (a 3) (i 9) (i 10) (i 11) (i 12) 8 (i 13) (a 4) 4 (i 14) (a 5) 8 (i 15) (a 6) 8 (i 16) (a 7) 5000 e1) (u_cwV htA a_ml_L_142 pk_X8_undo ⟨(Nat.le_of_ble_eq_true rfl), (Nat.le_of_ble_eq_true rfl)⟩) (u_preV hK hN hP hD [0, 1, 2, 3, 4, 5, 6, 7, 8, 9, 10, 11, 12, 13, 14, 15, 16, 17, 18, 19, 20] rfl (by decide) 0 rfl rfl) rfl rfl hl.1 rfl (lv_room (Nat.le_of_ble_eq_true rfl)) dL_law_1120 ⟨(Nat.le_of_ble_eq_true rfl), (Nat.le_of_ble_eq_true rfl)⟩) hP hD hS hA [0, 1, 2, 3, 4, 5, 6, 7, 8, 9, 10, 11, 12, 13, 14, 15, 16, 17, 18, 19, 20] rfl [21, 22, 23, 24, 25, 26, 27, 28, 29, 30, 31, 32, 33, 34, 35, 36, 37, 38, 39, 40, 41, 42, 43, 44, 45, 46, 47, 48, 49, 50, 51, 52, 53, 54, 55, 56, 57, 58, 59, 60, 61, 62, 63, 64, 65, 66, 67, 68, 69, 70, 71, 72, 73, 74, 75, 76, 77] 78 rfl rfl rfl (by decide) rfl (fun H locs hP hD hS => ?_)
  refine lv_aload_n hx hb dL_law_1123 rfl (lv_at hl 2 rfl) ?_
  refine u_calli (WW cy u rI rT (upd (upd (upd (upd (upd (upd (upd (upd (upd (upd (upd (upd i 0 y1) 1 y2) 2 y3) 3 y4) 5 y5) 6 y7) 7 y9) 8 y11) 39 y13) 44 y14) 45 y15) 46 y16) (upd (upd (upd (upd (upd (upd (upd (upd (upd (upd (upd (upd i 0 y1) 1 y2) 2 y3) 3 y4) 5 y5) 6 y7) 7 y9) 8 y11) 39 y13) 44 y14) 45 y15) 46 y16) (gup (gup (gup (gup (gup (gup (gup (gup (gup (gup (gup (gup (gup (gup a 0 y6) 1 y8) 2 y10) 3 y12) 17 y17) 18 y18) 23 y19) 24 y20) 25 y21) 26 y22) 27 y23) 28 y24) 29 y25) 30 y26) b j R T) (va_runV (As := []) (rest := [.int y0]) ⟨hx, hb, hml, hown, htA⟩ (kX9_undo l G cy (u 38) (u 39) (u 40) (u 41) (u 42) (u 43) (u 44) (u 45) (u 46) (u 47) (u 48) (u 49) (u 50) (u 51) (u 52) (u 53) (u 54) (u 55) (u 56) (u 57) (u 58) (u 69) (u 70) (u 71) rI H.size (i 0) (i 1) (i 2) (i 3) (i 33) (i 34) (i 35) (i 36) (i 37) (i 38) (j 0) (j 1) (i 39) (i 40) (i 41) (i 42) (i 43) (i 44) (i 45) (i 46) (i 47) (a 17) (a 18) (a 23) (a 24) (a 25) (a 26) (a 27) (a 28) (a 29) (a 30) (a 31) R 5000 e2) (u_cwV htA a_ml_L_145 pk_X9_undo ⟨(Nat.le_of_ble_eq_true rfl), (Nat.le_of_ble_eq_true rfl)⟩) (u_preV hK hN hP hD [38, 42, 43, 49, 50, 51, 52, 53, 54, 55, 56, 57, 58, 59, 60, 61, 62, 63, 64, 65, 66, 67, 68] rfl (by decide) 38 rfl rfl) rfl rfl hl.1 rfl (lv_room (Nat.le_of_ble_eq_true rfl)) dL_law_1124 ⟨(Nat.le_of_ble_eq_true rfl), (Nat.le_of_ble_eq_true rfl)⟩) hP hD hS hA [38, 42, 43, 49, 50, 51, 52, 53, 54, 55, 56, 57, 58, 59, 60, 61, 62, 63, 64, 65, 66, 67, 68] rfl [0, 1, 2, 3, 4, 5, 6, 7, 8, 9, 10, 11, 12, 13, 14, 15, 16, 17, 18, 19, 20, 21, 22, 23, 24, 25, 26, 27, 28, 29, 30, 31, 32, 33, 34, 35, 36, 37, 39, 40, 41, 44, 45, 46, 47, 48, 69, 70, 71, 72, 73, 74, 75, 76, 77] 78 rfl rfl rfl (by decide) rfl (fun H locs hP hD hS => ?_)
  refine lv_icmp_eq (tgt := 1368) hx hb dL_law_1127 (by decide) (fun _ => ?_) (fun c_1 => absurd rfl c_1)
  exact kk (upd (upd (upd (upd (upd (upd (upd (upd (upd (upd (upd (upd i 0 y1) 1 y2) 2 y3) 3 y4) 5 y5) 6 y7) 7 y9) 8 y11) 39 y13) 44 y14) 45 y15) 46 y16) (gup (gup (gup (gup (gup (gup (gup (gup (gup (gup (gup (gup (gup (gup a 0 y6) 1 y8) 2 y10) 3 y12) 17 y17) 18 y18) 23 y19) 24 y20) 25 y21) 26 y22) 27 y23) 28 y24) 29 y25) 30 y26) b j R T H locs ⟨g0, g1, g2, g3, hT, g4, g5, g6, hIm, hTp, hCX, hCE, hCM⟩ hP hD hS
set_option maxRecDepth 100000 in
set_option maxHeartbeats 4000000 in
theorem cl_count (C0 : LC p s m meth c b_ L xs G cy ad av) {k : Nat} (hk : k + 6 ≤ L) (hL : L ≤ 3072) {u rI rT : Nat → Nat} {i : Nat → Int32} {a : Nat → Nat → Int32} {b : Nat → Nat → Int64} {j : Nat → Int64} {R : Nat → Nat → Int32} {T : Nat → Nat → Int64} {H : Heap} {locs : List Loc} (hR : Rel i a b R T) (hP : va_P G vwCl (WW cy u rI rT i i a b j R T) H) (hD : va_D (LA s) (WW cy u rI rT i i a b j R T)) (hS : va_S (LA s) s.heap H locs) {ls : Array Slot} (hl : lv_has ls 4 [(0, .ref b_), (1, .ref (u 0)), (2, .ref (u 38)), (3, .int (nI k))]) (kk : Nx p l e s m below meth c b_ G cy u rI rT ls) : LW p l e s m below meth c b_ H locs (F0 m 1132 ls []) := by
  obtain ⟨hx, hb0, hr, hml, hown, htA, hX, hbl, hlocks, hK, hN, hZ⟩ := C0
  have hb : c.code = cL_law := hb0
  obtain ⟨ha, hb, hp, hN, hT, hSn, hEv, hBk, hIm, hTp, hCX, hCE, hCM⟩ := hR
  have hA : ∀ q : Nat, s.heap.size ≤ q → LA s q := fun _ h => h
  have hbA : ¬ LA s b_ := Nat.not_le.mpr hbl
  have hv1 : vp_in (nI k + 1) L := by rw [show nI k + 1 = nI (k + 1) from nI_add k 1]; exact vp_in_nI (by omega) (by omega)
  obtain ⟨y0, e1, e2⟩ := pr_count (xs (Int32.toNatClampNeg (nI k + 1))) (i 6) (i 7) (i 8) (i 29)
  have e2 : fX9_count (xs (Int32.toNatClampNeg (nI k + 1))) (i 40) (i 44) (i 45) (i 46) = some y0 := by rw [Txt_eq hT, Sns_eq hSn, Evs_eq hEv, Bks_eq hBk]; exact e2
  refine lv_aload_n hx hb dL_law_1132 rfl (lv_at hl 1 rfl) ?_
  refine lv_aload_n hx hb dL_law_1133 rfl (lv_at hl 0 rfl) ?_
  refine lv_iload_n hx hb dL_law_1134 rfl (lv_at hl 3 rfl) ?_
  refine lv_iconst (v := 1) hx hb dL_law_1135 (by decide) ?_
  refine lv_iadd hx hb dL_law_1136 ?_
  refine va_sld hx hb hX hbl hbA hS hv1 dL_law_1137 ?_
  refine u_calli (WW cy u rI rT i i a b j R T) (va_runV (As := [.int (xs (Int32.toNatClampNeg (nI k + 1)))]) (rest := []) ⟨hx, hb, hml, hown, htA⟩ (kX8_count l G cy (u 0) (u 1) (u 11) (u 21) (u 22) (u 23) (u 27) (u 29) (u 34) (u 2) (u 3) (u 5) (u 7) (u 9) (u 6) (u 8) (u 10) (u 30) (u 31) (u 32) (u 33) H.size (i 4) 4 (i 6) 8 (i 7) 8 (i 8) (i 29) (i 30) (i 31) (i 32) (xs (Int32.toNatClampNeg (nI k + 1))) e1) (u_cwV htA a_ml_L_146 pk_X8_count ⟨(Nat.le_of_ble_eq_true rfl), (Nat.le_of_ble_eq_true rfl)⟩) (u_preV hK hN hP hD [0, 1, 5, 7, 9, 29] rfl (by decide) 0 rfl rfl) rfl rfl hl.1 rfl (lv_room (Nat.le_of_ble_eq_true rfl)) dL_law_1138 ⟨(Nat.le_of_ble_eq_true rfl), (Nat.le_of_ble_eq_true rfl)⟩) hP hD hS hA [0, 1, 5, 7, 9, 29] rfl [2, 3, 4, 6, 8, 10, 11, 12, 13, 14, 15, 16, 17, 18, 19, 20, 21, 22, 23, 24, 25, 26, 27, 28, 30, 31, 32, 33, 34, 35, 36, 37, 38, 39, 40, 41, 42, 43, 44, 45, 46, 47, 48, 49, 50, 51, 52, 53, 54, 55, 56, 57, 58, 59, 60, 61, 62, 63, 64, 65, 66, 67, 68, 69, 70, 71, 72, 73, 74, 75, 76, 77] 78 rfl rfl rfl (by decide) rfl (fun H locs hP hD hS => ?_)
  refine lv_aload_n hx hb dL_law_1141 rfl (lv_at hl 2 rfl) ?_
  refine lv_aload_n hx hb dL_law_1142 rfl (lv_at hl 0 rfl) ?_
  refine lv_iload_n hx hb dL_law_1143 rfl (lv_at hl 3 rfl) ?_
  refine lv_iconst (v := 1) hx hb dL_law_1144 (by decide) ?_
  refine lv_iadd hx hb dL_law_1145 ?_
  refine va_sld hx hb hX hbl hbA hS hv1 dL_law_1146 ?_
  refine u_calli (WW cy u rI rT i i a b j R T) (va_runV (As := [.int (xs (Int32.toNatClampNeg (nI k + 1)))]) (rest := [.int y0]) ⟨hx, hb, hml, hown, htA⟩ (kX9_count l G cy (u 38) (u 39) (u 40) (u 41) (u 42) (u 43) (u 44) (u 45) (u 46) (u 47) (u 48) (u 49) (u 50) (u 51) (u 52) (u 53) (u 54) (u 55) (u 56) (u 57) (u 58) (u 69) (u 70) (u 71) H.size (i 0) (i 1) (i 2) (i 3) (i 33) (i 34) (i 35) (i 36) (i 37) (i 38) (j 0) (j 1) (i 39) (i 40) (i 41) (i 42) (i 43) (i 44) (i 45) (i 46) (i 47) (xs (Int32.toNatClampNeg (nI k + 1))) e2) (u_cwV htA a_ml_L_149 pk_X9_count ⟨(Nat.le_of_ble_eq_true rfl), (Nat.le_of_ble_eq_true rfl)⟩) (u_preV hK hN hP hD [38] rfl (by decide) 38 rfl rfl) rfl rfl hl.1 rfl (lv_room (Nat.le_of_ble_eq_true rfl)) dL_law_1147 ⟨(Nat.le_of_ble_eq_true rfl), (Nat.le_of_ble_eq_true rfl)⟩) hP hD hS hA [38] rfl [0, 1, 2, 3, 4, 5, 6, 7, 8, 9, 10, 11, 12, 13, 14, 15, 16, 17, 18, 19, 20, 21, 22, 23, 24, 25, 26, 27, 28, 29, 30, 31, 32, 33, 34, 35, 36, 37, 39, 40, 41, 42, 43, 44, 45, 46, 47, 48, 49, 50, 51, 52, 53, 54, 55, 56, 57, 58, 59, 60, 61, 62, 63, 64, 65, 66, 67, 68, 69, 70, 71, 72, 73, 74, 75, 76, 77] 78 rfl rfl rfl (by decide) rfl (fun H locs hP hD hS => ?_)
  refine lv_icmp_eq (tgt := 1368) hx hb dL_law_1150 (by decide) (fun _ => ?_) (fun c_1 => absurd rfl c_1)
  exact kk i a b j R T H locs ⟨ha, hb, hp, hN, hT, hSn, hEv, hBk, hIm, hTp, hCX, hCE, hCM⟩ hP hD hS
set_option maxRecDepth 100000 in
set_option maxHeartbeats 4000000 in
theorem cl_tape (C0 : LC p s m meth c b_ L xs G cy ad av) {k : Nat} (hk : k + 6 ≤ L) (hL : L ≤ 3072) {u rI rT : Nat → Nat} {i : Nat → Int32} {a : Nat → Nat → Int32} {b : Nat → Nat → Int64} {j : Nat → Int64} {R : Nat → Nat → Int32} {T : Nat → Nat → Int64} {H : Heap} {locs : List Loc} (hR : Rel i a b R T) (hP : va_P G vwCl (WW cy u rI rT i i a b j R T) H) (hD : va_D (LA s) (WW cy u rI rT i i a b j R T)) (hS : va_S (LA s) s.heap H locs) {ls : Array Slot} (hl : lv_has ls 4 [(0, .ref b_), (1, .ref (u 0)), (2, .ref (u 38)), (3, .int (nI k))]) (kk : Nx p l e s m below meth c b_ G cy u rI rT ls) : LW p l e s m below meth c b_ H locs (F0 m 1155 ls []) := by
  obtain ⟨hx, hb0, hr, hml, hown, htA, hX, hbl, hlocks, hK, hN, hZ⟩ := C0
  have hb : c.code = cL_law := hb0
  obtain ⟨ha, hb, hp, hN, hT, hSn, hEv, hBk, hIm, hTp, hCX, hCE, hCM⟩ := hR
  have hA : ∀ q : Nat, s.heap.size ≤ q → LA s q := fun _ h => h
  have hbA : ¬ LA s b_ := Nat.not_le.mpr hbl
  have hv1 : vp_in (nI k + 1) L := by rw [show nI k + 1 = nI (k + 1) from nI_add k 1]; exact vp_in_nI (by omega) (by omega)
  have hv2 : vp_in (nI k + 2) L := by rw [show nI k + 2 = nI (k + 2) from nI_add k 2]; exact vp_in_nI (by omega) (by omega)
  have hv3 : vp_in (nI k + 3) L := by rw [show nI k + 3 = nI (k + 3) from nI_add k 3]; exact vp_in_nI (by omega) (by omega)
  obtain ⟨y0, y1, y2, y3, y4, y5, y6, e1, e2, g0⟩ := pr_tape (n := 5000) (m := 5000) (by omega) (by omega) (xs (Int32.toNatClampNeg (nI k + 1))) (xs (Int32.toNatClampNeg (nI k + 2))) (xs (Int32.toNatClampNeg (nI k + 3))) (S := (a 14)) (L := (a 15)) (S' := (a 32)) (L' := (a 33)) (I := (b 2)) (R := T) hTp
  refine lv_aload_n hx hb dL_law_1155 rfl (lv_at hl 1 rfl) ?_
  refine lv_aload_n hx hb dL_law_1156 rfl (lv_at hl 0 rfl) ?_
  refine lv_iload_n hx hb dL_law_1157 rfl (lv_at hl 3 rfl) ?_
  refine lv_iconst (v := 1) hx hb dL_law_1158 (by decide) ?_
  refine lv_iadd hx hb dL_law_1159 ?_
  refine va_sld hx hb hX hbl hbA hS hv1 dL_law_1160 ?_
  refine lv_aload_n hx hb dL_law_1161 rfl (lv_at hl 0 rfl) ?_
  refine lv_iload_n hx hb dL_law_1162 rfl (lv_at hl 3 rfl) ?_
  refine lv_iconst (v := 2) hx hb dL_law_1163 (by decide) ?_
  refine lv_iadd hx hb dL_law_1164 ?_
  refine va_sld hx hb hX hbl hbA hS hv2 dL_law_1165 ?_
  refine lv_aload_n hx hb dL_law_1166 rfl (lv_at hl 0 rfl) ?_
  refine lv_iload_n hx hb dL_law_1167 rfl (lv_at hl 3 rfl) ?_
  refine lv_iconst (v := 3) hx hb dL_law_1168 (by decide) ?_
  refine lv_iadd hx hb dL_law_1169 ?_
  refine va_sld hx hb hX hbl hbA hS hv3 dL_law_1170 ?_
  refine u_calli (WW cy u rI rT i i (gup (gup a 14 y1) 15 y2) (gup b 2 y3) j R T) (va_runV (As := [.int (xs (Int32.toNatClampNeg (nI k + 1))), .int (xs (Int32.toNatClampNeg (nI k + 2))), .int (xs (Int32.toNatClampNeg (nI k + 3)))]) (rest := []) ⟨hx, hb, hml, hown, htA⟩ (kX8_tape l G cy (u 0) (u 1) (u 11) (u 21) (u 22) (u 23) (u 27) (u 29) (u 34) (u 35) (u 36) (u 37) H.size (i 4) (a 14) (a 15) (b 2) (xs (Int32.toNatClampNeg (nI k + 1))) (xs (Int32.toNatClampNeg (nI k + 2))) (xs (Int32.toNatClampNeg (nI k + 3))) 5000 e1) (u_cwV htA a_ml_L_150 pk_X8_tape ⟨(Nat.le_of_ble_eq_true rfl), (Nat.le_of_ble_eq_true rfl)⟩) (u_preV hK hN hP hD [0, 34, 35, 36, 37] rfl (by decide) 0 rfl rfl) rfl rfl hl.1 rfl (lv_room (Nat.le_of_ble_eq_true rfl)) dL_law_1171 ⟨(Nat.le_of_ble_eq_true rfl), (Nat.le_of_ble_eq_true rfl)⟩) hP hD hS hA [0, 34, 35, 36, 37] rfl [1, 2, 3, 4, 5, 6, 7, 8, 9, 10, 11, 12, 13, 14, 15, 16, 17, 18, 19, 20, 21, 22, 23, 24, 25, 26, 27, 28, 29, 30, 31, 32, 33, 38, 39, 40, 41, 42, 43, 44, 45, 46, 47, 48, 49, 50, 51, 52, 53, 54, 55, 56, 57, 58, 59, 60, 61, 62, 63, 64, 65, 66, 67, 68, 69, 70, 71, 72, 73, 74, 75, 76, 77] 78 rfl rfl rfl (by decide) rfl (fun H locs hP hD hS => ?_)
  refine lv_aload_n hx hb dL_law_1174 rfl (lv_at hl 2 rfl) ?_
  refine lv_aload_n hx hb dL_law_1175 rfl (lv_at hl 0 rfl) ?_
  refine lv_iload_n hx hb dL_law_1176 rfl (lv_at hl 3 rfl) ?_
  refine lv_iconst (v := 1) hx hb dL_law_1177 (by decide) ?_
  refine lv_iadd hx hb dL_law_1178 ?_
  refine va_sld hx hb hX hbl hbA hS hv1 dL_law_1179 ?_
  refine lv_aload_n hx hb dL_law_1180 rfl (lv_at hl 0 rfl) ?_
  refine lv_iload_n hx hb dL_law_1181 rfl (lv_at hl 3 rfl) ?_
  refine lv_iconst (v := 2) hx hb dL_law_1182 (by decide) ?_
  refine lv_iadd hx hb dL_law_1183 ?_
  refine va_sld hx hb hX hbl hbA hS hv2 dL_law_1184 ?_
  refine lv_aload_n hx hb dL_law_1185 rfl (lv_at hl 0 rfl) ?_
  refine lv_iload_n hx hb dL_law_1186 rfl (lv_at hl 3 rfl) ?_
  refine lv_iconst (v := 3) hx hb dL_law_1187 (by decide) ?_
  refine lv_iadd hx hb dL_law_1188 ?_
  refine va_sld hx hb hX hbl hbA hS hv3 dL_law_1189 ?_
  refine u_calli (WW cy u rI rT i i (gup (gup (gup (gup a 14 y1) 15 y2) 32 y4) 33 y5) (gup b 2 y3) j R y6) (va_runV (As := [.int (xs (Int32.toNatClampNeg (nI k + 1))), .int (xs (Int32.toNatClampNeg (nI k + 2))), .int (xs (Int32.toNatClampNeg (nI k + 3)))]) (rest := [.int y0]) ⟨hx, hb, hml, hown, htA⟩ (kX9_tape l G cy (u 38) (u 39) (u 40) (u 41) (u 42) (u 43) (u 44) (u 45) (u 46) (u 47) (u 48) (u 49) (u 50) (u 51) (u 52) (u 53) (u 54) (u 55) (u 56) (u 57) (u 58) (u 69) (u 70) (u 71) rT H.size (i 0) (i 1) (i 2) (i 3) (i 33) (i 34) (i 35) (i 36) (i 37) (i 38) (j 0) (j 1) (i 39) (i 40) (i 41) (i 42) (i 43) (i 44) (i 45) (i 46) (i 47) (a 32) (a 33) T (xs (Int32.toNatClampNeg (nI k + 1))) (xs (Int32.toNatClampNeg (nI k + 2))) (xs (Int32.toNatClampNeg (nI k + 3))) 5000 e2) (u_cwV htA a_ml_L_153 pk_X9_tape ⟨(Nat.le_of_ble_eq_true rfl), (Nat.le_of_ble_eq_true rfl)⟩) (u_preV hK hN hP hD [38, 69, 70, 71, 72, 73, 74, 75, 76, 77] rfl (by decide) 38 rfl rfl) rfl rfl hl.1 rfl (lv_room (Nat.le_of_ble_eq_true rfl)) dL_law_1190 ⟨(Nat.le_of_ble_eq_true rfl), (Nat.le_of_ble_eq_true rfl)⟩) hP hD hS hA [38, 69, 70, 71, 72, 73, 74, 75, 76, 77] rfl [0, 1, 2, 3, 4, 5, 6, 7, 8, 9, 10, 11, 12, 13, 14, 15, 16, 17, 18, 19, 20, 21, 22, 23, 24, 25, 26, 27, 28, 29, 30, 31, 32, 33, 34, 35, 36, 37, 39, 40, 41, 42, 43, 44, 45, 46, 47, 48, 49, 50, 51, 52, 53, 54, 55, 56, 57, 58, 59, 60, 61, 62, 63, 64, 65, 66, 67, 68] 78 rfl rfl rfl (by decide) rfl (fun H locs hP hD hS => ?_)
  refine lv_icmp_eq (tgt := 1368) hx hb dL_law_1193 (by decide) (fun _ => ?_) (fun c_1 => absurd rfl c_1)
  exact kk i (gup (gup (gup (gup a 14 y1) 15 y2) 32 y4) 33 y5) (gup b 2 y3) j R y6 H locs ⟨ha, hb, hp, hN, hT, hSn, hEv, hBk, hIm, g0, hCX, hCE, hCM⟩ hP hD hS
set_option maxRecDepth 100000 in
set_option maxHeartbeats 4000000 in
theorem cl_item (C0 : LC p s m meth c b_ L xs G cy ad av) {k : Nat} (hk : k + 6 ≤ L) (hL : L ≤ 3072) {u rI rT : Nat → Nat} {i : Nat → Int32} {a : Nat → Nat → Int32} {b : Nat → Nat → Int64} {j : Nat → Int64} {R : Nat → Nat → Int32} {T : Nat → Nat → Int64} {H : Heap} {locs : List Loc} (hR : Rel i a b R T) (hP : va_P G vwCl (WW cy u rI rT i i a b j R T) H) (hD : va_D (LA s) (WW cy u rI rT i i a b j R T)) (hS : va_S (LA s) s.heap H locs) {ls : Array Slot} (hl : lv_has ls 4 [(0, .ref b_), (1, .ref (u 0)), (2, .ref (u 38)), (3, .int (nI k))]) (kk : Nx p l e s m below meth c b_ G cy u rI rT ls) : LW p l e s m below meth c b_ H locs (F0 m 1198 ls []) := by
  obtain ⟨hx, hb0, hr, hml, hown, htA, hX, hbl, hlocks, hK, hN, hZ⟩ := C0
  have hb : c.code = cL_law := hb0
  obtain ⟨ha, hb, hp, hN, hT, hSn, hEv, hBk, hIm, hTp, hCX, hCE, hCM⟩ := hR
  have hA : ∀ q : Nat, s.heap.size ≤ q → LA s q := fun _ h => h
  have hbA : ¬ LA s b_ := Nat.not_le.mpr hbl
  have hv1 : vp_in (nI k + 1) L := by rw [show nI k + 1 = nI (k + 1) from nI_add k 1]; exact vp_in_nI (by omega) (by omega)
  have hv2 : vp_in (nI k + 2) L := by rw [show nI k + 2 = nI (k + 2) from nI_add k 2]; exact vp_in_nI (by omega) (by omega)
  have hv3 : vp_in (nI k + 3) L := by rw [show nI k + 3 = nI (k + 3) from nI_add k 3]; exact vp_in_nI (by omega) (by omega)
  have hv4 : vp_in (nI k + 4) L := by rw [show nI k + 4 = nI (k + 4) from nI_add k 4]; exact vp_in_nI (by omega) (by omega)
  obtain ⟨y0, y1, y2, e1, e2, g0⟩ := pr_item (xs (Int32.toNatClampNeg (nI k + 1))) (xs (Int32.toNatClampNeg (nI k + 2))) (((Int32.toInt64 (xs (Int32.toNatClampNeg (nI k + 3)))) <<< (Int32.toInt64 32 &&& 63)) ||| ((Int32.toInt64 (xs (Int32.toNatClampNeg (nI k + 4)))) &&& 4294967295)) (S := (a 14)) (L := (a 15)) (S' := (a 32)) (L' := (a 33)) (I := (b 2)) (R := T) hTp
  refine lv_aload_n hx hb dL_law_1198 rfl (lv_at hl 1 rfl) ?_
  refine lv_aload_n hx hb dL_law_1199 rfl (lv_at hl 0 rfl) ?_
  refine lv_iload_n hx hb dL_law_1200 rfl (lv_at hl 3 rfl) ?_
  refine lv_iconst (v := 1) hx hb dL_law_1201 (by decide) ?_
  refine lv_iadd hx hb dL_law_1202 ?_
  refine va_sld hx hb hX hbl hbA hS hv1 dL_law_1203 ?_
  refine lv_aload_n hx hb dL_law_1204 rfl (lv_at hl 0 rfl) ?_
  refine lv_iload_n hx hb dL_law_1205 rfl (lv_at hl 3 rfl) ?_
  refine lv_iconst (v := 2) hx hb dL_law_1206 (by decide) ?_
  refine lv_iadd hx hb dL_law_1207 ?_
  refine va_sld hx hb hX hbl hbA hS hv2 dL_law_1208 ?_
  refine lv_aload_n hx hb dL_law_1209 rfl (lv_at hl 0 rfl) ?_
  refine lv_iload_n hx hb dL_law_1210 rfl (lv_at hl 3 rfl) ?_
  refine lv_iconst (v := 3) hx hb dL_law_1211 (by decide) ?_
  refine lv_iadd hx hb dL_law_1212 ?_
  refine va_sld hx hb hX hbl hbA hS hv3 dL_law_1213 ?_
  refine lv_i2l hx hb dL_law_1214 rfl ?_
  refine lv_bipush (v := 32) hx hb dL_law_1215 (by decide) ?_
  refine lv_lshl hx hb dL_law_1217 rfl ?_
  refine lv_aload_n hx hb dL_law_1218 rfl (lv_at hl 0 rfl) ?_
  refine lv_iload_n hx hb dL_law_1219 rfl (lv_at hl 3 rfl) ?_
  refine lv_iconst (v := 4) hx hb dL_law_1220 (by decide) ?_
  refine lv_iadd hx hb dL_law_1221 ?_
  refine va_sld hx hb hX hbl hbA hS hv4 dL_law_1222 ?_
  refine lv_i2l hx hb dL_law_1223 rfl ?_
  refine lv_ldc2 (v := 4294967295) hx hb hown (htA _ a_cl_L_154) dL_law_1224 ?_
  refine lv_land hx hb dL_law_1227 ?_
  refine lv_lor hx hb dL_law_1228 ?_
  refine u_calli (WW cy u rI rT i i a (gup b 2 y1) j R T) (va_runV (As := [.int (xs (Int32.toNatClampNeg (nI k + 1))), .int (xs (Int32.toNatClampNeg (nI k + 2))), .long (((Int32.toInt64 (xs (Int32.toNatClampNeg (nI k + 3)))) <<< (Int32.toInt64 32 &&& 63)) ||| ((Int32.toInt64 (xs (Int32.toNatClampNeg (nI k + 4)))) &&& 4294967295))]) (rest := []) ⟨hx, hb, hml, hown, htA⟩ (kX8_item l G cy (u 0) (u 1) (u 11) (u 21) (u 22) (u 23) (u 27) (u 29) (u 34) (u 35) (u 36) (u 37) H.size (i 4) (a 14) (a 15) (b 2) (xs (Int32.toNatClampNeg (nI k + 1))) (xs (Int32.toNatClampNeg (nI k + 2))) (((Int32.toInt64 (xs (Int32.toNatClampNeg (nI k + 3)))) <<< (Int32.toInt64 32 &&& 63)) ||| ((Int32.toInt64 (xs (Int32.toNatClampNeg (nI k + 4)))) &&& 4294967295)) e1) (u_cwV htA a_ml_L_156 pk_X8_item ⟨(Nat.le_of_ble_eq_true rfl), (Nat.le_of_ble_eq_true rfl)⟩) (u_preV hK hN hP hD [0, 34, 35, 36, 37] rfl (by decide) 0 rfl rfl) rfl rfl hl.1 rfl (lv_room (Nat.le_of_ble_eq_true rfl)) dL_law_1229 ⟨(Nat.le_of_ble_eq_true rfl), (Nat.le_of_ble_eq_true rfl)⟩) hP hD hS hA [0, 34, 35, 36, 37] rfl [1, 2, 3, 4, 5, 6, 7, 8, 9, 10, 11, 12, 13, 14, 15, 16, 17, 18, 19, 20, 21, 22, 23, 24, 25, 26, 27, 28, 29, 30, 31, 32, 33, 38, 39, 40, 41, 42, 43, 44, 45, 46, 47, 48, 49, 50, 51, 52, 53, 54, 55, 56, 57, 58, 59, 60, 61, 62, 63, 64, 65, 66, 67, 68, 69, 70, 71, 72, 73, 74, 75, 76, 77] 78 rfl rfl rfl (by decide) rfl (fun H locs hP hD hS => ?_)
  refine lv_aload_n hx hb dL_law_1232 rfl (lv_at hl 2 rfl) ?_
  refine lv_aload_n hx hb dL_law_1233 rfl (lv_at hl 0 rfl) ?_
  refine lv_iload_n hx hb dL_law_1234 rfl (lv_at hl 3 rfl) ?_
  refine lv_iconst (v := 1) hx hb dL_law_1235 (by decide) ?_
  refine lv_iadd hx hb dL_law_1236 ?_
  refine va_sld hx hb hX hbl hbA hS hv1 dL_law_1237 ?_
  refine lv_aload_n hx hb dL_law_1238 rfl (lv_at hl 0 rfl) ?_
  refine lv_iload_n hx hb dL_law_1239 rfl (lv_at hl 3 rfl) ?_
  refine lv_iconst (v := 2) hx hb dL_law_1240 (by decide) ?_
  refine lv_iadd hx hb dL_law_1241 ?_
  refine va_sld hx hb hX hbl hbA hS hv2 dL_law_1242 ?_
  refine lv_aload_n hx hb dL_law_1243 rfl (lv_at hl 0 rfl) ?_
  refine lv_iload_n hx hb dL_law_1244 rfl (lv_at hl 3 rfl) ?_
  refine lv_iconst (v := 3) hx hb dL_law_1245 (by decide) ?_
  refine lv_iadd hx hb dL_law_1246 ?_
  refine va_sld hx hb hX hbl hbA hS hv3 dL_law_1247 ?_
  refine lv_i2l hx hb dL_law_1248 rfl ?_
  refine lv_bipush (v := 32) hx hb dL_law_1249 (by decide) ?_
  refine lv_lshl hx hb dL_law_1251 rfl ?_
  refine lv_aload_n hx hb dL_law_1252 rfl (lv_at hl 0 rfl) ?_
  refine lv_iload_n hx hb dL_law_1253 rfl (lv_at hl 3 rfl) ?_
  refine lv_iconst (v := 4) hx hb dL_law_1254 (by decide) ?_
  refine lv_iadd hx hb dL_law_1255 ?_
  refine va_sld hx hb hX hbl hbA hS hv4 dL_law_1256 ?_
  refine lv_i2l hx hb dL_law_1257 rfl ?_
  refine lv_ldc2 (v := 4294967295) hx hb hown (htA _ a_cl_L_154) dL_law_1258 ?_
  refine lv_land hx hb dL_law_1261 ?_
  refine lv_lor hx hb dL_law_1262 ?_
  refine u_calli (WW cy u rI rT i i a (gup b 2 y1) j R y2) (va_runV (As := [.int (xs (Int32.toNatClampNeg (nI k + 1))), .int (xs (Int32.toNatClampNeg (nI k + 2))), .long (((Int32.toInt64 (xs (Int32.toNatClampNeg (nI k + 3)))) <<< (Int32.toInt64 32 &&& 63)) ||| ((Int32.toInt64 (xs (Int32.toNatClampNeg (nI k + 4)))) &&& 4294967295))]) (rest := [.int y0]) ⟨hx, hb, hml, hown, htA⟩ (kX9_item l G cy (u 38) (u 39) (u 40) (u 41) (u 42) (u 43) (u 44) (u 45) (u 46) (u 47) (u 48) (u 49) (u 50) (u 51) (u 52) (u 53) (u 54) (u 55) (u 56) (u 57) (u 58) (u 69) (u 70) (u 71) rT H.size (i 0) (i 1) (i 2) (i 3) (i 33) (i 34) (i 35) (i 36) (i 37) (i 38) (j 0) (j 1) (i 39) (i 40) (i 41) (i 42) (i 43) (i 44) (i 45) (i 46) (i 47) (a 32) (a 33) T (xs (Int32.toNatClampNeg (nI k + 1))) (xs (Int32.toNatClampNeg (nI k + 2))) (((Int32.toInt64 (xs (Int32.toNatClampNeg (nI k + 3)))) <<< (Int32.toInt64 32 &&& 63)) ||| ((Int32.toInt64 (xs (Int32.toNatClampNeg (nI k + 4)))) &&& 4294967295)) e2) (u_cwV htA a_ml_L_160 pk_X9_item ⟨(Nat.le_of_ble_eq_true rfl), (Nat.le_of_ble_eq_true rfl)⟩) (u_preV hK hN hP hD [38, 69, 70, 71, 72, 73, 74, 75, 76, 77] rfl (by decide) 38 rfl rfl) rfl rfl hl.1 rfl (lv_room (Nat.le_of_ble_eq_true rfl)) dL_law_1263 ⟨(Nat.le_of_ble_eq_true rfl), (Nat.le_of_ble_eq_true rfl)⟩) hP hD hS hA [38, 69, 70, 71, 72, 73, 74, 75, 76, 77] rfl [0, 1, 2, 3, 4, 5, 6, 7, 8, 9, 10, 11, 12, 13, 14, 15, 16, 17, 18, 19, 20, 21, 22, 23, 24, 25, 26, 27, 28, 29, 30, 31, 32, 33, 34, 35, 36, 37, 39, 40, 41, 42, 43, 44, 45, 46, 47, 48, 49, 50, 51, 52, 53, 54, 55, 56, 57, 58, 59, 60, 61, 62, 63, 64, 65, 66, 67, 68] 78 rfl rfl rfl (by decide) rfl (fun H locs hP hD hS => ?_)
  refine lv_icmp_eq (tgt := 1368) hx hb dL_law_1266 (by decide) (fun _ => ?_) (fun c_1 => absurd rfl c_1)
  exact kk i a (gup b 2 y1) j R y2 H locs ⟨ha, hb, hp, hN, hT, hSn, hEv, hBk, hIm, g0, hCX, hCE, hCM⟩ hP hD hS
set_option maxRecDepth 100000 in
set_option maxHeartbeats 4000000 in
theorem cl_peek (C0 : LC p s m meth c b_ L xs G cy ad av) {k : Nat} (hk : k + 6 ≤ L) (hL : L ≤ 3072) {u rI rT : Nat → Nat} {i : Nat → Int32} {a : Nat → Nat → Int32} {b : Nat → Nat → Int64} {j : Nat → Int64} {R : Nat → Nat → Int32} {T : Nat → Nat → Int64} {H : Heap} {locs : List Loc} (hR : Rel i a b R T) (hP : va_P G vwCl (WW cy u rI rT i i a b j R T) H) (hD : va_D (LA s) (WW cy u rI rT i i a b j R T)) (hS : va_S (LA s) s.heap H locs) {ls : Array Slot} (hl : lv_has ls 4 [(0, .ref b_), (1, .ref (u 0)), (2, .ref (u 38)), (3, .int (nI k))]) (kk : Nx p l e s m below meth c b_ G cy u rI rT ls) : LW p l e s m below meth c b_ H locs (F0 m 1271 ls []) := by
  obtain ⟨hx, hb0, hr, hml, hown, htA, hX, hbl, hlocks, hK, hN, hZ⟩ := C0
  have hb : c.code = cL_law := hb0
  obtain ⟨ha, hb, hp, hN, hT, hSn, hEv, hBk, hIm, hTp, hCX, hCE, hCM⟩ := hR
  have hA : ∀ q : Nat, s.heap.size ≤ q → LA s q := fun _ h => h
  have hbA : ¬ LA s b_ := Nat.not_le.mpr hbl
  have hv1 : vp_in (nI k + 1) L := by rw [show nI k + 1 = nI (k + 1) from nI_add k 1]; exact vp_in_nI (by omega) (by omega)
  have hv2 : vp_in (nI k + 2) L := by rw [show nI k + 2 = nI (k + 2) from nI_add k 2]; exact vp_in_nI (by omega) (by omega)
  obtain ⟨y0, e1, e2⟩ := pr_peek (xs (Int32.toNatClampNeg (nI k + 1))) (xs (Int32.toNatClampNeg (nI k + 2))) (S := (a 14)) (L := (a 15)) (S' := (a 32)) (L' := (a 33)) (I := (b 2)) (R := T) hTp
  refine lv_aload_n hx hb dL_law_1271 rfl (lv_at hl 1 rfl) ?_
  refine lv_aload_n hx hb dL_law_1272 rfl (lv_at hl 0 rfl) ?_
  refine lv_iload_n hx hb dL_law_1273 rfl (lv_at hl 3 rfl) ?_
  refine lv_iconst (v := 1) hx hb dL_law_1274 (by decide) ?_
  refine lv_iadd hx hb dL_law_1275 ?_
  refine va_sld hx hb hX hbl hbA hS hv1 dL_law_1276 ?_
  refine lv_aload_n hx hb dL_law_1277 rfl (lv_at hl 0 rfl) ?_
  refine lv_iload_n hx hb dL_law_1278 rfl (lv_at hl 3 rfl) ?_
  refine lv_iconst (v := 2) hx hb dL_law_1279 (by decide) ?_
  refine lv_iadd hx hb dL_law_1280 ?_
  refine va_sld hx hb hX hbl hbA hS hv2 dL_law_1281 ?_
  refine u_calll (WW cy u rI rT i i a b j R T) (va_runV (As := [.int (xs (Int32.toNatClampNeg (nI k + 1))), .int (xs (Int32.toNatClampNeg (nI k + 2)))]) (rest := []) ⟨hx, hb, hml, hown, htA⟩ (kX8_peek l G cy (u 0) (u 1) (u 11) (u 21) (u 22) (u 23) (u 27) (u 29) (u 34) (u 35) (u 36) (u 37) H.size (i 4) (a 15) (b 2) (xs (Int32.toNatClampNeg (nI k + 1))) (xs (Int32.toNatClampNeg (nI k + 2))) e1) (u_cwV htA a_ml_L_161 pk_X8_peek ⟨(Nat.le_of_ble_eq_true rfl), (Nat.le_of_ble_eq_true rfl)⟩) (u_preV hK hN hP hD [0, 34, 36, 37] rfl (by decide) 0 rfl rfl) rfl rfl hl.1 rfl (lv_room (Nat.le_of_ble_eq_true rfl)) dL_law_1282 ⟨(Nat.le_of_ble_eq_true rfl), (Nat.le_of_ble_eq_true rfl)⟩) hP hD hS hA [0, 34, 36, 37] rfl [1, 2, 3, 4, 5, 6, 7, 8, 9, 10, 11, 12, 13, 14, 15, 16, 17, 18, 19, 20, 21, 22, 23, 24, 25, 26, 27, 28, 29, 30, 31, 32, 33, 35, 38, 39, 40, 41, 42, 43, 44, 45, 46, 47, 48, 49, 50, 51, 52, 53, 54, 55, 56, 57, 58, 59, 60, 61, 62, 63, 64, 65, 66, 67, 68, 69, 70, 71, 72, 73, 74, 75, 76, 77] 78 rfl rfl rfl (by decide) rfl (fun H locs hP hD hS => ?_)
  refine lv_aload_n hx hb dL_law_1285 rfl (lv_at hl 2 rfl) ?_
  refine lv_aload_n hx hb dL_law_1286 rfl (lv_at hl 0 rfl) ?_
  refine lv_iload_n hx hb dL_law_1287 rfl (lv_at hl 3 rfl) ?_
  refine lv_iconst (v := 1) hx hb dL_law_1288 (by decide) ?_
  refine lv_iadd hx hb dL_law_1289 ?_
  refine va_sld hx hb hX hbl hbA hS hv1 dL_law_1290 ?_
  refine lv_aload_n hx hb dL_law_1291 rfl (lv_at hl 0 rfl) ?_
  refine lv_iload_n hx hb dL_law_1292 rfl (lv_at hl 3 rfl) ?_
  refine lv_iconst (v := 2) hx hb dL_law_1293 (by decide) ?_
  refine lv_iadd hx hb dL_law_1294 ?_
  refine va_sld hx hb hX hbl hbA hS hv2 dL_law_1295 ?_
  refine u_calll (WW cy u rI rT i i a b j R T) (va_runV (As := [.int (xs (Int32.toNatClampNeg (nI k + 1))), .int (xs (Int32.toNatClampNeg (nI k + 2)))]) (rest := [.long y0]) ⟨hx, hb, hml, hown, htA⟩ (kX9_peek l G cy (u 38) (u 39) (u 40) (u 41) (u 42) (u 43) (u 44) (u 45) (u 46) (u 47) (u 48) (u 49) (u 50) (u 51) (u 52) (u 53) (u 54) (u 55) (u 56) (u 57) (u 58) (u 69) (u 70) (u 71) rT H.size (i 0) (i 1) (i 2) (i 3) (i 33) (i 34) (i 35) (i 36) (i 37) (i 38) (j 0) (j 1) (i 39) (i 40) (i 41) (i 42) (i 43) (i 44) (i 45) (i 46) (i 47) (a 32) (a 33) T (xs (Int32.toNatClampNeg (nI k + 1))) (xs (Int32.toNatClampNeg (nI k + 2))) e2) (u_cwV htA a_ml_L_164 pk_X9_peek ⟨(Nat.le_of_ble_eq_true rfl), (Nat.le_of_ble_eq_true rfl)⟩) (u_preV hK hN hP hD [38, 69, 70, 71, 72, 73, 74, 75, 76, 77] rfl (by decide) 38 rfl rfl) rfl rfl hl.1 rfl (lv_room (Nat.le_of_ble_eq_true rfl)) dL_law_1296 ⟨(Nat.le_of_ble_eq_true rfl), (Nat.le_of_ble_eq_true rfl)⟩) hP hD hS hA [38, 69, 70, 71, 72, 73, 74, 75, 76, 77] rfl [0, 1, 2, 3, 4, 5, 6, 7, 8, 9, 10, 11, 12, 13, 14, 15, 16, 17, 18, 19, 20, 21, 22, 23, 24, 25, 26, 27, 28, 29, 30, 31, 32, 33, 34, 35, 36, 37, 39, 40, 41, 42, 43, 44, 45, 46, 47, 48, 49, 50, 51, 52, 53, 54, 55, 56, 57, 58, 59, 60, 61, 62, 63, 64, 65, 66, 67, 68] 78 rfl rfl rfl (by decide) rfl (fun H locs hP hD hS => ?_)
  refine W.lcmp hx hb dL_law_1299 ?_
  refine lv_if_eq (tgt := 1368) hx hb dL_law_1300 (by decide) (fun _ => ?_) (fun c_1 => absurd ((lg_eq _ _).mpr rfl) c_1)
  exact kk i a b j R T H locs ⟨ha, hb, hp, hN, hT, hSn, hEv, hBk, hIm, hTp, hCX, hCE, hCM⟩ hP hD hS
set_option maxRecDepth 100000 in
set_option maxHeartbeats 4000000 in
theorem cl_shift (C0 : LC p s m meth c b_ L xs G cy ad av) {k : Nat} (hk : k + 6 ≤ L) (hL : L ≤ 3072) {u rI rT : Nat → Nat} {i : Nat → Int32} {a : Nat → Nat → Int32} {b : Nat → Nat → Int64} {j : Nat → Int64} {R : Nat → Nat → Int32} {T : Nat → Nat → Int64} {H : Heap} {locs : List Loc} (hR : Rel i a b R T) (hP : va_P G vwCl (WW cy u rI rT i i a b j R T) H) (hD : va_D (LA s) (WW cy u rI rT i i a b j R T)) (hS : va_S (LA s) s.heap H locs) {ls : Array Slot} (hl : lv_has ls 4 [(0, .ref b_), (1, .ref (u 0)), (2, .ref (u 38)), (3, .int (nI k))]) (kk : Nx p l e s m below meth c b_ G cy u rI rT ls) : LW p l e s m below meth c b_ H locs (F0 m 1305 ls []) := by
  obtain ⟨hx, hb0, hr, hml, hown, htA, hX, hbl, hlocks, hK, hN, hZ⟩ := C0
  have hb : c.code = cL_law := hb0
  obtain ⟨ha, hb, hp, hN, hT, hSn, hEv, hBk, hIm, hTp, hCX, hCE, hCM⟩ := hR
  have hA : ∀ q : Nat, s.heap.size ≤ q → LA s q := fun _ h => h
  have hbA : ¬ LA s b_ := Nat.not_le.mpr hbl
  have hv1 : vp_in (nI k + 1) L := by rw [show nI k + 1 = nI (k + 1) from nI_add k 1]; exact vp_in_nI (by omega) (by omega)
  have hv2 : vp_in (nI k + 2) L := by rw [show nI k + 2 = nI (k + 2) from nI_add k 2]; exact vp_in_nI (by omega) (by omega)
  have hv3 : vp_in (nI k + 3) L := by rw [show nI k + 3 = nI (k + 3) from nI_add k 3]; exact vp_in_nI (by omega) (by omega)
  have hv4 : vp_in (nI k + 4) L := by rw [show nI k + 4 = nI (k + 4) from nI_add k 4]; exact vp_in_nI (by omega) (by omega)
  have hv5 : vp_in (nI k + 5) L := by rw [show nI k + 5 = nI (k + 5) from nI_add k 5]; exact vp_in_nI (by omega) (by omega)
  obtain ⟨y0, y1, y2, e1, e2, g0⟩ := pr_shift (xs (Int32.toNatClampNeg (nI k + 1))) (xs (Int32.toNatClampNeg (nI k + 2))) (xs (Int32.toNatClampNeg (nI k + 3))) (xs (Int32.toNatClampNeg (nI k + 4))) (xs (Int32.toNatClampNeg (nI k + 5))) (S := (a 14)) (L := (a 15)) (S' := (a 32)) (L' := (a 33)) (I := (b 2)) (R := T) hTp
  refine lv_aload_n hx hb dL_law_1305 rfl (lv_at hl 1 rfl) ?_
  refine lv_aload_n hx hb dL_law_1306 rfl (lv_at hl 0 rfl) ?_
  refine lv_iload_n hx hb dL_law_1307 rfl (lv_at hl 3 rfl) ?_
  refine lv_iconst (v := 1) hx hb dL_law_1308 (by decide) ?_
  refine lv_iadd hx hb dL_law_1309 ?_
  refine va_sld hx hb hX hbl hbA hS hv1 dL_law_1310 ?_
  refine lv_aload_n hx hb dL_law_1311 rfl (lv_at hl 0 rfl) ?_
  refine lv_iload_n hx hb dL_law_1312 rfl (lv_at hl 3 rfl) ?_
  refine lv_iconst (v := 2) hx hb dL_law_1313 (by decide) ?_
  refine lv_iadd hx hb dL_law_1314 ?_
  refine va_sld hx hb hX hbl hbA hS hv2 dL_law_1315 ?_
  refine lv_aload_n hx hb dL_law_1316 rfl (lv_at hl 0 rfl) ?_
  refine lv_iload_n hx hb dL_law_1317 rfl (lv_at hl 3 rfl) ?_
  refine lv_iconst (v := 3) hx hb dL_law_1318 (by decide) ?_
  refine lv_iadd hx hb dL_law_1319 ?_
  refine va_sld hx hb hX hbl hbA hS hv3 dL_law_1320 ?_
  refine lv_aload_n hx hb dL_law_1321 rfl (lv_at hl 0 rfl) ?_
  refine lv_iload_n hx hb dL_law_1322 rfl (lv_at hl 3 rfl) ?_
  refine lv_iconst (v := 4) hx hb dL_law_1323 (by decide) ?_
  refine lv_iadd hx hb dL_law_1324 ?_
  refine va_sld hx hb hX hbl hbA hS hv4 dL_law_1325 ?_
  refine lv_aload_n hx hb dL_law_1326 rfl (lv_at hl 0 rfl) ?_
  refine lv_iload_n hx hb dL_law_1327 rfl (lv_at hl 3 rfl) ?_
  refine lv_iconst (v := 5) hx hb dL_law_1328 (by decide) ?_
  refine lv_iadd hx hb dL_law_1329 ?_
  refine va_sld hx hb hX hbl hbA hS hv5 dL_law_1330 ?_
  refine u_calli (WW cy u rI rT i i a (gup b 2 y1) j R T) (va_runV (As := [.int (xs (Int32.toNatClampNeg (nI k + 1))), .int (xs (Int32.toNatClampNeg (nI k + 2))), .int (xs (Int32.toNatClampNeg (nI k + 3))), .int (xs (Int32.toNatClampNeg (nI k + 4))), .int (xs (Int32.toNatClampNeg (nI k + 5)))]) (rest := []) ⟨hx, hb, hml, hown, htA⟩ (kX8_shift l G cy (u 0) (u 1) (u 11) (u 21) (u 22) (u 23) (u 27) (u 29) (u 34) (u 35) (u 36) (u 37) H.size (i 4) (a 14) (a 15) (b 2) (xs (Int32.toNatClampNeg (nI k + 1))) (xs (Int32.toNatClampNeg (nI k + 2))) (xs (Int32.toNatClampNeg (nI k + 3))) (xs (Int32.toNatClampNeg (nI k + 4))) (xs (Int32.toNatClampNeg (nI k + 5))) e1) (u_cwV htA a_ml_L_165 pk_X8_shift ⟨(Nat.le_of_ble_eq_true rfl), (Nat.le_of_ble_eq_true rfl)⟩) (u_preV hK hN hP hD [0, 34, 35, 36, 37] rfl (by decide) 0 rfl rfl) rfl rfl hl.1 rfl (lv_room (Nat.le_of_ble_eq_true rfl)) dL_law_1331 ⟨(Nat.le_of_ble_eq_true rfl), (Nat.le_of_ble_eq_true rfl)⟩) hP hD hS hA [0, 34, 35, 36, 37] rfl [1, 2, 3, 4, 5, 6, 7, 8, 9, 10, 11, 12, 13, 14, 15, 16, 17, 18, 19, 20, 21, 22, 23, 24, 25, 26, 27, 28, 29, 30, 31, 32, 33, 38, 39, 40, 41, 42, 43, 44, 45, 46, 47, 48, 49, 50, 51, 52, 53, 54, 55, 56, 57, 58, 59, 60, 61, 62, 63, 64, 65, 66, 67, 68, 69, 70, 71, 72, 73, 74, 75, 76, 77] 78 rfl rfl rfl (by decide) rfl (fun H locs hP hD hS => ?_)
  refine lv_aload_n hx hb dL_law_1334 rfl (lv_at hl 2 rfl) ?_
  refine lv_aload_n hx hb dL_law_1335 rfl (lv_at hl 0 rfl) ?_
  refine lv_iload_n hx hb dL_law_1336 rfl (lv_at hl 3 rfl) ?_
  refine lv_iconst (v := 1) hx hb dL_law_1337 (by decide) ?_
  refine lv_iadd hx hb dL_law_1338 ?_
  refine va_sld hx hb hX hbl hbA hS hv1 dL_law_1339 ?_
  refine lv_aload_n hx hb dL_law_1340 rfl (lv_at hl 0 rfl) ?_
  refine lv_iload_n hx hb dL_law_1341 rfl (lv_at hl 3 rfl) ?_
  refine lv_iconst (v := 2) hx hb dL_law_1342 (by decide) ?_
  refine lv_iadd hx hb dL_law_1343 ?_
  refine va_sld hx hb hX hbl hbA hS hv2 dL_law_1344 ?_
  refine lv_aload_n hx hb dL_law_1345 rfl (lv_at hl 0 rfl) ?_
  refine lv_iload_n hx hb dL_law_1346 rfl (lv_at hl 3 rfl) ?_
  refine lv_iconst (v := 3) hx hb dL_law_1347 (by decide) ?_
  refine lv_iadd hx hb dL_law_1348 ?_
  refine va_sld hx hb hX hbl hbA hS hv3 dL_law_1349 ?_
  refine lv_aload_n hx hb dL_law_1350 rfl (lv_at hl 0 rfl) ?_
  refine lv_iload_n hx hb dL_law_1351 rfl (lv_at hl 3 rfl) ?_
  refine lv_iconst (v := 4) hx hb dL_law_1352 (by decide) ?_
  refine lv_iadd hx hb dL_law_1353 ?_
  refine va_sld hx hb hX hbl hbA hS hv4 dL_law_1354 ?_
  refine lv_aload_n hx hb dL_law_1355 rfl (lv_at hl 0 rfl) ?_
  refine lv_iload_n hx hb dL_law_1356 rfl (lv_at hl 3 rfl) ?_
  refine lv_iconst (v := 5) hx hb dL_law_1357 (by decide) ?_
  refine lv_iadd hx hb dL_law_1358 ?_
  refine va_sld hx hb hX hbl hbA hS hv5 dL_law_1359 ?_
  refine u_calli (WW cy u rI rT i i a (gup b 2 y1) j R y2) (va_runV (As := [.int (xs (Int32.toNatClampNeg (nI k + 1))), .int (xs (Int32.toNatClampNeg (nI k + 2))), .int (xs (Int32.toNatClampNeg (nI k + 3))), .int (xs (Int32.toNatClampNeg (nI k + 4))), .int (xs (Int32.toNatClampNeg (nI k + 5)))]) (rest := [.int y0]) ⟨hx, hb, hml, hown, htA⟩ (kX9_shift l G cy (u 38) (u 39) (u 40) (u 41) (u 42) (u 43) (u 44) (u 45) (u 46) (u 47) (u 48) (u 49) (u 50) (u 51) (u 52) (u 53) (u 54) (u 55) (u 56) (u 57) (u 58) (u 69) (u 70) (u 71) rT H.size (i 0) (i 1) (i 2) (i 3) (i 33) (i 34) (i 35) (i 36) (i 37) (i 38) (j 0) (j 1) (i 39) (i 40) (i 41) (i 42) (i 43) (i 44) (i 45) (i 46) (i 47) (a 32) (a 33) T (xs (Int32.toNatClampNeg (nI k + 1))) (xs (Int32.toNatClampNeg (nI k + 2))) (xs (Int32.toNatClampNeg (nI k + 3))) (xs (Int32.toNatClampNeg (nI k + 4))) (xs (Int32.toNatClampNeg (nI k + 5))) e2) (u_cwV htA a_ml_L_169 pk_X9_shift ⟨(Nat.le_of_ble_eq_true rfl), (Nat.le_of_ble_eq_true rfl)⟩) (u_preV hK hN hP hD [38, 69, 70, 71, 72, 73, 74, 75, 76, 77] rfl (by decide) 38 rfl rfl) rfl rfl hl.1 rfl (lv_room (Nat.le_of_ble_eq_true rfl)) dL_law_1360 ⟨(Nat.le_of_ble_eq_true rfl), (Nat.le_of_ble_eq_true rfl)⟩) hP hD hS hA [38, 69, 70, 71, 72, 73, 74, 75, 76, 77] rfl [0, 1, 2, 3, 4, 5, 6, 7, 8, 9, 10, 11, 12, 13, 14, 15, 16, 17, 18, 19, 20, 21, 22, 23, 24, 25, 26, 27, 28, 29, 30, 31, 32, 33, 34, 35, 36, 37, 39, 40, 41, 42, 43, 44, 45, 46, 47, 48, 49, 50, 51, 52, 53, 54, 55, 56, 57, 58, 59, 60, 61, 62, 63, 64, 65, 66, 67, 68] 78 rfl rfl rfl (by decide) rfl (fun H locs hP hD hS => ?_)
  refine lv_icmp_eq (tgt := 1368) hx hb dL_law_1363 (by decide) (fun _ => ?_) (fun c_1 => absurd rfl c_1)
  exact kk i a (gup b 2 y1) j R y2 H locs ⟨ha, hb, hp, hN, hT, hSn, hEv, hBk, hIm, g0, hCX, hCE, hCM⟩ hP hD hS
end
