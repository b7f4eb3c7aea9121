-- ===== the law: its switch, its loop =====
section
variable {p : Program} {l : Launch} {e : Env} {s : State} {m : MethodId} {below : List Frame} {meth : Method} {c : Code} {b_ L : Nat} {xs : Nat → Int32} {G : va_G} {cy : Nat → ClassId} {ad av : Nat → Nat}
set_option maxRecDepth 100000 in
theorem law_sw (hx : p.tables.exec = Jvm.exec) (hb : c.code = cL_law) {H : Heap} {locs : List Loc} {ls : Array Slot} {x : Int32} (hk : ∀ t ∈ [192, 225, 258, 281, 294, 307, 330, 343, 366, 399, 433, 487, 530, 563, 606, 659, 692, 736, 769, 803, 836, 879, 892, 926, 960, 993, 1017, 1060, 1073, 1106, 1119, 1132, 1155, 1198, 1271, 1305], LW p l e s m below meth c b_ H locs (F0 m t ls [])) (hd : LW p l e s m below meth c b_ H locs (F0 m 1368 ls [])) : LW p l e s m below meth c b_ H locs (F0 m 33 ls [.int x]) := by
  by_cases c0 : x = 0
  · refine lv_tableIn (off := 159) (tgt := 192) hx hb dL_law_33 (by rw [c0]; decide) (by rw [c0]; decide) (by rw [c0]; rfl) (by decide) ?_
    exact hk _ (by decide)
  by_cases c1 : x = 1
  · refine lv_tableIn (off := 192) (tgt := 225) hx hb dL_law_33 (by rw [c1]; decide) (by rw [c1]; decide) (by rw [c1]; rfl) (by decide) ?_
    exact hk _ (by decide)
  by_cases c2 : x = 2
  · refine lv_tableIn (off := 225) (tgt := 258) hx hb dL_law_33 (by rw [c2]; decide) (by rw [c2]; decide) (by rw [c2]; rfl) (by decide) ?_
    exact hk _ (by decide)
  by_cases c3 : x = 3
  · refine lv_tableIn (off := 248) (tgt := 281) hx hb dL_law_33 (by rw [c3]; decide) (by rw [c3]; decide) (by rw [c3]; rfl) (by decide) ?_
    exact hk _ (by decide)
  by_cases c4 : x = 4
  · refine lv_tableIn (off := 261) (tgt := 294) hx hb dL_law_33 (by rw [c4]; decide) (by rw [c4]; decide) (by rw [c4]; rfl) (by decide) ?_
    exact hk _ (by decide)
  by_cases c5 : x = 5
  · refine lv_tableIn (off := 274) (tgt := 307) hx hb dL_law_33 (by rw [c5]; decide) (by rw [c5]; decide) (by rw [c5]; rfl) (by decide) ?_
    exact hk _ (by decide)
  by_cases c6 : x = 6
  · refine lv_tableIn (off := 297) (tgt := 330) hx hb dL_law_33 (by rw [c6]; decide) (by rw [c6]; decide) (by rw [c6]; rfl) (by decide) ?_
    exact hk _ (by decide)
  by_cases c7 : x = 7
  · refine lv_tableIn (off := 310) (tgt := 343) hx hb dL_law_33 (by rw [c7]; decide) (by rw [c7]; decide) (by rw [c7]; rfl) (by decide) ?_
    exact hk _ (by decide)
  by_cases c8 : x = 8
  · refine lv_tableIn (off := 333) (tgt := 366) hx hb dL_law_33 (by rw [c8]; decide) (by rw [c8]; decide) (by rw [c8]; rfl) (by decide) ?_
    exact hk _ (by decide)
  by_cases c9 : x = 9
  · refine lv_tableIn (off := 366) (tgt := 399) hx hb dL_law_33 (by rw [c9]; decide) (by rw [c9]; decide) (by rw [c9]; rfl) (by decide) ?_
    exact hk _ (by decide)
  by_cases c10 : x = 10
  · refine lv_tableIn (off := 400) (tgt := 433) hx hb dL_law_33 (by rw [c10]; decide) (by rw [c10]; decide) (by rw [c10]; rfl) (by decide) ?_
    exact hk _ (by decide)
  by_cases c11 : x = 11
  · refine lv_tableIn (off := 454) (tgt := 487) hx hb dL_law_33 (by rw [c11]; decide) (by rw [c11]; decide) (by rw [c11]; rfl) (by decide) ?_
    exact hk _ (by decide)
  by_cases c12 : x = 12
  · refine lv_tableIn (off := 497) (tgt := 530) hx hb dL_law_33 (by rw [c12]; decide) (by rw [c12]; decide) (by rw [c12]; rfl) (by decide) ?_
    exact hk _ (by decide)
  by_cases c13 : x = 13
  · refine lv_tableIn (off := 530) (tgt := 563) hx hb dL_law_33 (by rw [c13]; decide) (by rw [c13]; decide) (by rw [c13]; rfl) (by decide) ?_
    exact hk _ (by decide)
  by_cases c14 : x = 14
  · refine lv_tableIn (off := 573) (tgt := 606) hx hb dL_law_33 (by rw [c14]; decide) (by rw [c14]; decide) (by rw [c14]; rfl) (by decide) ?_
    exact hk _ (by decide)
  by_cases c15 : x = 15
  · refine lv_tableIn (off := 626) (tgt := 659) hx hb dL_law_33 (by rw [c15]; decide) (by rw [c15]; decide) (by rw [c15]; rfl) (by decide) ?_
    exact hk _ (by decide)
  by_cases c16 : x = 16
  · refine lv_tableIn (off := 659) (tgt := 692) hx hb dL_law_33 (by rw [c16]; decide) (by rw [c16]; decide) (by rw [c16]; rfl) (by decide) ?_
    exact hk _ (by decide)
  by_cases c17 : x = 17
  · refine lv_tableIn (off := 703) (tgt := 736) hx hb dL_law_33 (by rw [c17]; decide) (by rw [c17]; decide) (by rw [c17]; rfl) (by decide) ?_
    exact hk _ (by decide)
  by_cases c18 : x = 18
  · refine lv_tableIn (off := 736) (tgt := 769) hx hb dL_law_33 (by rw [c18]; decide) (by rw [c18]; decide) (by rw [c18]; rfl) (by decide) ?_
    exact hk _ (by decide)
  by_cases c19 : x = 19
  · refine lv_tableIn (off := 770) (tgt := 803) hx hb dL_law_33 (by rw [c19]; decide) (by rw [c19]; decide) (by rw [c19]; rfl) (by decide) ?_
    exact hk _ (by decide)
  by_cases c20 : x = 20
  · refine lv_tableIn (off := 803) (tgt := 836) hx hb dL_law_33 (by rw [c20]; decide) (by rw [c20]; decide) (by rw [c20]; rfl) (by decide) ?_
    exact hk _ (by decide)
  by_cases c21 : x = 21
  · refine lv_tableIn (off := 846) (tgt := 879) hx hb dL_law_33 (by rw [c21]; decide) (by rw [c21]; decide) (by rw [c21]; rfl) (by decide) ?_
    exact hk _ (by decide)
  by_cases c22 : x = 22
  · refine lv_tableIn (off := 859) (tgt := 892) hx hb dL_law_33 (by rw [c22]; decide) (by rw [c22]; decide) (by rw [c22]; rfl) (by decide) ?_
    exact hk _ (by decide)
  by_cases c23 : x = 23
  · refine lv_tableIn (off := 893) (tgt := 926) hx hb dL_law_33 (by rw [c23]; decide) (by rw [c23]; decide) (by rw [c23]; rfl) (by decide) ?_
    exact hk _ (by decide)
  by_cases c24 : x = 24
  · refine lv_tableIn (off := 927) (tgt := 960) hx hb dL_law_33 (by rw [c24]; decide) (by rw [c24]; decide) (by rw [c24]; rfl) (by decide) ?_
    exact hk _ (by decide)
  by_cases c25 : x = 25
  · refine lv_tableIn (off := 960) (tgt := 993) hx hb dL_law_33 (by rw [c25]; decide) (by rw [c25]; decide) (by rw [c25]; rfl) (by decide) ?_
    exact hk _ (by decide)
  by_cases c26 : x = 26
  · refine lv_tableIn (off := 984) (tgt := 1017) hx hb dL_law_33 (by rw [c26]; decide) (by rw [c26]; decide) (by rw [c26]; rfl) (by decide) ?_
    exact hk _ (by decide)
  by_cases c27 : x = 27
  · refine lv_tableIn (off := 1027) (tgt := 1060) hx hb dL_law_33 (by rw [c27]; decide) (by rw [c27]; decide) (by rw [c27]; rfl) (by decide) ?_
    exact hk _ (by decide)
  by_cases c28 : x = 28
  · refine lv_tableIn (off := 1040) (tgt := 1073) hx hb dL_law_33 (by rw [c28]; decide) (by rw [c28]; decide) (by rw [c28]; rfl) (by decide) ?_
    exact hk _ (by decide)
  by_cases c29 : x = 29
  · refine lv_tableIn (off := 1073) (tgt := 1106) hx hb dL_law_33 (by rw [c29]; decide) (by rw [c29]; decide) (by rw [c29]; rfl) (by decide) ?_
    exact hk _ (by decide)
  by_cases c30 : x = 30
  · refine lv_tableIn (off := 1086) (tgt := 1119) hx hb dL_law_33 (by rw [c30]; decide) (by rw [c30]; decide) (by rw [c30]; rfl) (by decide) ?_
    exact hk _ (by decide)
  by_cases c31 : x = 31
  · refine lv_tableIn (off := 1099) (tgt := 1132) hx hb dL_law_33 (by rw [c31]; decide) (by rw [c31]; decide) (by rw [c31]; rfl) (by decide) ?_
    exact hk _ (by decide)
  by_cases c32 : x = 32
  · refine lv_tableIn (off := 1122) (tgt := 1155) hx hb dL_law_33 (by rw [c32]; decide) (by rw [c32]; decide) (by rw [c32]; rfl) (by decide) ?_
    exact hk _ (by decide)
  by_cases c33 : x = 33
  · refine lv_tableIn (off := 1165) (tgt := 1198) hx hb dL_law_33 (by rw [c33]; decide) (by rw [c33]; decide) (by rw [c33]; rfl) (by decide) ?_
    exact hk _ (by decide)
  by_cases c34 : x = 34
  · refine lv_tableIn (off := 1238) (tgt := 1271) hx hb dL_law_33 (by rw [c34]; decide) (by rw [c34]; decide) (by rw [c34]; rfl) (by decide) ?_
    exact hk _ (by decide)
  by_cases c35 : x = 35
  · refine lv_tableIn (off := 1272) (tgt := 1305) hx hb dL_law_33 (by rw [c35]; decide) (by rw [c35]; decide) (by rw [c35]; rfl) (by decide) ?_
    exact hk _ (by decide)
  have n0 := sw_no (a := 0) c0 (by decide)
  have n1 := sw_no (a := 1) c1 (by decide)
  have n2 := sw_no (a := 2) c2 (by decide)
  have n3 := sw_no (a := 3) c3 (by decide)
  have n4 := sw_no (a := 4) c4 (by decide)
  have n5 := sw_no (a := 5) c5 (by decide)
  have n6 := sw_no (a := 6) c6 (by decide)
  have n7 := sw_no (a := 7) c7 (by decide)
  have n8 := sw_no (a := 8) c8 (by decide)
  have n9 := sw_no (a := 9) c9 (by decide)
  have n10 := sw_no (a := 10) c10 (by decide)
  have n11 := sw_no (a := 11) c11 (by decide)
  have n12 := sw_no (a := 12) c12 (by decide)
  have n13 := sw_no (a := 13) c13 (by decide)
  have n14 := sw_no (a := 14) c14 (by decide)
  have n15 := sw_no (a := 15) c15 (by decide)
  have n16 := sw_no (a := 16) c16 (by decide)
  have n17 := sw_no (a := 17) c17 (by decide)
  have n18 := sw_no (a := 18) c18 (by decide)
  have n19 := sw_no (a := 19) c19 (by decide)
  have n20 := sw_no (a := 20) c20 (by decide)
  have n21 := sw_no (a := 21) c21 (by decide)
  have n22 := sw_no (a := 22) c22 (by decide)
  have n23 := sw_no (a := 23) c23 (by decide)
  have n24 := sw_no (a := 24) c24 (by decide)
  have n25 := sw_no (a := 25) c25 (by decide)
  have n26 := sw_no (a := 26) c26 (by decide)
  have n27 := sw_no (a := 27) c27 (by decide)
  have n28 := sw_no (a := 28) c28 (by decide)
  have n29 := sw_no (a := 29) c29 (by decide)
  have n30 := sw_no (a := 30) c30 (by decide)
  have n31 := sw_no (a := 31) c31 (by decide)
  have n32 := sw_no (a := 32) c32 (by decide)
  have n33 := sw_no (a := 33) c33 (by decide)
  have n34 := sw_no (a := 34) c34 (by decide)
  have n35 := sw_no (a := 35) c35 (by decide)
  refine lv_tableOut (tgt := 1368) hx hb dL_law_33 (by omega) (by decide) ?_
  exact hd
theorem end_lt {L k : Nat} (hL : L ≤ 3072) (hk : k ≤ L + 6) : (nI L - 6 < nI k) ↔ L < k + 6 := by
  have h6 : (6 : Int32).toInt = 6 := by decide
  rw [fa_lt, fb_subI (by rw [nI_toInt (by omega), h6]; omega) (by rw [nI_toInt (by omega), h6]; omega), nI_toInt (by omega), nI_toInt (by omega), h6]; omega
set_option maxRecDepth 100000 in
set_option maxHeartbeats 4000000 in
/-- THE LOOP: at its head, with k ints read, both objects agree -/
theorem law_loop (C0 : LC p s m meth c b_ L xs G cy ad av) (hL : L ≤ 3072) {u rI rT : Nat → Nat} : ∀ (n k : Nat), L + 1 ≤ k + n → k ≤ L + 6 → ∀ (i : Nat → Int32) (a : Nat → Nat → Int32) (b : Nat → Nat → Int64) (j : Nat → Int64) (R : Nat → Nat → Int32) (T : Nat → Nat → Int64) (H : Heap) (locs : List Loc), Rel i a b R T → va_P G vwCl (WW cy u rI rT i i a b j R T) H → va_D (LA s) (WW cy u rI rT i i a b j R T) → va_S (LA s) s.heap H locs → ∀ (ls : Array Slot), lv_has ls 4 [(0, .ref b_), (1, .ref (u 0)), (2, .ref (u 38)), (3, .int (nI k))] → LW p l e s m below meth c b_ H locs (F0 m 18 ls []) := by
  obtain ⟨hx, hb0, hr, hml, hown, htA, hX, hbl, hlocks, hK, hN, hZ⟩ := id C0
  have hb : c.code = cL_law := hb0
  have hA : ∀ q : Nat, s.heap.size ≤ q → LA s q := fun _ h => h
  have hbA : ¬ LA s b_ := Nat.not_le.mpr hbl
  have fin : ∀ (H : Heap) (locs : List Loc) (ls : Array Slot), va_S (LA s) s.heap H locs → LW p l e s m below meth c b_ H locs (F0 m 1374 ls []) := by
    intro H locs ls hS
    refine lv_iconst (v := 1) hx hb dL_law_1374 (by decide) ?_
    refine va_forget (fun q hq => hS.2.2 q hq) ?_
    refine W.widen (k := 600000) (n := 7302250) (Nat.le_of_ble_eq_true rfl) (Nat.le_of_ble_eq_true rfl) ?_
    exact lw_ret hx hb0 hr hlocks dL_law_1375
  have head : ∀ (k : Nat) (H : Heap) (locs : List Loc) (ls : Array Slot), k ≤ L + 6 → va_S (LA s) s.heap H locs → lv_has ls 4 [(0, .ref b_), (1, .ref (u 0)), (2, .ref (u 38)), (3, .int (nI k))] → (k + 6 ≤ L → LW p l e s m below meth c b_ H locs (F0 m 27 ls [])) → LW p l e s m below meth c b_ H locs (F0 m 18 ls []) := by
    intro k H locs ls hk6 hS hl kk
    refine lv_iload_n hx hb dL_law_18 rfl (lv_at hl 3 rfl) ?_
    refine lv_aload_n hx hb dL_law_19 rfl (lv_at hl 0 rfl) ?_
    refine va_slen hx hb hX hbl hbA hS dL_law_20 ?_
    refine lv_bipush (v := 6) hx hb dL_law_21 (by decide) ?_
    refine lv_isub hx hb dL_law_23 ?_
    refine lv_icmp_gt (tgt := 1374) hx hb dL_law_24 (by decide) (fun c_1 => fin H locs ls hS) (fun c_1 => ?_)
    exact kk (by rcases Nat.lt_or_ge L (k + 6) with q | q; exact absurd ((end_lt hL hk6).mpr q) c_1; exact q)
  intro n
  induction n with
  | zero =>
    intro k h1 h2 i a b j R T H locs hR hP hD hS ls hl
    exact head k H locs ls h2 hS hl (fun h => by omega)
  | succ n ih =>
    intro k h1 h2 i a b j R T H locs hR hP hD hS ls hl
    refine head k H locs ls h2 hS hl (fun hk => ?_)
    have kk : Nx p l e s m below meth c b_ G cy u rI rT ls := by
      intro i a b j R T H locs hR hP hD hS
      refine lv_iinc (v := nI k + 6) (lv' := [(3, .int (nI k + 6)), (0, .ref b_), (1, .ref (u 0)), (2, .ref (u 38))]) hx hb dL_law_1368 hl (k := 3) rfl rfl (by decide) rfl (fun ls hl => ?_)
      refine lv_goto (tgt := 18) hx hb dL_law_1371 (by decide) ?_
      rw [show nI k + 6 = nI (k + 6) from nI_add k 6] at hl
      exact ih (k + 6) (by omega) (by omega) i a b j R T H locs hR hP hD hS ls (lv_sub hl [1, 2, 3, 0] rfl)
    have hv : vp_in (nI k) L := vp_in_nI (by omega) (by omega)
    refine lv_aload_n hx hb dL_law_27 rfl (lv_at hl 0 rfl) ?_
    refine lv_iload_n hx hb dL_law_28 rfl (lv_at hl 3 rfl) ?_
    refine va_sld hx hb hX hbl hbA hS hv dL_law_29 ?_
    refine lv_bipush (v := 63) hx hb dL_law_30 (by decide) ?_
    refine lv_iand hx hb dL_law_32 ?_
    refine law_sw hx hb ?_ (kk i a b j R T H locs hR hP hD hS)
    exact List.forall_mem_cons.mpr ⟨cl_table C0 hk hL hR hP hD hS hl kk, List.forall_mem_cons.mpr ⟨cl_place C0 hk hL hR hP hD hS hl kk, List.forall_mem_cons.mpr ⟨cl_carry C0 hk hL hR hP hD hS hl kk, List.forall_mem_cons.mpr ⟨cl_note C0 hk hL hR hP hD hS hl kk, List.forall_mem_cons.mpr ⟨cl_wipe C0 hk hL hR hP hD hS hl kk, List.forall_mem_cons.mpr ⟨cl_feed C0 hk hL hR hP hD hS hl kk, List.forall_mem_cons.mpr ⟨cl_read C0 hk hL hR hP hD hS hl kk, List.forall_mem_cons.mpr ⟨cl_told C0 hk hL hR hP hD hS hl kk, List.forall_mem_cons.mpr ⟨cl_noted C0 hk hL hR hP hD hS hl kk, List.forall_mem_cons.mpr ⟨cl_norm C0 hk hL hR hP hD hS hl kk, List.forall_mem_cons.mpr ⟨cl_product C0 hk hL hR hP hD hS hl kk, List.forall_mem_cons.mpr ⟨cl_coat C0 hk hL hR hP hD hS hl kk, List.forall_mem_cons.mpr ⟨cl_sort C0 hk hL hR hP hD hS hl kk, List.forall_mem_cons.mpr ⟨cl_lowered C0 hk hL hR hP hD hS hl kk, List.forall_mem_cons.mpr ⟨cl_string C0 hk hL hR hP hD hS hl kk, List.forall_mem_cons.mpr ⟨cl_counted C0 hk hL hR hP hD hS hl kk, List.forall_mem_cons.mpr ⟨cl_c C0 hk hL hR hP hD hS hl kk, List.forall_mem_cons.mpr ⟨cl_level C0 hk hL hR hP hD hS hl kk, List.forall_mem_cons.mpr ⟨cl_made C0 hk hL hR hP hD hS hl kk, List.forall_mem_cons.mpr ⟨cl_signed C0 hk hL hR hP hD hS hl kk, List.forall_mem_cons.mpr ⟨cl_see C0 hk hL hR hP hD hS hl kk, List.forall_mem_cons.mpr ⟨cl_fits C0 hk hL hR hP hD hS hl kk, List.forall_mem_cons.mpr ⟨cl_odds C0 hk hL hR hP hD hS hl kk, List.forall_mem_cons.mpr ⟨cl_mean C0 hk hL hR hP hD hS hl kk, List.forall_mem_cons.mpr ⟨cl_event C0 hk hL hR hP hD hS hl kk, List.forall_mem_cons.mpr ⟨cl_after C0 hk hL hR hP hD hS hl kk, List.forall_mem_cons.mpr ⟨cl_book C0 hk hL hR hP hD hS hl kk, List.forall_mem_cons.mpr ⟨cl_looked C0 hk hL hR hP hD hS hl kk, List.forall_mem_cons.mpr ⟨cl_judge C0 hk hL hR hP hD hS hl kk, List.forall_mem_cons.mpr ⟨cl_image C0 hk hL hR hP hD hS hl kk, List.forall_mem_cons.mpr ⟨cl_undo C0 hk hL hR hP hD hS hl kk, List.forall_mem_cons.mpr ⟨cl_count C0 hk hL hR hP hD hS hl kk, List.forall_mem_cons.mpr ⟨cl_tape C0 hk hL hR hP hD hS hl kk, List.forall_mem_cons.mpr ⟨cl_item C0 hk hL hR hP hD hS hl kk, List.forall_mem_cons.mpr ⟨cl_peek C0 hk hL hR hP hD hS hl kk, List.forall_mem_cons.mpr ⟨cl_shift C0 hk hL hR hP hD hS hl kk, fun _ h => absurd h List.not_mem_nil⟩⟩⟩⟩⟩⟩⟩⟩⟩⟩⟩⟩⟩⟩⟩⟩⟩⟩⟩⟩⟩⟩⟩⟩⟩⟩⟩⟩⟩⟩⟩⟩⟩⟩⟩⟩
end
