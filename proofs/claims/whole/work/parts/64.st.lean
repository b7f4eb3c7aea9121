-- ===== the start: strings, arrays, classes =====
def tmS (i : Nat) : Term := .string RX5 (([81, 83, 85, 87, 89] : List Nat).getD i 0)
theorem fx_0 : Cond.exactly (Term.string "EndlessRoots$SetUp" 81) "java/lang/String" ∈ flatC (Jvm.Cond.and given_1 narrow_1) := by decide +kernel
theorem fc_0 : Cond.eq (.field (Term.string "EndlessRoots$SetUp" 81) "java/lang/String" "coder" "B") (.int 0) ∈ flatC (Jvm.Cond.and given_1 narrow_1) := by decide +kernel
theorem fr_0 : Cond.arrayOf (Term.field (Term.string "EndlessRoots$SetUp" 81) "java/lang/String" "value" "[B") .byte ∈ flatC (Jvm.Cond.and given_1 narrow_1) := by decide +kernel
theorem fl_0 : Cond.eq (.length (Term.field (Term.string "EndlessRoots$SetUp" 81) "java/lang/String" "value" "[B")) (.int 5) ∈ flatC (Jvm.Cond.and given_1 narrow_1) := by decide +kernel
theorem fe_0_0 : Cond.eq (.elem (Term.field (Term.string "EndlessRoots$SetUp" 81) "java/lang/String" "value" "[B") (.int 0)) (.int 116) ∈ flatC (Jvm.Cond.and given_1 narrow_1) := by decide +kernel
theorem fe_0_1 : Cond.eq (.elem (Term.field (Term.string "EndlessRoots$SetUp" 81) "java/lang/String" "value" "[B") (.int 1)) (.int 97) ∈ flatC (Jvm.Cond.and given_1 narrow_1) := by decide +kernel
theorem fe_0_2 : Cond.eq (.elem (Term.field (Term.string "EndlessRoots$SetUp" 81) "java/lang/String" "value" "[B") (.int 2)) (.int 98) ∈ flatC (Jvm.Cond.and given_1 narrow_1) := by decide +kernel
theorem fe_0_3 : Cond.eq (.elem (Term.field (Term.string "EndlessRoots$SetUp" 81) "java/lang/String" "value" "[B") (.int 3)) (.int 108) ∈ flatC (Jvm.Cond.and given_1 narrow_1) := by decide +kernel
theorem fe_0_4 : Cond.eq (.elem (Term.field (Term.string "EndlessRoots$SetUp" 81) "java/lang/String" "value" "[B") (.int 4)) (.int 101) ∈ flatC (Jvm.Cond.and given_1 narrow_1) := by decide +kernel
theorem fq_0 : Cond.eq (Term.string "EndlessRoots$SetUp" 81) (Term.string "EndlessRootsModel" 221) ∈ flatC (Jvm.Cond.and given_1 narrow_1) := by decide +kernel
theorem ts_0 : Cond.stringRef RX5 81 "table" ∈ lw_tbl := by decide +kernel
theorem tr_0 : Cond.stringRef RX9 221 "table" ∈ lw_tbl := by decide +kernel
theorem fx_1 : Cond.exactly (Term.string "EndlessRoots$SetUp" 83) "java/lang/String" ∈ flatC (Jvm.Cond.and given_1 narrow_1) := by decide +kernel
theorem fc_1 : Cond.eq (.field (Term.string "EndlessRoots$SetUp" 83) "java/lang/String" "coder" "B") (.int 0) ∈ flatC (Jvm.Cond.and given_1 narrow_1) := by decide +kernel
theorem fr_1 : Cond.arrayOf (Term.field (Term.string "EndlessRoots$SetUp" 83) "java/lang/String" "value" "[B") .byte ∈ flatC (Jvm.Cond.and given_1 narrow_1) := by decide +kernel
theorem fl_1 : Cond.eq (.length (Term.field (Term.string "EndlessRoots$SetUp" 83) "java/lang/String" "value" "[B")) (.int 2) ∈ flatC (Jvm.Cond.and given_1 narrow_1) := by decide +kernel
theorem fe_1_0 : Cond.eq (.elem (Term.field (Term.string "EndlessRoots$SetUp" 83) "java/lang/String" "value" "[B") (.int 0)) (.int 97) ∈ flatC (Jvm.Cond.and given_1 narrow_1) := by decide +kernel
theorem fe_1_1 : Cond.eq (.elem (Term.field (Term.string "EndlessRoots$SetUp" 83) "java/lang/String" "value" "[B") (.int 1)) (.int 116) ∈ flatC (Jvm.Cond.and given_1 narrow_1) := by decide +kernel
theorem fn_0_1 : Cond.not (Cond.eq (Term.string "EndlessRoots$SetUp" 81) (Term.string "EndlessRoots$SetUp" 83)) ∈ flatC (Jvm.Cond.and given_1 narrow_1) := by decide +kernel
theorem fq_1 : Cond.eq (Term.string "EndlessRoots$SetUp" 83) (Term.string "EndlessRootsModel" 223) ∈ flatC (Jvm.Cond.and given_1 narrow_1) := by decide +kernel
theorem ts_1 : Cond.stringRef RX5 83 "at" ∈ lw_tbl := by decide +kernel
theorem tr_1 : Cond.stringRef RX9 223 "at" ∈ lw_tbl := by decide +kernel
theorem fx_2 : Cond.exactly (Term.string "EndlessRoots$SetUp" 85) "java/lang/String" ∈ flatC (Jvm.Cond.and given_1 narrow_1) := by decide +kernel
theorem fc_2 : Cond.eq (.field (Term.string "EndlessRoots$SetUp" 85) "java/lang/String" "coder" "B") (.int 0) ∈ flatC (Jvm.Cond.and given_1 narrow_1) := by decide +kernel
theorem fr_2 : Cond.arrayOf (Term.field (Term.string "EndlessRoots$SetUp" 85) "java/lang/String" "value" "[B") .byte ∈ flatC (Jvm.Cond.and given_1 narrow_1) := by decide +kernel
theorem fl_2 : Cond.eq (.length (Term.field (Term.string "EndlessRoots$SetUp" 85) "java/lang/String" "value" "[B")) (.int 4) ∈ flatC (Jvm.Cond.and given_1 narrow_1) := by decide +kernel
theorem fe_2_0 : Cond.eq (.elem (Term.field (Term.string "EndlessRoots$SetUp" 85) "java/lang/String" "value" "[B") (.int 0)) (.int 119) ∈ flatC (Jvm.Cond.and given_1 narrow_1) := by decide +kernel
theorem fe_2_1 : Cond.eq (.elem (Term.field (Term.string "EndlessRoots$SetUp" 85) "java/lang/String" "value" "[B") (.int 1)) (.int 111) ∈ flatC (Jvm.Cond.and given_1 narrow_1) := by decide +kernel
theorem fe_2_2 : Cond.eq (.elem (Term.field (Term.string "EndlessRoots$SetUp" 85) "java/lang/String" "value" "[B") (.int 2)) (.int 114) ∈ flatC (Jvm.Cond.and given_1 narrow_1) := by decide +kernel
theorem fe_2_3 : Cond.eq (.elem (Term.field (Term.string "EndlessRoots$SetUp" 85) "java/lang/String" "value" "[B") (.int 3)) (.int 100) ∈ flatC (Jvm.Cond.and given_1 narrow_1) := by decide +kernel
theorem fn_0_2 : Cond.not (Cond.eq (Term.string "EndlessRoots$SetUp" 81) (Term.string "EndlessRoots$SetUp" 85)) ∈ flatC (Jvm.Cond.and given_1 narrow_1) := by decide +kernel
theorem fn_1_2 : Cond.not (Cond.eq (Term.string "EndlessRoots$SetUp" 83) (Term.string "EndlessRoots$SetUp" 85)) ∈ flatC (Jvm.Cond.and given_1 narrow_1) := by decide +kernel
theorem fq_2 : Cond.eq (Term.string "EndlessRoots$SetUp" 85) (Term.string "EndlessRootsModel" 224) ∈ flatC (Jvm.Cond.and given_1 narrow_1) := by decide +kernel
theorem ts_2 : Cond.stringRef RX5 85 "word" ∈ lw_tbl := by decide +kernel
theorem tr_2 : Cond.stringRef RX9 224 "word" ∈ lw_tbl := by decide +kernel
theorem fx_3 : Cond.exactly (Term.string "EndlessRoots$SetUp" 87) "java/lang/String" ∈ flatC (Jvm.Cond.and given_1 narrow_1) := by decide +kernel
theorem fc_3 : Cond.eq (.field (Term.string "EndlessRoots$SetUp" 87) "java/lang/String" "coder" "B") (.int 0) ∈ flatC (Jvm.Cond.and given_1 narrow_1) := by decide +kernel
theorem fr_3 : Cond.arrayOf (Term.field (Term.string "EndlessRoots$SetUp" 87) "java/lang/String" "value" "[B") .byte ∈ flatC (Jvm.Cond.and given_1 narrow_1) := by decide +kernel
theorem fl_3 : Cond.eq (.length (Term.field (Term.string "EndlessRoots$SetUp" 87) "java/lang/String" "value" "[B")) (.int 4) ∈ flatC (Jvm.Cond.and given_1 narrow_1) := by decide +kernel
theorem fe_3_0 : Cond.eq (.elem (Term.field (Term.string "EndlessRoots$SetUp" 87) "java/lang/String" "value" "[B") (.int 0)) (.int 110) ∈ flatC (Jvm.Cond.and given_1 narrow_1) := by decide +kernel
theorem fe_3_1 : Cond.eq (.elem (Term.field (Term.string "EndlessRoots$SetUp" 87) "java/lang/String" "value" "[B") (.int 1)) (.int 111) ∈ flatC (Jvm.Cond.and given_1 narrow_1) := by decide +kernel
theorem fe_3_2 : Cond.eq (.elem (Term.field (Term.string "EndlessRoots$SetUp" 87) "java/lang/String" "value" "[B") (.int 2)) (.int 116) ∈ flatC (Jvm.Cond.and given_1 narrow_1) := by decide +kernel
theorem fe_3_3 : Cond.eq (.elem (Term.field (Term.string "EndlessRoots$SetUp" 87) "java/lang/String" "value" "[B") (.int 3)) (.int 101) ∈ flatC (Jvm.Cond.and given_1 narrow_1) := by decide +kernel
theorem fn_0_3 : Cond.not (Cond.eq (Term.string "EndlessRoots$SetUp" 81) (Term.string "EndlessRoots$SetUp" 87)) ∈ flatC (Jvm.Cond.and given_1 narrow_1) := by decide +kernel
theorem fn_1_3 : Cond.not (Cond.eq (Term.string "EndlessRoots$SetUp" 83) (Term.string "EndlessRoots$SetUp" 87)) ∈ flatC (Jvm.Cond.and given_1 narrow_1) := by decide +kernel
theorem fn_2_3 : Cond.not (Cond.eq (Term.string "EndlessRoots$SetUp" 85) (Term.string "EndlessRoots$SetUp" 87)) ∈ flatC (Jvm.Cond.and given_1 narrow_1) := by decide +kernel
theorem fq_3 : Cond.eq (Term.string "EndlessRoots$SetUp" 87) (Term.string "EndlessRootsModel" 226) ∈ flatC (Jvm.Cond.and given_1 narrow_1) := by decide +kernel
theorem ts_3 : Cond.stringRef RX5 87 "note" ∈ lw_tbl := by decide +kernel
theorem tr_3 : Cond.stringRef RX9 226 "note" ∈ lw_tbl := by decide +kernel
theorem fx_4 : Cond.exactly (Term.string "EndlessRoots$SetUp" 89) "java/lang/String" ∈ flatC (Jvm.Cond.and given_1 narrow_1) := by decide +kernel
theorem fc_4 : Cond.eq (.field (Term.string "EndlessRoots$SetUp" 89) "java/lang/String" "coder" "B") (.int 0) ∈ flatC (Jvm.Cond.and given_1 narrow_1) := by decide +kernel
theorem fr_4 : Cond.arrayOf (Term.field (Term.string "EndlessRoots$SetUp" 89) "java/lang/String" "value" "[B") .byte ∈ flatC (Jvm.Cond.and given_1 narrow_1) := by decide +kernel
theorem fl_4 : Cond.eq (.length (Term.field (Term.string "EndlessRoots$SetUp" 89) "java/lang/String" "value" "[B")) (.int 4) ∈ flatC (Jvm.Cond.and given_1 narrow_1) := by decide +kernel
theorem fe_4_0 : Cond.eq (.elem (Term.field (Term.string "EndlessRoots$SetUp" 89) "java/lang/String" "value" "[B") (.int 0)) (.int 119) ∈ flatC (Jvm.Cond.and given_1 narrow_1) := by decide +kernel
theorem fe_4_1 : Cond.eq (.elem (Term.field (Term.string "EndlessRoots$SetUp" 89) "java/lang/String" "value" "[B") (.int 1)) (.int 105) ∈ flatC (Jvm.Cond.and given_1 narrow_1) := by decide +kernel
theorem fe_4_2 : Cond.eq (.elem (Term.field (Term.string "EndlessRoots$SetUp" 89) "java/lang/String" "value" "[B") (.int 2)) (.int 112) ∈ flatC (Jvm.Cond.and given_1 narrow_1) := by decide +kernel
theorem fe_4_3 : Cond.eq (.elem (Term.field (Term.string "EndlessRoots$SetUp" 89) "java/lang/String" "value" "[B") (.int 3)) (.int 101) ∈ flatC (Jvm.Cond.and given_1 narrow_1) := by decide +kernel
theorem fn_0_4 : Cond.not (Cond.eq (Term.string "EndlessRoots$SetUp" 81) (Term.string "EndlessRoots$SetUp" 89)) ∈ flatC (Jvm.Cond.and given_1 narrow_1) := by decide +kernel
theorem fn_1_4 : Cond.not (Cond.eq (Term.string "EndlessRoots$SetUp" 83) (Term.string "EndlessRoots$SetUp" 89)) ∈ flatC (Jvm.Cond.and given_1 narrow_1) := by decide +kernel
theorem fn_2_4 : Cond.not (Cond.eq (Term.string "EndlessRoots$SetUp" 85) (Term.string "EndlessRoots$SetUp" 89)) ∈ flatC (Jvm.Cond.and given_1 narrow_1) := by decide +kernel
theorem fn_3_4 : Cond.not (Cond.eq (Term.string "EndlessRoots$SetUp" 87) (Term.string "EndlessRoots$SetUp" 89)) ∈ flatC (Jvm.Cond.and given_1 narrow_1) := by decide +kernel
theorem fq_4 : Cond.eq (Term.string "EndlessRoots$SetUp" 89) (Term.string "EndlessRootsModel" 228) ∈ flatC (Jvm.Cond.and given_1 narrow_1) := by decide +kernel
theorem ts_4 : Cond.stringRef RX5 89 "wipe" ∈ lw_tbl := by decide +kernel
theorem tr_4 : Cond.stringRef RX9 228 "wipe" ∈ lw_tbl := by decide +kernel
theorem fz_0 : Cond.eq (.static "java/lang/String" "COMPACT_STRINGS" "Z") (.int 1) ∈ flatC (Jvm.Cond.and given_1 narrow_1) := by decide +kernel
theorem fz_1 : Cond.isRef (.static "jdk/internal/util/Preconditions" "SIOOBE_FORMATTER" "Ljava/util/function/BiFunction;") ∈ flatC (Jvm.Cond.and given_1 narrow_1) := by decide +kernel
theorem tz_0 : Cond.laysStatic "java/lang/String" "COMPACT_STRINGS" "Z" ∈ lw_tbl := by decide +kernel
theorem tz_1 : Cond.laysStatic "jdk/internal/util/Preconditions" "SIOOBE_FORMATTER" "Ljava/util/function/BiFunction;" ∈ lw_tbl := by decide +kernel
theorem tz_2 : Cond.initialized "java/lang/String" ∈ lw_tbl := by decide +kernel
theorem tz_3 : Cond.initialized "jdk/internal/util/Preconditions" ∈ lw_tbl := by decide +kernel
theorem to_0 : Cond.arrayOver (.array .int) ∈ lw_tbl := by decide +kernel
theorem to_1 : Cond.arrayOver (.array .long) ∈ lw_tbl := by decide +kernel
theorem sz_of {args : Array Value} {s : State} (hts : ∀ w ∈ lw_tbl, w.before args s = true) (hgv : (Jvm.Cond.and given_1 narrow_1).before args s = true) : ∃ ad av : Nat → Nat, SZ ad av (LA s) s s.heap := by
  have hs := flat_of_before _ hgv
  have hA : ∀ a : Nat, a < s.heap.size → ¬ LA s a := fun a h => Nat.not_le.mpr h
  have g1 : ∀ i : Nat, i < nJS → lenJS.getD i 0 < 2 ^ 31 := by
    intro i hi
    rcases (show i = 0 ∨ i = 1 ∨ i = 2 ∨ i = 3 ∨ i = 4 by have : i < 5 := hi; omega) with rfl | rfl | rfl | rfl | rfl <;> decide
  have g2 : ∀ i : Nat, i < nJS → (Cond.exactly (tmS i) "java/lang/String").before args s = true := by
    intro i hi
    rcases (show i = 0 ∨ i = 1 ∨ i = 2 ∨ i = 3 ∨ i = 4 by have : i < 5 := hi; omega) with rfl | rfl | rfl | rfl | rfl
    · exact hs _ fx_0
    · exact hs _ fx_1
    · exact hs _ fx_2
    · exact hs _ fx_3
    · exact hs _ fx_4
  have g3 : ∀ i : Nat, i < nJS → (Cond.eq (.field (tmS i) "java/lang/String" "coder" "B") (.int 0)).before args s = true := by
    intro i hi
    rcases (show i = 0 ∨ i = 1 ∨ i = 2 ∨ i = 3 ∨ i = 4 by have : i < 5 := hi; omega) with rfl | rfl | rfl | rfl | rfl
    · exact hs _ fc_0
    · exact hs _ fc_1
    · exact hs _ fc_2
    · exact hs _ fc_3
    · exact hs _ fc_4
  have g4 : ∀ i : Nat, i < nJS → (Cond.arrayOf (.field (tmS i) "java/lang/String" "value" "[B") .byte).before args s = true := by
    intro i hi
    rcases (show i = 0 ∨ i = 1 ∨ i = 2 ∨ i = 3 ∨ i = 4 by have : i < 5 := hi; omega) with rfl | rfl | rfl | rfl | rfl
    · exact hs _ fr_0
    · exact hs _ fr_1
    · exact hs _ fr_2
    · exact hs _ fr_3
    · exact hs _ fr_4
  have g5 : ∀ i : Nat, i < nJS → (Cond.eq (.length (.field (tmS i) "java/lang/String" "value" "[B")) (.int (Int32.ofNat (lenJS.getD i 0)))).before args s = true := by
    intro i hi
    rcases (show i = 0 ∨ i = 1 ∨ i = 2 ∨ i = 3 ∨ i = 4 by have : i < 5 := hi; omega) with rfl | rfl | rfl | rfl | rfl
    · exact hs _ fl_0
    · exact hs _ fl_1
    · exact hs _ fl_2
    · exact hs _ fl_3
    · exact hs _ fl_4
  have g6 : ∀ i : Nat, i < nJS → ∀ j : Nat, j < lenJS.getD i 0 → (Cond.eq (.elem (.field (tmS i) "java/lang/String" "value" "[B") (.int (Int32.ofNat j))) (.int ((bytJS.getD i []).getD j 0))).before args s = true := by
    intro i hi j hj
    rcases (show i = 0 ∨ i = 1 ∨ i = 2 ∨ i = 3 ∨ i = 4 by have : i < 5 := hi; omega) with rfl | rfl | rfl | rfl | rfl
    · rcases (show j = 0 ∨ j = 1 ∨ j = 2 ∨ j = 3 ∨ j = 4 by have : j < 5 := hj; omega) with rfl | rfl | rfl | rfl | rfl
      · exact hs _ fe_0_0
      · exact hs _ fe_0_1
      · exact hs _ fe_0_2
      · exact hs _ fe_0_3
      · exact hs _ fe_0_4
    · rcases (show j = 0 ∨ j = 1 by have : j < 2 := hj; omega) with rfl | rfl
      · exact hs _ fe_1_0
      · exact hs _ fe_1_1
    · rcases (show j = 0 ∨ j = 1 ∨ j = 2 ∨ j = 3 by have : j < 4 := hj; omega) with rfl | rfl | rfl | rfl
      · exact hs _ fe_2_0
      · exact hs _ fe_2_1
      · exact hs _ fe_2_2
      · exact hs _ fe_2_3
    · rcases (show j = 0 ∨ j = 1 ∨ j = 2 ∨ j = 3 by have : j < 4 := hj; omega) with rfl | rfl | rfl | rfl
      · exact hs _ fe_3_0
      · exact hs _ fe_3_1
      · exact hs _ fe_3_2
      · exact hs _ fe_3_3
    · rcases (show j = 0 ∨ j = 1 ∨ j = 2 ∨ j = 3 by have : j < 4 := hj; omega) with rfl | rfl | rfl | rfl
      · exact hs _ fe_4_0
      · exact hs _ fe_4_1
      · exact hs _ fe_4_2
      · exact hs _ fe_4_3
  have g7 : ∀ i j : Nat, i < nJS → j < nJS → i ≠ j → (Cond.not (Cond.eq (tmS i) (tmS j))).before args s = true ∨ (Cond.not (Cond.eq (tmS j) (tmS i))).before args s = true := by
    intro i j hi hj hij
    rcases (show i = 0 ∨ i = 1 ∨ i = 2 ∨ i = 3 ∨ i = 4 by have : i < 5 := hi; omega) with rfl | rfl | rfl | rfl | rfl
    · rcases (show j = 0 ∨ j = 1 ∨ j = 2 ∨ j = 3 ∨ j = 4 by have : j < 5 := hj; omega) with rfl | rfl | rfl | rfl | rfl
      · exact absurd rfl hij
      · exact Or.inl (hs _ fn_0_1)
      · exact Or.inl (hs _ fn_0_2)
      · exact Or.inl (hs _ fn_0_3)
      · exact Or.inl (hs _ fn_0_4)
    · rcases (show j = 0 ∨ j = 1 ∨ j = 2 ∨ j = 3 ∨ j = 4 by have : j < 5 := hj; omega) with rfl | rfl | rfl | rfl | rfl
      · exact Or.inr (hs _ fn_0_1)
      · exact absurd rfl hij
      · exact Or.inl (hs _ fn_1_2)
      · exact Or.inl (hs _ fn_1_3)
      · exact Or.inl (hs _ fn_1_4)
    · rcases (show j = 0 ∨ j = 1 ∨ j = 2 ∨ j = 3 ∨ j = 4 by have : j < 5 := hj; omega) with rfl | rfl | rfl | rfl | rfl
      · exact Or.inr (hs _ fn_0_2)
      · exact Or.inr (hs _ fn_1_2)
      · exact absurd rfl hij
      · exact Or.inl (hs _ fn_2_3)
      · exact Or.inl (hs _ fn_2_4)
    · rcases (show j = 0 ∨ j = 1 ∨ j = 2 ∨ j = 3 ∨ j = 4 by have : j < 5 := hj; omega) with rfl | rfl | rfl | rfl | rfl
      · exact Or.inr (hs _ fn_0_3)
      · exact Or.inr (hs _ fn_1_3)
      · exact Or.inr (hs _ fn_2_3)
      · exact absurd rfl hij
      · exact Or.inl (hs _ fn_3_4)
    · rcases (show j = 0 ∨ j = 1 ∨ j = 2 ∨ j = 3 ∨ j = 4 by have : j < 5 := hj; omega) with rfl | rfl | rfl | rfl | rfl
      · exact Or.inr (hs _ fn_0_4)
      · exact Or.inr (hs _ fn_1_4)
      · exact Or.inr (hs _ fn_2_4)
      · exact Or.inr (hs _ fn_3_4)
      · exact absurd rfl hij
  obtain ⟨ad, av, hS, hev⟩ := vk_Sof (N := nJS) (tm := tmS) (len := lenJS) (byt := bytJS) (A := LA s) g1 g2 g3 g4 g5 g6 g7 hA
  refine ⟨ad, av, hS, va_Zof (hts _ tz_0) (hts _ tz_2) (va_eqt (hs _ fz_0)) hA, va_Zqof (hts _ tz_1) (hts _ tz_3) (hs _ fz_1) hA, ?_⟩
  exact List.forall_mem_cons.mpr ⟨vk_R.of (hts _ ts_0) (hev 0 (by decide)), List.forall_mem_cons.mpr ⟨vk_R.of (hts _ ts_1) (hev 1 (by decide)), List.forall_mem_cons.mpr ⟨vk_R.of (hts _ ts_2) (hev 2 (by decide)), List.forall_mem_cons.mpr ⟨vk_R.of (hts _ ts_3) (hev 3 (by decide)), List.forall_mem_cons.mpr ⟨vk_R.of (hts _ ts_4) (hev 4 (by decide)), List.forall_mem_cons.mpr ⟨vk_R.of (hts _ tr_0) (va_eqR (hs _ fq_0) (hev 0 (by decide))), List.forall_mem_cons.mpr ⟨vk_R.of (hts _ tr_1) (va_eqR (hs _ fq_1) (hev 1 (by decide))), List.forall_mem_cons.mpr ⟨vk_R.of (hts _ tr_2) (va_eqR (hs _ fq_2) (hev 2 (by decide))), List.forall_mem_cons.mpr ⟨vk_R.of (hts _ tr_3) (va_eqR (hs _ fq_3) (hev 3 (by decide))), List.forall_mem_cons.mpr ⟨vk_R.of (hts _ tr_4) (va_eqR (hs _ fq_4) (hev 4 (by decide))), fun _ h => absurd h List.not_mem_nil⟩⟩⟩⟩⟩⟩⟩⟩⟩⟩
theorem va_AOA.spec {ty : FieldType} {U : State} (h : va_AOA ty U) : ∃ (c : ClassId) (k : Class) (comp : ClassId), U.vm.findClass ("[" ++ (FieldType.array ty).toString) = some c ∧ U.vm.classes[c]? = some k ∧ k.kind = .array comp (.array ty) := by
  unfold va_AOA Cond.before Cond.holds at h
  simp only [Cond.value] at h
  cases h1 : U.vm.findClass (FieldType.array ty).toString with
  | none => rw [h1] at h; cases h
  | some comp =>
    rw [h1, Option.bind_some] at h
    cases h2 : (U.vm.classes.findIdx? fun (x : Class) => match x.kind with | .array component _ => component == comp | _ => false) with
    | none =>
      have := (congrArg (fun o : Option Nat => (o.bind (fun c => (U.vm.classes[c]?).map fun (k : Class) => match k.kind with | .array _ ty' => decide (ty' = FieldType.array ty) && decide (U.vm.findClass ("[" ++ (FieldType.array ty).toString) = some c) | _ => false) == some true)) h2).symm.trans h
      cases this
    | some c =>
      have h3 := (congrArg (fun o : Option Nat => (o.bind (fun c => (U.vm.classes[c]?).map fun (k : Class) => match k.kind with | .array _ ty' => decide (ty' = FieldType.array ty) && decide (U.vm.findClass ("[" ++ (FieldType.array ty).toString) = some c) | _ => false) == some true)) h2).symm.trans h
      rw [Option.bind_some] at h3
      cases h4 : U.vm.classes[c]? with
      | none => rw [h4] at h3; cases h3
      | some k =>
        rw [h4, Option.map_some] at h3
        cases h5 : k.kind with
        | array cm ty' =>
          rw [h5] at h3
          have h6 : (decide (ty' = FieldType.array ty) && decide (U.vm.findClass ("[" ++ (FieldType.array ty).toString) = some c)) = true := by simpa using h3
          rw [Bool.and_eq_true] at h6
          have h7 := of_decide_eq_true h6.1
          subst h7
          exact ⟨c, k, cm, of_decide_eq_true h6.2, h4, h5⟩
        | _ => rw [h5] at h3; cases h3
theorem arr_of {U : State} {c : ClassId} {k : Class} {comp : ClassId} {ty : FieldType} (h1 : U.vm.classes[c]? = some k) (h2 : k.kind = .array comp ty) : ArrOfT U c ty := fun N z => ⟨(fun q hq => by cases hq), k, h1, comp, h2⟩
theorem cy_of {args : Array Value} {s : State} (htA : ∀ w ∈ AW, w.before args s = true) (hO : AO s) : ∃ cy : Nat → ClassId, ∀ (k : Nat) (q : ClassId × FieldType), (tysA cy)[k]? = some q → ArrOfT s q.1 q.2 ∧ va_RA s q.1 q.2 := by
  obtain ⟨c0, k0, m0, a0, b0, d0⟩ := Cond.arrayClass_spec (htA _ a_ac_Jvm_ClassFile_FieldType_int)
  obtain ⟨c1, k1, m1, a1, b1, d1⟩ := Cond.arrayClass_spec (htA _ a_ac_Jvm_ClassFile_FieldType_long)
  obtain ⟨c2, k2, m2, a2, b2, d2⟩ := Cond.arrayClass_spec (htA _ a_ac_Jvm_ClassFile_FieldType_byte)
  obtain ⟨c3, k3, m3, a3, b3, d3⟩ := (hO .int (by decide)).spec
  obtain ⟨c4, k4, m4, a4, b4, d4⟩ := (hO .long (by decide)).spec
  refine ⟨fun k => ([c0, c1, c2, c3, c4] : List ClassId).getD k c0, fun k q hq => ?_⟩
  match k, hq with
  | 0, hq => cases hq; exact ⟨arr_of b0 d0, a0⟩
  | 1, hq => cases hq; exact ⟨arr_of b1 d1, a1⟩
  | 2, hq => cases hq; exact ⟨arr_of b2 d2, a2⟩
  | 3, hq => cases hq; exact ⟨arr_of b3 d3, a3⟩
  | 4, hq => cases hq; exact ⟨arr_of b4 d4, a4⟩
  | k + 5, hq => cases hq
theorem g_of {args : Array Value} {s : State} (htA : ∀ w ∈ AW, w.before args s = true) : ∃ G : va_G, ∀ (k : Nat) (q : vw_C), vwCl[k]? = some q → u_Kn s q.1 q.2.1 q.2.2 (G.1 k) (G.2 k) := by
  obtain ⟨c0, i0, h0⟩ := u_known (C := RX0) (T := TX0) (N := 6) htA lyX0 (htA _ a_it_X0)
  obtain ⟨c1, i1, h1⟩ := u_known (C := RX1) (T := TX1) (N := 3) htA lyX1 (htA _ a_it_X1)
  obtain ⟨c2, i2, h2⟩ := u_known (C := RX2) (T := TX2) (N := 4) htA lyX2 (htA _ a_it_X2)
  obtain ⟨c3, i3, h3⟩ := u_known (C := RX3) (T := TX3) (N := 4) htA lyX3 (htA _ a_it_X3)
  obtain ⟨c4, i4, h4⟩ := u_known (C := RX4) (T := TX4) (N := 3) htA lyX4 (htA _ a_it_X4)
  obtain ⟨c5, i5, h5⟩ := u_known (C := RX5) (T := TX5) (N := 8) htA lyX5 (htA _ a_it_X5)
  obtain ⟨c6, i6, h6⟩ := u_known (C := RX6) (T := TX6) (N := 5) htA lyX6 (htA _ a_it_X6)
  obtain ⟨c7, i7, h7⟩ := u_known (C := RX7) (T := TX7) (N := 3) htA lyX7 (htA _ a_it_X7)
  obtain ⟨c8, i8, h8⟩ := u_known (C := RX8) (T := TX8) (N := 9) htA lyX8 (htA _ a_it_X8)
  obtain ⟨c9, i9, h9⟩ := u_known (C := RX9) (T := TX9) (N := 44) htA lyX9 (htA _ a_it_X9)
  refine ⟨(fun k => ([c0, c1, c2, c3, c4, c5, c6, c7, c8, c9] : List ClassId).getD k c0, fun k => ([i0, i1, i2, i3, i4, i5, i6, i7, i8, i9] : List (Nat → Nat)).getD k i0), fun k q hq => ?_⟩
  match k, hq with
  | 0, hq => cases hq; exact h0
  | 1, hq => cases hq; exact h1
  | 2, hq => cases hq; exact h2
  | 3, hq => cases hq; exact h3
  | 4, hq => cases hq; exact h4
  | 5, hq => cases hq; exact h5
  | 6, hq => cases hq; exact h6
  | 7, hq => cases hq; exact h7
  | 8, hq => cases hq; exact h8
  | 9, hq => cases hq; exact h9
  | k + 10, hq => cases hq
theorem nz_of {args : Array Value} {s : State} (hts : ∀ w ∈ lw_tbl, w.before args s = true) : nz s := fun w hw => by
  rcases nz_kind w hw with ⟨a, i, b, n, d, hh, rfl⟩ | ⟨a, i, x, hh, rfl⟩
  · exact va_Nw.of rfl (hts _ (nz_tbl _ hw))
  · exact va_Nw.of rfl (hts _ (nz_tbl _ hw))
def i_0 : Nat → Int32 := fun k => ([2, 2, 1, 0, 0, 0, 0, 0, 0, 2, 2, 1, 0, 0, 0, 0, 0, 2, 2, 1, 0, 0, 0, 0, 0, 0, 0, 0, 0, 0, 0, 0, 0, 0, 0, 0, 0, 0, 0, 0, 0, 0, 0, 0, 0, 0, 0, 0] : List Int32).getD k 0
def a_0 : Nat → Nat → Int32 := fun k => ([(fun _ => 0), (fun _ => 0), (fun _ => 0), (fun _ => 0), (fun _ => 0), (fun _ => 0), (fun _ => 0), (fun _ => 0), (fun _ => 0), (fun _ => 0), (fun _ => 0), (fun _ => 0), (fun _ => 0), (fun _ => 0), (upd (upd (upd (upd (upd (upd (fun _ => 0) (Int32.toNatClampNeg 0) (-1)) (Int32.toNatClampNeg 1) (-1)) (Int32.toNatClampNeg 2) (-1)) (Int32.toNatClampNeg 3) (-1)) (Int32.toNatClampNeg 4) (-1)) (Int32.toNatClampNeg 5) (-1)), (fun _ => 0), (fun _ => 0), (fun _ => 0), (fun _ => 0), (fun _ => 0), (fun _ => 0), (fun _ => 0), (fun _ => 0), (fun _ => 0), (fun _ => 0), (fun _ => 0), (fun _ => 0), (fun _ => 0), (fun _ => 0), (fun _ => 0), (fun _ => 0), (fun _ => 0), (upd (upd (upd (upd (upd (upd (fun _ => 0) (Int32.toNatClampNeg 0) (-1)) (Int32.toNatClampNeg 1) (-1)) (Int32.toNatClampNeg 2) (-1)) (Int32.toNatClampNeg 3) (-1)) (Int32.toNatClampNeg 4) (-1)) (Int32.toNatClampNeg 5) (-1)), (fun _ => 0)] : List (Nat → Int32)).getD k (fun _ => 0)
def b_0 : Nat → Nat → Int64 := fun k => ([(fun _ => 0), (fun _ => 0), (fun _ => 0), (fun _ => 0), (fun _ => 0), (fun _ => 0)] : List (Nat → Int64)).getD k (fun _ => 0)
def j_0 : Nat → Int64 := fun k => ([0, 0] : List Int64).getD k 0
theorem rel_0 : Rel i_0 a_0 b_0 (fun _ _ => 0) (fun _ _ => 0) := by
  refine ⟨⟨by decide, by decide⟩, ⟨by decide, by decide⟩, ⟨⟨by decide, by decide⟩, by decide, by decide⟩, ⟨0, Nat.zero_le _, rfl, rfl, fun j hj => absurd hj (by omega), fun j hj => absurd hj (by omega)⟩, ⟨0, Nat.zero_le _, rfl, rfl, fun j hj => absurd hj (by omega)⟩, ⟨0, Nat.zero_le _, rfl, rfl, fun j hj => absurd hj (by omega), fun j hj => absurd hj (by omega)⟩, ⟨0, Nat.zero_le _, rfl, rfl, fun j hj => absurd hj (by omega), fun j hj => absurd hj (by omega)⟩, ⟨0, Nat.zero_le _, rfl, rfl, fun j hj => absurd hj (by omega), fun j hj => absurd hj (by omega)⟩, ⟨rfl, Or.inl rfl⟩, ?_, Or.inl ⟨rfl, rfl⟩, Or.inl ⟨rfl, rfl⟩, Or.inl ⟨rfl, rfl⟩⟩
  intro t ht
  rcases (show t = 0 ∨ t = 1 ∨ t = 2 ∨ t = 3 ∨ t = 4 ∨ t = 5 by omega) with rfl | rfl | rfl | rfl | rfl | rfl
  · exact ⟨rfl, ⟨by decide, by decide⟩, 0, Nat.zero_le _, rfl, rfl, fun _ => rfl, fun j hj => absurd hj (by omega)⟩
  · exact ⟨rfl, ⟨by decide, by decide⟩, 0, Nat.zero_le _, rfl, rfl, fun _ => rfl, fun j hj => absurd hj (by omega)⟩
  · exact ⟨rfl, ⟨by decide, by decide⟩, 0, Nat.zero_le _, rfl, rfl, fun _ => rfl, fun j hj => absurd hj (by omega)⟩
  · exact ⟨rfl, ⟨by decide, by decide⟩, 0, Nat.zero_le _, rfl, rfl, fun _ => rfl, fun j hj => absurd hj (by omega)⟩
  · exact ⟨rfl, ⟨by decide, by decide⟩, 0, Nat.zero_le _, rfl, rfl, fun _ => rfl, fun j hj => absurd hj (by omega)⟩
  · exact ⟨rfl, ⟨by decide, by decide⟩, 0, Nat.zero_le _, rfl, rfl, fun _ => rfl, fun j hj => absurd hj (by omega)⟩
