theorem a_st_yJ9_max_7cf53 : Cond.static yJ9_max_7cf53 ∈ AW := aw (t1 (List.mem_of_getElem? (i := 61) rfl)) rfl
theorem a_co_yJ9_max_7cf53 : Cond.code yJ9_max_7cf53 cJ9_max_7cf53 2 (some .int) ∈ AW := aw (t1 (List.mem_of_getElem? (i := 62) rfl)) rfl
theorem a_st_yJ9_abs_0f7a4 : Cond.static yJ9_abs_0f7a4 ∈ AW := aw (t2 (List.mem_of_getElem? (i := 25) rfl)) rfl
theorem a_co_yJ9_abs_0f7a4 : Cond.code yJ9_abs_0f7a4 cJ9_abs_0f7a4 1 (some .int) ∈ AW := aw (t2 (List.mem_of_getElem? (i := 26) rfl)) rfl
theorem a_ml_X5_63 : Cond.methodLink RX5 63 yJ0_length_8abf5 ∈ AW := aw (t2 (List.mem_of_getElem? (i := 104) rfl)) rfl
theorem a_im_yJ0_length_8abf5 : Cond.instanceMethod yJ0_length_8abf5 ∈ AW := aw (t2 (List.mem_of_getElem? (i := 105) rfl)) rfl
theorem a_se_yJ0_length_8abf5 : Cond.selects RJ0 yJ0_length_8abf5 yJ0_length_8abf5 ∈ AW := aw (t2 (List.mem_of_getElem? (i := 106) rfl)) rfl
theorem a_co_yJ0_length_8abf5 : Cond.code yJ0_length_8abf5 cJ0_length_8abf5 1 (some .int) ∈ AW := aw (t2 (List.mem_of_getElem? (i := 107) rfl)) rfl
theorem a_ml_J0_335 : Cond.methodLink RJ0 335 yJ0_coder_7d493 ∈ AW := aw (t2 (List.mem_of_getElem? (i := 108) rfl)) rfl
theorem a_im_yJ0_coder_7d493 : Cond.instanceMethod yJ0_coder_7d493 ∈ AW := aw (t2 (List.mem_of_getElem? (i := 109) rfl)) rfl
theorem a_se_yJ0_coder_7d493 : Cond.selects RJ0 yJ0_coder_7d493 yJ0_coder_7d493 ∈ AW := aw (t2 (List.mem_of_getElem? (i := 110) rfl)) rfl
theorem a_co_yJ0_coder_7d493 : Cond.code yJ0_coder_7d493 cJ0_coder_7d493 1 (some .byte) ∈ AW := aw (t2 (List.mem_of_getElem? (i := 111) rfl)) rfl
theorem a_ml_X5_71 : Cond.methodLink RX5 71 yJ0_charAt_5068e ∈ AW := aw (t2 (List.mem_of_getElem? (i := 118) rfl)) rfl
theorem a_im_yJ0_charAt_5068e : Cond.instanceMethod yJ0_charAt_5068e ∈ AW := aw (t2 (List.mem_of_getElem? (i := 119) rfl)) rfl
theorem a_se_yJ0_charAt_5068e : Cond.selects RJ0 yJ0_charAt_5068e yJ0_charAt_5068e ∈ AW := aw (t2 (List.mem_of_getElem? (i := 120) rfl)) rfl
theorem a_co_yJ0_charAt_5068e : Cond.code yJ0_charAt_5068e cJ0_charAt_5068e 2 (some .char) ∈ AW := aw (t2 (List.mem_of_getElem? (i := 121) rfl)) rfl
theorem a_ml_J0_492 : Cond.methodLink RJ0 492 yJ0_isLatin1_aae02 ∈ AW := aw (t2 (List.mem_of_getElem? (i := 122) rfl)) rfl
theorem a_im_yJ0_isLatin1_aae02 : Cond.instanceMethod yJ0_isLatin1_aae02 ∈ AW := aw (t2 (List.mem_of_getElem? (i := 123) rfl)) rfl
theorem a_se_yJ0_isLatin1_aae02 : Cond.selects RJ0 yJ0_isLatin1_aae02 yJ0_isLatin1_aae02 ∈ AW := aw (t2 (List.mem_of_getElem? (i := 124) rfl)) rfl
theorem a_co_yJ0_isLatin1_aae02 : Cond.code yJ0_isLatin1_aae02 cJ0_isLatin1_aae02 1 (some .boolean) ∈ AW := aw (t2 (List.mem_of_getElem? (i := 125) rfl)) rfl
theorem a_ml_J0_495 : Cond.methodLink RJ0 495 yJ1_charAt_3b067 ∈ AW := aw (t2 (List.mem_of_getElem? (i := 126) rfl)) rfl
theorem a_st_yJ1_charAt_3b067 : Cond.static yJ1_charAt_3b067 ∈ AW := aw (t2 (List.mem_of_getElem? (i := 127) rfl)) rfl
theorem a_co_yJ1_charAt_3b067 : Cond.code yJ1_charAt_3b067 cJ1_charAt_3b067 2 (some .char) ∈ AW := aw (t2 (List.mem_of_getElem? (i := 128) rfl)) rfl
theorem a_ml_J1_9 : Cond.methodLink RJ1 9 yJ0_checkIndex_df160 ∈ AW := aw (t2 (List.mem_of_getElem? (i := 129) rfl)) rfl
theorem a_st_yJ0_checkIndex_df160 : Cond.static yJ0_checkIndex_df160 ∈ AW := aw (t2 (List.mem_of_getElem? (i := 130) rfl)) rfl
theorem a_co_yJ0_checkIndex_df160 : Cond.code yJ0_checkIndex_df160 cJ0_checkIndex_df160 2 none ∈ AW := aw (t2 (List.mem_of_getElem? (i := 131) rfl)) rfl
theorem a_ml_J0_1059 : Cond.methodLink RJ0 1059 yJ3_checkIndex_8e157 ∈ AW := aw (t2 (List.mem_of_getElem? (i := 134) rfl)) rfl
theorem a_st_yJ3_checkIndex_8e157 : Cond.static yJ3_checkIndex_8e157 ∈ AW := aw (t2 (List.mem_of_getElem? (i := 135) rfl)) rfl
theorem a_co_yJ3_checkIndex_8e157 : Cond.code yJ3_checkIndex_8e157 cJ3_checkIndex_8e157 3 (some .int) ∈ AW := aw (t2 (List.mem_of_getElem? (i := 136) rfl)) rfl
theorem a_ml_J0_498 : Cond.methodLink RJ0 498 yJ2_charAt_3b067 ∈ AW := aw (t2 (List.mem_of_getElem? (i := 137) rfl)) rfl
theorem a_st_yJ2_charAt_3b067 : Cond.static yJ2_charAt_3b067 ∈ AW := aw (t2 (List.mem_of_getElem? (i := 138) rfl)) rfl
theorem a_co_yJ2_charAt_3b067 : Cond.code yJ2_charAt_3b067 cJ2_charAt_3b067 2 (some .char) ∈ AW := aw (t2 (List.mem_of_getElem? (i := 139) rfl)) rfl
theorem a_ml_J2_67 : Cond.methodLink RJ2 67 yJ2_checkIndex_2214a ∈ AW := aw (t2 (List.mem_of_getElem? (i := 140) rfl)) rfl
theorem a_st_yJ2_checkIndex_2214a : Cond.static yJ2_checkIndex_2214a ∈ AW := aw (t2 (List.mem_of_getElem? (i := 141) rfl)) rfl
theorem a_co_yJ2_checkIndex_2214a : Cond.code yJ2_checkIndex_2214a cJ2_checkIndex_2214a 2 none ∈ AW := aw (t2 (List.mem_of_getElem? (i := 142) rfl)) rfl
theorem a_ml_J2_48 : Cond.methodLink RJ2 48 yJ2_length_9d52b ∈ AW := aw (t2 (List.mem_of_getElem? (i := 143) rfl)) rfl
theorem a_st_yJ2_length_9d52b : Cond.static yJ2_length_9d52b ∈ AW := aw (t2 (List.mem_of_getElem? (i := 144) rfl)) rfl
theorem a_co_yJ2_length_9d52b : Cond.code yJ2_length_9d52b cJ2_length_9d52b 1 (some .int) ∈ AW := aw (t2 (List.mem_of_getElem? (i := 145) rfl)) rfl
theorem a_ml_J2_414 : Cond.methodLink RJ2 414 yJ0_checkIndex_df160 ∈ AW := aw (t2 (List.mem_of_getElem? (i := 146) rfl)) rfl
theorem a_ml_J2_71 : Cond.methodLink RJ2 71 yJ2_getChar_3b067 ∈ AW := aw (t2 (List.mem_of_getElem? (i := 147) rfl)) rfl
theorem a_st_yJ2_getChar_3b067 : Cond.static yJ2_getChar_3b067 ∈ AW := aw (t2 (List.mem_of_getElem? (i := 148) rfl)) rfl
theorem a_co_yJ2_getChar_3b067 : Cond.code yJ2_getChar_3b067 cJ2_getChar_3b067 2 (some .char) ∈ AW := aw (t2 (List.mem_of_getElem? (i := 149) rfl)) rfl
theorem a_st_yJ9_abs_067f4 : Cond.static yJ9_abs_067f4 ∈ AW := aw (t3 (List.mem_of_getElem? (i := 78) rfl)) rfl
theorem a_co_yJ9_abs_067f4 : Cond.code yJ9_abs_067f4 cJ9_abs_067f4 2 (some .long) ∈ AW := aw (t3 (List.mem_of_getElem? (i := 79) rfl)) rfl
theorem a_ml_X9_236 : Cond.methodLink RX9 236 yJ0_length_8abf5 ∈ AW := aw (t5 (List.mem_of_getElem? (i := 14) rfl)) rfl
theorem a_ml_X9_241 : Cond.methodLink RX9 241 yJ0_charAt_5068e ∈ AW := aw (t5 (List.mem_of_getElem? (i := 15) rfl)) rfl
theorem a_st_yJ9_min_7cf53 : Cond.static yJ9_min_7cf53 ∈ AW := aw (t5 (List.mem_of_getElem? (i := 180) rfl)) rfl
theorem a_co_yJ9_min_7cf53 : Cond.code yJ9_min_7cf53 cJ9_min_7cf53 2 (some .int) ∈ AW := aw (t5 (List.mem_of_getElem? (i := 181) rfl)) rfl
theorem dJ0_length_8abf5_0 : decode cJ0_length_8abf5 0 = .ok (.aload_n 0, 1) := by decide +kernel
theorem dJ0_length_8abf5_1 : decode cJ0_length_8abf5 1 = .ok (.getfield 9, 3) := by decide +kernel
theorem dJ0_length_8abf5_4 : decode cJ0_length_8abf5 4 = .ok (.arraylength, 1) := by decide +kernel
theorem dJ0_length_8abf5_5 : decode cJ0_length_8abf5 5 = .ok (.aload_n 0, 1) := by decide +kernel
theorem dJ0_length_8abf5_6 : decode cJ0_length_8abf5 6 = .ok (.invokevirtual 335, 3) := by decide +kernel
theorem dJ0_length_8abf5_9 : decode cJ0_length_8abf5 9 = .ok (.ishr, 1) := by decide +kernel
theorem dJ0_length_8abf5_10 : decode cJ0_length_8abf5 10 = .ok (.ireturn, 1) := by decide +kernel
theorem dJ0_charAt_5068e_0 : decode cJ0_charAt_5068e 0 = .ok (.aload_n 0, 1) := by decide +kernel
theorem dJ0_charAt_5068e_1 : decode cJ0_charAt_5068e 1 = .ok (.invokevirtual 492, 3) := by decide +kernel
theorem dJ0_charAt_5068e_4 : decode cJ0_charAt_5068e 4 = .ok (.ifCond .eq 12, 3) := by decide +kernel
theorem dJ0_charAt_5068e_7 : decode cJ0_charAt_5068e 7 = .ok (.aload_n 0, 1) := by decide +kernel
theorem dJ0_charAt_5068e_8 : decode cJ0_charAt_5068e 8 = .ok (.getfield 9, 3) := by decide +kernel
theorem dJ0_charAt_5068e_11 : decode cJ0_charAt_5068e 11 = .ok (.iload_n 1, 1) := by decide +kernel
theorem dJ0_charAt_5068e_12 : decode cJ0_charAt_5068e 12 = .ok (.invokestatic 495, 3) := by decide +kernel
theorem dJ0_charAt_5068e_15 : decode cJ0_charAt_5068e 15 = .ok (.ireturn, 1) := by decide +kernel
theorem dJ0_charAt_5068e_16 : decode cJ0_charAt_5068e 16 = .ok (.aload_n 0, 1) := by decide +kernel
theorem dJ0_charAt_5068e_17 : decode cJ0_charAt_5068e 17 = .ok (.getfield 9, 3) := by decide +kernel
theorem dJ0_charAt_5068e_20 : decode cJ0_charAt_5068e 20 = .ok (.iload_n 1, 1) := by decide +kernel
theorem dJ0_charAt_5068e_21 : decode cJ0_charAt_5068e 21 = .ok (.invokestatic 498, 3) := by decide +kernel
theorem dJ0_charAt_5068e_24 : decode cJ0_charAt_5068e 24 = .ok (.ireturn, 1) := by decide +kernel
theorem dJ0_coder_7d493_0 : decode cJ0_coder_7d493 0 = .ok (.getstatic 38, 3) := by decide +kernel
theorem dJ0_coder_7d493_3 : decode cJ0_coder_7d493 3 = .ok (.ifCond .eq 10, 3) := by decide +kernel
theorem dJ0_coder_7d493_6 : decode cJ0_coder_7d493 6 = .ok (.aload_n 0, 1) := by decide +kernel
theorem dJ0_coder_7d493_7 : decode cJ0_coder_7d493 7 = .ok (.getfield 15, 3) := by decide +kernel
theorem dJ0_coder_7d493_10 : decode cJ0_coder_7d493 10 = .ok (.goto 4, 3) := by decide +kernel
theorem dJ0_coder_7d493_13 : decode cJ0_coder_7d493 13 = .ok (.iconst 1, 1) := by decide +kernel
theorem dJ0_coder_7d493_14 : decode cJ0_coder_7d493 14 = .ok (.ireturn, 1) := by decide +kernel
theorem dJ0_isLatin1_aae02_0 : decode cJ0_isLatin1_aae02 0 = .ok (.getstatic 38, 3) := by decide +kernel
theorem dJ0_isLatin1_aae02_3 : decode cJ0_isLatin1_aae02 3 = .ok (.ifCond .eq 14, 3) := by decide +kernel
theorem dJ0_isLatin1_aae02_6 : decode cJ0_isLatin1_aae02 6 = .ok (.aload_n 0, 1) := by decide +kernel
theorem dJ0_isLatin1_aae02_7 : decode cJ0_isLatin1_aae02 7 = .ok (.getfield 15, 3) := by decide +kernel
theorem dJ0_isLatin1_aae02_10 : decode cJ0_isLatin1_aae02 10 = .ok (.ifCond .ne 7, 3) := by decide +kernel
theorem dJ0_isLatin1_aae02_13 : decode cJ0_isLatin1_aae02 13 = .ok (.iconst 1, 1) := by decide +kernel
theorem dJ0_isLatin1_aae02_14 : decode cJ0_isLatin1_aae02 14 = .ok (.goto 4, 3) := by decide +kernel
theorem dJ0_isLatin1_aae02_17 : decode cJ0_isLatin1_aae02 17 = .ok (.iconst 0, 1) := by decide +kernel
theorem dJ0_isLatin1_aae02_18 : decode cJ0_isLatin1_aae02 18 = .ok (.ireturn, 1) := by decide +kernel
theorem dJ0_checkIndex_df160_0 : decode cJ0_checkIndex_df160 0 = .ok (.iload_n 0, 1) := by decide +kernel
theorem dJ0_checkIndex_df160_1 : decode cJ0_checkIndex_df160 1 = .ok (.iload_n 1, 1) := by decide +kernel
theorem dJ0_checkIndex_df160_2 : decode cJ0_checkIndex_df160 2 = .ok (.getstatic 1053, 3) := by decide +kernel
theorem dJ0_checkIndex_df160_5 : decode cJ0_checkIndex_df160 5 = .ok (.invokestatic 1059, 3) := by decide +kernel
theorem dJ0_checkIndex_df160_8 : decode cJ0_checkIndex_df160 8 = .ok (.pop, 1) := by decide +kernel
theorem dJ0_checkIndex_df160_9 : decode cJ0_checkIndex_df160 9 = .ok (.return_, 1) := by decide +kernel
theorem dJ1_charAt_3b067_0 : decode cJ1_charAt_3b067 0 = .ok (.iload_n 1, 1) := by decide +kernel
theorem dJ1_charAt_3b067_1 : decode cJ1_charAt_3b067 1 = .ok (.aload_n 0, 1) := by decide +kernel
theorem dJ1_charAt_3b067_2 : decode cJ1_charAt_3b067 2 = .ok (.arraylength, 1) := by decide +kernel
theorem dJ1_charAt_3b067_3 : decode cJ1_charAt_3b067 3 = .ok (.invokestatic 9, 3) := by decide +kernel
theorem dJ1_charAt_3b067_6 : decode cJ1_charAt_3b067 6 = .ok (.aload_n 0, 1) := by decide +kernel
theorem dJ1_charAt_3b067_7 : decode cJ1_charAt_3b067 7 = .ok (.iload_n 1, 1) := by decide +kernel
theorem dJ1_charAt_3b067_8 : decode cJ1_charAt_3b067 8 = .ok (.baload, 1) := by decide +kernel
theorem dJ1_charAt_3b067_9 : decode cJ1_charAt_3b067 9 = .ok (.sipush 255, 3) := by decide +kernel
theorem dJ1_charAt_3b067_12 : decode cJ1_charAt_3b067 12 = .ok (.iand, 1) := by decide +kernel
theorem dJ1_charAt_3b067_13 : decode cJ1_charAt_3b067 13 = .ok (.i2c, 1) := by decide +kernel
theorem dJ1_charAt_3b067_14 : decode cJ1_charAt_3b067 14 = .ok (.ireturn, 1) := by decide +kernel
theorem dJ3_checkIndex_8e157_0 : decode cJ3_checkIndex_8e157 0 = .ok (.iload_n 0, 1) := by decide +kernel
theorem dJ3_checkIndex_8e157_1 : decode cJ3_checkIndex_8e157 1 = .ok (.ifCond .lt 8, 3) := by decide +kernel
theorem dJ3_checkIndex_8e157_4 : decode cJ3_checkIndex_8e157 4 = .ok (.iload_n 0, 1) := by decide +kernel
theorem dJ3_checkIndex_8e157_5 : decode cJ3_checkIndex_8e157 5 = .ok (.iload_n 1, 1) := by decide +kernel
theorem dJ3_checkIndex_8e157_6 : decode cJ3_checkIndex_8e157 6 = .ok (.if_icmp .lt 10, 3) := by decide +kernel
theorem dJ3_checkIndex_8e157_9 : decode cJ3_checkIndex_8e157 9 = .ok (.aload_n 2, 1) := by decide +kernel
theorem dJ3_checkIndex_8e157_10 : decode cJ3_checkIndex_8e157 10 = .ok (.iload_n 0, 1) := by decide +kernel
theorem dJ3_checkIndex_8e157_11 : decode cJ3_checkIndex_8e157 11 = .ok (.iload_n 1, 1) := by decide +kernel
theorem dJ3_checkIndex_8e157_12 : decode cJ3_checkIndex_8e157 12 = .ok (.invokestatic 95, 3) := by decide +kernel
theorem dJ3_checkIndex_8e157_15 : decode cJ3_checkIndex_8e157 15 = .ok (.athrow, 1) := by decide +kernel
theorem dJ3_checkIndex_8e157_16 : decode cJ3_checkIndex_8e157 16 = .ok (.iload_n 0, 1) := by decide +kernel
theorem dJ3_checkIndex_8e157_17 : decode cJ3_checkIndex_8e157 17 = .ok (.ireturn, 1) := by decide +kernel
abbrev nJS : Nat := 5
def lenJS : List Nat := [5, 2, 4, 4, 4]
def bytJS : List (List Int32) := [[116, 97, 98, 108, 101], [97, 116], [119, 111, 114, 100], [110, 111, 116, 101], [119, 105, 112, 101]]
def srefs : List (String × Nat × String × Nat) := [(RX5, 81, "table", 0), (RX5, 83, "at", 1), (RX5, 85, "word", 2), (RX5, 87, "note", 3), (RX5, 89, "wipe", 4), (RX9, 221, "table", 0), (RX9, 223, "at", 1), (RX9, 224, "word", 2), (RX9, 226, "note", 3), (RX9, 228, "wipe", 4)]
/-- the String constants, and what their methods read -/
def SZ (ad av : Nat → Nat) (A : Nat → Prop) (U : State) (H : Heap) : Prop :=
  vk_S nJS lenJS bytJS ad av A U H ∧ va_Z "java/lang/String" "COMPACT_STRINGS" "Z" (.int 1) A U H ∧ va_Zq "jdk/internal/util/Preconditions" "SIOOBE_FORMATTER" "Ljava/util/function/BiFunction;" A U H ∧ ∀ r ∈ srefs, vk_R r.1 r.2.1 r.2.2.1 (ad r.2.2.2) U
theorem SZ.to {ad av : Nat → Nat} {A B : Nat → Prop} {s U : State} {H H1 : Heap} (h : SZ ad av A s H) (hW : s.WarmedH U.vm) (hq : ∀ a : Nat, a < H.size → ¬ A a → H1[a]? = H[a]?) (hAB : ∀ q, B q → A q) : SZ ad av B U H1 :=
  ⟨((h.1.moved hW.alike).kept hq).narrow hAB, ((h.2.1.moved hW.alike).kept hq).narrow hAB, ((h.2.2.1.moved hW.alike).kept hq).narrow hAB, fun r hr => (h.2.2.2 r hr).warm hW⟩
theorem SZ.same {ad av : Nat → Nat} {A : Nat → Prop} {u U : State} {H : Heap} (hv : U.vm = u.vm) (h : SZ ad av A u H) : SZ ad av A U H :=
  ⟨h.1.moved (by rw [hv]; exact Vm.Alike.refl _), h.2.1.moved (by rw [hv]; exact Vm.Alike.refl _), h.2.2.1.moved (by rw [hv]; exact Vm.Alike.refl _), fun r hr => (h.2.2.2 r hr).same hv⟩
abbrev Ws (ad av : Nat → Nat) (G : va_G) (cy : Nat → ClassId) (w : va_W) (sz : Nat) (U : State) : Prop := Wp G cy w sz U ∧ SZ ad av (va_A w sz) U U.heap
theorem Ws.blind {vs : List Value} {ad av : Nat → Nat} {G : va_G} {cy : Nat → ClassId} {w : va_W} {sz : Nat} : FrameBlind (va_Pc vs (Ws ad av G cy w sz)) := fun a U g mk q => by
  obtain ⟨q0, qw, qz⟩ := q
  obtain ⟨-, h1⟩ := Wp.blind (av := vs) (G := G) (cy := cy) (w := w) (sz := sz) a U g mk ⟨q0, qw⟩
  exact ⟨q0, h1, qz.same (u := U) (U := U.calling g mk a) rfl⟩
section US
variable {s : State} {H : Heap} {locs : List Loc} {G : va_G} {cy : Nat → ClassId} {ad av : Nat → Nat} {wc ws : va_W} {A : Nat → Prop} {As : List Value}
theorem s_pre (hK : va_K G vwCl (tysA cy) s) (hN : nz s) (hZ : SZ ad av A s s.heap) (hA : ∀ q, s.heap.size ≤ q → A q) (hS : va_S A s.heap H locs) (hP : va_P G vwCl ws H) (hD : va_D A ws) (is : List Nat) (hC : is.map (fun i => ws[i]?) = wc.map some) (hn : va_nd is = true) (U : State) (hU : U.heap = H) (hW : s.WarmedH U.vm) : Ws ad av G cy wc H.size U :=
  ⟨u_pre hK hN hP hD is hC hn U hU hW, by rw [hU]; exact hZ.to hW hS.2.1 (va_free (wc := wc) hD hS hA is hC)⟩
theorem s_preV {C : String} {T : u_T} {N ci b : Nat} {fs : List Value} (hK : va_K G vwCl (tysA cy) s) (hN : nz s) (hZ : SZ ad av A s s.heap) (hA : ∀ q, s.heap.size ≤ q → A q) (hS : va_S A s.heap H locs) (hP : va_P G vwCl ws H) (hD : va_D A ws) (is : List Nat) (hC : is.map (fun i => ws[i]?) = wc.map some) (hn : va_nd is = true) (q0 : Nat) (hc : vwCl[ci]? = some (C, T, N)) (he : ws[q0]? = some (b, .inr (ci, fs))) : PreV s H C b (va_Pc (.ref b :: As) (Ws ad av G cy wc H.size)) As :=
  ⟨Ws.blind, va_recv hK hP hc he, fun U hU hW => ⟨rfl, s_pre hK hN hZ hA hS hP hD is hC hn U hU hW⟩⟩
theorem s_preS (hK : va_K G vwCl (tysA cy) s) (hN : nz s) (hZ : SZ ad av A s s.heap) (hA : ∀ q, s.heap.size ≤ q → A q) (hS : va_S A s.heap H locs) (hP : va_P G vwCl ws H) (hD : va_D A ws) (is : List Nat) (hC : is.map (fun i => ws[i]?) = wc.map some) (hn : va_nd is = true) : PreS s H (va_Pc As (Ws ad av G cy wc H.size)) As :=
  ⟨Ws.blind, fun U hU hW => ⟨rfl, s_pre hK hN hZ hA hS hP hD is hC hn U hU hW⟩⟩
/-- a method called on a String constant: no cell of the world is handed on -/
theorem s_preJ {i : Nat} (hi : i < nJS) (hK : va_K G vwCl (tysA cy) s) (hN : nz s) (hZ : SZ ad av A s s.heap) (hA : ∀ q, s.heap.size ≤ q → A q) (hS : va_S A s.heap H locs) (hP : va_P G vwCl ws H) (hD : va_D A ws) : PreV s H RJ0 (ad i) (va_Pc (.ref (ad i) :: As) (Ws ad av G cy [] H.size)) As :=
  ⟨Ws.blind, vk_recv hZ.1 hi hS, fun U hU hW => ⟨rfl, s_pre hK hN hZ hA hS hP hD [] rfl rfl U hU hW⟩⟩
end US
theorem pk_J0_length_8abf5 : PV RJ0 yJ0_length_8abf5 cJ0_length_8abf5 1 (some .int) 0 := ⟨a_im_yJ0_length_8abf5, a_se_yJ0_length_8abf5, a_in_J0, a_co_yJ0_length_8abf5, rfl, by decide +kernel, by decide +kernel, by decide +kernel⟩
theorem pk_J0_charAt_5068e : PV RJ0 yJ0_charAt_5068e cJ0_charAt_5068e 2 (some .char) 1 := ⟨a_im_yJ0_charAt_5068e, a_se_yJ0_charAt_5068e, a_in_J0, a_co_yJ0_charAt_5068e, rfl, by decide +kernel, by decide +kernel, by decide +kernel⟩
theorem pk_J0_coder_7d493 : PV RJ0 yJ0_coder_7d493 cJ0_coder_7d493 1 (some .byte) 0 := ⟨a_im_yJ0_coder_7d493, a_se_yJ0_coder_7d493, a_in_J0, a_co_yJ0_coder_7d493, rfl, by decide +kernel, by decide +kernel, by decide +kernel⟩
theorem pk_J0_isLatin1_aae02 : PV RJ0 yJ0_isLatin1_aae02 cJ0_isLatin1_aae02 1 (some .boolean) 0 := ⟨a_im_yJ0_isLatin1_aae02, a_se_yJ0_isLatin1_aae02, a_in_J0, a_co_yJ0_isLatin1_aae02, rfl, by decide +kernel, by decide +kernel, by decide +kernel⟩
theorem pk_J0_checkIndex_df160 : PS yJ0_checkIndex_df160 cJ0_checkIndex_df160 2 none 2 := ⟨a_st_yJ0_checkIndex_df160, a_in_J0, a_co_yJ0_checkIndex_df160, by decide +kernel, by decide +kernel, by decide +kernel⟩
theorem pk_J1_charAt_3b067 : PS yJ1_charAt_3b067 cJ1_charAt_3b067 2 (some .char) 2 := ⟨a_st_yJ1_charAt_3b067, a_in_J1, a_co_yJ1_charAt_3b067, by decide +kernel, by decide +kernel, by decide +kernel⟩
theorem pk_J3_checkIndex_8e157 : PS yJ3_checkIndex_8e157 cJ3_checkIndex_8e157 3 (some .int) 3 := ⟨a_st_yJ3_checkIndex_8e157, a_in_J3, a_co_yJ3_checkIndex_8e157, by decide +kernel, by decide +kernel, by decide +kernel⟩
set_option maxRecDepth 100000 in
theorem kJ0_coder (l : Launch) (G : va_G) (cy : Nat → ClassId) (ad av : Nat → Nat) (sz : Nat) (i : Nat) (hi : i < nJS) : Met l yJ0_coder_7d493 (Cond.code yJ0_coder_7d493 cJ0_coder_7d493 1 (some .byte) :: AW) ({ frames := 0, cells := 0, slots := 0, locals := 0 } : Room) (va_Pc [.ref (ad i)] (Ws ad av G cy [] sz)) (va_Qi (fun r (_ : Unit) => r = 0) (fun _ => Wq G cy (va_A [] sz) []) (va_A [] sz)) 0 0 (va_A [] sz) := by
  refine Met.ofW (cc := cJ0_coder_7d493) (maxL := 1) (ret := (some .byte)) (by decide) rfl ?_
  intro p e s m args below meth c s₁ B hml hv
  obtain ⟨rfl, ⟨hsz, hP, hK, hD0, hN⟩, hZ⟩ := hv
  have hx := B.exec
  have hb := B.bytes
  have hr := B.returns
  have htA : ∀ w ∈ AW, w.before _ s = true := fun w h => atoms_spec (ws := Cond.code yJ0_coder_7d493 cJ0_coder_7d493 1 (some .byte) :: AW) B.pre w (List.mem_cons_of_mem _ h)
  have hown : s.vm.findClass RJ0 = some m.cls := findClass_of_methodNamed B.named
  have hlocks := B.notSynchronized
  subst hsz
  have hD := hD0.self (sz := s.heap.size)
  generalize hAe : va_A [] s.heap.size = A at hD hZ ⊢
  have hA : ∀ q : Nat, s.heap.size ≤ q → A q := fun q h => by rw [← hAe]; exact Or.inr h
  have hS : va_S A s.heap s.heap [] := va_S.rf
  have hl := lv_entry ([.ref (ad i)]) (n := 1) (Nat.le_of_ble_eq_true rfl)
  rw [lg_entry_eq]
  generalize (lg_sl ([.ref (ad i)]) ++ List.replicate (1 - (lg_sl ([.ref (ad i)])).length) Slot.unset).toArray = ls at hl ⊢
  have hl : lv_has ls 1 [(0, .ref (ad i))] := hl
  refine va_gets hx hb hZ.2.1 hS hown (htA _ a_fl_J0_38) (fun _ h9 => h9) dJ0_coder_7d493_0 ?_
  refine lv_if_eq (tgt := 13) hx hb dJ0_coder_7d493_3 (by decide) (fun c_1 => absurd c_1 (by decide)) (fun c_1 => ?_)
  refine lv_aload_n hx hb dJ0_coder_7d493_6 rfl (lv_at hl 0 rfl) ?_
  refine vk_getf hx hb (hZ.1.1 i hi).2.1 hS hown (htA _ a_fl_J0_15) (fun _ h9 => h9) dJ0_coder_7d493_7 ?_
  refine lv_goto (tgt := 14) hx hb dJ0_coder_7d493_10 (by decide) ?_
  exact W.zret (v := 0) hx hb hr rfl (fun t ht hW => ⟨⟨_, (), rfl, rfl, by rw [ht]; exact hP, va_K.moved hW.alike hK, hD⟩, hS.F ht⟩) hS.2.2 dJ0_coder_7d493_14
set_option maxRecDepth 100000 in
theorem kJ0_isLatin1 (l : Launch) (G : va_G) (cy : Nat → ClassId) (ad av : Nat → Nat) (sz : Nat) (i : Nat) (hi : i < nJS) : Met l yJ0_isLatin1_aae02 (Cond.code yJ0_isLatin1_aae02 cJ0_isLatin1_aae02 1 (some .boolean) :: AW) ({ frames := 0, cells := 0, slots := 0, locals := 0 } : Room) (va_Pc [.ref (ad i)] (Ws ad av G cy [] sz)) (va_Qi (fun r (_ : Unit) => r = 1) (fun _ => Wq G cy (va_A [] sz) []) (va_A [] sz)) 0 0 (va_A [] sz) := by
  refine Met.ofW (cc := cJ0_isLatin1_aae02) (maxL := 1) (ret := (some .boolean)) (by decide) rfl ?_
  intro p e s m args below meth c s₁ B hml hv
  obtain ⟨rfl, ⟨hsz, hP, hK, hD0, hN⟩, hZ⟩ := hv
  have hx := B.exec
  have hb := B.bytes
  have hr := B.returns
  have htA : ∀ w ∈ AW, w.before _ s = true := fun w h => atoms_spec (ws := Cond.code yJ0_isLatin1_aae02 cJ0_isLatin1_aae02 1 (some .boolean) :: AW) B.pre w (List.mem_cons_of_mem _ h)
  have hown : s.vm.findClass RJ0 = some m.cls := findClass_of_methodNamed B.named
  have hlocks := B.notSynchronized
  subst hsz
  have hD := hD0.self (sz := s.heap.size)
  generalize hAe : va_A [] s.heap.size = A at hD hZ ⊢
  have hA : ∀ q : Nat, s.heap.size ≤ q → A q := fun q h => by rw [← hAe]; exact Or.inr h
  have hS : va_S A s.heap s.heap [] := va_S.rf
  have hl := lv_entry ([.ref (ad i)]) (n := 1) (Nat.le_of_ble_eq_true rfl)
  rw [lg_entry_eq]
  generalize (lg_sl ([.ref (ad i)]) ++ List.replicate (1 - (lg_sl ([.ref (ad i)])).length) Slot.unset).toArray = ls at hl ⊢
  have hl : lv_has ls 1 [(0, .ref (ad i))] := hl
  refine va_gets hx hb hZ.2.1 hS hown (htA _ a_fl_J0_38) (fun _ h9 => h9) dJ0_isLatin1_aae02_0 ?_
  refine lv_if_eq (tgt := 17) hx hb dJ0_isLatin1_aae02_3 (by decide) (fun c_1 => absurd c_1 (by decide)) (fun c_1 => ?_)
  refine lv_aload_n hx hb dJ0_isLatin1_aae02_6 rfl (lv_at hl 0 rfl) ?_
  refine vk_getf hx hb (hZ.1.1 i hi).2.1 hS hown (htA _ a_fl_J0_15) (fun _ h9 => h9) dJ0_isLatin1_aae02_7 ?_
  refine lv_if_ne (tgt := 17) hx hb dJ0_isLatin1_aae02_10 (by decide) (fun c_2 => absurd rfl c_2) (fun c_2 => ?_)
  refine lv_iconst (v := 1) hx hb dJ0_isLatin1_aae02_13 (by decide) ?_
  refine lv_goto (tgt := 18) hx hb dJ0_isLatin1_aae02_14 (by decide) ?_
  exact W.zret (v := 1) hx hb hr rfl (fun t ht hW => ⟨⟨_, (), rfl, rfl, by rw [ht]; exact hP, va_K.moved hW.alike hK, hD⟩, hS.F ht⟩) hS.2.2 dJ0_isLatin1_aae02_18
set_option maxRecDepth 100000 in
theorem kJ0_length (l : Launch) (G : va_G) (cy : Nat → ClassId) (ad av : Nat → Nat) (sz : Nat) (i : Nat) (hi : i < nJS) : Met l yJ0_length_8abf5 (Cond.code yJ0_length_8abf5 cJ0_length_8abf5 1 (some .int) :: AW) ({ frames := 1, cells := 0, slots := 0, locals := 20 } : Room) (va_Pc [.ref (ad i)] (Ws ad av G cy [] sz)) (va_Qi (fun r (_ : Unit) => r = nI (lenJS.getD i 0)) (fun _ => Wq G cy (va_A [] sz) []) (va_A [] sz)) 0 0 (va_A [] sz) := by
  refine Met.ofW (cc := cJ0_length_8abf5) (maxL := 1) (ret := (some .int)) (by decide) rfl ?_
  intro p e s m args below meth c s₁ B hml hv
  obtain ⟨rfl, ⟨hsz, hP, hK, hD0, hN⟩, hZ⟩ := hv
  have hx := B.exec
  have hb := B.bytes
  have hr := B.returns
  have htA : ∀ w ∈ AW, w.before _ s = true := fun w h => atoms_spec (ws := Cond.code yJ0_length_8abf5 cJ0_length_8abf5 1 (some .int) :: AW) B.pre w (List.mem_cons_of_mem _ h)
  have hown : s.vm.findClass RJ0 = some m.cls := findClass_of_methodNamed B.named
  have hlocks := B.notSynchronized
  subst hsz
  have hD := hD0.self (sz := s.heap.size)
  generalize hAe : va_A [] s.heap.size = A at hD hZ ⊢
  have hA : ∀ q : Nat, s.heap.size ≤ q → A q := fun q h => by rw [← hAe]; exact Or.inr h
  have hS : va_S A s.heap s.heap [] := va_S.rf
  have hl := lv_entry ([.ref (ad i)]) (n := 1) (Nat.le_of_ble_eq_true rfl)
  rw [lg_entry_eq]
  generalize (lg_sl ([.ref (ad i)]) ++ List.replicate (1 - (lg_sl ([.ref (ad i)])).length) Slot.unset).toArray = ls at hl ⊢
  have hl : lv_has ls 1 [(0, .ref (ad i))] := hl
  refine lv_aload_n hx hb dJ0_length_8abf5_0 rfl (lv_at hl 0 rfl) ?_
  refine vk_getf hx hb (hZ.1.1 i hi).2.2.1 hS hown (htA _ a_fl_J0_9) (fun _ h9 => h9) dJ0_length_8abf5_1 ?_
  refine va_tlen (v := nI (lenJS.getD i 0)) hx hb (hZ.1.1 i hi).2.2.2 hS rfl dJ0_length_8abf5_4 ?_
  refine lv_aload_n hx hb dJ0_length_8abf5_5 rfl (lv_at hl 0 rfl) ?_
  refine u_calliR (va_runV (As := []) (rest := [.int (nI (lenJS.getD i 0))]) ⟨hx, hb, hml, hown, htA⟩ (kJ0_coder l G cy ad av s.heap.size i hi) (u_cwV htA a_ml_J0_335 pk_J0_coder_7d493 ⟨Nat.le_of_ble_eq_true rfl, Nat.le_of_ble_eq_true rfl⟩) (s_preJ hi hK hN hZ hA hS hP hD) rfl rfl hl.1 rfl (lv_room (Nat.le_of_ble_eq_true rfl)) dJ0_length_8abf5_6 ⟨Nat.zero_le _, Nat.zero_le _⟩) hP hD hS hA [] rfl (fun H locs hP hS => ?_)
  refine lv_ishr hx hb dJ0_length_8abf5_9 ?_
  have e9 : nI (lenJS.getD i 0) >>> ((0 : Int32) &&& 31) = nI (lenJS.getD i 0) := sb_shr0 _
  rw [e9]
  exact W.iret (v := nI (lenJS.getD i 0)) hx hb hr (fun t ht hW => ⟨⟨_, (), rfl, rfl, by rw [ht]; exact hP, va_K.moved hW.alike hK, hD⟩, hS.F ht⟩) hS.2.2 dJ0_length_8abf5_10
set_option maxRecDepth 100000 in
theorem kJ3_checkIndex (l : Launch) (G : va_G) (cy : Nat → ClassId) (ad av : Nat → Nat) (sz : Nat) (a b : Int32) (v : Value) (h0 : ¬ a < 0) (h1 : a < b) (hv9 : v.category = 1) : Met l yJ3_checkIndex_8e157 (Cond.code yJ3_checkIndex_8e157 cJ3_checkIndex_8e157 3 (some .int) :: AW) ({ frames := 0, cells := 0, slots := 0, locals := 0 } : Room) (va_Pc [.int a, .int b, v] (Ws ad av G cy [] sz)) (va_Qi (fun r (_ : Unit) => r = a) (fun _ => Wq G cy (va_A [] sz) []) (va_A [] sz)) 0 0 (va_A [] sz) := by
  refine Met.ofW (cc := cJ3_checkIndex_8e157) (maxL := 3) (ret := (some .int)) (by decide) rfl ?_
  intro p e s m args below meth c s₁ B hml hv
  obtain ⟨rfl, ⟨hsz, hP, hK, hD0, hN⟩, hZ⟩ := hv
  have hx := B.exec
  have hb := B.bytes
  have hr := B.returns
  have htA : ∀ w ∈ AW, w.before _ s = true := fun w h => atoms_spec (ws := Cond.code yJ3_checkIndex_8e157 cJ3_checkIndex_8e157 3 (some .int) :: AW) B.pre w (List.mem_cons_of_mem _ h)
  have hown : s.vm.findClass RJ3 = some m.cls := findClass_of_methodNamed B.named
  have hlocks := B.notSynchronized
  subst hsz
  have hD := hD0.self (sz := s.heap.size)
  generalize hAe : va_A [] s.heap.size = A at hD hZ ⊢
  have hA : ∀ q : Nat, s.heap.size ≤ q → A q := fun q h => by rw [← hAe]; exact Or.inr h
  have hS : va_S A s.heap s.heap [] := va_S.rf
  have hl := lv_entry ([.int a, .int b, v]) (n := 3) (by have e1 : (Value.int a).category = 1 := rfl; have e2 : (Value.int b).category = 1 := rfl; simp [lg_sl, hv9, e1, e2])
  rw [lg_entry_eq]
  generalize (lg_sl ([.int a, .int b, v]) ++ List.replicate (3 - (lg_sl ([.int a, .int b, v])).length) Slot.unset).toArray = ls at hl ⊢
  have hl : lv_has ls 3 [(0, .int a), (1, .int b), (2, v)] := hl
  refine lv_iload_n hx hb dJ3_checkIndex_8e157_0 rfl (lv_at hl 0 rfl) ?_
  refine lv_if_lt (tgt := 9) hx hb dJ3_checkIndex_8e157_1 (by decide) (fun c_1 => absurd c_1 h0) (fun c_1 => ?_)
  refine lv_iload_n hx hb dJ3_checkIndex_8e157_4 rfl (lv_at hl 0 rfl) ?_
  refine lv_iload_n hx hb dJ3_checkIndex_8e157_5 rfl (lv_at hl 1 rfl) ?_
  refine lv_icmp_lt (tgt := 16) hx hb dJ3_checkIndex_8e157_6 (by decide) (fun c_2 => ?_) (fun c_2 => absurd h1 c_2)
  refine lv_iload_n hx hb dJ3_checkIndex_8e157_16 rfl (lv_at hl 0 rfl) ?_
  exact W.iret (v := a) hx hb hr (fun t ht hW => ⟨⟨_, (), rfl, rfl, by rw [ht]; exact hP, va_K.moved hW.alike hK, hD⟩, hS.F ht⟩) hS.2.2 dJ3_checkIndex_8e157_17
set_option maxRecDepth 100000 in
theorem kJ0_checkIndex (l : Launch) (G : va_G) (cy : Nat → ClassId) (ad av : Nat → Nat) (sz : Nat) (a b : Int32) (h0 : ¬ a < 0) (h1 : a < b) : Met l yJ0_checkIndex_df160 (Cond.code yJ0_checkIndex_df160 cJ0_checkIndex_df160 2 none :: AW) ({ frames := 1, cells := 0, slots := 0, locals := 22 } : Room) (va_Pc [.int a, .int b] (Ws ad av G cy [] sz)) (va_Qv (fun (_ : Unit) => True) (fun _ => Wq G cy (va_A [] sz) []) (va_A [] sz)) 0 0 (va_A [] sz) := by
  refine Met.ofW (cc := cJ0_checkIndex_df160) (maxL := 2) (ret := none) (by decide) rfl ?_
  intro p e s m args below meth c s₁ B hml hv
  obtain ⟨rfl, ⟨hsz, hP, hK, hD0, hN⟩, hZ⟩ := hv
  have hx := B.exec
  have hb := B.bytes
  have hr := B.returns
  have htA : ∀ w ∈ AW, w.before _ s = true := fun w h => atoms_spec (ws := Cond.code yJ0_checkIndex_df160 cJ0_checkIndex_df160 2 none :: AW) B.pre w (List.mem_cons_of_mem _ h)
  have hown : s.vm.findClass RJ0 = some m.cls := findClass_of_methodNamed B.named
  have hlocks := B.notSynchronized
  subst hsz
  have hD := hD0.self (sz := s.heap.size)
  generalize hAe : va_A [] s.heap.size = A at hD hZ ⊢
  have hA : ∀ q : Nat, s.heap.size ≤ q → A q := fun q h => by rw [← hAe]; exact Or.inr h
  have hS : va_S A s.heap s.heap [] := va_S.rf
  have hl := lv_entry ([.int a, .int b]) (n := 2) (Nat.le_of_ble_eq_true rfl)
  rw [lg_entry_eq]
  generalize (lg_sl ([.int a, .int b]) ++ List.replicate (2 - (lg_sl ([.int a, .int b])).length) Slot.unset).toArray = ls at hl ⊢
  have hl : lv_has ls 2 [(0, .int a), (1, .int b)] := hl
  refine lv_iload_n hx hb dJ0_checkIndex_df160_0 rfl (lv_at hl 0 rfl) ?_
  refine lv_iload_n hx hb dJ0_checkIndex_df160_1 rfl (lv_at hl 1 rfl) ?_
  have key : ∀ v : Value, v.category = 1 → va_Z "jdk/internal/util/Preconditions" "SIOOBE_FORMATTER" "Ljava/util/function/BiFunction;" v A s s.heap → W p l e (headSpec (Cond.code yJ0_checkIndex_df160 cJ0_checkIndex_df160 2 none :: AW) ({ frames := 1, cells := 0, slots := 0, locals := 22 } : Room)).room s m #[.int a, .int b] below meth c s.heap [] 0 0 (MQ below (va_Qv (fun (_ : Unit) => True) (fun _ => Wq G cy A []) A) #[.int a, .int b] s 0 0 A) (F0 m 2 ls [.int b, .int a]) := by
    intro v hv9 hz9
    refine va_gets hx hb hz9 hS hown (htA _ a_fl_J0_1053) (fun _ h9 => h9) dJ0_checkIndex_df160_2 ?_
    refine u_calliR (va_runS (As := [.int a, .int b, v]) (rest := []) ⟨hx, hb, hml, hown, htA⟩ (kJ3_checkIndex l G cy ad av s.heap.size a b v h0 h1 hv9) (u_cwS htA a_ml_J0_1059 pk_J3_checkIndex_8e157 ⟨Nat.le_of_ble_eq_true rfl, Nat.le_of_ble_eq_true rfl⟩) (s_preS hK hN hZ hA hS hP hD [] rfl rfl) rfl rfl hl.1 rfl (lv_room (Nat.le_of_ble_eq_true rfl)) dJ0_checkIndex_df160_5 ⟨Nat.zero_le _, Nat.zero_le _⟩) hP hD hS hA [] rfl (fun H locs hP hS => ?_)
    refine lv_pop hx hb dJ0_checkIndex_df160_8 rfl ?_
    exact W.vret hx hb hr (fun t ht hW => ⟨⟨(), rfl, trivial, by rw [ht]; exact hP, va_K.moved hW.alike hK, hD⟩, hS.F ht⟩) hS.2.2 dJ0_checkIndex_df160_9
  rcases hZ.2.2.1 with hz | ⟨t9, hz⟩
  · exact key _ rfl hz
  · exact key _ rfl hz
/-- the char at k of the constant i -/
def sch (i k : Nat) : Int32 := (bytJS.getD i []).getD k 0
theorem sch_ok : ∀ i, i < nJS → ∀ k, k < lenJS.getD i 0 → ((sch i k &&& 255).toUInt32 % 65536).toInt32 = sch i k ∧ narrow .char (.int (sch i k)) = .int (sch i k) := by decide +kernel
set_option maxRecDepth 100000 in
theorem kJ1_charAt (l : Launch) (G : va_G) (cy : Nat → ClassId) (ad av : Nat → Nat) (sz : Nat) (i : Nat) (a : Int32) (hi : i < nJS) (h0 : vp_in a (lenJS.getD i 0)) : Met l yJ1_charAt_3b067 (Cond.code yJ1_charAt_3b067 cJ1_charAt_3b067 2 (some .char) :: AW) ({ frames := 2, cells := 0, slots := 0, locals := 43 } : Room) (va_Pc [.ref (av i), .int a] (Ws ad av G cy [] sz)) (va_Qi (fun r (_ : Unit) => r = sch i a.toNatClampNeg) (fun _ => Wq G cy (va_A [] sz) []) (va_A [] sz)) 0 0 (va_A [] sz) := by
  refine Met.ofW (cc := cJ1_charAt_3b067) (maxL := 2) (ret := (some .char)) (by decide) rfl ?_
  intro p e s m args below meth c s₁ B hml hv
  obtain ⟨rfl, ⟨hsz, hP, hK, hD0, hN⟩, hZ⟩ := hv
  have hx := B.exec
  have hb := B.bytes
  have hr := B.returns
  have htA : ∀ w ∈ AW, w.before _ s = true := fun w h => atoms_spec (ws := Cond.code yJ1_charAt_3b067 cJ1_charAt_3b067 2 (some .char) :: AW) B.pre w (List.mem_cons_of_mem _ h)
  have hown : s.vm.findClass RJ1 = some m.cls := findClass_of_methodNamed B.named
  have hlocks := B.notSynchronized
  subst hsz
  have hD := hD0.self (sz := s.heap.size)
  generalize hAe : va_A [] s.heap.size = A at hD hZ ⊢
  have hA : ∀ q : Nat, s.heap.size ≤ q → A q := fun q h => by rw [← hAe]; exact Or.inr h
  have hS : va_S A s.heap s.heap [] := va_S.rf
  have hl := lv_entry ([.ref (av i), .int a]) (n := 2) (Nat.le_of_ble_eq_true rfl)
  rw [lg_entry_eq]
  generalize (lg_sl ([.ref (av i), .int a]) ++ List.replicate (2 - (lg_sl ([.ref (av i), .int a])).length) Slot.unset).toArray = ls at hl ⊢
  have hl : lv_has ls 2 [(0, .ref (av i)), (1, .int a)] := hl
  have hlt := vin_lt h0
  have hL : lenJS.getD i 0 < 2 ^ 31 := by have := (by decide : ∀ i, i < nJS → lenJS.getD i 0 < 100) i hi; omega
  have hn0 : ¬ a < 0 := fun q => h0 (Or.inl q)
  have ha : a = nI a.toNatClampNeg := by obtain ⟨j, hj, rfl⟩ := nI_of hn0; rw [nI_clamp hj]
  have ha1 : a < nI (lenJS.getD i 0) := by rw [ha]; exact nI_lt hlt hL
  refine lv_iload_n hx hb dJ1_charAt_3b067_0 rfl (lv_at hl 1 rfl) ?_
  refine lv_aload_n hx hb dJ1_charAt_3b067_1 rfl (lv_at hl 0 rfl) ?_
  refine va_tlen (v := nI (lenJS.getD i 0)) hx hb (hZ.1.1 i hi).2.2.2 hS rfl dJ1_charAt_3b067_2 ?_
  refine u_callvR (va_runS (As := [.int a, .int (nI (lenJS.getD i 0))]) (rest := []) ⟨hx, hb, hml, hown, htA⟩ (kJ0_checkIndex l G cy ad av s.heap.size a (nI (lenJS.getD i 0)) hn0 ha1) (u_cwS htA a_ml_J1_9 pk_J0_checkIndex_df160 ⟨Nat.le_of_ble_eq_true rfl, Nat.le_of_ble_eq_true rfl⟩) (s_preS hK hN hZ hA hS hP hD [] rfl rfl) rfl rfl hl.1 rfl (lv_room (Nat.le_of_ble_eq_true rfl)) dJ1_charAt_3b067_3 ⟨Nat.zero_le _, Nat.zero_le _⟩) hP hD hS hA [] rfl (fun H locs hP hS => ?_)
  refine lv_aload_n hx hb dJ1_charAt_3b067_6 rfl (lv_at hl 0 rfl) ?_
  refine lv_iload_n hx hb dJ1_charAt_3b067_7 rfl (lv_at hl 1 rfl) ?_
  refine va_tb (v := .int (sch i a.toNatClampNeg)) hx hb (hZ.1.1 i hi).2.2.2 hS h0 rfl dJ1_charAt_3b067_8 ?_
  refine lv_sipush (v := 255) hx hb dJ1_charAt_3b067_9 (by decide) ?_
  refine lv_iand hx hb dJ1_charAt_3b067_12 ?_
  refine lv_i2c hx hb dJ1_charAt_3b067_13 (sch_ok i hi _ hlt).1 ?_
  exact W.zret (v := sch i a.toNatClampNeg) hx hb hr (sch_ok i hi _ hlt).2 (fun t ht hW => ⟨⟨_, (), rfl, rfl, by rw [ht]; exact hP, va_K.moved hW.alike hK, hD⟩, hS.F ht⟩) hS.2.2 dJ1_charAt_3b067_14
set_option maxRecDepth 100000 in
theorem kJ0_charAt (l : Launch) (G : va_G) (cy : Nat → ClassId) (ad av : Nat → Nat) (sz : Nat) (i : Nat) (a : Int32) (hi : i < nJS) (h0 : vp_in a (lenJS.getD i 0)) : Met l yJ0_charAt_5068e (Cond.code yJ0_charAt_5068e cJ0_charAt_5068e 2 (some .char) :: AW) ({ frames := 3, cells := 0, slots := 0, locals := 64 } : Room) (va_Pc [.ref (ad i), .int a] (Ws ad av G cy [] sz)) (va_Qi (fun r (_ : Unit) => r = sch i a.toNatClampNeg) (fun _ => Wq G cy (va_A [] sz) []) (va_A [] sz)) 0 0 (va_A [] sz) := by
  refine Met.ofW (cc := cJ0_charAt_5068e) (maxL := 2) (ret := (some .char)) (by decide) rfl ?_
  intro p e s m args below meth c s₁ B hml hv
  obtain ⟨rfl, ⟨hsz, hP, hK, hD0, hN⟩, hZ⟩ := hv
  have hx := B.exec
  have hb := B.bytes
  have hr := B.returns
  have htA : ∀ w ∈ AW, w.before _ s = true := fun w h => atoms_spec (ws := Cond.code yJ0_charAt_5068e cJ0_charAt_5068e 2 (some .char) :: AW) B.pre w (List.mem_cons_of_mem _ h)
  have hown : s.vm.findClass RJ0 = some m.cls := findClass_of_methodNamed B.named
  have hlocks := B.notSynchronized
  subst hsz
  have hD := hD0.self (sz := s.heap.size)
  generalize hAe : va_A [] s.heap.size = A at hD hZ ⊢
  have hA : ∀ q : Nat, s.heap.size ≤ q → A q := fun q h => by rw [← hAe]; exact Or.inr h
  have hS : va_S A s.heap s.heap [] := va_S.rf
  have hl := lv_entry ([.ref (ad i), .int a]) (n := 2) (Nat.le_of_ble_eq_true rfl)
  rw [lg_entry_eq]
  generalize (lg_sl ([.ref (ad i), .int a]) ++ List.replicate (2 - (lg_sl ([.ref (ad i), .int a])).length) Slot.unset).toArray = ls at hl ⊢
  have hl : lv_has ls 2 [(0, .ref (ad i)), (1, .int a)] := hl
  have hlt := vin_lt h0
  refine lv_aload_n hx hb dJ0_charAt_5068e_0 rfl (lv_at hl 0 rfl) ?_
  refine u_calliR (va_runV (As := []) (rest := []) ⟨hx, hb, hml, hown, htA⟩ (kJ0_isLatin1 l G cy ad av s.heap.size i hi) (u_cwV htA a_ml_J0_492 pk_J0_isLatin1_aae02 ⟨Nat.le_of_ble_eq_true rfl, Nat.le_of_ble_eq_true rfl⟩) (s_preJ hi hK hN hZ hA hS hP hD) rfl rfl hl.1 rfl (lv_room (Nat.le_of_ble_eq_true rfl)) dJ0_charAt_5068e_1 ⟨Nat.zero_le _, Nat.zero_le _⟩) hP hD hS hA [] rfl (fun H locs hP hS => ?_)
  refine lv_if_eq (tgt := 16) hx hb dJ0_charAt_5068e_4 (by decide) (fun c_1 => absurd c_1 (by decide)) (fun c_1 => ?_)
  refine lv_aload_n hx hb dJ0_charAt_5068e_7 rfl (lv_at hl 0 rfl) ?_
  refine vk_getf hx hb (hZ.1.1 i hi).2.2.1 hS hown (htA _ a_fl_J0_9) (fun _ h9 => h9) dJ0_charAt_5068e_8 ?_
  refine lv_iload_n hx hb dJ0_charAt_5068e_11 rfl (lv_at hl 1 rfl) ?_
  refine u_calliR (va_runS (As := [.ref (av i), .int a]) (rest := []) ⟨hx, hb, hml, hown, htA⟩ (kJ1_charAt l G cy ad av H.size i a hi h0) (u_cwS htA a_ml_J0_495 pk_J1_charAt_3b067 ⟨Nat.le_of_ble_eq_true rfl, Nat.le_of_ble_eq_true rfl⟩) (s_preS hK hN hZ hA hS hP hD [] rfl rfl) rfl rfl hl.1 rfl (lv_room (Nat.le_of_ble_eq_true rfl)) dJ0_charAt_5068e_12 ⟨Nat.zero_le _, Nat.zero_le _⟩) hP hD hS hA [] rfl (fun H locs hP hS => ?_)
  exact W.zret (v := sch i a.toNatClampNeg) hx hb hr (sch_ok i hi _ hlt).2 (fun t ht hW => ⟨⟨_, (), rfl, rfl, by rw [ht]; exact hP, va_K.moved hW.alike hK, hD⟩, hS.F ht⟩) hS.2.2 dJ0_charAt_5068e_15
def fJ_length (i : Nat) : Option Int32 := if i < nJS then some (nI (lenJS.getD i 0)) else none
def fJ_charAt (i : Nat) (k : Int32) : Option Int32 := if i < nJS then ck k (lenJS.getD i 0) (some (sch i k.toNatClampNeg)) else none
theorem fJ_length_i {i : Nat} {o : Int32} (h : fJ_length i = some o) : i < nJS := by
  unfold fJ_length at h
  split at h
  · next q => exact q
  · cases h
theorem fJ_charAt_i {i : Nat} {k o : Int32} (h : fJ_charAt i k = some o) : i < nJS := by
  unfold fJ_charAt at h
  split at h
  · next q => exact q
  · cases h
theorem kJ_length (l : Launch) (G : va_G) (cy : Nat → ClassId) (ad av : Nat → Nat) (sz : Nat) (i : Nat) {o : Int32} (hf : fJ_length i = some o) : Met l yJ0_length_8abf5 (Cond.code yJ0_length_8abf5 cJ0_length_8abf5 1 (some .int) :: AW) ({ frames := 1, cells := 0, slots := 0, locals := 20 } : Room) (va_Pc [.ref (ad i)] (Ws ad av G cy [] sz)) (va_Qi (fun r (_ : Unit) => r = o) (fun _ => Wq G cy (va_A [] sz) []) (va_A [] sz)) 0 0 (va_A [] sz) := by
  have hi := fJ_length_i hf
  unfold fJ_length at hf
  rw [if_pos hi] at hf
  rw [← Option.some.inj hf]
  exact kJ0_length l G cy ad av sz i hi
theorem kJ_charAt (l : Launch) (G : va_G) (cy : Nat → ClassId) (ad av : Nat → Nat) (sz : Nat) (i : Nat) (a : Int32) {o : Int32} (hf : fJ_charAt i a = some o) : Met l yJ0_charAt_5068e (Cond.code yJ0_charAt_5068e cJ0_charAt_5068e 2 (some .char) :: AW) ({ frames := 3, cells := 0, slots := 0, locals := 64 } : Room) (va_Pc [.ref (ad i), .int a] (Ws ad av G cy [] sz)) (va_Qi (fun r (_ : Unit) => r = o) (fun _ => Wq G cy (va_A [] sz) []) (va_A [] sz)) 0 0 (va_A [] sz) := by
  have hi := fJ_charAt_i hf
  unfold fJ_charAt at hf
  rw [if_pos hi] at hf
  obtain ⟨h0, hf⟩ := ck_s hf
  rw [← Option.some.inj hf]
  exact kJ0_charAt l G cy ad av sz i a hi h0
