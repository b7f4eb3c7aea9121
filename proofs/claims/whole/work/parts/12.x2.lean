set_option maxRecDepth 100000 in
set_option maxHeartbeats 4000000 in
theorem kX8_coat (l : Launch) (G : va_G) (cy : Nat → ClassId) (q_this : Nat) (q_now : Nat) (q_saved : Nat) (q_trial : Nat) (q_lowering : Nat) (q_counts : Nat) (q_expansion : Nat) (q_setUp : Nat) (q_tapes : Nat) (q_now_ground : Nat) (q_now_notes : Nat) (q_now_seen : Nat) (q_now_events : Nat) (q_now_book : Nat) (sz : Nat) (f_imaged : Int32) (f_now_ground_a : Int32) (f_now_ground_b : Int32) (f_now_ground_x : Int32) (f_now_ground_y : Int32) (p1 : Int32) (p2 : Int32) (p3 : Int32) {o : Int32} (hf : fX8_coat p1 p2 p3 f_now_ground_a f_now_ground_b = some o) : Met l yX8_coat (Cond.code yX8_coat cX8_coat 4 (some .int) :: AW) ({ frames := 2, cells := 0, slots := 0, locals := 43 } : Room) (va_Pc [.ref q_this, .int p1, .int p2, .int p3] (Wp G cy [(q_this, .inr (8, [.ref q_now, .ref q_saved, .int f_imaged, .ref q_trial, .ref q_lowering, .ref q_counts, .ref q_expansion, .ref q_setUp, .ref q_tapes])), (q_now, .inr (6, [.ref q_now_ground, .ref q_now_notes, .ref q_now_seen, .ref q_now_events, .ref q_now_book])), (q_now_ground, .inr (2, [.int f_now_ground_a, .int f_now_ground_b, .int f_now_ground_x, .int f_now_ground_y]))] sz)) (va_Qi (fun r (_ : Unit) => r = o) (fun _ => Wq G cy (va_A [(q_this, .inr (8, [.ref q_now, .ref q_saved, .int f_imaged, .ref q_trial, .ref q_lowering, .ref q_counts, .ref q_expansion, .ref q_setUp, .ref q_tapes])), (q_now, .inr (6, [.ref q_now_ground, .ref q_now_notes, .ref q_now_seen, .ref q_now_events, .ref q_now_book])), (q_now_ground, .inr (2, [.int f_now_ground_a, .int f_now_ground_b, .int f_now_ground_x, .int f_now_ground_y]))] sz) [(q_this, .inr (8, [.ref q_now, .ref q_saved, .int f_imaged, .ref q_trial, .ref q_lowering, .ref q_counts, .ref q_expansion, .ref q_setUp, .ref q_tapes])), (q_now, .inr (6, [.ref q_now_ground, .ref q_now_notes, .ref q_now_seen, .ref q_now_events, .ref q_now_book])), (q_now_ground, .inr (2, [.int f_now_ground_a, .int f_now_ground_b, .int f_now_ground_x, .int f_now_ground_y]))]) (va_A [(q_this, .inr (8, [.ref q_now, .ref q_saved, .int f_imaged, .ref q_trial, .ref q_lowering, .ref q_counts, .ref q_expansion, .ref q_setUp, .ref q_tapes])), (q_now, .inr (6, [.ref q_now_ground, .ref q_now_notes, .ref q_now_seen, .ref q_now_events, .ref q_now_book])), (q_now_ground, .inr (2, [.int f_now_ground_a, .int f_now_ground_b, .int f_now_ground_x, .int f_now_ground_y]))] sz)) 0 0 (va_A [(q_this, .inr (8, [.ref q_now, .ref q_saved, .int f_imaged, .ref q_trial, .ref q_lowering, .ref q_counts, .ref q_expansion, .ref q_setUp, .ref q_tapes])), (q_now, .inr (6, [.ref q_now_ground, .ref q_now_notes, .ref q_now_seen, .ref q_now_events, .ref q_now_book])), (q_now_ground, .inr (2, [.int f_now_ground_a, .int f_now_ground_b, .int f_now_ground_x, .int f_now_ground_y]))] sz) := by
  refine Met.ofW (cc := cX8_coat) (maxL := 4) (ret := (some .int)) (by decide) rfl ?_
  intro p e s m args below meth c s₁ B hml hv
  obtain ⟨rfl, hsz, hP, hK, hD0, hN⟩ := hv
  have hx := B.exec
  have hb := B.bytes
  have hr := B.returns
  have htA : ∀ w ∈ AW, w.before _ s = true := fun w h => atoms_spec (ws := Cond.code yX8_coat cX8_coat 4 (some .int) :: AW) B.pre w (List.mem_cons_of_mem _ h)
  have hown : s.vm.findClass RX8 = some m.cls := findClass_of_methodNamed B.named
  have hlocks := B.notSynchronized
  subst hsz
  have hD := hD0.self (sz := s.heap.size)
  generalize hAe : va_A [(q_this, .inr (8, [.ref q_now, .ref q_saved, .int f_imaged, .ref q_trial, .ref q_lowering, .ref q_counts, .ref q_expansion, .ref q_setUp, .ref q_tapes])), (q_now, .inr (6, [.ref q_now_ground, .ref q_now_notes, .ref q_now_seen, .ref q_now_events, .ref q_now_book])), (q_now_ground, .inr (2, [.int f_now_ground_a, .int f_now_ground_b, .int f_now_ground_x, .int f_now_ground_y]))] s.heap.size = A at hD ⊢
  have hA : ∀ q : Nat, s.heap.size ≤ q → A q := fun q h => by rw [← hAe]; exact Or.inr h
  have hS : va_S A s.heap s.heap [] := va_S.rf
  have hl := lv_entry ([.ref q_this, .int p1, .int p2, .int p3]) (n := 4) (Nat.le_of_ble_eq_true rfl)
  rw [lg_entry_eq]
  generalize (lg_sl ([.ref q_this, .int p1, .int p2, .int p3]) ++ List.replicate (4 - (lg_sl ([.ref q_this, .int p1, .int p2, .int p3])).length) Slot.unset).toArray = ls at hl ⊢
  have hl : lv_has ls 4 [(0, .ref q_this), (1, .int p1), (2, .int p2), (3, .int p3)] := hl
  have hP : va_P G vwCl [(q_this, .inr (8, [.ref q_now, .ref q_saved, .int f_imaged, .ref q_trial, .ref q_lowering, .ref q_counts, .ref q_expansion, .ref q_setUp, .ref q_tapes])), (q_now, .inr (6, [.ref q_now_ground, .ref q_now_notes, .ref q_now_seen, .ref q_now_events, .ref q_now_book])), (q_now_ground, .inr (2, [.int f_now_ground_a, .int f_now_ground_b, .int f_now_ground_x, .int f_now_ground_y]))] s.heap := hP
  have hf : ((fX8_isIn p1 0 1).bind fun q3 => ((if q3 = 0 then some ((-1)) else (fX8_isPlace p2 p3).bind fun q13 => ((if q13 = 0 then some ((-2)) else (if p1 = 0 then (fX8_coatOf f_now_ground_a p2 p3).bind fun q38 => (some ((q38 + 10000))) else (fX8_coatOf f_now_ground_b p3 p2).bind fun q56 => (some ((q56 + 10000)))))))) : Option (Int32)) = some o := hf
  refine lv_iload_n hx hb dX8_coat_0 rfl (lv_at hl 1 rfl) ?_
  refine lv_iconst (v := 0) hx hb dX8_coat_1 (by decide) ?_
  refine lv_iconst (v := 1) hx hb dX8_coat_2 (by decide) ?_
  obtain ⟨q3, h3_29, hf⟩ := bd_s hf
  refine u_calliR (va_runS (As := [.int p1, .int 0, .int 1]) (rest := []) ⟨hx, hb, hml, hown, htA⟩ (kX8_isIn l G cy s.heap.size p1 0 1 h3_29) (u_cwS htA a_ml_X8_69 pk_X8_isIn ⟨Nat.le_of_ble_eq_true rfl, Nat.le_of_ble_eq_true rfl⟩) (u_preS hK hN hP hD [] rfl (by decide)) rfl rfl hl.1 rfl (lv_room (Nat.le_of_ble_eq_true rfl)) dX8_coat_3 ⟨Nat.zero_le _, Nat.zero_le _⟩) hP hD hS hA [] rfl (fun H locs hP hS => ?_)
  refine lv_if_ne (tgt := 11) hx hb dX8_coat_6 (by decide) (fun c_30 => ?_) (fun c_30 => ?_)
  · have hf := ite_f c_30 hf
    refine lv_iload_n hx hb dX8_coat_11 rfl (lv_at hl 2 rfl) ?_
    refine lv_iload_n hx hb dX8_coat_12 rfl (lv_at hl 3 rfl) ?_
    obtain ⟨q13, h13_31, hf⟩ := bd_s hf
    refine u_calliR (va_runS (As := [.int p2, .int p3]) (rest := []) ⟨hx, hb, hml, hown, htA⟩ (kX8_isPlace l G cy H.size p2 p3 h13_31) (u_cwS htA a_ml_X8_87 pk_X8_isPlace ⟨Nat.le_of_ble_eq_true rfl, Nat.le_of_ble_eq_true rfl⟩) (u_preS hK hN hP hD [] rfl (by decide)) rfl rfl hl.1 rfl (lv_room (Nat.le_of_ble_eq_true rfl)) dX8_coat_13 ⟨Nat.zero_le _, Nat.zero_le _⟩) hP hD hS hA [] rfl (fun H locs hP hS => ?_)
    refine lv_if_ne (tgt := 22) hx hb dX8_coat_16 (by decide) (fun c_32 => ?_) (fun c_32 => ?_)
    · have hf := ite_f c_32 hf
      refine lv_iload_n hx hb dX8_coat_22 rfl (lv_at hl 1 rfl) ?_
      refine lv_if_ne (tgt := 44) hx hb dX8_coat_23 (by decide) (fun c_33 => ?_) (fun c_33 => ?_)
      · have hf := ite_f c_33 hf
        refine lv_aload_n hx hb dX8_coat_44 rfl (lv_at hl 0 rfl) ?_
        refine va_get (D := G) (ci := 8) (v := .ref q_now) (C := RX8) (T := TX8) (N := 9) hx hb htA lyX8 hown hK hP 0 rfl rfl 0 (by decide) (htA _ a_fl_X8_14) (fun _ h9 => h9) rfl dX8_coat_45 ?_
        refine va_getN (D := G) (ci := 6) (v := .ref q_now_ground) (C := RX6) (T := TX6) (N := 5) hx hb htA lyX6 hown hK hP 1 rfl rfl 0 (by decide) (u_link hN (List.mem_of_getElem? (i := 6) rfl)) (fun _ h9 => h9) rfl dX8_coat_48 ?_
        refine va_getN (D := G) (ci := 2) (v := .int f_now_ground_b) (C := RX2) (T := TX2) (N := 4) hx hb htA lyX2 hown hK hP 2 rfl rfl 1 (by decide) (u_link hN (List.mem_of_getElem? (i := 3) rfl)) (fun _ h9 => h9) rfl dX8_coat_51 ?_
        refine lv_iload_n hx hb dX8_coat_54 rfl (lv_at hl 3 rfl) ?_
        refine lv_iload_n hx hb dX8_coat_55 rfl (lv_at hl 2 rfl) ?_
        obtain ⟨q56, h56_34, hf⟩ := bd_s hf
        refine u_calliR (va_runS (As := [.int f_now_ground_b, .int p3, .int p2]) (rest := []) ⟨hx, hb, hml, hown, htA⟩ (kX8_coatOf l G cy H.size f_now_ground_b p3 p2 h56_34) (u_cwS htA a_ml_X8_180 pk_X8_coatOf ⟨Nat.le_of_ble_eq_true rfl, Nat.le_of_ble_eq_true rfl⟩) (u_preS hK hN hP hD [] rfl (by decide)) rfl rfl hl.1 rfl (lv_room (Nat.le_of_ble_eq_true rfl)) dX8_coat_56 ⟨Nat.zero_le _, Nat.zero_le _⟩) hP hD hS hA [] rfl (fun H locs hP hS => ?_)
        refine lv_sipush (v := 10000) hx hb dX8_coat_59 (by decide) ?_
        refine lv_iadd hx hb dX8_coat_62 ?_
        have ho := Option.some.inj hf
        subst ho
        exact W.iret (v := (q56 + 10000)) hx hb hr (fun t ht hW => ⟨⟨_, (), rfl, rfl, by rw [ht]; exact hP, va_K.moved hW.alike hK, hD⟩, hS.F ht⟩) hS.2.2 dX8_coat_63
      · have hf := ite_t c_33 hf
        refine lv_aload_n hx hb dX8_coat_26 rfl (lv_at hl 0 rfl) ?_
        refine va_get (D := G) (ci := 8) (v := .ref q_now) (C := RX8) (T := TX8) (N := 9) hx hb htA lyX8 hown hK hP 0 rfl rfl 0 (by decide) (htA _ a_fl_X8_14) (fun _ h9 => h9) rfl dX8_coat_27 ?_
        refine va_getN (D := G) (ci := 6) (v := .ref q_now_ground) (C := RX6) (T := TX6) (N := 5) hx hb htA lyX6 hown hK hP 1 rfl rfl 0 (by decide) (u_link hN (List.mem_of_getElem? (i := 6) rfl)) (fun _ h9 => h9) rfl dX8_coat_30 ?_
        refine va_getN (D := G) (ci := 2) (v := .int f_now_ground_a) (C := RX2) (T := TX2) (N := 4) hx hb htA lyX2 hown hK hP 2 rfl rfl 0 (by decide) (u_link hN (List.mem_of_getElem? (i := 2) rfl)) (fun _ h9 => h9) rfl dX8_coat_33 ?_
        refine lv_iload_n hx hb dX8_coat_36 rfl (lv_at hl 2 rfl) ?_
        refine lv_iload_n hx hb dX8_coat_37 rfl (lv_at hl 3 rfl) ?_
        obtain ⟨q38, h38_35, hf⟩ := bd_s hf
        refine u_calliR (va_runS (As := [.int f_now_ground_a, .int p2, .int p3]) (rest := []) ⟨hx, hb, hml, hown, htA⟩ (kX8_coatOf l G cy H.size f_now_ground_a p2 p3 h38_35) (u_cwS htA a_ml_X8_180 pk_X8_coatOf ⟨Nat.le_of_ble_eq_true rfl, Nat.le_of_ble_eq_true rfl⟩) (u_preS hK hN hP hD [] rfl (by decide)) rfl rfl hl.1 rfl (lv_room (Nat.le_of_ble_eq_true rfl)) dX8_coat_38 ⟨Nat.zero_le _, Nat.zero_le _⟩) hP hD hS hA [] rfl (fun H locs hP hS => ?_)
        refine lv_goto (tgt := 59) hx hb dX8_coat_41 (by decide) ?_
        refine lv_sipush (v := 10000) hx hb dX8_coat_59 (by decide) ?_
        refine lv_iadd hx hb dX8_coat_62 ?_
        have ho := Option.some.inj hf
        subst ho
        exact W.iret (v := (q38 + 10000)) hx hb hr (fun t ht hW => ⟨⟨_, (), rfl, rfl, by rw [ht]; exact hP, va_K.moved hW.alike hK, hD⟩, hS.F ht⟩) hS.2.2 dX8_coat_63
    · have hf := ite_t c_32 hf
      refine lv_bipush (v := (-2)) hx hb dX8_coat_19 (by decide) ?_
      have ho := Option.some.inj hf
      subst ho
      exact W.iret (v := (-2)) hx hb hr (fun t ht hW => ⟨⟨_, (), rfl, rfl, by rw [ht]; exact hP, va_K.moved hW.alike hK, hD⟩, hS.F ht⟩) hS.2.2 dX8_coat_21
  · have hf := ite_t c_30 hf
    refine lv_iconst (v := (-1)) hx hb dX8_coat_9 (by decide) ?_
    have ho := Option.some.inj hf
    subst ho
    exact W.iret (v := (-1)) hx hb hr (fun t ht hW => ⟨⟨_, (), rfl, rfl, by rw [ht]; exact hP, va_K.moved hW.alike hK, hD⟩, hS.F ht⟩) hS.2.2 dX8_coat_10
set_option maxRecDepth 100000 in
set_option maxHeartbeats 4000000 in
theorem kX8_sort (l : Launch) (G : va_G) (cy : Nat → ClassId) (q_this : Nat) (q_now : Nat) (q_saved : Nat) (q_trial : Nat) (q_lowering : Nat) (q_counts : Nat) (q_expansion : Nat) (q_setUp : Nat) (q_tapes : Nat) (q_now_ground : Nat) (q_now_notes : Nat) (q_now_seen : Nat) (q_now_events : Nat) (q_now_book : Nat) (sz : Nat) (f_imaged : Int32) (f_now_ground_a : Int32) (f_now_ground_b : Int32) (f_now_ground_x : Int32) (f_now_ground_y : Int32) (f_lowering_x : Int32) (f_lowering_y : Int32) (f_lowering_steps : Int32) (f_lowering_metLetter : Int32) (p1 : Int32) (p2 : Int32) (n : Nat) {o : Int32 × Int32 × Int32 × Int32 × Int32} (hf : fX8_sort n p1 p2 f_now_ground_a f_now_ground_b f_lowering_x f_lowering_y f_lowering_steps f_lowering_metLetter = some o) : Met l yX8_sort (Cond.code yX8_sort cX8_sort 3 (some .int) :: AW) ({ frames := 4, cells := 0, slots := 0, locals := 92 } : Room) (va_Pc [.ref q_this, .int p1, .int p2] (Wp G cy [(q_this, .inr (8, [.ref q_now, .ref q_saved, .int f_imaged, .ref q_trial, .ref q_lowering, .ref q_counts, .ref q_expansion, .ref q_setUp, .ref q_tapes])), (q_now, .inr (6, [.ref q_now_ground, .ref q_now_notes, .ref q_now_seen, .ref q_now_events, .ref q_now_book])), (q_now_ground, .inr (2, [.int f_now_ground_a, .int f_now_ground_b, .int f_now_ground_x, .int f_now_ground_y])), (q_lowering, .inr (3, [.int f_lowering_x, .int f_lowering_y, .int f_lowering_steps, .int f_lowering_metLetter]))] sz)) (va_Qi (fun r (_ : Unit) => r = o.1) (fun _ => Wq G cy (va_A [(q_this, .inr (8, [.ref q_now, .ref q_saved, .int f_imaged, .ref q_trial, .ref q_lowering, .ref q_counts, .ref q_expansion, .ref q_setUp, .ref q_tapes])), (q_now, .inr (6, [.ref q_now_ground, .ref q_now_notes, .ref q_now_seen, .ref q_now_events, .ref q_now_book])), (q_now_ground, .inr (2, [.int f_now_ground_a, .int f_now_ground_b, .int f_now_ground_x, .int f_now_ground_y])), (q_lowering, .inr (3, [.int f_lowering_x, .int f_lowering_y, .int f_lowering_steps, .int f_lowering_metLetter]))] sz) [(q_this, .inr (8, [.ref q_now, .ref q_saved, .int f_imaged, .ref q_trial, .ref q_lowering, .ref q_counts, .ref q_expansion, .ref q_setUp, .ref q_tapes])), (q_now, .inr (6, [.ref q_now_ground, .ref q_now_notes, .ref q_now_seen, .ref q_now_events, .ref q_now_book])), (q_now_ground, .inr (2, [.int f_now_ground_a, .int f_now_ground_b, .int f_now_ground_x, .int f_now_ground_y])), (q_lowering, .inr (3, [.int o.2.1, .int o.2.2.1, .int o.2.2.2.1, .int o.2.2.2.2]))]) (va_A [(q_this, .inr (8, [.ref q_now, .ref q_saved, .int f_imaged, .ref q_trial, .ref q_lowering, .ref q_counts, .ref q_expansion, .ref q_setUp, .ref q_tapes])), (q_now, .inr (6, [.ref q_now_ground, .ref q_now_notes, .ref q_now_seen, .ref q_now_events, .ref q_now_book])), (q_now_ground, .inr (2, [.int f_now_ground_a, .int f_now_ground_b, .int f_now_ground_x, .int f_now_ground_y])), (q_lowering, .inr (3, [.int f_lowering_x, .int f_lowering_y, .int f_lowering_steps, .int f_lowering_metLetter]))] sz)) 0 0 (va_A [(q_this, .inr (8, [.ref q_now, .ref q_saved, .int f_imaged, .ref q_trial, .ref q_lowering, .ref q_counts, .ref q_expansion, .ref q_setUp, .ref q_tapes])), (q_now, .inr (6, [.ref q_now_ground, .ref q_now_notes, .ref q_now_seen, .ref q_now_events, .ref q_now_book])), (q_now_ground, .inr (2, [.int f_now_ground_a, .int f_now_ground_b, .int f_now_ground_x, .int f_now_ground_y])), (q_lowering, .inr (3, [.int f_lowering_x, .int f_lowering_y, .int f_lowering_steps, .int f_lowering_metLetter]))] sz) := by
  refine Met.ofW (cc := cX8_sort) (maxL := 3) (ret := (some .int)) (by decide) rfl ?_
  intro p e s m args below meth c s₁ B hml hv
  obtain ⟨rfl, hsz, hP, hK, hD0, hN⟩ := hv
  have hx := B.exec
  have hb := B.bytes
  have hr := B.returns
  have htA : ∀ w ∈ AW, w.before _ s = true := fun w h => atoms_spec (ws := Cond.code yX8_sort cX8_sort 3 (some .int) :: AW) B.pre w (List.mem_cons_of_mem _ h)
  have hown : s.vm.findClass RX8 = some m.cls := findClass_of_methodNamed B.named
  have hlocks := B.notSynchronized
  subst hsz
  have hD := hD0.self (sz := s.heap.size)
  generalize hAe : va_A [(q_this, .inr (8, [.ref q_now, .ref q_saved, .int f_imaged, .ref q_trial, .ref q_lowering, .ref q_counts, .ref q_expansion, .ref q_setUp, .ref q_tapes])), (q_now, .inr (6, [.ref q_now_ground, .ref q_now_notes, .ref q_now_seen, .ref q_now_events, .ref q_now_book])), (q_now_ground, .inr (2, [.int f_now_ground_a, .int f_now_ground_b, .int f_now_ground_x, .int f_now_ground_y])), (q_lowering, .inr (3, [.int f_lowering_x, .int f_lowering_y, .int f_lowering_steps, .int f_lowering_metLetter]))] s.heap.size = A at hD ⊢
  have hA : ∀ q : Nat, s.heap.size ≤ q → A q := fun q h => by rw [← hAe]; exact Or.inr h
  have hS : va_S A s.heap s.heap [] := va_S.rf
  have hl := lv_entry ([.ref q_this, .int p1, .int p2]) (n := 3) (Nat.le_of_ble_eq_true rfl)
  rw [lg_entry_eq]
  generalize (lg_sl ([.ref q_this, .int p1, .int p2]) ++ List.replicate (3 - (lg_sl ([.ref q_this, .int p1, .int p2])).length) Slot.unset).toArray = ls at hl ⊢
  have hl : lv_has ls 3 [(0, .ref q_this), (1, .int p1), (2, .int p2)] := hl
  have hP : va_P G vwCl [(q_this, .inr (8, [.ref q_now, .ref q_saved, .int f_imaged, .ref q_trial, .ref q_lowering, .ref q_counts, .ref q_expansion, .ref q_setUp, .ref q_tapes])), (q_now, .inr (6, [.ref q_now_ground, .ref q_now_notes, .ref q_now_seen, .ref q_now_events, .ref q_now_book])), (q_now_ground, .inr (2, [.int f_now_ground_a, .int f_now_ground_b, .int f_now_ground_x, .int f_now_ground_y])), (q_lowering, .inr (3, [.int f_lowering_x, .int f_lowering_y, .int f_lowering_steps, .int f_lowering_metLetter]))] s.heap := hP
  have hf : ((fX8_isPlace p1 p2).bind fun q2 => ((if q2 = 0 then some ((-2), f_lowering_x, f_lowering_y, f_lowering_steps, f_lowering_metLetter) else (fX8_sortNow n p1 p2 f_now_ground_a f_now_ground_b f_lowering_x f_lowering_y f_lowering_steps f_lowering_metLetter).bind fun q14 => (some (q14.1, q14.2.1, q14.2.2.1, q14.2.2.2.1, q14.2.2.2.2)))) : Option (Int32 × Int32 × Int32 × Int32 × Int32)) = some o := hf
  refine lv_iload_n hx hb dX8_sort_0 rfl (lv_at hl 1 rfl) ?_
  refine lv_iload_n hx hb dX8_sort_1 rfl (lv_at hl 2 rfl) ?_
  obtain ⟨q2, h2_13, hf⟩ := bd_s hf
  refine u_calliR (va_runS (As := [.int p1, .int p2]) (rest := []) ⟨hx, hb, hml, hown, htA⟩ (kX8_isPlace l G cy s.heap.size p1 p2 h2_13) (u_cwS htA a_ml_X8_87 pk_X8_isPlace ⟨Nat.le_of_ble_eq_true rfl, Nat.le_of_ble_eq_true rfl⟩) (u_preS hK hN hP hD [] rfl (by decide)) rfl rfl hl.1 rfl (lv_room (Nat.le_of_ble_eq_true rfl)) dX8_sort_2 ⟨Nat.zero_le _, Nat.zero_le _⟩) hP hD hS hA [] rfl (fun H locs hP hS => ?_)
  refine lv_if_ne (tgt := 11) hx hb dX8_sort_5 (by decide) (fun c_14 => ?_) (fun c_14 => ?_)
  · have hf := ite_f c_14 hf
    refine lv_aload_n hx hb dX8_sort_11 rfl (lv_at hl 0 rfl) ?_
    refine lv_iload_n hx hb dX8_sort_12 rfl (lv_at hl 1 rfl) ?_
    refine lv_iload_n hx hb dX8_sort_13 rfl (lv_at hl 2 rfl) ?_
    obtain ⟨q14, h14_15, hf⟩ := bd_s hf
    refine u_calli [(q_this, .inr (8, [.ref q_now, .ref q_saved, .int f_imaged, .ref q_trial, .ref q_lowering, .ref q_counts, .ref q_expansion, .ref q_setUp, .ref q_tapes])), (q_now, .inr (6, [.ref q_now_ground, .ref q_now_notes, .ref q_now_seen, .ref q_now_events, .ref q_now_book])), (q_now_ground, .inr (2, [.int f_now_ground_a, .int f_now_ground_b, .int f_now_ground_x, .int f_now_ground_y])), (q_lowering, .inr (3, [.int q14.2.1, .int q14.2.2.1, .int q14.2.2.2.1, .int q14.2.2.2.2]))] (va_runV (As := [.int p1, .int p2]) (rest := []) ⟨hx, hb, hml, hown, htA⟩ (kX8_sortNow l G cy q_this q_now q_saved q_trial q_lowering q_counts q_expansion q_setUp q_tapes q_now_ground q_now_notes q_now_seen q_now_events q_now_book H.size f_imaged f_now_ground_a f_now_ground_b f_now_ground_x f_now_ground_y f_lowering_x f_lowering_y f_lowering_steps f_lowering_metLetter p1 p2 n h14_15) (u_cwV htA a_ml_X8_97 pk_X8_sortNow ⟨Nat.le_of_ble_eq_true rfl, Nat.le_of_ble_eq_true rfl⟩) (u_preV hK hN hP hD [0, 1, 2, 3] rfl (by decide) 0 rfl rfl) rfl rfl hl.1 rfl (lv_room (Nat.le_of_ble_eq_true rfl)) dX8_sort_14 ⟨Nat.zero_le _, Nat.zero_le _⟩) hP hD hS hA [0, 1, 2, 3] rfl [] 4 rfl rfl rfl (by decide) rfl (fun H locs hP hD hS => ?_)
    have ho := Option.some.inj hf
    subst ho
    exact W.iret (v := q14.1) hx hb hr (fun t ht hW => ⟨⟨_, (), rfl, rfl, by rw [ht]; exact hP, va_K.moved hW.alike hK, hD⟩, hS.F ht⟩) hS.2.2 dX8_sort_17
  · have hf := ite_t c_14 hf
    refine lv_bipush (v := (-2)) hx hb dX8_sort_8 (by decide) ?_
    have ho := Option.some.inj hf
    subst ho
    exact W.iret (v := (-2)) hx hb hr (fun t ht hW => ⟨⟨_, (), rfl, rfl, by rw [ht]; exact hP, va_K.moved hW.alike hK, hD⟩, hS.F ht⟩) hS.2.2 dX8_sort_10
set_option maxRecDepth 100000 in
set_option maxHeartbeats 4000000 in
theorem kX8_lowered (l : Launch) (G : va_G) (cy : Nat → ClassId) (q_this : Nat) (q_now : Nat) (q_saved : Nat) (q_trial : Nat) (q_lowering : Nat) (q_counts : Nat) (q_expansion : Nat) (q_setUp : Nat) (q_tapes : Nat) (q_now_ground : Nat) (q_now_notes : Nat) (q_now_seen : Nat) (q_now_events : Nat) (q_now_book : Nat) (sz : Nat) (f_imaged : Int32) (f_now_ground_a : Int32) (f_now_ground_b : Int32) (f_now_ground_x : Int32) (f_now_ground_y : Int32) (f_lowering_x : Int32) (f_lowering_y : Int32) (f_lowering_steps : Int32) (f_lowering_metLetter : Int32) (p1 : Int32) (p2 : Int32) (p3 : Int32) (n : Nat) {o : Int32 × Int32 × Int32 × Int32 × Int32} (hf : fX8_lowered n p1 p2 p3 f_now_ground_a f_now_ground_b f_lowering_x f_lowering_y f_lowering_steps f_lowering_metLetter = some o) : Met l yX8_lowered (Cond.code yX8_lowered cX8_lowered 4 (some .int) :: AW) ({ frames := 2, cells := 0, slots := 0, locals := 46 } : Room) (va_Pc [.ref q_this, .int p1, .int p2, .int p3] (Wp G cy [(q_this, .inr (8, [.ref q_now, .ref q_saved, .int f_imaged, .ref q_trial, .ref q_lowering, .ref q_counts, .ref q_expansion, .ref q_setUp, .ref q_tapes])), (q_now, .inr (6, [.ref q_now_ground, .ref q_now_notes, .ref q_now_seen, .ref q_now_events, .ref q_now_book])), (q_now_ground, .inr (2, [.int f_now_ground_a, .int f_now_ground_b, .int f_now_ground_x, .int f_now_ground_y])), (q_lowering, .inr (3, [.int f_lowering_x, .int f_lowering_y, .int f_lowering_steps, .int f_lowering_metLetter]))] sz)) (va_Qi (fun r (_ : Unit) => r = o.1) (fun _ => Wq G cy (va_A [(q_this, .inr (8, [.ref q_now, .ref q_saved, .int f_imaged, .ref q_trial, .ref q_lowering, .ref q_counts, .ref q_expansion, .ref q_setUp, .ref q_tapes])), (q_now, .inr (6, [.ref q_now_ground, .ref q_now_notes, .ref q_now_seen, .ref q_now_events, .ref q_now_book])), (q_now_ground, .inr (2, [.int f_now_ground_a, .int f_now_ground_b, .int f_now_ground_x, .int f_now_ground_y])), (q_lowering, .inr (3, [.int f_lowering_x, .int f_lowering_y, .int f_lowering_steps, .int f_lowering_metLetter]))] sz) [(q_this, .inr (8, [.ref q_now, .ref q_saved, .int f_imaged, .ref q_trial, .ref q_lowering, .ref q_counts, .ref q_expansion, .ref q_setUp, .ref q_tapes])), (q_now, .inr (6, [.ref q_now_ground, .ref q_now_notes, .ref q_now_seen, .ref q_now_events, .ref q_now_book])), (q_now_ground, .inr (2, [.int f_now_ground_a, .int f_now_ground_b, .int f_now_ground_x, .int f_now_ground_y])), (q_lowering, .inr (3, [.int o.2.1, .int o.2.2.1, .int o.2.2.2.1, .int o.2.2.2.2]))]) (va_A [(q_this, .inr (8, [.ref q_now, .ref q_saved, .int f_imaged, .ref q_trial, .ref q_lowering, .ref q_counts, .ref q_expansion, .ref q_setUp, .ref q_tapes])), (q_now, .inr (6, [.ref q_now_ground, .ref q_now_notes, .ref q_now_seen, .ref q_now_events, .ref q_now_book])), (q_now_ground, .inr (2, [.int f_now_ground_a, .int f_now_ground_b, .int f_now_ground_x, .int f_now_ground_y])), (q_lowering, .inr (3, [.int f_lowering_x, .int f_lowering_y, .int f_lowering_steps, .int f_lowering_metLetter]))] sz)) 0 0 (va_A [(q_this, .inr (8, [.ref q_now, .ref q_saved, .int f_imaged, .ref q_trial, .ref q_lowering, .ref q_counts, .ref q_expansion, .ref q_setUp, .ref q_tapes])), (q_now, .inr (6, [.ref q_now_ground, .ref q_now_notes, .ref q_now_seen, .ref q_now_events, .ref q_now_book])), (q_now_ground, .inr (2, [.int f_now_ground_a, .int f_now_ground_b, .int f_now_ground_x, .int f_now_ground_y])), (q_lowering, .inr (3, [.int f_lowering_x, .int f_lowering_y, .int f_lowering_steps, .int f_lowering_metLetter]))] sz) := by
  refine Met.ofW (cc := cX8_lowered) (maxL := 4) (ret := (some .int)) (by decide) rfl ?_
  intro p e s m args below meth c s₁ B hml hv
  obtain ⟨rfl, hsz, hP, hK, hD0, hN⟩ := hv
  have hx := B.exec
  have hb := B.bytes
  have hr := B.returns
  have htA : ∀ w ∈ AW, w.before _ s = true := fun w h => atoms_spec (ws := Cond.code yX8_lowered cX8_lowered 4 (some .int) :: AW) B.pre w (List.mem_cons_of_mem _ h)
  have hown : s.vm.findClass RX8 = some m.cls := findClass_of_methodNamed B.named
  have hlocks := B.notSynchronized
  subst hsz
  have hD := hD0.self (sz := s.heap.size)
  generalize hAe : va_A [(q_this, .inr (8, [.ref q_now, .ref q_saved, .int f_imaged, .ref q_trial, .ref q_lowering, .ref q_counts, .ref q_expansion, .ref q_setUp, .ref q_tapes])), (q_now, .inr (6, [.ref q_now_ground, .ref q_now_notes, .ref q_now_seen, .ref q_now_events, .ref q_now_book])), (q_now_ground, .inr (2, [.int f_now_ground_a, .int f_now_ground_b, .int f_now_ground_x, .int f_now_ground_y])), (q_lowering, .inr (3, [.int f_lowering_x, .int f_lowering_y, .int f_lowering_steps, .int f_lowering_metLetter]))] s.heap.size = A at hD ⊢
  have hA : ∀ q : Nat, s.heap.size ≤ q → A q := fun q h => by rw [← hAe]; exact Or.inr h
  have hS : va_S A s.heap s.heap [] := va_S.rf
  have hl := lv_entry ([.ref q_this, .int p1, .int p2, .int p3]) (n := 4) (Nat.le_of_ble_eq_true rfl)
  rw [lg_entry_eq]
  generalize (lg_sl ([.ref q_this, .int p1, .int p2, .int p3]) ++ List.replicate (4 - (lg_sl ([.ref q_this, .int p1, .int p2, .int p3])).length) Slot.unset).toArray = ls at hl ⊢
  have hl : lv_has ls 4 [(0, .ref q_this), (1, .int p1), (2, .int p2), (3, .int p3)] := hl
  have hP : va_P G vwCl [(q_this, .inr (8, [.ref q_now, .ref q_saved, .int f_imaged, .ref q_trial, .ref q_lowering, .ref q_counts, .ref q_expansion, .ref q_setUp, .ref q_tapes])), (q_now, .inr (6, [.ref q_now_ground, .ref q_now_notes, .ref q_now_seen, .ref q_now_events, .ref q_now_book])), (q_now_ground, .inr (2, [.int f_now_ground_a, .int f_now_ground_b, .int f_now_ground_x, .int f_now_ground_y])), (q_lowering, .inr (3, [.int f_lowering_x, .int f_lowering_y, .int f_lowering_steps, .int f_lowering_metLetter]))] s.heap := hP
  have hf : ((fX8_isIn p1 0 999).bind fun q5 => ((if q5 = 0 then some ((-2), f_lowering_x, f_lowering_y, f_lowering_steps, f_lowering_metLetter) else (fX8_isIn p2 0 999).bind fun q16 => ((if q16 = 0 then some ((-2), f_lowering_x, f_lowering_y, f_lowering_steps, f_lowering_metLetter) else (fX8_isIn p3 0 2).bind fun q28 => ((if q28 = 0 then some ((-1), f_lowering_x, f_lowering_y, f_lowering_steps, f_lowering_metLetter) else (fX3_lower n f_now_ground_a f_now_ground_b p1 p2 f_lowering_x f_lowering_y f_lowering_steps f_lowering_metLetter).bind fun q62 => ((if p3 = 2 then some (q62.2.2.1, q62.1, q62.2.1, q62.2.2.1, q62.2.2.2) else (if p3 = 0 then some ((q62.1 + 1000), q62.1, q62.2.1, q62.2.2.1, q62.2.2.2) else some ((q62.2.1 + 1000), q62.1, q62.2.1, q62.2.2.1, q62.2.2.2)))))))))) : Option (Int32 × Int32 × Int32 × Int32 × Int32)) = some o := hf
  refine lv_iload_n hx hb dX8_lowered_0 rfl (lv_at hl 1 rfl) ?_
  refine lv_iconst (v := 0) hx hb dX8_lowered_1 (by decide) ?_
  refine lv_sipush (v := 999) hx hb dX8_lowered_2 (by decide) ?_
  obtain ⟨q5, h5_37, hf⟩ := bd_s hf
  refine u_calliR (va_runS (As := [.int p1, .int 0, .int 999]) (rest := []) ⟨hx, hb, hml, hown, htA⟩ (kX8_isIn l G cy s.heap.size p1 0 999 h5_37) (u_cwS htA a_ml_X8_69 pk_X8_isIn ⟨Nat.le_of_ble_eq_true rfl, Nat.le_of_ble_eq_true rfl⟩) (u_preS hK hN hP hD [] rfl (by decide)) rfl rfl hl.1 rfl (lv_room (Nat.le_of_ble_eq_true rfl)) dX8_lowered_5 ⟨Nat.zero_le _, Nat.zero_le _⟩) hP hD hS hA [] rfl (fun H locs hP hS => ?_)
  refine lv_if_eq (tgt := 22) hx hb dX8_lowered_8 (by decide) (fun c_38 => ?_) (fun c_38 => ?_)
  · have hf := ite_t c_38 hf
    refine lv_bipush (v := (-2)) hx hb dX8_lowered_22 (by decide) ?_
    have ho := Option.some.inj hf
    subst ho
    exact W.iret (v := (-2)) hx hb hr (fun t ht hW => ⟨⟨_, (), rfl, rfl, by rw [ht]; exact hP, va_K.moved hW.alike hK, hD⟩, hS.F ht⟩) hS.2.2 dX8_lowered_24
  · have hf := ite_f c_38 hf
    refine lv_iload_n hx hb dX8_lowered_11 rfl (lv_at hl 2 rfl) ?_
    refine lv_iconst (v := 0) hx hb dX8_lowered_12 (by decide) ?_
    refine lv_sipush (v := 999) hx hb dX8_lowered_13 (by decide) ?_
    obtain ⟨q16, h16_39, hf⟩ := bd_s hf
    refine u_calliR (va_runS (As := [.int p2, .int 0, .int 999]) (rest := []) ⟨hx, hb, hml, hown, htA⟩ (kX8_isIn l G cy H.size p2 0 999 h16_39) (u_cwS htA a_ml_X8_69 pk_X8_isIn ⟨Nat.le_of_ble_eq_true rfl, Nat.le_of_ble_eq_true rfl⟩) (u_preS hK hN hP hD [] rfl (by decide)) rfl rfl hl.1 rfl (lv_room (Nat.le_of_ble_eq_true rfl)) dX8_lowered_16 ⟨Nat.zero_le _, Nat.zero_le _⟩) hP hD hS hA [] rfl (fun H locs hP hS => ?_)
    refine lv_if_ne (tgt := 25) hx hb dX8_lowered_19 (by decide) (fun c_40 => ?_) (fun c_40 => ?_)
    · have hf := ite_f c_40 hf
      refine lv_iload_n hx hb dX8_lowered_25 rfl (lv_at hl 3 rfl) ?_
      refine lv_iconst (v := 0) hx hb dX8_lowered_26 (by decide) ?_
      refine lv_iconst (v := 2) hx hb dX8_lowered_27 (by decide) ?_
      obtain ⟨q28, h28_41, hf⟩ := bd_s hf
      refine u_calliR (va_runS (As := [.int p3, .int 0, .int 2]) (rest := []) ⟨hx, hb, hml, hown, htA⟩ (kX8_isIn l G cy H.size p3 0 2 h28_41) (u_cwS htA a_ml_X8_69 pk_X8_isIn ⟨Nat.le_of_ble_eq_true rfl, Nat.le_of_ble_eq_true rfl⟩) (u_preS hK hN hP hD [] rfl (by decide)) rfl rfl hl.1 rfl (lv_room (Nat.le_of_ble_eq_true rfl)) dX8_lowered_28 ⟨Nat.zero_le _, Nat.zero_le _⟩) hP hD hS hA [] rfl (fun H locs hP hS => ?_)
      refine lv_if_ne (tgt := 36) hx hb dX8_lowered_31 (by decide) (fun c_42 => ?_) (fun c_42 => ?_)
      · have hf := ite_f c_42 hf
        refine lv_aload_n hx hb dX8_lowered_36 rfl (lv_at hl 0 rfl) ?_
        refine va_get (D := G) (ci := 8) (v := .ref q_lowering) (C := RX8) (T := TX8) (N := 9) hx hb htA lyX8 hown hK hP 0 rfl rfl 4 (by decide) (htA _ a_fl_X8_35) (fun _ h9 => h9) rfl dX8_lowered_37 ?_
        refine lv_aload_n hx hb dX8_lowered_40 rfl (lv_at hl 0 rfl) ?_
        refine va_get (D := G) (ci := 8) (v := .ref q_now) (C := RX8) (T := TX8) (N := 9) hx hb htA lyX8 hown hK hP 0 rfl rfl 0 (by decide) (htA _ a_fl_X8_14) (fun _ h9 => h9) rfl dX8_lowered_41 ?_
        refine va_getN (D := G) (ci := 6) (v := .ref q_now_ground) (C := RX6) (T := TX6) (N := 5) hx hb htA lyX6 hown hK hP 1 rfl rfl 0 (by decide) (u_link hN (List.mem_of_getElem? (i := 6) rfl)) (fun _ h9 => h9) rfl dX8_lowered_44 ?_
        refine va_getN (D := G) (ci := 2) (v := .int f_now_ground_a) (C := RX2) (T := TX2) (N := 4) hx hb htA lyX2 hown hK hP 2 rfl rfl 0 (by decide) (u_link hN (List.mem_of_getElem? (i := 2) rfl)) (fun _ h9 => h9) rfl dX8_lowered_47 ?_
        refine lv_aload_n hx hb dX8_lowered_50 rfl (lv_at hl 0 rfl) ?_
        refine va_get (D := G) (ci := 8) (v := .ref q_now) (C := RX8) (T := TX8) (N := 9) hx hb htA lyX8 hown hK hP 0 rfl rfl 0 (by decide) (htA _ a_fl_X8_14) (fun _ h9 => h9) rfl dX8_lowered_51 ?_
        refine va_getN (D := G) (ci := 6) (v := .ref q_now_ground) (C := RX6) (T := TX6) (N := 5) hx hb htA lyX6 hown hK hP 1 rfl rfl 0 (by decide) (u_link hN (List.mem_of_getElem? (i := 6) rfl)) (fun _ h9 => h9) rfl dX8_lowered_54 ?_
        refine va_getN (D := G) (ci := 2) (v := .int f_now_ground_b) (C := RX2) (T := TX2) (N := 4) hx hb htA lyX2 hown hK hP 2 rfl rfl 1 (by decide) (u_link hN (List.mem_of_getElem? (i := 3) rfl)) (fun _ h9 => h9) rfl dX8_lowered_57 ?_
        refine lv_iload_n hx hb dX8_lowered_60 rfl (lv_at hl 1 rfl) ?_
        refine lv_iload_n hx hb dX8_lowered_61 rfl (lv_at hl 2 rfl) ?_
        obtain ⟨q62, h62_43, hf⟩ := bd_s hf
        refine u_callv [(q_this, .inr (8, [.ref q_now, .ref q_saved, .int f_imaged, .ref q_trial, .ref q_lowering, .ref q_counts, .ref q_expansion, .ref q_setUp, .ref q_tapes])), (q_now, .inr (6, [.ref q_now_ground, .ref q_now_notes, .ref q_now_seen, .ref q_now_events, .ref q_now_book])), (q_now_ground, .inr (2, [.int f_now_ground_a, .int f_now_ground_b, .int f_now_ground_x, .int f_now_ground_y])), (q_lowering, .inr (3, [.int q62.1, .int q62.2.1, .int q62.2.2.1, .int q62.2.2.2]))] (va_runV (As := [.int f_now_ground_a, .int f_now_ground_b, .int p1, .int p2]) (rest := []) ⟨hx, hb, hml, hown, htA⟩ (kX3_lower l G cy q_lowering H.size f_lowering_x f_lowering_y f_lowering_steps f_lowering_metLetter f_now_ground_a f_now_ground_b p1 p2 n h62_43) (u_cwV htA a_ml_X8_183 pk_X3_lower ⟨Nat.le_of_ble_eq_true rfl, Nat.le_of_ble_eq_true rfl⟩) (u_preV hK hN hP hD [3] rfl (by decide) 3 rfl rfl) rfl rfl hl.1 rfl (lv_room (Nat.le_of_ble_eq_true rfl)) dX8_lowered_62 ⟨Nat.zero_le _, Nat.zero_le _⟩) hP hD hS hA [3] rfl [0, 1, 2] 4 rfl rfl rfl (by decide) rfl (fun H locs hP hD hS => ?_)
        refine lv_iload_n hx hb dX8_lowered_65 rfl (lv_at hl 3 rfl) ?_
        refine lv_iconst (v := 2) hx hb dX8_lowered_66 (by decide) ?_
        refine lv_icmp_ne (tgt := 78) hx hb dX8_lowered_67 (by decide) (fun c_44 => ?_) (fun c_44 => ?_)
        · have hf := ite_f c_44 hf
          refine lv_iload_n hx hb dX8_lowered_78 rfl (lv_at hl 3 rfl) ?_
          refine lv_if_ne (tgt := 92) hx hb dX8_lowered_79 (by decide) (fun c_45 => ?_) (fun c_45 => ?_)
          · have hf := ite_f c_45 hf
            refine lv_aload_n hx hb dX8_lowered_92 rfl (lv_at hl 0 rfl) ?_
            refine va_get (D := G) (ci := 8) (v := .ref q_lowering) (C := RX8) (T := TX8) (N := 9) hx hb htA lyX8 hown hK hP 0 rfl rfl 4 (by decide) (htA _ a_fl_X8_35) (fun _ h9 => h9) rfl dX8_lowered_93 ?_
            refine va_getN (D := G) (ci := 3) (v := .int q62.2.1) (C := RX3) (T := TX3) (N := 4) hx hb htA lyX3 hown hK hP 3 rfl rfl 1 (by decide) (u_link hN (List.mem_of_getElem? (i := 14) rfl)) (fun _ h9 => h9) rfl dX8_lowered_96 ?_
            refine lv_sipush (v := 1000) hx hb dX8_lowered_99 (by decide) ?_
            refine lv_iadd hx hb dX8_lowered_102 ?_
            have ho := Option.some.inj hf
            subst ho
            exact W.iret (v := (q62.2.1 + 1000)) hx hb hr (fun t ht hW => ⟨⟨_, (), rfl, rfl, by rw [ht]; exact hP, va_K.moved hW.alike hK, hD⟩, hS.F ht⟩) hS.2.2 dX8_lowered_103
          · have hf := ite_t c_45 hf
            refine lv_aload_n hx hb dX8_lowered_82 rfl (lv_at hl 0 rfl) ?_
            refine va_get (D := G) (ci := 8) (v := .ref q_lowering) (C := RX8) (T := TX8) (N := 9) hx hb htA lyX8 hown hK hP 0 rfl rfl 4 (by decide) (htA _ a_fl_X8_35) (fun _ h9 => h9) rfl dX8_lowered_83 ?_
            refine va_getN (D := G) (ci := 3) (v := .int q62.1) (C := RX3) (T := TX3) (N := 4) hx hb htA lyX3 hown hK hP 3 rfl rfl 0 (by decide) (u_link hN (List.mem_of_getElem? (i := 13) rfl)) (fun _ h9 => h9) rfl dX8_lowered_86 ?_
            refine lv_goto (tgt := 99) hx hb dX8_lowered_89 (by decide) ?_
            refine lv_sipush (v := 1000) hx hb dX8_lowered_99 (by decide) ?_
            refine lv_iadd hx hb dX8_lowered_102 ?_
            have ho := Option.some.inj hf
            subst ho
            exact W.iret (v := (q62.1 + 1000)) hx hb hr (fun t ht hW => ⟨⟨_, (), rfl, rfl, by rw [ht]; exact hP, va_K.moved hW.alike hK, hD⟩, hS.F ht⟩) hS.2.2 dX8_lowered_103
        · have hf := ite_t c_44 hf
          refine lv_aload_n hx hb dX8_lowered_70 rfl (lv_at hl 0 rfl) ?_
          refine va_get (D := G) (ci := 8) (v := .ref q_lowering) (C := RX8) (T := TX8) (N := 9) hx hb htA lyX8 hown hK hP 0 rfl rfl 4 (by decide) (htA _ a_fl_X8_35) (fun _ h9 => h9) rfl dX8_lowered_71 ?_
          refine va_getN (D := G) (ci := 3) (v := .int q62.2.2.1) (C := RX3) (T := TX3) (N := 4) hx hb htA lyX3 hown hK hP 3 rfl rfl 2 (by decide) (u_link hN (List.mem_of_getElem? (i := 15) rfl)) (fun _ h9 => h9) rfl dX8_lowered_74 ?_
          have ho := Option.some.inj hf
          subst ho
          exact W.iret (v := q62.2.2.1) hx hb hr (fun t ht hW => ⟨⟨_, (), rfl, rfl, by rw [ht]; exact hP, va_K.moved hW.alike hK, hD⟩, hS.F ht⟩) hS.2.2 dX8_lowered_77
      · have hf := ite_t c_42 hf
        refine lv_iconst (v := (-1)) hx hb dX8_lowered_34 (by decide) ?_
        have ho := Option.some.inj hf
        subst ho
        exact W.iret (v := (-1)) hx hb hr (fun t ht hW => ⟨⟨_, (), rfl, rfl, by rw [ht]; exact hP, va_K.moved hW.alike hK, hD⟩, hS.F ht⟩) hS.2.2 dX8_lowered_35
    · have hf := ite_t c_40 hf
      refine lv_bipush (v := (-2)) hx hb dX8_lowered_22 (by decide) ?_
      have ho := Option.some.inj hf
      subst ho
      exact W.iret (v := (-2)) hx hb hr (fun t ht hW => ⟨⟨_, (), rfl, rfl, by rw [ht]; exact hP, va_K.moved hW.alike hK, hD⟩, hS.F ht⟩) hS.2.2 dX8_lowered_24
set_option maxRecDepth 100000 in
set_option maxHeartbeats 4000000 in
theorem kX8_isOnOwnLine (l : Launch) (G : va_G) (cy : Nat → ClassId) (sz : Nat) (p0 : Int32) (p1 : Int32) (p2 : Int32) {o : Int32} (hf : fX8_isOnOwnLine p0 p1 p2 = some o) : Met l yX8_isOnOwnLine (Cond.code yX8_isOnOwnLine cX8_isOnOwnLine 3 (some .boolean) :: AW) ({ frames := 0, cells := 0, slots := 0, locals := 0 } : Room) (va_Pc [.int p0, .int p1, .int p2] (Wp G cy [] sz)) (va_Qi (fun r (_ : Unit) => r = o) (fun _ => Wq G cy (va_A [] sz) []) (va_A [] sz)) 0 0 (va_A [] sz) := by
  refine Met.ofW (cc := cX8_isOnOwnLine) (maxL := 3) (ret := (some .boolean)) (by decide) rfl ?_
  intro p e s m args below meth c s₁ B hml hv
  obtain ⟨rfl, hsz, hP, hK, hD0, hN⟩ := hv
  have hx := B.exec
  have hb := B.bytes
  have hr := B.returns
  have htA : ∀ w ∈ AW, w.before _ s = true := fun w h => atoms_spec (ws := Cond.code yX8_isOnOwnLine cX8_isOnOwnLine 3 (some .boolean) :: AW) B.pre w (List.mem_cons_of_mem _ h)
  have hown : s.vm.findClass RX8 = some m.cls := findClass_of_methodNamed B.named
  have hlocks := B.notSynchronized
  subst hsz
  have hD := hD0.self (sz := s.heap.size)
  generalize hAe : va_A [] s.heap.size = A at hD ⊢
  have hA : ∀ q : Nat, s.heap.size ≤ q → A q := fun q h => by rw [← hAe]; exact Or.inr h
  have hS : va_S A s.heap s.heap [] := va_S.rf
  have hl := lv_entry ([.int p0, .int p1, .int p2]) (n := 3) (Nat.le_of_ble_eq_true rfl)
  rw [lg_entry_eq]
  generalize (lg_sl ([.int p0, .int p1, .int p2]) ++ List.replicate (3 - (lg_sl ([.int p0, .int p1, .int p2])).length) Slot.unset).toArray = ls at hl ⊢
  have hl : lv_has ls 3 [(0, .int p0), (1, .int p1), (2, .int p2)] := hl
  have hP : va_P G vwCl [] s.heap := hP
  have hf : ((if p0 = 0 then (if p2 = 0 then some (1) else some (0)) else (if p1 = 0 then some (1) else some (0))) : Option (Int32)) = some o := hf
  refine lv_iload_n hx hb dX8_isOnOwnLine_0 rfl (lv_at hl 0 rfl) ?_
  refine lv_if_ne (tgt := 16) hx hb dX8_isOnOwnLine_1 (by decide) (fun c_13 => ?_) (fun c_13 => ?_)
  · have hf := ite_f c_13 hf
    refine lv_iload_n hx hb dX8_isOnOwnLine_16 rfl (lv_at hl 1 rfl) ?_
    refine lv_if_ne (tgt := 24) hx hb dX8_isOnOwnLine_17 (by decide) (fun c_14 => ?_) (fun c_14 => ?_)
    · have hf := ite_f c_14 hf
      refine lv_iconst (v := 0) hx hb dX8_isOnOwnLine_24 (by decide) ?_
      have ho := Option.some.inj hf
      subst ho
      exact W.zret (v := 0) hx hb hr rfl (fun t ht hW => ⟨⟨_, (), rfl, rfl, by rw [ht]; exact hP, va_K.moved hW.alike hK, hD⟩, hS.F ht⟩) hS.2.2 dX8_isOnOwnLine_25
    · have hf := ite_t c_14 hf
      refine lv_iconst (v := 1) hx hb dX8_isOnOwnLine_20 (by decide) ?_
      refine lv_goto (tgt := 25) hx hb dX8_isOnOwnLine_21 (by decide) ?_
      have ho := Option.some.inj hf
      subst ho
      exact W.zret (v := 1) hx hb hr rfl (fun t ht hW => ⟨⟨_, (), rfl, rfl, by rw [ht]; exact hP, va_K.moved hW.alike hK, hD⟩, hS.F ht⟩) hS.2.2 dX8_isOnOwnLine_25
  · have hf := ite_t c_13 hf
    refine lv_iload_n hx hb dX8_isOnOwnLine_4 rfl (lv_at hl 2 rfl) ?_
    refine lv_if_ne (tgt := 12) hx hb dX8_isOnOwnLine_5 (by decide) (fun c_15 => ?_) (fun c_15 => ?_)
    · have hf := ite_f c_15 hf
      refine lv_iconst (v := 0) hx hb dX8_isOnOwnLine_12 (by decide) ?_
      refine lv_goto (tgt := 25) hx hb dX8_isOnOwnLine_13 (by decide) ?_
      have ho := Option.some.inj hf
      subst ho
      exact W.zret (v := 0) hx hb hr rfl (fun t ht hW => ⟨⟨_, (), rfl, rfl, by rw [ht]; exact hP, va_K.moved hW.alike hK, hD⟩, hS.F ht⟩) hS.2.2 dX8_isOnOwnLine_25
    · have hf := ite_t c_15 hf
      refine lv_iconst (v := 1) hx hb dX8_isOnOwnLine_8 (by decide) ?_
      refine lv_goto (tgt := 25) hx hb dX8_isOnOwnLine_9 (by decide) ?_
      have ho := Option.some.inj hf
      subst ho
      exact W.zret (v := 1) hx hb hr rfl (fun t ht hW => ⟨⟨_, (), rfl, rfl, by rw [ht]; exact hP, va_K.moved hW.alike hK, hD⟩, hS.F ht⟩) hS.2.2 dX8_isOnOwnLine_25
set_option maxRecDepth 100000 in
set_option maxHeartbeats 4000000 in
theorem wX8_rootsAhead_6 {p : Program} {l : Launch} {e : Env} {s : State} {m : MethodId} {args : Array Value} {below : List Frame} {meth : Method} {c : Code} {G : va_G} {cy : Nat → ClassId} {A : Nat → Prop} {q_this : Nat} {q_now : Nat} {q_saved : Nat} {q_trial : Nat} {q_lowering : Nat} {q_counts : Nat} {q_expansion : Nat} {q_setUp : Nat} {q_tapes : Nat} {q_now_ground : Nat} {q_now_notes : Nat} {q_now_seen : Nat} {q_now_events : Nat} {q_now_book : Nat} {f_imaged : Int32} {f_now_ground_a : Int32} {f_now_ground_b : Int32} {f_now_ground_x : Int32} {f_now_ground_y : Int32} {n : Nat} {o : Int32 × Int32 × Int32 × Int32 × Int32} (C : Cx p s m args meth c cX8_rootsAhead 9 (some .int) RX8 G cy A) : ∀ k6 : Nat, ∀ (v1 : Int32) (v2 : Int32) (v3 : Int32) (v4 : Int32) (v5 : Int32) (v6 : Int32) (f_lowering_x : Int32) (f_lowering_y : Int32) (f_lowering_steps : Int32) (f_lowering_metLetter : Int32) (H : Heap) (locs : List Loc) (ls : Array Slot), va_P G vwCl [(q_this, .inr (8, [.ref q_now, .ref q_saved, .int f_imaged, .ref q_trial, .ref q_lowering, .ref q_counts, .ref q_expansion, .ref q_setUp, .ref q_tapes])), (q_now, .inr (6, [.ref q_now_ground, .ref q_now_notes, .ref q_now_seen, .ref q_now_events, .ref q_now_book])), (q_now_ground, .inr (2, [.int f_now_ground_a, .int f_now_ground_b, .int f_now_ground_x, .int f_now_ground_y])), (q_lowering, .inr (3, [.int f_lowering_x, .int f_lowering_y, .int f_lowering_steps, .int f_lowering_metLetter]))] H → va_D A [(q_this, .inr (8, [.ref q_now, .ref q_saved, .int f_imaged, .ref q_trial, .ref q_lowering, .ref q_counts, .ref q_expansion, .ref q_setUp, .ref q_tapes])), (q_now, .inr (6, [.ref q_now_ground, .ref q_now_notes, .ref q_now_seen, .ref q_now_events, .ref q_now_book])), (q_now_ground, .inr (2, [.int f_now_ground_a, .int f_now_ground_b, .int f_now_ground_x, .int f_now_ground_y])), (q_lowering, .inr (3, [.int f_lowering_x, .int f_lowering_y, .int f_lowering_steps, .int f_lowering_metLetter]))] → va_S A s.heap H locs → lv_has ls 9 [(0, .ref q_this), (1, .int v1), (2, .int v2), (3, .int v3), (4, .int v4), (5, .int v5), (6, .int v6)] → lX8_rootsAhead_6 n f_now_ground_a f_now_ground_b k6 v1 v2 v3 v4 v5 v6 f_lowering_x f_lowering_y f_lowering_steps f_lowering_metLetter = some o → W p l e (headSpec (Cond.code yX8_rootsAhead cX8_rootsAhead 9 (some .int) :: AW) ({ frames := 4, cells := 0, slots := 0, locals := 92 } : Room)).room s m args below meth c H locs 0 0 (MQ below (va_Qi (fun r (_ : Unit) => r = o.1) (fun _ => Wq G cy A [(q_this, .inr (8, [.ref q_now, .ref q_saved, .int f_imaged, .ref q_trial, .ref q_lowering, .ref q_counts, .ref q_expansion, .ref q_setUp, .ref q_tapes])), (q_now, .inr (6, [.ref q_now_ground, .ref q_now_notes, .ref q_now_seen, .ref q_now_events, .ref q_now_book])), (q_now_ground, .inr (2, [.int f_now_ground_a, .int f_now_ground_b, .int f_now_ground_x, .int f_now_ground_y])), (q_lowering, .inr (3, [.int o.2.1, .int o.2.2.1, .int o.2.2.2.1, .int o.2.2.2.2]))]) A) args s 0 0 A) (F0 m 6 ls []) := by
  have C0 := C
  obtain ⟨hx, hb, hr, hml, htA, hown, hK, hN, hA, hlocks⟩ := C
  intro k6
  induction k6 with
  | zero =>
    intro v1 v2 v3 v4 v5 v6 f_lowering_x f_lowering_y f_lowering_steps f_lowering_metLetter H locs ls hP hD hS hl hf
    exact no_s hf
  | succ k6 ih6 =>
    intro v1 v2 v3 v4 v5 v6 f_lowering_x f_lowering_y f_lowering_steps f_lowering_metLetter H locs ls hP hD hS hl hf
    have hf : ((if 1998 < v6 then some (v5, f_lowering_x, f_lowering_y, f_lowering_steps, f_lowering_metLetter) else (fX8_isPlace (v1 + (v6 * v3)) (v2 + (v6 * v4))).bind fun q35 => ((if q35 = 0 then some (v5, f_lowering_x, f_lowering_y, f_lowering_steps, f_lowering_metLetter) else (fX8_sortNow n (v1 + (v6 * v3)) (v2 + (v6 * v4)) f_now_ground_a f_now_ground_b f_lowering_x f_lowering_y f_lowering_steps f_lowering_metLetter).bind fun q46 => ((if q46.1 = 0 then some (v5, q46.2.1, q46.2.2.1, q46.2.2.2.1, q46.2.2.2.2) else lX8_rootsAhead_6 n f_now_ground_a f_now_ground_b k6 v1 v2 v3 v4 (v5 + 1) (v6 + 1) q46.2.1 q46.2.2.1 q46.2.2.2.1 q46.2.2.2.2))))) : Option (Int32 × Int32 × Int32 × Int32 × Int32)) = some o := hf
    refine lv_iload hx hb dX8_rootsAhead_6 (lv_at hl 6 rfl) ?_
    refine lv_sipush (v := 1998) hx hb dX8_rootsAhead_8 (by decide) ?_
    refine lv_icmp_gt (tgt := 64) hx hb dX8_rootsAhead_11 (by decide) (fun c_21 => ?_) (fun c_21 => ?_)
    · have hf := ite_t c_21 hf
      refine lv_iload hx hb dX8_rootsAhead_64 (lv_at hl 5 rfl) ?_
      have ho := Option.some.inj hf
      subst ho
      exact W.iret (v := v5) hx hb hr (fun t ht hW => ⟨⟨_, (), rfl, rfl, by rw [ht]; exact hP, va_K.moved hW.alike hK, hD⟩, hS.F ht⟩) hS.2.2 dX8_rootsAhead_66
    · have hf := ite_f c_21 hf
      refine lv_iload_n hx hb dX8_rootsAhead_14 rfl (lv_at hl 1 rfl) ?_
      refine lv_iload hx hb dX8_rootsAhead_15 (lv_at hl 6 rfl) ?_
      refine lv_iload_n hx hb dX8_rootsAhead_17 rfl (lv_at hl 3 rfl) ?_
      refine lv_imul hx hb dX8_rootsAhead_18 ?_
      refine lv_iadd hx hb dX8_rootsAhead_19 ?_
      refine lv_istore (lv' := [(7, .int (v1 + (v6 * v3))), (0, .ref q_this), (1, .int v1), (2, .int v2), (3, .int v3), (4, .int v4), (5, .int v5), (6, .int v6)]) hx hb dX8_rootsAhead_20 hl (by decide) rfl (fun ls hl => ?_)
      refine lv_iload_n hx hb dX8_rootsAhead_22 rfl (lv_at hl 3 rfl) ?_
      refine lv_iload hx hb dX8_rootsAhead_23 (lv_at hl 7 rfl) ?_
      refine lv_iload hx hb dX8_rootsAhead_25 (lv_at hl 5 rfl) ?_
      refine lv_imul hx hb dX8_rootsAhead_27 ?_
      refine lv_iadd hx hb dX8_rootsAhead_28 ?_
      refine lv_istore (lv' := [(8, .int (v2 + (v6 * v4))), (7, .int (v1 + (v6 * v3))), (0, .ref q_this), (1, .int v1), (2, .int v2), (3, .int v3), (4, .int v4), (5, .int v5), (6, .int v6)]) hx hb dX8_rootsAhead_29 hl (by decide) rfl (fun ls hl => ?_)
      refine lv_iload hx hb dX8_rootsAhead_31 (lv_at hl 1 rfl) ?_
      refine lv_iload hx hb dX8_rootsAhead_33 (lv_at hl 0 rfl) ?_
      obtain ⟨q35, h35_22, hf⟩ := bd_s hf
      refine u_calliR (va_runS (As := [.int (v1 + (v6 * v3)), .int (v2 + (v6 * v4))]) (rest := []) ⟨hx, hb, hml, hown, htA⟩ (kX8_isPlace l G cy H.size (v1 + (v6 * v3)) (v2 + (v6 * v4)) h35_22) (u_cwS htA a_ml_X8_87 pk_X8_isPlace ⟨Nat.le_of_ble_eq_true rfl, Nat.le_of_ble_eq_true rfl⟩) (u_preS hK hN hP hD [] rfl (by decide)) rfl rfl hl.1 rfl (lv_room (Nat.le_of_ble_eq_true rfl)) dX8_rootsAhead_35 ⟨Nat.zero_le _, Nat.zero_le _⟩) hP hD hS hA [] rfl (fun H locs hP hS => ?_)
      refine lv_if_eq (tgt := 52) hx hb dX8_rootsAhead_38 (by decide) (fun c_23 => ?_) (fun c_23 => ?_)
      · have hf := ite_t c_23 hf
        refine lv_iload hx hb dX8_rootsAhead_52 (lv_at hl 7 rfl) ?_
        have ho := Option.some.inj hf
        subst ho
        exact W.iret (v := v5) hx hb hr (fun t ht hW => ⟨⟨_, (), rfl, rfl, by rw [ht]; exact hP, va_K.moved hW.alike hK, hD⟩, hS.F ht⟩) hS.2.2 dX8_rootsAhead_54
      · have hf := ite_f c_23 hf
        refine lv_aload_n hx hb dX8_rootsAhead_41 rfl (lv_at hl 2 rfl) ?_
        refine lv_iload hx hb dX8_rootsAhead_42 (lv_at hl 1 rfl) ?_
        refine lv_iload hx hb dX8_rootsAhead_44 (lv_at hl 0 rfl) ?_
        obtain ⟨q46, h46_24, hf⟩ := bd_s hf
        refine u_calli [(q_this, .inr (8, [.ref q_now, .ref q_saved, .int f_imaged, .ref q_trial, .ref q_lowering, .ref q_counts, .ref q_expansion, .ref q_setUp, .ref q_tapes])), (q_now, .inr (6, [.ref q_now_ground, .ref q_now_notes, .ref q_now_seen, .ref q_now_events, .ref q_now_book])), (q_now_ground, .inr (2, [.int f_now_ground_a, .int f_now_ground_b, .int f_now_ground_x, .int f_now_ground_y])), (q_lowering, .inr (3, [.int q46.2.1, .int q46.2.2.1, .int q46.2.2.2.1, .int q46.2.2.2.2]))] (va_runV (As := [.int (v1 + (v6 * v3)), .int (v2 + (v6 * v4))]) (rest := []) ⟨hx, hb, hml, hown, htA⟩ (kX8_sortNow l G cy q_this q_now q_saved q_trial q_lowering q_counts q_expansion q_setUp q_tapes q_now_ground q_now_notes q_now_seen q_now_events q_now_book H.size f_imaged f_now_ground_a f_now_ground_b f_now_ground_x f_now_ground_y f_lowering_x f_lowering_y f_lowering_steps f_lowering_metLetter (v1 + (v6 * v3)) (v2 + (v6 * v4)) n h46_24) (u_cwV htA a_ml_X8_97 pk_X8_sortNow ⟨Nat.le_of_ble_eq_true rfl, Nat.le_of_ble_eq_true rfl⟩) (u_preV hK hN hP hD [0, 1, 2, 3] rfl (by decide) 0 rfl rfl) rfl rfl hl.1 rfl (lv_room (Nat.le_of_ble_eq_true rfl)) dX8_rootsAhead_46 ⟨Nat.zero_le _, Nat.zero_le _⟩) hP hD hS hA [0, 1, 2, 3] rfl [] 4 rfl rfl rfl (by decide) rfl (fun H locs hP hD hS => ?_)
        refine lv_if_ne (tgt := 55) hx hb dX8_rootsAhead_49 (by decide) (fun c_25 => ?_) (fun c_25 => ?_)
        · have hf := ite_f c_25 hf
          refine lv_iinc (v := (v5 + 1)) (lv' := [(5, .int (v5 + 1)), (8, .int (v2 + (v6 * v4))), (7, .int (v1 + (v6 * v3))), (0, .ref q_this), (1, .int v1), (2, .int v2), (3, .int v3), (4, .int v4), (6, .int v6)]) hx hb dX8_rootsAhead_55 hl (k := 7) rfl rfl (by decide) rfl (fun ls hl => ?_)
          refine lv_iinc (v := (v6 + 1)) (lv' := [(6, .int (v6 + 1)), (5, .int (v5 + 1)), (8, .int (v2 + (v6 * v4))), (7, .int (v1 + (v6 * v3))), (0, .ref q_this), (1, .int v1), (2, .int v2), (3, .int v3), (4, .int v4)]) hx hb dX8_rootsAhead_58 hl (k := 8) rfl rfl (by decide) rfl (fun ls hl => ?_)
          refine lv_goto (tgt := 6) hx hb dX8_rootsAhead_61 (by decide) ?_
          exact ih6 _ _ _ _ _ _ _ _ _ _ _ _ _ hP hD hS (lv_sub hl [4, 5, 6, 7, 8, 1, 0] rfl) hf
        · have hf := ite_t c_25 hf
          refine lv_iload hx hb dX8_rootsAhead_52 (lv_at hl 7 rfl) ?_
          have ho := Option.some.inj hf
          subst ho
          exact W.iret (v := v5) hx hb hr (fun t ht hW => ⟨⟨_, (), rfl, rfl, by rw [ht]; exact hP, va_K.moved hW.alike hK, hD⟩, hS.F ht⟩) hS.2.2 dX8_rootsAhead_54
set_option maxRecDepth 100000 in
set_option maxHeartbeats 4000000 in
theorem kX8_rootsAhead (l : Launch) (G : va_G) (cy : Nat → ClassId) (q_this : Nat) (q_now : Nat) (q_saved : Nat) (q_trial : Nat) (q_lowering : Nat) (q_counts : Nat) (q_expansion : Nat) (q_setUp : Nat) (q_tapes : Nat) (q_now_ground : Nat) (q_now_notes : Nat) (q_now_seen : Nat) (q_now_events : Nat) (q_now_book : Nat) (sz : Nat) (f_imaged : Int32) (f_now_ground_a : Int32) (f_now_ground_b : Int32) (f_now_ground_x : Int32) (f_now_ground_y : Int32) (f_lowering_x : Int32) (f_lowering_y : Int32) (f_lowering_steps : Int32) (f_lowering_metLetter : Int32) (p1 : Int32) (p2 : Int32) (p3 : Int32) (p4 : Int32) (n : Nat) {o : Int32 × Int32 × Int32 × Int32 × Int32} (hf : fX8_rootsAhead n p1 p2 p3 p4 f_now_ground_a f_now_ground_b f_lowering_x f_lowering_y f_lowering_steps f_lowering_metLetter = some o) : Met l yX8_rootsAhead (Cond.code yX8_rootsAhead cX8_rootsAhead 9 (some .int) :: AW) ({ frames := 4, cells := 0, slots := 0, locals := 92 } : Room) (va_Pc [.ref q_this, .int p1, .int p2, .int p3, .int p4] (Wp G cy [(q_this, .inr (8, [.ref q_now, .ref q_saved, .int f_imaged, .ref q_trial, .ref q_lowering, .ref q_counts, .ref q_expansion, .ref q_setUp, .ref q_tapes])), (q_now, .inr (6, [.ref q_now_ground, .ref q_now_notes, .ref q_now_seen, .ref q_now_events, .ref q_now_book])), (q_now_ground, .inr (2, [.int f_now_ground_a, .int f_now_ground_b, .int f_now_ground_x, .int f_now_ground_y])), (q_lowering, .inr (3, [.int f_lowering_x, .int f_lowering_y, .int f_lowering_steps, .int f_lowering_metLetter]))] sz)) (va_Qi (fun r (_ : Unit) => r = o.1) (fun _ => Wq G cy (va_A [(q_this, .inr (8, [.ref q_now, .ref q_saved, .int f_imaged, .ref q_trial, .ref q_lowering, .ref q_counts, .ref q_expansion, .ref q_setUp, .ref q_tapes])), (q_now, .inr (6, [.ref q_now_ground, .ref q_now_notes, .ref q_now_seen, .ref q_now_events, .ref q_now_book])), (q_now_ground, .inr (2, [.int f_now_ground_a, .int f_now_ground_b, .int f_now_ground_x, .int f_now_ground_y])), (q_lowering, .inr (3, [.int f_lowering_x, .int f_lowering_y, .int f_lowering_steps, .int f_lowering_metLetter]))] sz) [(q_this, .inr (8, [.ref q_now, .ref q_saved, .int f_imaged, .ref q_trial, .ref q_lowering, .ref q_counts, .ref q_expansion, .ref q_setUp, .ref q_tapes])), (q_now, .inr (6, [.ref q_now_ground, .ref q_now_notes, .ref q_now_seen, .ref q_now_events, .ref q_now_book])), (q_now_ground, .inr (2, [.int f_now_ground_a, .int f_now_ground_b, .int f_now_ground_x, .int f_now_ground_y])), (q_lowering, .inr (3, [.int o.2.1, .int o.2.2.1, .int o.2.2.2.1, .int o.2.2.2.2]))]) (va_A [(q_this, .inr (8, [.ref q_now, .ref q_saved, .int f_imaged, .ref q_trial, .ref q_lowering, .ref q_counts, .ref q_expansion, .ref q_setUp, .ref q_tapes])), (q_now, .inr (6, [.ref q_now_ground, .ref q_now_notes, .ref q_now_seen, .ref q_now_events, .ref q_now_book])), (q_now_ground, .inr (2, [.int f_now_ground_a, .int f_now_ground_b, .int f_now_ground_x, .int f_now_ground_y])), (q_lowering, .inr (3, [.int f_lowering_x, .int f_lowering_y, .int f_lowering_steps, .int f_lowering_metLetter]))] sz)) 0 0 (va_A [(q_this, .inr (8, [.ref q_now, .ref q_saved, .int f_imaged, .ref q_trial, .ref q_lowering, .ref q_counts, .ref q_expansion, .ref q_setUp, .ref q_tapes])), (q_now, .inr (6, [.ref q_now_ground, .ref q_now_notes, .ref q_now_seen, .ref q_now_events, .ref q_now_book])), (q_now_ground, .inr (2, [.int f_now_ground_a, .int f_now_ground_b, .int f_now_ground_x, .int f_now_ground_y])), (q_lowering, .inr (3, [.int f_lowering_x, .int f_lowering_y, .int f_lowering_steps, .int f_lowering_metLetter]))] sz) := by
  refine Met.ofW (cc := cX8_rootsAhead) (maxL := 9) (ret := (some .int)) (by decide) rfl ?_
  intro p e s m args below meth c s₁ B hml hv
  obtain ⟨rfl, hsz, hP, hK, hD0, hN⟩ := hv
  have hx := B.exec
  have hb := B.bytes
  have hr := B.returns
  have htA : ∀ w ∈ AW, w.before _ s = true := fun w h => atoms_spec (ws := Cond.code yX8_rootsAhead cX8_rootsAhead 9 (some .int) :: AW) B.pre w (List.mem_cons_of_mem _ h)
  have hown : s.vm.findClass RX8 = some m.cls := findClass_of_methodNamed B.named
  have hlocks := B.notSynchronized
  subst hsz
  have hD := hD0.self (sz := s.heap.size)
  generalize hAe : va_A [(q_this, .inr (8, [.ref q_now, .ref q_saved, .int f_imaged, .ref q_trial, .ref q_lowering, .ref q_counts, .ref q_expansion, .ref q_setUp, .ref q_tapes])), (q_now, .inr (6, [.ref q_now_ground, .ref q_now_notes, .ref q_now_seen, .ref q_now_events, .ref q_now_book])), (q_now_ground, .inr (2, [.int f_now_ground_a, .int f_now_ground_b, .int f_now_ground_x, .int f_now_ground_y])), (q_lowering, .inr (3, [.int f_lowering_x, .int f_lowering_y, .int f_lowering_steps, .int f_lowering_metLetter]))] s.heap.size = A at hD ⊢
  have hA : ∀ q : Nat, s.heap.size ≤ q → A q := fun q h => by rw [← hAe]; exact Or.inr h
  have hS : va_S A s.heap s.heap [] := va_S.rf
  have hl := lv_entry ([.ref q_this, .int p1, .int p2, .int p3, .int p4]) (n := 9) (Nat.le_of_ble_eq_true rfl)
  rw [lg_entry_eq]
  generalize (lg_sl ([.ref q_this, .int p1, .int p2, .int p3, .int p4]) ++ List.replicate (9 - (lg_sl ([.ref q_this, .int p1, .int p2, .int p3, .int p4])).length) Slot.unset).toArray = ls at hl ⊢
  have hl : lv_has ls 9 [(0, .ref q_this), (1, .int p1), (2, .int p2), (3, .int p3), (4, .int p4)] := hl
  have hP : va_P G vwCl [(q_this, .inr (8, [.ref q_now, .ref q_saved, .int f_imaged, .ref q_trial, .ref q_lowering, .ref q_counts, .ref q_expansion, .ref q_setUp, .ref q_tapes])), (q_now, .inr (6, [.ref q_now_ground, .ref q_now_notes, .ref q_now_seen, .ref q_now_events, .ref q_now_book])), (q_now_ground, .inr (2, [.int f_now_ground_a, .int f_now_ground_b, .int f_now_ground_x, .int f_now_ground_y])), (q_lowering, .inr (3, [.int f_lowering_x, .int f_lowering_y, .int f_lowering_steps, .int f_lowering_metLetter]))] s.heap := hP
  have C0 : Cx p s m _ meth c cX8_rootsAhead 9 (some .int) RX8 G cy A := ⟨hx, hb, hr, hml, htA, hown, hK, hN, hA, hlocks⟩
  have hf : (lX8_rootsAhead_6 n f_now_ground_a f_now_ground_b n p1 p2 p3 p4 0 1 f_lowering_x f_lowering_y f_lowering_steps f_lowering_metLetter : Option (Int32 × Int32 × Int32 × Int32 × Int32)) = some o := hf
  refine lv_iconst (v := 0) hx hb dX8_rootsAhead_0 (by decide) ?_
  refine lv_istore (lv' := [(5, .int 0), (0, .ref q_this), (1, .int p1), (2, .int p2), (3, .int p3), (4, .int p4)]) hx hb dX8_rootsAhead_1 hl (by decide) rfl (fun ls hl => ?_)
  refine lv_iconst (v := 1) hx hb dX8_rootsAhead_3 (by decide) ?_
  refine lv_istore (lv' := [(6, .int 1), (5, .int 0), (0, .ref q_this), (1, .int p1), (2, .int p2), (3, .int p3), (4, .int p4)]) hx hb dX8_rootsAhead_4 hl (by decide) rfl (fun ls hl => ?_)
  exact wX8_rootsAhead_6 C0 n _ _ _ _ _ _ _ _ _ _ _ _ _ hP hD hS (lv_sub hl [2, 3, 4, 5, 6, 1, 0] rfl) hf
set_option maxRecDepth 100000 in
set_option maxHeartbeats 4000000 in
theorem wX8_string_92 {p : Program} {l : Launch} {e : Env} {s : State} {m : MethodId} {args : Array Value} {below : List Frame} {meth : Method} {c : Code} {G : va_G} {cy : Nat → ClassId} {A : Nat → Prop} {q_this : Nat} {q_now : Nat} {q_saved : Nat} {q_trial : Nat} {q_lowering : Nat} {q_counts : Nat} {q_expansion : Nat} {q_setUp : Nat} {q_tapes : Nat} {q_now_ground : Nat} {q_now_notes : Nat} {q_now_seen : Nat} {q_now_events : Nat} {q_now_book : Nat} {f_imaged : Int32} {f_now_ground_a : Int32} {f_now_ground_b : Int32} {f_now_ground_x : Int32} {f_now_ground_y : Int32} {n : Nat} {o : Int32 × Int32 × Int32 × Int32 × Int32} (C : Cx p s m args meth c cX8_string 6 (some .int) RX8 G cy A) : ∀ (v1 : Int32) (v5 : Int32) (s1 : Int32) (s2 : Int32) (s3 : Int32) (f_lowering_x : Int32) (f_lowering_y : Int32) (f_lowering_steps : Int32) (f_lowering_metLetter : Int32) (H : Heap) (locs : List Loc) (ls : Array Slot), va_P G vwCl [(q_this, .inr (8, [.ref q_now, .ref q_saved, .int f_imaged, .ref q_trial, .ref q_lowering, .ref q_counts, .ref q_expansion, .ref q_setUp, .ref q_tapes])), (q_now, .inr (6, [.ref q_now_ground, .ref q_now_notes, .ref q_now_seen, .ref q_now_events, .ref q_now_book])), (q_now_ground, .inr (2, [.int f_now_ground_a, .int f_now_ground_b, .int f_now_ground_x, .int f_now_ground_y])), (q_lowering, .inr (3, [.int f_lowering_x, .int f_lowering_y, .int f_lowering_steps, .int f_lowering_metLetter]))] H → va_D A [(q_this, .inr (8, [.ref q_now, .ref q_saved, .int f_imaged, .ref q_trial, .ref q_lowering, .ref q_counts, .ref q_expansion, .ref q_setUp, .ref q_tapes])), (q_now, .inr (6, [.ref q_now_ground, .ref q_now_notes, .ref q_now_seen, .ref q_now_events, .ref q_now_book])), (q_now_ground, .inr (2, [.int f_now_ground_a, .int f_now_ground_b, .int f_now_ground_x, .int f_now_ground_y])), (q_lowering, .inr (3, [.int f_lowering_x, .int f_lowering_y, .int f_lowering_steps, .int f_lowering_metLetter]))] → va_S A s.heap H locs → lv_has ls 6 [(1, .int v1), (5, .int v5)] → jX8_string_92 n f_now_ground_a f_now_ground_b v1 v5 s1 s2 s3 f_lowering_x f_lowering_y f_lowering_steps f_lowering_metLetter = some o → W p l e (headSpec (Cond.code yX8_string cX8_string 6 (some .int) :: AW) ({ frames := 5, cells := 0, slots := 0, locals := 120 } : Room)).room s m args below meth c H locs 0 0 (MQ below (va_Qi (fun r (_ : Unit) => r = o.1) (fun _ => Wq G cy A [(q_this, .inr (8, [.ref q_now, .ref q_saved, .int f_imaged, .ref q_trial, .ref q_lowering, .ref q_counts, .ref q_expansion, .ref q_setUp, .ref q_tapes])), (q_now, .inr (6, [.ref q_now_ground, .ref q_now_notes, .ref q_now_seen, .ref q_now_events, .ref q_now_book])), (q_now_ground, .inr (2, [.int f_now_ground_a, .int f_now_ground_b, .int f_now_ground_x, .int f_now_ground_y])), (q_lowering, .inr (3, [.int o.2.1, .int o.2.2.1, .int o.2.2.2.1, .int o.2.2.2.2]))]) A) args s 0 0 A) (F0 m 92 ls [.int s3, .int s2, .int s1, .ref q_this]) := by
  have C0 := C
  obtain ⟨hx, hb, hr, hml, htA, hown, hK, hN, hA, hlocks⟩ := C
  intro v1 v5 s1 s2 s3 f_lowering_x f_lowering_y f_lowering_steps f_lowering_metLetter H locs ls hP hD hS hl hf
  have hf : ((if v1 = 0 then (fX8_rootsAhead n s1 s2 s3 0 f_now_ground_a f_now_ground_b f_lowering_x f_lowering_y f_lowering_steps f_lowering_metLetter).bind fun q102 => (some (q102.1, q102.2.1, q102.2.2.1, q102.2.2.2.1, q102.2.2.2.2)) else (fX8_rootsAhead n s1 s2 s3 v5 f_now_ground_a f_now_ground_b f_lowering_x f_lowering_y f_lowering_steps f_lowering_metLetter).bind fun q102 => (some (q102.1, q102.2.1, q102.2.2.1, q102.2.2.2.1, q102.2.2.2.2))) : Option (Int32 × Int32 × Int32 × Int32 × Int32)) = some o := hf
  refine lv_iload_n hx hb dX8_string_92 rfl (lv_at hl 0 rfl) ?_
  refine lv_if_ne (tgt := 100) hx hb dX8_string_93 (by decide) (fun c_69 => ?_) (fun c_69 => ?_)
  · have hf := ite_f c_69 hf
    refine lv_iload hx hb dX8_string_100 (lv_at hl 1 rfl) ?_
    obtain ⟨q102, h102_70, hf⟩ := bd_s hf
    refine u_calli [(q_this, .inr (8, [.ref q_now, .ref q_saved, .int f_imaged, .ref q_trial, .ref q_lowering, .ref q_counts, .ref q_expansion, .ref q_setUp, .ref q_tapes])), (q_now, .inr (6, [.ref q_now_ground, .ref q_now_notes, .ref q_now_seen, .ref q_now_events, .ref q_now_book])), (q_now_ground, .inr (2, [.int f_now_ground_a, .int f_now_ground_b, .int f_now_ground_x, .int f_now_ground_y])), (q_lowering, .inr (3, [.int q102.2.1, .int q102.2.2.1, .int q102.2.2.2.1, .int q102.2.2.2.2]))] (va_runV (As := [.int s1, .int s2, .int s3, .int v5]) (rest := []) ⟨hx, hb, hml, hown, htA⟩ (kX8_rootsAhead l G cy q_this q_now q_saved q_trial q_lowering q_counts q_expansion q_setUp q_tapes q_now_ground q_now_notes q_now_seen q_now_events q_now_book H.size f_imaged f_now_ground_a f_now_ground_b f_now_ground_x f_now_ground_y f_lowering_x f_lowering_y f_lowering_steps f_lowering_metLetter s1 s2 s3 v5 n h102_70) (u_cwV htA a_ml_X8_195 pk_X8_rootsAhead ⟨Nat.le_of_ble_eq_true rfl, Nat.le_of_ble_eq_true rfl⟩) (u_preV hK hN hP hD [0, 1, 2, 3] rfl (by decide) 0 rfl rfl) rfl rfl hl.1 rfl (lv_room (Nat.le_of_ble_eq_true rfl)) dX8_string_102 ⟨Nat.zero_le _, Nat.zero_le _⟩) hP hD hS hA [0, 1, 2, 3] rfl [] 4 rfl rfl rfl (by decide) rfl (fun H locs hP hD hS => ?_)
    have ho := Option.some.inj hf
    subst ho
    exact W.iret (v := q102.1) hx hb hr (fun t ht hW => ⟨⟨_, (), rfl, rfl, by rw [ht]; exact hP, va_K.moved hW.alike hK, hD⟩, hS.F ht⟩) hS.2.2 dX8_string_105
  · have hf := ite_t c_69 hf
    refine lv_iconst (v := 0) hx hb dX8_string_96 (by decide) ?_
    refine lv_goto (tgt := 102) hx hb dX8_string_97 (by decide) ?_
    obtain ⟨q102, h102_71, hf⟩ := bd_s hf
    refine u_calli [(q_this, .inr (8, [.ref q_now, .ref q_saved, .int f_imaged, .ref q_trial, .ref q_lowering, .ref q_counts, .ref q_expansion, .ref q_setUp, .ref q_tapes])), (q_now, .inr (6, [.ref q_now_ground, .ref q_now_notes, .ref q_now_seen, .ref q_now_events, .ref q_now_book])), (q_now_ground, .inr (2, [.int f_now_ground_a, .int f_now_ground_b, .int f_now_ground_x, .int f_now_ground_y])), (q_lowering, .inr (3, [.int q102.2.1, .int q102.2.2.1, .int q102.2.2.2.1, .int q102.2.2.2.2]))] (va_runV (As := [.int s1, .int s2, .int s3, .int 0]) (rest := []) ⟨hx, hb, hml, hown, htA⟩ (kX8_rootsAhead l G cy q_this q_now q_saved q_trial q_lowering q_counts q_expansion q_setUp q_tapes q_now_ground q_now_notes q_now_seen q_now_events q_now_book H.size f_imaged f_now_ground_a f_now_ground_b f_now_ground_x f_now_ground_y f_lowering_x f_lowering_y f_lowering_steps f_lowering_metLetter s1 s2 s3 0 n h102_71) (u_cwV htA a_ml_X8_195 pk_X8_rootsAhead ⟨Nat.le_of_ble_eq_true rfl, Nat.le_of_ble_eq_true rfl⟩) (u_preV hK hN hP hD [0, 1, 2, 3] rfl (by decide) 0 rfl rfl) rfl rfl hl.1 rfl (lv_room (Nat.le_of_ble_eq_true rfl)) dX8_string_102 ⟨Nat.zero_le _, Nat.zero_le _⟩) hP hD hS hA [0, 1, 2, 3] rfl [] 4 rfl rfl rfl (by decide) rfl (fun H locs hP hD hS => ?_)
    have ho := Option.some.inj hf
    subst ho
    exact W.iret (v := q102.1) hx hb hr (fun t ht hW => ⟨⟨_, (), rfl, rfl, by rw [ht]; exact hP, va_K.moved hW.alike hK, hD⟩, hS.F ht⟩) hS.2.2 dX8_string_105
set_option maxRecDepth 100000 in
set_option maxHeartbeats 4000000 in
theorem wX8_string_77 {p : Program} {l : Launch} {e : Env} {s : State} {m : MethodId} {args : Array Value} {below : List Frame} {meth : Method} {c : Code} {G : va_G} {cy : Nat → ClassId} {A : Nat → Prop} {q_this : Nat} {q_now : Nat} {q_saved : Nat} {q_trial : Nat} {q_lowering : Nat} {q_counts : Nat} {q_expansion : Nat} {q_setUp : Nat} {q_tapes : Nat} {q_now_ground : Nat} {q_now_notes : Nat} {q_now_seen : Nat} {q_now_events : Nat} {q_now_book : Nat} {f_imaged : Int32} {f_now_ground_a : Int32} {f_now_ground_b : Int32} {f_now_ground_x : Int32} {f_now_ground_y : Int32} {n : Nat} {o : Int32 × Int32 × Int32 × Int32 × Int32} (C : Cx p s m args meth c cX8_string 6 (some .int) RX8 G cy A) : ∀ (v1 : Int32) (v2 : Int32) (v3 : Int32) (s0 : Int32) (f_lowering_x : Int32) (f_lowering_y : Int32) (f_lowering_steps : Int32) (f_lowering_metLetter : Int32) (H : Heap) (locs : List Loc) (ls : Array Slot), va_P G vwCl [(q_this, .inr (8, [.ref q_now, .ref q_saved, .int f_imaged, .ref q_trial, .ref q_lowering, .ref q_counts, .ref q_expansion, .ref q_setUp, .ref q_tapes])), (q_now, .inr (6, [.ref q_now_ground, .ref q_now_notes, .ref q_now_seen, .ref q_now_events, .ref q_now_book])), (q_now_ground, .inr (2, [.int f_now_ground_a, .int f_now_ground_b, .int f_now_ground_x, .int f_now_ground_y])), (q_lowering, .inr (3, [.int f_lowering_x, .int f_lowering_y, .int f_lowering_steps, .int f_lowering_metLetter]))] H → va_D A [(q_this, .inr (8, [.ref q_now, .ref q_saved, .int f_imaged, .ref q_trial, .ref q_lowering, .ref q_counts, .ref q_expansion, .ref q_setUp, .ref q_tapes])), (q_now, .inr (6, [.ref q_now_ground, .ref q_now_notes, .ref q_now_seen, .ref q_now_events, .ref q_now_book])), (q_now_ground, .inr (2, [.int f_now_ground_a, .int f_now_ground_b, .int f_now_ground_x, .int f_now_ground_y])), (q_lowering, .inr (3, [.int f_lowering_x, .int f_lowering_y, .int f_lowering_steps, .int f_lowering_metLetter]))] → va_S A s.heap H locs → lv_has ls 6 [(0, .ref q_this), (1, .int v1), (2, .int v2), (3, .int v3)] → jX8_string_77 n f_now_ground_a f_now_ground_b v1 v2 v3 s0 f_lowering_x f_lowering_y f_lowering_steps f_lowering_metLetter = some o → W p l e (headSpec (Cond.code yX8_string cX8_string 6 (some .int) :: AW) ({ frames := 5, cells := 0, slots := 0, locals := 120 } : Room)).room s m args below meth c H locs 0 0 (MQ below (va_Qi (fun r (_ : Unit) => r = o.1) (fun _ => Wq G cy A [(q_this, .inr (8, [.ref q_now, .ref q_saved, .int f_imaged, .ref q_trial, .ref q_lowering, .ref q_counts, .ref q_expansion, .ref q_setUp, .ref q_tapes])), (q_now, .inr (6, [.ref q_now_ground, .ref q_now_notes, .ref q_now_seen, .ref q_now_events, .ref q_now_book])), (q_now_ground, .inr (2, [.int f_now_ground_a, .int f_now_ground_b, .int f_now_ground_x, .int f_now_ground_y])), (q_lowering, .inr (3, [.int o.2.1, .int o.2.2.1, .int o.2.2.2.1, .int o.2.2.2.2]))]) A) args s 0 0 A) (F0 m 77 ls [.int s0]) := by
  have C0 := C
  obtain ⟨hx, hb, hr, hml, htA, hown, hK, hN, hA, hlocks⟩ := C
  intro v1 v2 v3 s0 f_lowering_x f_lowering_y f_lowering_steps f_lowering_metLetter H locs ls hP hD hS hl hf
  have hf : ((if v1 = 0 then jX8_string_92 n f_now_ground_a f_now_ground_b v1 s0 v2 v3 s0 f_lowering_x f_lowering_y f_lowering_steps f_lowering_metLetter else jX8_string_92 n f_now_ground_a f_now_ground_b v1 s0 v2 v3 0 f_lowering_x f_lowering_y f_lowering_steps f_lowering_metLetter) : Option (Int32 × Int32 × Int32 × Int32 × Int32)) = some o := hf
  refine lv_istore (lv' := [(5, .int s0), (0, .ref q_this), (1, .int v1), (2, .int v2), (3, .int v3)]) hx hb dX8_string_77 hl (by decide) rfl (fun ls hl => ?_)
  refine lv_aload_n hx hb dX8_string_79 rfl (lv_at hl 1 rfl) ?_
  refine lv_iload_n hx hb dX8_string_80 rfl (lv_at hl 3 rfl) ?_
  refine lv_iload_n hx hb dX8_string_81 rfl (lv_at hl 4 rfl) ?_
  refine lv_iload_n hx hb dX8_string_82 rfl (lv_at hl 2 rfl) ?_
  refine lv_if_ne (tgt := 91) hx hb dX8_string_83 (by decide) (fun c_72 => ?_) (fun c_72 => ?_)
  · have hf := ite_f c_72 hf
    refine lv_iconst (v := 0) hx hb dX8_string_91 (by decide) ?_
    exact wX8_string_92 C0 _ _ _ _ _ _ _ _ _ _ _ _ hP hD hS (lv_sub hl [2, 0] rfl) hf
  · have hf := ite_t c_72 hf
    refine lv_iload hx hb dX8_string_86 (lv_at hl 0 rfl) ?_
    refine lv_goto (tgt := 92) hx hb dX8_string_88 (by decide) ?_
    exact wX8_string_92 C0 _ _ _ _ _ _ _ _ _ _ _ _ hP hD hS (lv_sub hl [2, 0] rfl) hf
set_option maxRecDepth 100000 in
set_option maxHeartbeats 4000000 in
theorem kX8_string (l : Launch) (G : va_G) (cy : Nat → ClassId) (q_this : Nat) (q_now : Nat) (q_saved : Nat) (q_trial : Nat) (q_lowering : Nat) (q_counts : Nat) (q_expansion : Nat) (q_setUp : Nat) (q_tapes : Nat) (q_now_ground : Nat) (q_now_notes : Nat) (q_now_seen : Nat) (q_now_events : Nat) (q_now_book : Nat) (sz : Nat) (f_imaged : Int32) (f_now_ground_a : Int32) (f_now_ground_b : Int32) (f_now_ground_x : Int32) (f_now_ground_y : Int32) (f_lowering_x : Int32) (f_lowering_y : Int32) (f_lowering_steps : Int32) (f_lowering_metLetter : Int32) (p1 : Int32) (p2 : Int32) (p3 : Int32) (p4 : Int32) (n : Nat) {o : Int32 × Int32 × Int32 × Int32 × Int32} (hf : fX8_string n p1 p2 p3 p4 f_now_ground_a f_now_ground_b f_lowering_x f_lowering_y f_lowering_steps f_lowering_metLetter = some o) : Met l yX8_string (Cond.code yX8_string cX8_string 6 (some .int) :: AW) ({ frames := 5, cells := 0, slots := 0, locals := 120 } : Room) (va_Pc [.ref q_this, .int p1, .int p2, .int p3, .int p4] (Wp G cy [(q_this, .inr (8, [.ref q_now, .ref q_saved, .int f_imaged, .ref q_trial, .ref q_lowering, .ref q_counts, .ref q_expansion, .ref q_setUp, .ref q_tapes])), (q_now, .inr (6, [.ref q_now_ground, .ref q_now_notes, .ref q_now_seen, .ref q_now_events, .ref q_now_book])), (q_now_ground, .inr (2, [.int f_now_ground_a, .int f_now_ground_b, .int f_now_ground_x, .int f_now_ground_y])), (q_lowering, .inr (3, [.int f_lowering_x, .int f_lowering_y, .int f_lowering_steps, .int f_lowering_metLetter]))] sz)) (va_Qi (fun r (_ : Unit) => r = o.1) (fun _ => Wq G cy (va_A [(q_this, .inr (8, [.ref q_now, .ref q_saved, .int f_imaged, .ref q_trial, .ref q_lowering, .ref q_counts, .ref q_expansion, .ref q_setUp, .ref q_tapes])), (q_now, .inr (6, [.ref q_now_ground, .ref q_now_notes, .ref q_now_seen, .ref q_now_events, .ref q_now_book])), (q_now_ground, .inr (2, [.int f_now_ground_a, .int f_now_ground_b, .int f_now_ground_x, .int f_now_ground_y])), (q_lowering, .inr (3, [.int f_lowering_x, .int f_lowering_y, .int f_lowering_steps, .int f_lowering_metLetter]))] sz) [(q_this, .inr (8, [.ref q_now, .ref q_saved, .int f_imaged, .ref q_trial, .ref q_lowering, .ref q_counts, .ref q_expansion, .ref q_setUp, .ref q_tapes])), (q_now, .inr (6, [.ref q_now_ground, .ref q_now_notes, .ref q_now_seen, .ref q_now_events, .ref q_now_book])), (q_now_ground, .inr (2, [.int f_now_ground_a, .int f_now_ground_b, .int f_now_ground_x, .int f_now_ground_y])), (q_lowering, .inr (3, [.int o.2.1, .int o.2.2.1, .int o.2.2.2.1, .int o.2.2.2.2]))]) (va_A [(q_this, .inr (8, [.ref q_now, .ref q_saved, .int f_imaged, .ref q_trial, .ref q_lowering, .ref q_counts, .ref q_expansion, .ref q_setUp, .ref q_tapes])), (q_now, .inr (6, [.ref q_now_ground, .ref q_now_notes, .ref q_now_seen, .ref q_now_events, .ref q_now_book])), (q_now_ground, .inr (2, [.int f_now_ground_a, .int f_now_ground_b, .int f_now_ground_x, .int f_now_ground_y])), (q_lowering, .inr (3, [.int f_lowering_x, .int f_lowering_y, .int f_lowering_steps, .int f_lowering_metLetter]))] sz)) 0 0 (va_A [(q_this, .inr (8, [.ref q_now, .ref q_saved, .int f_imaged, .ref q_trial, .ref q_lowering, .ref q_counts, .ref q_expansion, .ref q_setUp, .ref q_tapes])), (q_now, .inr (6, [.ref q_now_ground, .ref q_now_notes, .ref q_now_seen, .ref q_now_events, .ref q_now_book])), (q_now_ground, .inr (2, [.int f_now_ground_a, .int f_now_ground_b, .int f_now_ground_x, .int f_now_ground_y])), (q_lowering, .inr (3, [.int f_lowering_x, .int f_lowering_y, .int f_lowering_steps, .int f_lowering_metLetter]))] sz) := by
  refine Met.ofW (cc := cX8_string) (maxL := 6) (ret := (some .int)) (by decide) rfl ?_
  intro p e s m args below meth c s₁ B hml hv
  obtain ⟨rfl, hsz, hP, hK, hD0, hN⟩ := hv
  have hx := B.exec
  have hb := B.bytes
  have hr := B.returns
  have htA : ∀ w ∈ AW, w.before _ s = true := fun w h => atoms_spec (ws := Cond.code yX8_string cX8_string 6 (some .int) :: AW) B.pre w (List.mem_cons_of_mem _ h)
  have hown : s.vm.findClass RX8 = some m.cls := findClass_of_methodNamed B.named
  have hlocks := B.notSynchronized
  subst hsz
  have hD := hD0.self (sz := s.heap.size)
  generalize hAe : va_A [(q_this, .inr (8, [.ref q_now, .ref q_saved, .int f_imaged, .ref q_trial, .ref q_lowering, .ref q_counts, .ref q_expansion, .ref q_setUp, .ref q_tapes])), (q_now, .inr (6, [.ref q_now_ground, .ref q_now_notes, .ref q_now_seen, .ref q_now_events, .ref q_now_book])), (q_now_ground, .inr (2, [.int f_now_ground_a, .int f_now_ground_b, .int f_now_ground_x, .int f_now_ground_y])), (q_lowering, .inr (3, [.int f_lowering_x, .int f_lowering_y, .int f_lowering_steps, .int f_lowering_metLetter]))] s.heap.size = A at hD ⊢
  have hA : ∀ q : Nat, s.heap.size ≤ q → A q := fun q h => by rw [← hAe]; exact Or.inr h
  have hS : va_S A s.heap s.heap [] := va_S.rf
  have hl := lv_entry ([.ref q_this, .int p1, .int p2, .int p3, .int p4]) (n := 6) (Nat.le_of_ble_eq_true rfl)
  rw [lg_entry_eq]
  generalize (lg_sl ([.ref q_this, .int p1, .int p2, .int p3, .int p4]) ++ List.replicate (6 - (lg_sl ([.ref q_this, .int p1, .int p2, .int p3, .int p4])).length) Slot.unset).toArray = ls at hl ⊢
  have hl : lv_has ls 6 [(0, .ref q_this), (1, .int p1), (2, .int p2), (3, .int p3), (4, .int p4)] := hl
  have hP : va_P G vwCl [(q_this, .inr (8, [.ref q_now, .ref q_saved, .int f_imaged, .ref q_trial, .ref q_lowering, .ref q_counts, .ref q_expansion, .ref q_setUp, .ref q_tapes])), (q_now, .inr (6, [.ref q_now_ground, .ref q_now_notes, .ref q_now_seen, .ref q_now_events, .ref q_now_book])), (q_now_ground, .inr (2, [.int f_now_ground_a, .int f_now_ground_b, .int f_now_ground_x, .int f_now_ground_y])), (q_lowering, .inr (3, [.int f_lowering_x, .int f_lowering_y, .int f_lowering_steps, .int f_lowering_metLetter]))] s.heap := hP
  have C0 : Cx p s m _ meth c cX8_string 6 (some .int) RX8 G cy A := ⟨hx, hb, hr, hml, htA, hown, hK, hN, hA, hlocks⟩
  have hf : ((fX8_isIn p1 0 1).bind fun q3 => ((if q3 = 0 then some ((-1), f_lowering_x, f_lowering_y, f_lowering_steps, f_lowering_metLetter) else (fX8_isIn p4 0 1).bind fun q13 => ((if q13 = 0 then some ((-1), f_lowering_x, f_lowering_y, f_lowering_steps, f_lowering_metLetter) else (fX8_isIn p2 (-99) 99).bind fun q26 => ((if q26 = 0 then some ((-2), f_lowering_x, f_lowering_y, f_lowering_steps, f_lowering_metLetter) else (fX8_isIn p3 (-99) 99).bind fun q37 => ((if q37 = 0 then some ((-2), f_lowering_x, f_lowering_y, f_lowering_steps, f_lowering_metLetter) else (fX8_sortNow n p2 p3 f_now_ground_a f_now_ground_b f_lowering_x f_lowering_y f_lowering_steps f_lowering_metLetter).bind fun q49 => ((if q49.1 = 0 then some ((-3), q49.2.1, q49.2.2.1, q49.2.2.2.1, q49.2.2.2.2) else (fX8_isOnOwnLine p1 p2 p3).bind fun q58 => ((if q58 = 0 then (if p4 = 0 then jX8_string_77 n f_now_ground_a f_now_ground_b p1 p2 p3 (-1) q49.2.1 q49.2.2.1 q49.2.2.2.1 q49.2.2.2.2 else jX8_string_77 n f_now_ground_a f_now_ground_b p1 p2 p3 1 q49.2.1 q49.2.2.1 q49.2.2.2.1 q49.2.2.2.2) else some ((-3), q49.2.1, q49.2.2.1, q49.2.2.2.1, q49.2.2.2.2))))))))))))) : Option (Int32 × Int32 × Int32 × Int32 × Int32)) = some o := hf
  refine lv_iload_n hx hb dX8_string_0 rfl (lv_at hl 1 rfl) ?_
  refine lv_iconst (v := 0) hx hb dX8_string_1 (by decide) ?_
  refine lv_iconst (v := 1) hx hb dX8_string_2 (by decide) ?_
  obtain ⟨q3, h3_73, hf⟩ := bd_s hf
  refine u_calliR (va_runS (As := [.int p1, .int 0, .int 1]) (rest := []) ⟨hx, hb, hml, hown, htA⟩ (kX8_isIn l G cy s.heap.size p1 0 1 h3_73) (u_cwS htA a_ml_X8_69 pk_X8_isIn ⟨Nat.le_of_ble_eq_true rfl, Nat.le_of_ble_eq_true rfl⟩) (u_preS hK hN hP hD [] rfl (by decide)) rfl rfl hl.1 rfl (lv_room (Nat.le_of_ble_eq_true rfl)) dX8_string_3 ⟨Nat.zero_le _, Nat.zero_le _⟩) hP hD hS hA [] rfl (fun H locs hP hS => ?_)
  refine lv_if_eq (tgt := 19) hx hb dX8_string_6 (by decide) (fun c_74 => ?_) (fun c_74 => ?_)
  · have hf := ite_t c_74 hf
    refine lv_iconst (v := (-1)) hx hb dX8_string_19 (by decide) ?_
    have ho := Option.some.inj hf
    subst ho
    exact W.iret (v := (-1)) hx hb hr (fun t ht hW => ⟨⟨_, (), rfl, rfl, by rw [ht]; exact hP, va_K.moved hW.alike hK, hD⟩, hS.F ht⟩) hS.2.2 dX8_string_20
  · have hf := ite_f c_74 hf
    refine lv_iload hx hb dX8_string_9 (lv_at hl 4 rfl) ?_
    refine lv_iconst (v := 0) hx hb dX8_string_11 (by decide) ?_
    refine lv_iconst (v := 1) hx hb dX8_string_12 (by decide) ?_
    obtain ⟨q13, h13_75, hf⟩ := bd_s hf
    refine u_calliR (va_runS (As := [.int p4, .int 0, .int 1]) (rest := []) ⟨hx, hb, hml, hown, htA⟩ (kX8_isIn l G cy H.size p4 0 1 h13_75) (u_cwS htA a_ml_X8_69 pk_X8_isIn ⟨Nat.le_of_ble_eq_true rfl, Nat.le_of_ble_eq_true rfl⟩) (u_preS hK hN hP hD [] rfl (by decide)) rfl rfl hl.1 rfl (lv_room (Nat.le_of_ble_eq_true rfl)) dX8_string_13 ⟨Nat.zero_le _, Nat.zero_le _⟩) hP hD hS hA [] rfl (fun H locs hP hS => ?_)
    refine lv_if_ne (tgt := 21) hx hb dX8_string_16 (by decide) (fun c_76 => ?_) (fun c_76 => ?_)
    · have hf := ite_f c_76 hf
      refine lv_iload_n hx hb dX8_string_21 rfl (lv_at hl 2 rfl) ?_
      refine lv_bipush (v := (-99)) hx hb dX8_string_22 (by decide) ?_
      refine lv_bipush (v := 99) hx hb dX8_string_24 (by decide) ?_
      obtain ⟨q26, h26_77, hf⟩ := bd_s hf
      refine u_calliR (va_runS (As := [.int p2, .int (-99), .int 99]) (rest := []) ⟨hx, hb, hml, hown, htA⟩ (kX8_isIn l G cy H.size p2 (-99) 99 h26_77) (u_cwS htA a_ml_X8_69 pk_X8_isIn ⟨Nat.le_of_ble_eq_true rfl, Nat.le_of_ble_eq_true rfl⟩) (u_preS hK hN hP hD [] rfl (by decide)) rfl rfl hl.1 rfl (lv_room (Nat.le_of_ble_eq_true rfl)) dX8_string_26 ⟨Nat.zero_le _, Nat.zero_le _⟩) hP hD hS hA [] rfl (fun H locs hP hS => ?_)
      refine lv_if_eq (tgt := 43) hx hb dX8_string_29 (by decide) (fun c_78 => ?_) (fun c_78 => ?_)
      · have hf := ite_t c_78 hf
        refine lv_bipush (v := (-2)) hx hb dX8_string_43 (by decide) ?_
        have ho := Option.some.inj hf
        subst ho
        exact W.iret (v := (-2)) hx hb hr (fun t ht hW => ⟨⟨_, (), rfl, rfl, by rw [ht]; exact hP, va_K.moved hW.alike hK, hD⟩, hS.F ht⟩) hS.2.2 dX8_string_45
      · have hf := ite_f c_78 hf
        refine lv_iload_n hx hb dX8_string_32 rfl (lv_at hl 3 rfl) ?_
        refine lv_bipush (v := (-99)) hx hb dX8_string_33 (by decide) ?_
        refine lv_bipush (v := 99) hx hb dX8_string_35 (by decide) ?_
        obtain ⟨q37, h37_79, hf⟩ := bd_s hf
        refine u_calliR (va_runS (As := [.int p3, .int (-99), .int 99]) (rest := []) ⟨hx, hb, hml, hown, htA⟩ (kX8_isIn l G cy H.size p3 (-99) 99 h37_79) (u_cwS htA a_ml_X8_69 pk_X8_isIn ⟨Nat.le_of_ble_eq_true rfl, Nat.le_of_ble_eq_true rfl⟩) (u_preS hK hN hP hD [] rfl (by decide)) rfl rfl hl.1 rfl (lv_room (Nat.le_of_ble_eq_true rfl)) dX8_string_37 ⟨Nat.zero_le _, Nat.zero_le _⟩) hP hD hS hA [] rfl (fun H locs hP hS => ?_)
        refine lv_if_ne (tgt := 46) hx hb dX8_string_40 (by decide) (fun c_80 => ?_) (fun c_80 => ?_)
        · have hf := ite_f c_80 hf
          refine lv_aload_n hx hb dX8_string_46 rfl (lv_at hl 0 rfl) ?_
          refine lv_iload_n hx hb dX8_string_47 rfl (lv_at hl 2 rfl) ?_
          refine lv_iload_n hx hb dX8_string_48 rfl (lv_at hl 3 rfl) ?_
          obtain ⟨q49, h49_81, hf⟩ := bd_s hf
          refine u_calli [(q_this, .inr (8, [.ref q_now, .ref q_saved, .int f_imaged, .ref q_trial, .ref q_lowering, .ref q_counts, .ref q_expansion, .ref q_setUp, .ref q_tapes])), (q_now, .inr (6, [.ref q_now_ground, .ref q_now_notes, .ref q_now_seen, .ref q_now_events, .ref q_now_book])), (q_now_ground, .inr (2, [.int f_now_ground_a, .int f_now_ground_b, .int f_now_ground_x, .int f_now_ground_y])), (q_lowering, .inr (3, [.int q49.2.1, .int q49.2.2.1, .int q49.2.2.2.1, .int q49.2.2.2.2]))] (va_runV (As := [.int p2, .int p3]) (rest := []) ⟨hx, hb, hml, hown, htA⟩ (kX8_sortNow l G cy q_this q_now q_saved q_trial q_lowering q_counts q_expansion q_setUp q_tapes q_now_ground q_now_notes q_now_seen q_now_events q_now_book H.size f_imaged f_now_ground_a f_now_ground_b f_now_ground_x f_now_ground_y f_lowering_x f_lowering_y f_lowering_steps f_lowering_metLetter p2 p3 n h49_81) (u_cwV htA a_ml_X8_97 pk_X8_sortNow ⟨Nat.le_of_ble_eq_true rfl, Nat.le_of_ble_eq_true rfl⟩) (u_preV hK hN hP hD [0, 1, 2, 3] rfl (by decide) 0 rfl rfl) rfl rfl hl.1 rfl (lv_room (Nat.le_of_ble_eq_true rfl)) dX8_string_49 ⟨Nat.zero_le _, Nat.zero_le _⟩) hP hD hS hA [0, 1, 2, 3] rfl [] 4 rfl rfl rfl (by decide) rfl (fun H locs hP hD hS => ?_)
          refine lv_if_eq (tgt := 64) hx hb dX8_string_52 (by decide) (fun c_82 => ?_) (fun c_82 => ?_)
          · have hf := ite_t c_82 hf
            refine lv_bipush (v := (-3)) hx hb dX8_string_64 (by decide) ?_
            have ho := Option.some.inj hf
            subst ho
            exact W.iret (v := (-3)) hx hb hr (fun t ht hW => ⟨⟨_, (), rfl, rfl, by rw [ht]; exact hP, va_K.moved hW.alike hK, hD⟩, hS.F ht⟩) hS.2.2 dX8_string_66
          · have hf := ite_f c_82 hf
            refine lv_iload_n hx hb dX8_string_55 rfl (lv_at hl 1 rfl) ?_
            refine lv_iload_n hx hb dX8_string_56 rfl (lv_at hl 2 rfl) ?_
            refine lv_iload_n hx hb dX8_string_57 rfl (lv_at hl 3 rfl) ?_
            obtain ⟨q58, h58_83, hf⟩ := bd_s hf
            refine u_calliR (va_runS (As := [.int p1, .int p2, .int p3]) (rest := []) ⟨hx, hb, hml, hown, htA⟩ (kX8_isOnOwnLine l G cy H.size p1 p2 p3 h58_83) (u_cwS htA a_ml_X8_192 pk_X8_isOnOwnLine ⟨Nat.le_of_ble_eq_true rfl, Nat.le_of_ble_eq_true rfl⟩) (u_preS hK hN hP hD [] rfl (by decide)) rfl rfl hl.1 rfl (lv_room (Nat.le_of_ble_eq_true rfl)) dX8_string_58 ⟨Nat.zero_le _, Nat.zero_le _⟩) hP hD hS hA [] rfl (fun H locs hP hS => ?_)
            refine lv_if_eq (tgt := 67) hx hb dX8_string_61 (by decide) (fun c_84 => ?_) (fun c_84 => ?_)
            · have hf := ite_t c_84 hf
              refine lv_iload hx hb dX8_string_67 (lv_at hl 4 rfl) ?_
              refine lv_if_ne (tgt := 76) hx hb dX8_string_69 (by decide) (fun c_85 => ?_) (fun c_85 => ?_)
              · have hf := ite_f c_85 hf
                refine lv_iconst (v := 1) hx hb dX8_string_76 (by decide) ?_
                exact wX8_string_77 C0 _ _ _ _ _ _ _ _ _ _ _ hP hD hS (lv_sub hl [0, 1, 2, 3] rfl) hf
              · have hf := ite_t c_85 hf
                refine lv_iconst (v := (-1)) hx hb dX8_string_72 (by decide) ?_
                refine lv_goto (tgt := 77) hx hb dX8_string_73 (by decide) ?_
                exact wX8_string_77 C0 _ _ _ _ _ _ _ _ _ _ _ hP hD hS (lv_sub hl [0, 1, 2, 3] rfl) hf
            · have hf := ite_f c_84 hf
              refine lv_bipush (v := (-3)) hx hb dX8_string_64 (by decide) ?_
              have ho := Option.some.inj hf
              subst ho
              exact W.iret (v := (-3)) hx hb hr (fun t ht hW => ⟨⟨_, (), rfl, rfl, by rw [ht]; exact hP, va_K.moved hW.alike hK, hD⟩, hS.F ht⟩) hS.2.2 dX8_string_66
        · have hf := ite_t c_80 hf
          refine lv_bipush (v := (-2)) hx hb dX8_string_43 (by decide) ?_
          have ho := Option.some.inj hf
          subst ho
          exact W.iret (v := (-2)) hx hb hr (fun t ht hW => ⟨⟨_, (), rfl, rfl, by rw [ht]; exact hP, va_K.moved hW.alike hK, hD⟩, hS.F ht⟩) hS.2.2 dX8_string_45
    · have hf := ite_t c_76 hf
      refine lv_iconst (v := (-1)) hx hb dX8_string_19 (by decide) ?_
      have ho := Option.some.inj hf
      subst ho
      exact W.iret (v := (-1)) hx hb hr (fun t ht hW => ⟨⟨_, (), rfl, rfl, by rw [ht]; exact hP, va_K.moved hW.alike hK, hD⟩, hS.F ht⟩) hS.2.2 dX8_string_20
set_option maxRecDepth 100000 in
set_option maxHeartbeats 4000000 in
theorem kX8_counted (l : Launch) (G : va_G) (cy : Nat → ClassId) (q_this : Nat) (q_now : Nat) (q_saved : Nat) (q_trial : Nat) (q_lowering : Nat) (q_counts : Nat) (q_expansion : Nat) (q_setUp : Nat) (q_tapes : Nat) (q_now_ground : Nat) (q_now_notes : Nat) (q_now_seen : Nat) (q_now_events : Nat) (q_now_book : Nat) (q_counts_sorts : Nat) (q_counts_counts : Nat) (q_counts_shares : Nat) (sz : Nat) (f_imaged : Int32) (f_now_ground_a : Int32) (f_now_ground_b : Int32) (f_now_ground_x : Int32) (f_now_ground_y : Int32) (f_lowering_x : Int32) (f_lowering_y : Int32) (f_lowering_steps : Int32) (f_lowering_metLetter : Int32) (f_counts_a : Int32) (f_counts_b : Int32) (f_counts_sorts : Nat → Int32) (f_counts_counts : Nat → Int32) (f_counts_shares : Nat → Int64) (p1 : Int32) (p2 : Int32) (n : Nat) {o : Int32 × Int32 × Int32 × Int32 × Int32 × Int32 × Int32 × (Nat → Int32) × (Nat → Int32) × (Nat → Int64)} (hf : fX8_counted n p1 p2 f_now_ground_a f_now_ground_b f_lowering_x f_lowering_y f_lowering_steps f_lowering_metLetter f_counts_a f_counts_b f_counts_sorts f_counts_counts f_counts_shares = some o) : Met l yX8_counted (Cond.code yX8_counted cX8_counted 3 (some .int) :: AW) ({ frames := 6, cells := 0, slots := 0, locals := 140 } : Room) (va_Pc [.ref q_this, .int p1, .int p2] (Wp G cy [(q_this, .inr (8, [.ref q_now, .ref q_saved, .int f_imaged, .ref q_trial, .ref q_lowering, .ref q_counts, .ref q_expansion, .ref q_setUp, .ref q_tapes])), (q_now, .inr (6, [.ref q_now_ground, .ref q_now_notes, .ref q_now_seen, .ref q_now_events, .ref q_now_book])), (q_now_ground, .inr (2, [.int f_now_ground_a, .int f_now_ground_b, .int f_now_ground_x, .int f_now_ground_y])), (q_lowering, .inr (3, [.int f_lowering_x, .int f_lowering_y, .int f_lowering_steps, .int f_lowering_metLetter])), (q_counts, .inr (0, [.ref q_lowering, .ref q_counts_sorts, .ref q_counts_counts, .ref q_counts_shares, .int f_counts_a, .int f_counts_b])), (q_counts_sorts, .inl (cy 0, 169, .inl f_counts_sorts)), (q_counts_counts, .inl (cy 0, 169, .inl f_counts_counts)), (q_counts_shares, .inl (cy 1, 169, .inr (.inl f_counts_shares)))] sz)) (va_Qi (fun r (_ : Unit) => r = o.1) (fun _ => Wq G cy (va_A [(q_this, .inr (8, [.ref q_now, .ref q_saved, .int f_imaged, .ref q_trial, .ref q_lowering, .ref q_counts, .ref q_expansion, .ref q_setUp, .ref q_tapes])), (q_now, .inr (6, [.ref q_now_ground, .ref q_now_notes, .ref q_now_seen, .ref q_now_events, .ref q_now_book])), (q_now_ground, .inr (2, [.int f_now_ground_a, .int f_now_ground_b, .int f_now_ground_x, .int f_now_ground_y])), (q_lowering, .inr (3, [.int f_lowering_x, .int f_lowering_y, .int f_lowering_steps, .int f_lowering_metLetter])), (q_counts, .inr (0, [.ref q_lowering, .ref q_counts_sorts, .ref q_counts_counts, .ref q_counts_shares, .int f_counts_a, .int f_counts_b])), (q_counts_sorts, .inl (cy 0, 169, .inl f_counts_sorts)), (q_counts_counts, .inl (cy 0, 169, .inl f_counts_counts)), (q_counts_shares, .inl (cy 1, 169, .inr (.inl f_counts_shares)))] sz) [(q_this, .inr (8, [.ref q_now, .ref q_saved, .int f_imaged, .ref q_trial, .ref q_lowering, .ref q_counts, .ref q_expansion, .ref q_setUp, .ref q_tapes])), (q_now, .inr (6, [.ref q_now_ground, .ref q_now_notes, .ref q_now_seen, .ref q_now_events, .ref q_now_book])), (q_now_ground, .inr (2, [.int f_now_ground_a, .int f_now_ground_b, .int f_now_ground_x, .int f_now_ground_y])), (q_lowering, .inr (3, [.int o.2.1, .int o.2.2.1, .int o.2.2.2.1, .int o.2.2.2.2.1])), (q_counts, .inr (0, [.ref q_lowering, .ref q_counts_sorts, .ref q_counts_counts, .ref q_counts_shares, .int o.2.2.2.2.2.1, .int o.2.2.2.2.2.2.1])), (q_counts_sorts, .inl (cy 0, 169, .inl o.2.2.2.2.2.2.2.1)), (q_counts_counts, .inl (cy 0, 169, .inl o.2.2.2.2.2.2.2.2.1)), (q_counts_shares, .inl (cy 1, 169, .inr (.inl o.2.2.2.2.2.2.2.2.2)))]) (va_A [(q_this, .inr (8, [.ref q_now, .ref q_saved, .int f_imaged, .ref q_trial, .ref q_lowering, .ref q_counts, .ref q_expansion, .ref q_setUp, .ref q_tapes])), (q_now, .inr (6, [.ref q_now_ground, .ref q_now_notes, .ref q_now_seen, .ref q_now_events, .ref q_now_book])), (q_now_ground, .inr (2, [.int f_now_ground_a, .int f_now_ground_b, .int f_now_ground_x, .int f_now_ground_y])), (q_lowering, .inr (3, [.int f_lowering_x, .int f_lowering_y, .int f_lowering_steps, .int f_lowering_metLetter])), (q_counts, .inr (0, [.ref q_lowering, .ref q_counts_sorts, .ref q_counts_counts, .ref q_counts_shares, .int f_counts_a, .int f_counts_b])), (q_counts_sorts, .inl (cy 0, 169, .inl f_counts_sorts)), (q_counts_counts, .inl (cy 0, 169, .inl f_counts_counts)), (q_counts_shares, .inl (cy 1, 169, .inr (.inl f_counts_shares)))] sz)) 0 0 (va_A [(q_this, .inr (8, [.ref q_now, .ref q_saved, .int f_imaged, .ref q_trial, .ref q_lowering, .ref q_counts, .ref q_expansion, .ref q_setUp, .ref q_tapes])), (q_now, .inr (6, [.ref q_now_ground, .ref q_now_notes, .ref q_now_seen, .ref q_now_events, .ref q_now_book])), (q_now_ground, .inr (2, [.int f_now_ground_a, .int f_now_ground_b, .int f_now_ground_x, .int f_now_ground_y])), (q_lowering, .inr (3, [.int f_lowering_x, .int f_lowering_y, .int f_lowering_steps, .int f_lowering_metLetter])), (q_counts, .inr (0, [.ref q_lowering, .ref q_counts_sorts, .ref q_counts_counts, .ref q_counts_shares, .int f_counts_a, .int f_counts_b])), (q_counts_sorts, .inl (cy 0, 169, .inl f_counts_sorts)), (q_counts_counts, .inl (cy 0, 169, .inl f_counts_counts)), (q_counts_shares, .inl (cy 1, 169, .inr (.inl f_counts_shares)))] sz) := by
  refine Met.ofW (cc := cX8_counted) (maxL := 3) (ret := (some .int)) (by decide) rfl ?_
  intro p e s m args below meth c s₁ B hml hv
  obtain ⟨rfl, hsz, hP, hK, hD0, hN⟩ := hv
  have hx := B.exec
  have hb := B.bytes
  have hr := B.returns
  have htA : ∀ w ∈ AW, w.before _ s = true := fun w h => atoms_spec (ws := Cond.code yX8_counted cX8_counted 3 (some .int) :: AW) B.pre w (List.mem_cons_of_mem _ h)
  have hown : s.vm.findClass RX8 = some m.cls := findClass_of_methodNamed B.named
  have hlocks := B.notSynchronized
  subst hsz
  have hD := hD0.self (sz := s.heap.size)
  generalize hAe : va_A [(q_this, .inr (8, [.ref q_now, .ref q_saved, .int f_imaged, .ref q_trial, .ref q_lowering, .ref q_counts, .ref q_expansion, .ref q_setUp, .ref q_tapes])), (q_now, .inr (6, [.ref q_now_ground, .ref q_now_notes, .ref q_now_seen, .ref q_now_events, .ref q_now_book])), (q_now_ground, .inr (2, [.int f_now_ground_a, .int f_now_ground_b, .int f_now_ground_x, .int f_now_ground_y])), (q_lowering, .inr (3, [.int f_lowering_x, .int f_lowering_y, .int f_lowering_steps, .int f_lowering_metLetter])), (q_counts, .inr (0, [.ref q_lowering, .ref q_counts_sorts, .ref q_counts_counts, .ref q_counts_shares, .int f_counts_a, .int f_counts_b])), (q_counts_sorts, .inl (cy 0, 169, .inl f_counts_sorts)), (q_counts_counts, .inl (cy 0, 169, .inl f_counts_counts)), (q_counts_shares, .inl (cy 1, 169, .inr (.inl f_counts_shares)))] s.heap.size = A at hD ⊢
  have hA : ∀ q : Nat, s.heap.size ≤ q → A q := fun q h => by rw [← hAe]; exact Or.inr h
  have hS : va_S A s.heap s.heap [] := va_S.rf
  have hl := lv_entry ([.ref q_this, .int p1, .int p2]) (n := 3) (Nat.le_of_ble_eq_true rfl)
  rw [lg_entry_eq]
  generalize (lg_sl ([.ref q_this, .int p1, .int p2]) ++ List.replicate (3 - (lg_sl ([.ref q_this, .int p1, .int p2])).length) Slot.unset).toArray = ls at hl ⊢
  have hl : lv_has ls 3 [(0, .ref q_this), (1, .int p1), (2, .int p2)] := hl
  have hP : va_P G vwCl [(q_this, .inr (8, [.ref q_now, .ref q_saved, .int f_imaged, .ref q_trial, .ref q_lowering, .ref q_counts, .ref q_expansion, .ref q_setUp, .ref q_tapes])), (q_now, .inr (6, [.ref q_now_ground, .ref q_now_notes, .ref q_now_seen, .ref q_now_events, .ref q_now_book])), (q_now_ground, .inr (2, [.int f_now_ground_a, .int f_now_ground_b, .int f_now_ground_x, .int f_now_ground_y])), (q_lowering, .inr (3, [.int f_lowering_x, .int f_lowering_y, .int f_lowering_steps, .int f_lowering_metLetter])), (q_counts, .inr (0, [.ref q_lowering, .ref q_counts_sorts, .ref q_counts_counts, .ref q_counts_shares, .int f_counts_a, .int f_counts_b])), (q_counts_sorts, .inl (cy 0, 169, .inl f_counts_sorts)), (q_counts_counts, .inl (cy 0, 169, .inl f_counts_counts)), (q_counts_shares, .inl (cy 1, 169, .inr (.inl f_counts_shares)))] s.heap := hP
  have hf : ((fX8_isCountable p1 p2).bind fun q2 => ((if q2 = 0 then some ((-2), f_lowering_x, f_lowering_y, f_lowering_steps, f_lowering_metLetter, f_counts_a, f_counts_b, f_counts_sorts, f_counts_counts, f_counts_shares) else (fX0_fillFor n f_now_ground_a f_now_ground_b f_counts_a f_counts_b f_lowering_x f_lowering_y f_lowering_steps f_lowering_metLetter f_counts_sorts f_counts_counts f_counts_shares).bind fun q35 => ((fX0_countAt p1 p2 q35.2.2.2.2.2.2.2.1).bind fun q44 => (some (q44, q35.2.2.1, q35.2.2.2.1, q35.2.2.2.2.1, q35.2.2.2.2.2.1, q35.1, q35.2.1, q35.2.2.2.2.2.2.1, q35.2.2.2.2.2.2.2.1, q35.2.2.2.2.2.2.2.2))))) : Option (Int32 × Int32 × Int32 × Int32 × Int32 × Int32 × Int32 × (Nat → Int32) × (Nat → Int32) × (Nat → Int64))) = some o := hf
  refine lv_iload_n hx hb dX8_counted_0 rfl (lv_at hl 1 rfl) ?_
  refine lv_iload_n hx hb dX8_counted_1 rfl (lv_at hl 2 rfl) ?_
  obtain ⟨q2, h2_17, hf⟩ := bd_s hf
  refine u_calliR (va_runS (As := [.int p1, .int p2]) (rest := []) ⟨hx, hb, hml, hown, htA⟩ (kX8_isCountable l G cy s.heap.size p1 p2 h2_17) (u_cwS htA a_ml_X8_199 pk_X8_isCountable ⟨Nat.le_of_ble_eq_true rfl, Nat.le_of_ble_eq_true rfl⟩) (u_preS hK hN hP hD [] rfl (by decide)) rfl rfl hl.1 rfl (lv_room (Nat.le_of_ble_eq_true rfl)) dX8_counted_2 ⟨Nat.zero_le _, Nat.zero_le _⟩) hP hD hS hA [] rfl (fun H locs hP hS => ?_)
  refine lv_if_ne (tgt := 11) hx hb dX8_counted_5 (by decide) (fun c_18 => ?_) (fun c_18 => ?_)
  · have hf := ite_f c_18 hf
    refine lv_aload_n hx hb dX8_counted_11 rfl (lv_at hl 0 rfl) ?_
    refine va_get (D := G) (ci := 8) (v := .ref q_counts) (C := RX8) (T := TX8) (N := 9) hx hb htA lyX8 hown hK hP 0 rfl rfl 5 (by decide) (htA _ a_fl_X8_44) (fun _ h9 => h9) rfl dX8_counted_12 ?_
    refine lv_aload_n hx hb dX8_counted_15 rfl (lv_at hl 0 rfl) ?_
    refine va_get (D := G) (ci := 8) (v := .ref q_now) (C := RX8) (T := TX8) (N := 9) hx hb htA lyX8 hown hK hP 0 rfl rfl 0 (by decide) (htA _ a_fl_X8_14) (fun _ h9 => h9) rfl dX8_counted_16 ?_
    refine va_getN (D := G) (ci := 6) (v := .ref q_now_ground) (C := RX6) (T := TX6) (N := 5) hx hb htA lyX6 hown hK hP 1 rfl rfl 0 (by decide) (u_link hN (List.mem_of_getElem? (i := 6) rfl)) (fun _ h9 => h9) rfl dX8_counted_19 ?_
    refine va_getN (D := G) (ci := 2) (v := .int f_now_ground_a) (C := RX2) (T := TX2) (N := 4) hx hb htA lyX2 hown hK hP 2 rfl rfl 0 (by decide) (u_link hN (List.mem_of_getElem? (i := 2) rfl)) (fun _ h9 => h9) rfl dX8_counted_22 ?_
    refine lv_aload_n hx hb dX8_counted_25 rfl (lv_at hl 0 rfl) ?_
    refine va_get (D := G) (ci := 8) (v := .ref q_now) (C := RX8) (T := TX8) (N := 9) hx hb htA lyX8 hown hK hP 0 rfl rfl 0 (by decide) (htA _ a_fl_X8_14) (fun _ h9 => h9) rfl dX8_counted_26 ?_
    refine va_getN (D := G) (ci := 6) (v := .ref q_now_ground) (C := RX6) (T := TX6) (N := 5) hx hb htA lyX6 hown hK hP 1 rfl rfl 0 (by decide) (u_link hN (List.mem_of_getElem? (i := 6) rfl)) (fun _ h9 => h9) rfl dX8_counted_29 ?_
    refine va_getN (D := G) (ci := 2) (v := .int f_now_ground_b) (C := RX2) (T := TX2) (N := 4) hx hb htA lyX2 hown hK hP 2 rfl rfl 1 (by decide) (u_link hN (List.mem_of_getElem? (i := 3) rfl)) (fun _ h9 => h9) rfl dX8_counted_32 ?_
    obtain ⟨q35, h35_19, hf⟩ := bd_s hf
    refine u_callv [(q_this, .inr (8, [.ref q_now, .ref q_saved, .int f_imaged, .ref q_trial, .ref q_lowering, .ref q_counts, .ref q_expansion, .ref q_setUp, .ref q_tapes])), (q_now, .inr (6, [.ref q_now_ground, .ref q_now_notes, .ref q_now_seen, .ref q_now_events, .ref q_now_book])), (q_now_ground, .inr (2, [.int f_now_ground_a, .int f_now_ground_b, .int f_now_ground_x, .int f_now_ground_y])), (q_lowering, .inr (3, [.int q35.2.2.1, .int q35.2.2.2.1, .int q35.2.2.2.2.1, .int q35.2.2.2.2.2.1])), (q_counts, .inr (0, [.ref q_lowering, .ref q_counts_sorts, .ref q_counts_counts, .ref q_counts_shares, .int q35.1, .int q35.2.1])), (q_counts_sorts, .inl (cy 0, 169, .inl q35.2.2.2.2.2.2.1)), (q_counts_counts, .inl (cy 0, 169, .inl q35.2.2.2.2.2.2.2.1)), (q_counts_shares, .inl (cy 1, 169, .inr (.inl q35.2.2.2.2.2.2.2.2)))] (va_runV (As := [.int f_now_ground_a, .int f_now_ground_b]) (rest := []) ⟨hx, hb, hml, hown, htA⟩ (kX0_fillFor l G cy q_counts q_lowering q_counts_sorts q_counts_counts q_counts_shares H.size f_counts_a f_counts_b f_lowering_x f_lowering_y f_lowering_steps f_lowering_metLetter f_counts_sorts f_counts_counts f_counts_shares f_now_ground_a f_now_ground_b n h35_19) (u_cwV htA a_ml_X8_202 pk_X0_fillFor ⟨Nat.le_of_ble_eq_true rfl, Nat.le_of_ble_eq_true rfl⟩) (u_preV hK hN hP hD [4, 3, 5, 6, 7] rfl (by decide) 4 rfl rfl) rfl rfl hl.1 rfl (lv_room (Nat.le_of_ble_eq_true rfl)) dX8_counted_35 ⟨Nat.zero_le _, Nat.zero_le _⟩) hP hD hS hA [4, 3, 5, 6, 7] rfl [0, 1, 2] 8 rfl rfl rfl (by decide) rfl (fun H locs hP hD hS => ?_)
    refine lv_aload_n hx hb dX8_counted_38 rfl (lv_at hl 0 rfl) ?_
    refine va_get (D := G) (ci := 8) (v := .ref q_counts) (C := RX8) (T := TX8) (N := 9) hx hb htA lyX8 hown hK hP 0 rfl rfl 5 (by decide) (htA _ a_fl_X8_44) (fun _ h9 => h9) rfl dX8_counted_39 ?_
    refine lv_iload_n hx hb dX8_counted_42 rfl (lv_at hl 1 rfl) ?_
    refine lv_iload_n hx hb dX8_counted_43 rfl (lv_at hl 2 rfl) ?_
    obtain ⟨q44, h44_20, hf⟩ := bd_s hf
    refine u_calliR (va_runV (As := [.int p1, .int p2]) (rest := []) ⟨hx, hb, hml, hown, htA⟩ (kX0_countAt l G cy q_counts q_lowering q_counts_sorts q_counts_counts q_counts_shares H.size q35.1 q35.2.1 q35.2.2.2.2.2.2.2.1 p1 p2 h44_20) (u_cwV htA a_ml_X8_206 pk_X0_countAt ⟨Nat.le_of_ble_eq_true rfl, Nat.le_of_ble_eq_true rfl⟩) (u_preV hK hN hP hD [4, 6] rfl (by decide) 4 rfl rfl) rfl rfl hl.1 rfl (lv_room (Nat.le_of_ble_eq_true rfl)) dX8_counted_44 ⟨Nat.zero_le _, Nat.zero_le _⟩) hP hD hS hA [4, 6] rfl (fun H locs hP hS => ?_)
    have ho := Option.some.inj hf
    subst ho
    exact W.iret (v := q44) hx hb hr (fun t ht hW => ⟨⟨_, (), rfl, rfl, by rw [ht]; exact hP, va_K.moved hW.alike hK, hD⟩, hS.F ht⟩) hS.2.2 dX8_counted_47
  · have hf := ite_t c_18 hf
    refine lv_bipush (v := (-2)) hx hb dX8_counted_8 (by decide) ?_
    have ho := Option.some.inj hf
    subst ho
    exact W.iret (v := (-2)) hx hb hr (fun t ht hW => ⟨⟨_, (), rfl, rfl, by rw [ht]; exact hP, va_K.moved hW.alike hK, hD⟩, hS.F ht⟩) hS.2.2 dX8_counted_10
set_option maxRecDepth 100000 in
set_option maxHeartbeats 4000000 in
theorem wX8_commonDivisor_15 {p : Program} {l : Launch} {e : Env} {s : State} {m : MethodId} {args : Array Value} {below : List Frame} {meth : Method} {c : Code} {G : va_G} {cy : Nat → ClassId} {A : Nat → Prop} {n : Nat} {o : Int64} (C : Cx p s m args meth c cX8_commonDivisor 11 (some .long) RX8 G cy A) : ∀ k15 : Nat, ∀ (v4 : Int64) (v6 : Int64) (v8 : Int32) (H : Heap) (locs : List Loc) (ls : Array Slot), va_P G vwCl [] H → va_D A [] → va_S A s.heap H locs → lv_has ls 11 [(4, .long v4), (6, .long v6), (8, .int v8)] → lX8_commonDivisor_15 n k15 v4 v6 v8 = some o → W p l e (headSpec (Cond.code yX8_commonDivisor cX8_commonDivisor 11 (some .long) :: AW) ({ frames := 1, cells := 0, slots := 0, locals := 38 } : Room)).room s m args below meth c H locs 0 0 (MQ below (va_Ql (fun r (_ : Unit) => r = o) (fun _ => Wq G cy A []) A) args s 0 0 A) (F0 m 15 ls []) := by
  have C0 := C
  obtain ⟨hx, hb, hr, hml, htA, hown, hK, hN, hA, hlocks⟩ := C
  intro k15
  induction k15 with
  | zero =>
    intro v4 v6 v8 H locs ls hP hD hS hl hf
    exact no_s hf
  | succ k15 ih15 =>
    intro v4 v6 v8 H locs ls hP hD hS hl hf
    have hf : ((if 200 ≤ v8 then some (v4) else (if (lg_cmp v6 0) = 0 then some (v4) else dk (decide (¬ v6 = 0)) (lX8_commonDivisor_15 n k15 v6 (v4 - v4 / v6 * v6) (v8 + 1)))) : Option (Int64)) = some o := hf
    refine lv_iload hx hb dX8_commonDivisor_15 (lv_at hl 2 rfl) ?_
    refine lv_sipush (v := 200) hx hb dX8_commonDivisor_17 (by decide) ?_
    refine lv_icmp_ge (tgt := 51) hx hb dX8_commonDivisor_20 (by decide) (fun c_13 => ?_) (fun c_13 => ?_)
    · have hf := ite_t c_13 hf
      refine lv_lload hx hb dX8_commonDivisor_51 (lv_at hl 0 rfl) ?_
      have ho := Option.some.inj hf
      subst ho
      exact W.lret (v := v4) hx hb hr (fun t ht hW => ⟨⟨_, (), rfl, rfl, by rw [ht]; exact hP, va_K.moved hW.alike hK, hD⟩, hS.F ht⟩) hS.2.2 dX8_commonDivisor_53
    · have hf := ite_f c_13 hf
      refine lv_lload hx hb dX8_commonDivisor_23 (lv_at hl 1 rfl) ?_
      refine lv_lconst (v := 0) hx hb dX8_commonDivisor_25 (by decide) ?_
      refine W.lcmp hx hb dX8_commonDivisor_26 ?_
      refine lv_if_eq (tgt := 51) hx hb dX8_commonDivisor_27 (by decide) (fun c_14 => ?_) (fun c_14 => ?_)
      · have hf := ite_t c_14 hf
        refine lv_lload hx hb dX8_commonDivisor_51 (lv_at hl 0 rfl) ?_
        have ho := Option.some.inj hf
        subst ho
        exact W.lret (v := v4) hx hb hr (fun t ht hW => ⟨⟨_, (), rfl, rfl, by rw [ht]; exact hP, va_K.moved hW.alike hK, hD⟩, hS.F ht⟩) hS.2.2 dX8_commonDivisor_53
      · have hf := ite_f c_14 hf
        refine lv_lload hx hb dX8_commonDivisor_30 (lv_at hl 0 rfl) ?_
        refine lv_lload hx hb dX8_commonDivisor_32 (lv_at hl 1 rfl) ?_
        obtain ⟨d_15, hf⟩ := dk_s hf
        refine lv_lrem hx hb dX8_commonDivisor_34 (dk_l d_15) ?_
        refine lv_lstore (lv' := [(9, .long (v4 - v4 / v6 * v6)), (4, .long v4), (6, .long v6), (8, .int v8)]) hx hb dX8_commonDivisor_35 hl (by decide) rfl (fun ls hl => ?_)
        refine lv_lload hx hb dX8_commonDivisor_37 (lv_at hl 2 rfl) ?_
        refine lv_lstore (lv' := [(4, .long v6), (9, .long (v4 - v4 / v6 * v6)), (6, .long v6), (8, .int v8)]) hx hb dX8_commonDivisor_39 hl (by decide) rfl (fun ls hl => ?_)
        refine lv_lload hx hb dX8_commonDivisor_41 (lv_at hl 1 rfl) ?_
        refine lv_lstore (lv' := [(6, .long (v4 - v4 / v6 * v6)), (4, .long v6), (9, .long (v4 - v4 / v6 * v6)), (8, .int v8)]) hx hb dX8_commonDivisor_43 hl (by decide) rfl (fun ls hl => ?_)
        refine lv_iinc (v := (v8 + 1)) (lv' := [(8, .int (v8 + 1)), (6, .long (v4 - v4 / v6 * v6)), (4, .long v6), (9, .long (v4 - v4 / v6 * v6))]) hx hb dX8_commonDivisor_45 hl (k := 3) rfl rfl (by decide) rfl (fun ls hl => ?_)
        refine lv_goto (tgt := 15) hx hb dX8_commonDivisor_48 (by decide) ?_
        exact ih15 _ _ _ _ _ _ hP hD hS (lv_sub hl [2, 1, 0] rfl) hf
set_option maxRecDepth 100000 in
set_option maxHeartbeats 4000000 in
theorem kX8_commonDivisor (l : Launch) (G : va_G) (cy : Nat → ClassId) (sz : Nat) (p0 : Int64) (p2 : Int64) (n : Nat) {o : Int64} (hf : fX8_commonDivisor n p0 p2 = some o) : Met l yX8_commonDivisor (Cond.code yX8_commonDivisor cX8_commonDivisor 11 (some .long) :: AW) ({ frames := 1, cells := 0, slots := 0, locals := 38 } : Room) (va_Pc [.long p0, .long p2] (Wp G cy [] sz)) (va_Ql (fun r (_ : Unit) => r = o) (fun _ => Wq G cy (va_A [] sz) []) (va_A [] sz)) 0 0 (va_A [] sz) := by
  refine Met.ofW (cc := cX8_commonDivisor) (maxL := 11) (ret := (some .long)) (by decide) rfl ?_
  intro p e s m args below meth c s₁ B hml hv
  obtain ⟨rfl, hsz, hP, hK, hD0, hN⟩ := hv
  have hx := B.exec
  have hb := B.bytes
  have hr := B.returns
  have htA : ∀ w ∈ AW, w.before _ s = true := fun w h => atoms_spec (ws := Cond.code yX8_commonDivisor cX8_commonDivisor 11 (some .long) :: AW) B.pre w (List.mem_cons_of_mem _ h)
  have hown : s.vm.findClass RX8 = some m.cls := findClass_of_methodNamed B.named
  have hlocks := B.notSynchronized
  subst hsz
  have hD := hD0.self (sz := s.heap.size)
  generalize hAe : va_A [] s.heap.size = A at hD ⊢
  have hA : ∀ q : Nat, s.heap.size ≤ q → A q := fun q h => by rw [← hAe]; exact Or.inr h
  have hS : va_S A s.heap s.heap [] := va_S.rf
  have hl := lv_entry ([.long p0, .long p2]) (n := 11) (Nat.le_of_ble_eq_true rfl)
  rw [lg_entry_eq]
  generalize (lg_sl ([.long p0, .long p2]) ++ List.replicate (11 - (lg_sl ([.long p0, .long p2])).length) Slot.unset).toArray = ls at hl ⊢
  have hl : lv_has ls 11 [(0, .long p0), (2, .long p2)] := hl
  have hP : va_P G vwCl [] s.heap := hP
  have C0 : Cx p s m _ meth c cX8_commonDivisor 11 (some .long) RX8 G cy A := ⟨hx, hb, hr, hml, htA, hown, hK, hN, hA, hlocks⟩
  have hf : (lX8_commonDivisor_15 n n (if 0 < p0 then p0 else -p0) (if 0 < p2 then p2 else -p2) 0 : Option (Int64)) = some o := hf
  refine lv_lload_n hx hb dX8_commonDivisor_0 rfl (lv_at hl 0 rfl) ?_
  refine va_mabs_long hx hb (by rw [hml]; exact hl.1.symm) hown (htA _ a_ml_X8_302) (htA _ a_st_Lib_MathLoose_abs_long_x) (htA _ a_in_J9) (htA _ a_co_Lib_MathLoose_abs_long_x) (Nat.le_of_ble_eq_true rfl) (Nat.le_of_ble_eq_true rfl) (Nat.zero_le _) (Nat.zero_le _) dX8_commonDivisor_1 ?_
  refine lv_lstore (lv' := [(4, .long (if 0 < p0 then p0 else -p0)), (0, .long p0), (2, .long p2)]) hx hb dX8_commonDivisor_4 hl (by decide) rfl (fun ls hl => ?_)
  refine lv_lload_n hx hb dX8_commonDivisor_6 rfl (lv_at hl 2 rfl) ?_
  refine va_mabs_long hx hb (by rw [hml]; exact hl.1.symm) hown (htA _ a_ml_X8_302) (htA _ a_st_Lib_MathLoose_abs_long_x) (htA _ a_in_J9) (htA _ a_co_Lib_MathLoose_abs_long_x) (Nat.le_of_ble_eq_true rfl) (Nat.le_of_ble_eq_true rfl) (Nat.zero_le _) (Nat.zero_le _) dX8_commonDivisor_7 ?_
  refine lv_lstore (lv' := [(6, .long (if 0 < p2 then p2 else -p2)), (4, .long (if 0 < p0 then p0 else -p0)), (0, .long p0), (2, .long p2)]) hx hb dX8_commonDivisor_10 hl (by decide) rfl (fun ls hl => ?_)
  refine lv_iconst (v := 0) hx hb dX8_commonDivisor_12 (by decide) ?_
  refine lv_istore (lv' := [(8, .int 0), (6, .long (if 0 < p2 then p2 else -p2)), (4, .long (if 0 < p0 then p0 else -p0)), (0, .long p0), (2, .long p2)]) hx hb dX8_commonDivisor_13 hl (by decide) rfl (fun ls hl => ?_)
  exact wX8_commonDivisor_15 C0 n _ _ _ _ _ _ hP hD hS (lv_sub hl [2, 1, 0] rfl) hf
set_option maxRecDepth 100000 in
set_option maxHeartbeats 4000000 in
theorem kX8_partOf (l : Launch) (G : va_G) (cy : Nat → ClassId) (sz : Nat) (p0 : Int64) (p2 : Int64) (p4 : Int32) (n : Nat) {o : Int64} (hf : fX8_partOf n p0 p2 p4 = some o) : Met l yX8_partOf (Cond.code yX8_partOf cX8_partOf 7 (some .long) :: AW) ({ frames := 2, cells := 0, slots := 0, locals := 68 } : Room) (va_Pc [.long p0, .long p2, .int p4] (Wp G cy [] sz)) (va_Ql (fun r (_ : Unit) => r = o) (fun _ => Wq G cy (va_A [] sz) []) (va_A [] sz)) 0 0 (va_A [] sz) := by
  refine Met.ofW (cc := cX8_partOf) (maxL := 7) (ret := (some .long)) (by decide) rfl ?_
  intro p e s m args below meth c s₁ B hml hv
  obtain ⟨rfl, hsz, hP, hK, hD0, hN⟩ := hv
  have hx := B.exec
  have hb := B.bytes
  have hr := B.returns
  have htA : ∀ w ∈ AW, w.before _ s = true := fun w h => atoms_spec (ws := Cond.code yX8_partOf cX8_partOf 7 (some .long) :: AW) B.pre w (List.mem_cons_of_mem _ h)
  have hown : s.vm.findClass RX8 = some m.cls := findClass_of_methodNamed B.named
  have hlocks := B.notSynchronized
  subst hsz
  have hD := hD0.self (sz := s.heap.size)
  generalize hAe : va_A [] s.heap.size = A at hD ⊢
  have hA : ∀ q : Nat, s.heap.size ≤ q → A q := fun q h => by rw [← hAe]; exact Or.inr h
  have hS : va_S A s.heap s.heap [] := va_S.rf
  have hl := lv_entry ([.long p0, .long p2, .int p4]) (n := 7) (Nat.le_of_ble_eq_true rfl)
  rw [lg_entry_eq]
  generalize (lg_sl ([.long p0, .long p2, .int p4]) ++ List.replicate (7 - (lg_sl ([.long p0, .long p2, .int p4])).length) Slot.unset).toArray = ls at hl ⊢
  have hl : lv_has ls 7 [(0, .long p0), (2, .long p2), (4, .int p4)] := hl
  have hP : va_P G vwCl [] s.heap := hP
  have hf : ((fX8_commonDivisor n p0 p2).bind fun q2 => ((if (lg_cmp q2 0) = 0 then some ((-9223372036854775808)) else (if p4 = 0 then dk (decide (¬ q2 = 0)) (some ((p0 / q2))) else dk (decide (¬ q2 = 0)) (some ((p2 / q2)))))) : Option (Int64)) = some o := hf
  refine lv_lload_n hx hb dX8_partOf_0 rfl (lv_at hl 0 rfl) ?_
  refine lv_lload_n hx hb dX8_partOf_1 rfl (lv_at hl 1 rfl) ?_
  obtain ⟨q2, h2_21, hf⟩ := bd_s hf
  refine u_calllR (va_runS (As := [.long p0, .long p2]) (rest := []) ⟨hx, hb, hml, hown, htA⟩ (kX8_commonDivisor l G cy s.heap.size p0 p2 n h2_21) (u_cwS htA a_ml_X8_298 pk_X8_commonDivisor ⟨Nat.le_of_ble_eq_true rfl, Nat.le_of_ble_eq_true rfl⟩) (u_preS hK hN hP hD [] rfl (by decide)) rfl rfl hl.1 rfl (lv_room (Nat.le_of_ble_eq_true rfl)) dX8_partOf_2 ⟨Nat.zero_le _, Nat.zero_le _⟩) hP hD hS hA [] rfl (fun H locs hP hS => ?_)
  refine lv_lstore (lv' := [(5, .long q2), (0, .long p0), (2, .long p2), (4, .int p4)]) hx hb dX8_partOf_5 hl (by decide) rfl (fun ls hl => ?_)
  refine lv_lload hx hb dX8_partOf_7 (lv_at hl 0 rfl) ?_
  refine lv_lconst (v := 0) hx hb dX8_partOf_9 (by decide) ?_
  refine W.lcmp hx hb dX8_partOf_10 ?_
  refine lv_if_ne (tgt := 18) hx hb dX8_partOf_11 (by decide) (fun c_22 => ?_) (fun c_22 => ?_)
  · have hf := ite_f c_22 hf
    refine lv_iload hx hb dX8_partOf_18 (lv_at hl 3 rfl) ?_
    refine lv_if_ne (tgt := 30) hx hb dX8_partOf_20 (by decide) (fun c_23 => ?_) (fun c_23 => ?_)
    · have hf := ite_f c_23 hf
      refine lv_lload_n hx hb dX8_partOf_30 rfl (lv_at hl 2 rfl) ?_
      refine lv_lload hx hb dX8_partOf_31 (lv_at hl 0 rfl) ?_
      obtain ⟨d_24, hf⟩ := dk_s hf
      refine lv_ldiv hx hb dX8_partOf_33 (dk_l d_24) ?_
      have ho := Option.some.inj hf
      subst ho
      exact W.lret (v := (p2 / q2)) hx hb hr (fun t ht hW => ⟨⟨_, (), rfl, rfl, by rw [ht]; exact hP, va_K.moved hW.alike hK, hD⟩, hS.F ht⟩) hS.2.2 dX8_partOf_34
    · have hf := ite_t c_23 hf
      refine lv_lload_n hx hb dX8_partOf_23 rfl (lv_at hl 1 rfl) ?_
      refine lv_lload hx hb dX8_partOf_24 (lv_at hl 0 rfl) ?_
      obtain ⟨d_25, hf⟩ := dk_s hf
      refine lv_ldiv hx hb dX8_partOf_26 (dk_l d_25) ?_
      refine lv_goto (tgt := 34) hx hb dX8_partOf_27 (by decide) ?_
      have ho := Option.some.inj hf
      subst ho
      exact W.lret (v := (p0 / q2)) hx hb hr (fun t ht hW => ⟨⟨_, (), rfl, rfl, by rw [ht]; exact hP, va_K.moved hW.alike hK, hD⟩, hS.F ht⟩) hS.2.2 dX8_partOf_34
  · have hf := ite_t c_22 hf
    refine lv_ldc2 (v := (-9223372036854775808)) hx hb hown (htA _ a_cl_X8_170) dX8_partOf_14 ?_
    have ho := Option.some.inj hf
    subst ho
    exact W.lret (v := (-9223372036854775808)) hx hb hr (fun t ht hW => ⟨⟨_, (), rfl, rfl, by rw [ht]; exact hP, va_K.moved hW.alike hK, hD⟩, hS.F ht⟩) hS.2.2 dX8_partOf_17
set_option maxRecDepth 100000 in
set_option maxHeartbeats 4000000 in
theorem kX8_c (l : Launch) (G : va_G) (cy : Nat → ClassId) (q_this : Nat) (q_now : Nat) (q_saved : Nat) (q_trial : Nat) (q_lowering : Nat) (q_counts : Nat) (q_expansion : Nat) (q_setUp : Nat) (q_tapes : Nat) (q_now_ground : Nat) (q_now_notes : Nat) (q_now_seen : Nat) (q_now_events : Nat) (q_now_book : Nat) (q_counts_sorts : Nat) (q_counts_counts : Nat) (q_counts_shares : Nat) (sz : Nat) (f_imaged : Int32) (f_now_ground_a : Int32) (f_now_ground_b : Int32) (f_now_ground_x : Int32) (f_now_ground_y : Int32) (f_lowering_x : Int32) (f_lowering_y : Int32) (f_lowering_steps : Int32) (f_lowering_metLetter : Int32) (f_counts_a : Int32) (f_counts_b : Int32) (f_counts_sorts : Nat → Int32) (f_counts_counts : Nat → Int32) (f_counts_shares : Nat → Int64) (p1 : Int32) (p2 : Int32) (p3 : Int32) (n : Nat) {o : Int64 × Int32 × Int32 × Int32 × Int32 × Int32 × Int32 × (Nat → Int32) × (Nat → Int32) × (Nat → Int64)} (hf : fX8_c n p1 p2 p3 f_now_ground_a f_now_ground_b f_lowering_x f_lowering_y f_lowering_steps f_lowering_metLetter f_counts_a f_counts_b f_counts_sorts f_counts_counts f_counts_shares = some o) : Met l yX8_c (Cond.code yX8_c cX8_c 4 (some .long) :: AW) ({ frames := 6, cells := 0, slots := 0, locals := 140 } : Room) (va_Pc [.ref q_this, .int p1, .int p2, .int p3] (Wp G cy [(q_this, .inr (8, [.ref q_now, .ref q_saved, .int f_imaged, .ref q_trial, .ref q_lowering, .ref q_counts, .ref q_expansion, .ref q_setUp, .ref q_tapes])), (q_now, .inr (6, [.ref q_now_ground, .ref q_now_notes, .ref q_now_seen, .ref q_now_events, .ref q_now_book])), (q_now_ground, .inr (2, [.int f_now_ground_a, .int f_now_ground_b, .int f_now_ground_x, .int f_now_ground_y])), (q_lowering, .inr (3, [.int f_lowering_x, .int f_lowering_y, .int f_lowering_steps, .int f_lowering_metLetter])), (q_counts, .inr (0, [.ref q_lowering, .ref q_counts_sorts, .ref q_counts_counts, .ref q_counts_shares, .int f_counts_a, .int f_counts_b])), (q_counts_sorts, .inl (cy 0, 169, .inl f_counts_sorts)), (q_counts_counts, .inl (cy 0, 169, .inl f_counts_counts)), (q_counts_shares, .inl (cy 1, 169, .inr (.inl f_counts_shares)))] sz)) (va_Ql (fun r (_ : Unit) => r = o.1) (fun _ => Wq G cy (va_A [(q_this, .inr (8, [.ref q_now, .ref q_saved, .int f_imaged, .ref q_trial, .ref q_lowering, .ref q_counts, .ref q_expansion, .ref q_setUp, .ref q_tapes])), (q_now, .inr (6, [.ref q_now_ground, .ref q_now_notes, .ref q_now_seen, .ref q_now_events, .ref q_now_book])), (q_now_ground, .inr (2, [.int f_now_ground_a, .int f_now_ground_b, .int f_now_ground_x, .int f_now_ground_y])), (q_lowering, .inr (3, [.int f_lowering_x, .int f_lowering_y, .int f_lowering_steps, .int f_lowering_metLetter])), (q_counts, .inr (0, [.ref q_lowering, .ref q_counts_sorts, .ref q_counts_counts, .ref q_counts_shares, .int f_counts_a, .int f_counts_b])), (q_counts_sorts, .inl (cy 0, 169, .inl f_counts_sorts)), (q_counts_counts, .inl (cy 0, 169, .inl f_counts_counts)), (q_counts_shares, .inl (cy 1, 169, .inr (.inl f_counts_shares)))] sz) [(q_this, .inr (8, [.ref q_now, .ref q_saved, .int f_imaged, .ref q_trial, .ref q_lowering, .ref q_counts, .ref q_expansion, .ref q_setUp, .ref q_tapes])), (q_now, .inr (6, [.ref q_now_ground, .ref q_now_notes, .ref q_now_seen, .ref q_now_events, .ref q_now_book])), (q_now_ground, .inr (2, [.int f_now_ground_a, .int f_now_ground_b, .int f_now_ground_x, .int f_now_ground_y])), (q_lowering, .inr (3, [.int o.2.1, .int o.2.2.1, .int o.2.2.2.1, .int o.2.2.2.2.1])), (q_counts, .inr (0, [.ref q_lowering, .ref q_counts_sorts, .ref q_counts_counts, .ref q_counts_shares, .int o.2.2.2.2.2.1, .int o.2.2.2.2.2.2.1])), (q_counts_sorts, .inl (cy 0, 169, .inl o.2.2.2.2.2.2.2.1)), (q_counts_counts, .inl (cy 0, 169, .inl o.2.2.2.2.2.2.2.2.1)), (q_counts_shares, .inl (cy 1, 169, .inr (.inl o.2.2.2.2.2.2.2.2.2)))]) (va_A [(q_this, .inr (8, [.ref q_now, .ref q_saved, .int f_imaged, .ref q_trial, .ref q_lowering, .ref q_counts, .ref q_expansion, .ref q_setUp, .ref q_tapes])), (q_now, .inr (6, [.ref q_now_ground, .ref q_now_notes, .ref q_now_seen, .ref q_now_events, .ref q_now_book])), (q_now_ground, .inr (2, [.int f_now_ground_a, .int f_now_ground_b, .int f_now_ground_x, .int f_now_ground_y])), (q_lowering, .inr (3, [.int f_lowering_x, .int f_lowering_y, .int f_lowering_steps, .int f_lowering_metLetter])), (q_counts, .inr (0, [.ref q_lowering, .ref q_counts_sorts, .ref q_counts_counts, .ref q_counts_shares, .int f_counts_a, .int f_counts_b])), (q_counts_sorts, .inl (cy 0, 169, .inl f_counts_sorts)), (q_counts_counts, .inl (cy 0, 169, .inl f_counts_counts)), (q_counts_shares, .inl (cy 1, 169, .inr (.inl f_counts_shares)))] sz)) 0 0 (va_A [(q_this, .inr (8, [.ref q_now, .ref q_saved, .int f_imaged, .ref q_trial, .ref q_lowering, .ref q_counts, .ref q_expansion, .ref q_setUp, .ref q_tapes])), (q_now, .inr (6, [.ref q_now_ground, .ref q_now_notes, .ref q_now_seen, .ref q_now_events, .ref q_now_book])), (q_now_ground, .inr (2, [.int f_now_ground_a, .int f_now_ground_b, .int f_now_ground_x, .int f_now_ground_y])), (q_lowering, .inr (3, [.int f_lowering_x, .int f_lowering_y, .int f_lowering_steps, .int f_lowering_metLetter])), (q_counts, .inr (0, [.ref q_lowering, .ref q_counts_sorts, .ref q_counts_counts, .ref q_counts_shares, .int f_counts_a, .int f_counts_b])), (q_counts_sorts, .inl (cy 0, 169, .inl f_counts_sorts)), (q_counts_counts, .inl (cy 0, 169, .inl f_counts_counts)), (q_counts_shares, .inl (cy 1, 169, .inr (.inl f_counts_shares)))] sz) := by
  refine Met.ofW (cc := cX8_c) (maxL := 4) (ret := (some .long)) (by decide) rfl ?_
  intro p e s m args below meth c s₁ B hml hv
  obtain ⟨rfl, hsz, hP, hK, hD0, hN⟩ := hv
  have hx := B.exec
  have hb := B.bytes
  have hr := B.returns
  have htA : ∀ w ∈ AW, w.before _ s = true := fun w h => atoms_spec (ws := Cond.code yX8_c cX8_c 4 (some .long) :: AW) B.pre w (List.mem_cons_of_mem _ h)
  have hown : s.vm.findClass RX8 = some m.cls := findClass_of_methodNamed B.named
  have hlocks := B.notSynchronized
  subst hsz
  have hD := hD0.self (sz := s.heap.size)
  generalize hAe : va_A [(q_this, .inr (8, [.ref q_now, .ref q_saved, .int f_imaged, .ref q_trial, .ref q_lowering, .ref q_counts, .ref q_expansion, .ref q_setUp, .ref q_tapes])), (q_now, .inr (6, [.ref q_now_ground, .ref q_now_notes, .ref q_now_seen, .ref q_now_events, .ref q_now_book])), (q_now_ground, .inr (2, [.int f_now_ground_a, .int f_now_ground_b, .int f_now_ground_x, .int f_now_ground_y])), (q_lowering, .inr (3, [.int f_lowering_x, .int f_lowering_y, .int f_lowering_steps, .int f_lowering_metLetter])), (q_counts, .inr (0, [.ref q_lowering, .ref q_counts_sorts, .ref q_counts_counts, .ref q_counts_shares, .int f_counts_a, .int f_counts_b])), (q_counts_sorts, .inl (cy 0, 169, .inl f_counts_sorts)), (q_counts_counts, .inl (cy 0, 169, .inl f_counts_counts)), (q_counts_shares, .inl (cy 1, 169, .inr (.inl f_counts_shares)))] s.heap.size = A at hD ⊢
  have hA : ∀ q : Nat, s.heap.size ≤ q → A q := fun q h => by rw [← hAe]; exact Or.inr h
  have hS : va_S A s.heap s.heap [] := va_S.rf
  have hl := lv_entry ([.ref q_this, .int p1, .int p2, .int p3]) (n := 4) (Nat.le_of_ble_eq_true rfl)
  rw [lg_entry_eq]
  generalize (lg_sl ([.ref q_this, .int p1, .int p2, .int p3]) ++ List.replicate (4 - (lg_sl ([.ref q_this, .int p1, .int p2, .int p3])).length) Slot.unset).toArray = ls at hl ⊢
  have hl : lv_has ls 4 [(0, .ref q_this), (1, .int p1), (2, .int p2), (3, .int p3)] := hl
  have hP : va_P G vwCl [(q_this, .inr (8, [.ref q_now, .ref q_saved, .int f_imaged, .ref q_trial, .ref q_lowering, .ref q_counts, .ref q_expansion, .ref q_setUp, .ref q_tapes])), (q_now, .inr (6, [.ref q_now_ground, .ref q_now_notes, .ref q_now_seen, .ref q_now_events, .ref q_now_book])), (q_now_ground, .inr (2, [.int f_now_ground_a, .int f_now_ground_b, .int f_now_ground_x, .int f_now_ground_y])), (q_lowering, .inr (3, [.int f_lowering_x, .int f_lowering_y, .int f_lowering_steps, .int f_lowering_metLetter])), (q_counts, .inr (0, [.ref q_lowering, .ref q_counts_sorts, .ref q_counts_counts, .ref q_counts_shares, .int f_counts_a, .int f_counts_b])), (q_counts_sorts, .inl (cy 0, 169, .inl f_counts_sorts)), (q_counts_counts, .inl (cy 0, 169, .inl f_counts_counts)), (q_counts_shares, .inl (cy 1, 169, .inr (.inl f_counts_shares)))] s.heap := hP
  have hf : ((fX8_isCountable p1 p2).bind fun q2 => ((if q2 = 0 then some ((-9223372036854775808), f_lowering_x, f_lowering_y, f_lowering_steps, f_lowering_metLetter, f_counts_a, f_counts_b, f_counts_sorts, f_counts_counts, f_counts_shares) else (fX8_isIn p3 0 1).bind fun q11 => ((if q11 = 0 then some ((-9223372036854775808), f_lowering_x, f_lowering_y, f_lowering_steps, f_lowering_metLetter, f_counts_a, f_counts_b, f_counts_sorts, f_counts_counts, f_counts_shares) else (fX0_fillFor n f_now_ground_a f_now_ground_b f_counts_a f_counts_b f_lowering_x f_lowering_y f_lowering_steps f_lowering_metLetter f_counts_sorts f_counts_counts f_counts_shares).bind fun q45 => ((fX0_shareAt p1 p2 q45.2.2.2.2.2.2.2.2).bind fun q54 => ((fX8_partOf n q54 27720 p3).bind fun q61 => (some (q61, q45.2.2.1, q45.2.2.2.1, q45.2.2.2.2.1, q45.2.2.2.2.2.1, q45.1, q45.2.1, q45.2.2.2.2.2.2.1, q45.2.2.2.2.2.2.2.1, q45.2.2.2.2.2.2.2.2)))))))) : Option (Int64 × Int32 × Int32 × Int32 × Int32 × Int32 × Int32 × (Nat → Int32) × (Nat → Int32) × (Nat → Int64))) = some o := hf
  refine lv_iload_n hx hb dX8_c_0 rfl (lv_at hl 1 rfl) ?_
  refine lv_iload_n hx hb dX8_c_1 rfl (lv_at hl 2 rfl) ?_
  obtain ⟨q2, h2_29, hf⟩ := bd_s hf
  refine u_calliR (va_runS (As := [.int p1, .int p2]) (rest := []) ⟨hx, hb, hml, hown, htA⟩ (kX8_isCountable l G cy s.heap.size p1 p2 h2_29) (u_cwS htA a_ml_X8_199 pk_X8_isCountable ⟨Nat.le_of_ble_eq_true rfl, Nat.le_of_ble_eq_true rfl⟩) (u_preS hK hN hP hD [] rfl (by decide)) rfl rfl hl.1 rfl (lv_room (Nat.le_of_ble_eq_true rfl)) dX8_c_2 ⟨Nat.zero_le _, Nat.zero_le _⟩) hP hD hS hA [] rfl (fun H locs hP hS => ?_)
  refine lv_if_eq (tgt := 17) hx hb dX8_c_5 (by decide) (fun c_30 => ?_) (fun c_30 => ?_)
  · have hf := ite_t c_30 hf
    refine lv_ldc2 (v := (-9223372036854775808)) hx hb hown (htA _ a_cl_X8_170) dX8_c_17 ?_
    have ho := Option.some.inj hf
    subst ho
    exact W.lret (v := (-9223372036854775808)) hx hb hr (fun t ht hW => ⟨⟨_, (), rfl, rfl, by rw [ht]; exact hP, va_K.moved hW.alike hK, hD⟩, hS.F ht⟩) hS.2.2 dX8_c_20
  · have hf := ite_f c_30 hf
    refine lv_iload_n hx hb dX8_c_8 rfl (lv_at hl 3 rfl) ?_
    refine lv_iconst (v := 0) hx hb dX8_c_9 (by decide) ?_
    refine lv_iconst (v := 1) hx hb dX8_c_10 (by decide) ?_
    obtain ⟨q11, h11_31, hf⟩ := bd_s hf
    refine u_calliR (va_runS (As := [.int p3, .int 0, .int 1]) (rest := []) ⟨hx, hb, hml, hown, htA⟩ (kX8_isIn l G cy H.size p3 0 1 h11_31) (u_cwS htA a_ml_X8_69 pk_X8_isIn ⟨Nat.le_of_ble_eq_true rfl, Nat.le_of_ble_eq_true rfl⟩) (u_preS hK hN hP hD [] rfl (by decide)) rfl rfl hl.1 rfl (lv_room (Nat.le_of_ble_eq_true rfl)) dX8_c_11 ⟨Nat.zero_le _, Nat.zero_le _⟩) hP hD hS hA [] rfl (fun H locs hP hS => ?_)
    refine lv_if_ne (tgt := 21) hx hb dX8_c_14 (by decide) (fun c_32 => ?_) (fun c_32 => ?_)
    · have hf := ite_f c_32 hf
      refine lv_aload_n hx hb dX8_c_21 rfl (lv_at hl 0 rfl) ?_
      refine va_get (D := G) (ci := 8) (v := .ref q_counts) (C := RX8) (T := TX8) (N := 9) hx hb htA lyX8 hown hK hP 0 rfl rfl 5 (by decide) (htA _ a_fl_X8_44) (fun _ h9 => h9) rfl dX8_c_22 ?_
      refine lv_aload_n hx hb dX8_c_25 rfl (lv_at hl 0 rfl) ?_
      refine va_get (D := G) (ci := 8) (v := .ref q_now) (C := RX8) (T := TX8) (N := 9) hx hb htA lyX8 hown hK hP 0 rfl rfl 0 (by decide) (htA _ a_fl_X8_14) (fun _ h9 => h9) rfl dX8_c_26 ?_
      refine va_getN (D := G) (ci := 6) (v := .ref q_now_ground) (C := RX6) (T := TX6) (N := 5) hx hb htA lyX6 hown hK hP 1 rfl rfl 0 (by decide) (u_link hN (List.mem_of_getElem? (i := 6) rfl)) (fun _ h9 => h9) rfl dX8_c_29 ?_
      refine va_getN (D := G) (ci := 2) (v := .int f_now_ground_a) (C := RX2) (T := TX2) (N := 4) hx hb htA lyX2 hown hK hP 2 rfl rfl 0 (by decide) (u_link hN (List.mem_of_getElem? (i := 2) rfl)) (fun _ h9 => h9) rfl dX8_c_32 ?_
      refine lv_aload_n hx hb dX8_c_35 rfl (lv_at hl 0 rfl) ?_
      refine va_get (D := G) (ci := 8) (v := .ref q_now) (C := RX8) (T := TX8) (N := 9) hx hb htA lyX8 hown hK hP 0 rfl rfl 0 (by decide) (htA _ a_fl_X8_14) (fun _ h9 => h9) rfl dX8_c_36 ?_
      refine va_getN (D := G) (ci := 6) (v := .ref q_now_ground) (C := RX6) (T := TX6) (N := 5) hx hb htA lyX6 hown hK hP 1 rfl rfl 0 (by decide) (u_link hN (List.mem_of_getElem? (i := 6) rfl)) (fun _ h9 => h9) rfl dX8_c_39 ?_
      refine va_getN (D := G) (ci := 2) (v := .int f_now_ground_b) (C := RX2) (T := TX2) (N := 4) hx hb htA lyX2 hown hK hP 2 rfl rfl 1 (by decide) (u_link hN (List.mem_of_getElem? (i := 3) rfl)) (fun _ h9 => h9) rfl dX8_c_42 ?_
      obtain ⟨q45, h45_33, hf⟩ := bd_s hf
      refine u_callv [(q_this, .inr (8, [.ref q_now, .ref q_saved, .int f_imaged, .ref q_trial, .ref q_lowering, .ref q_counts, .ref q_expansion, .ref q_setUp, .ref q_tapes])), (q_now, .inr (6, [.ref q_now_ground, .ref q_now_notes, .ref q_now_seen, .ref q_now_events, .ref q_now_book])), (q_now_ground, .inr (2, [.int f_now_ground_a, .int f_now_ground_b, .int f_now_ground_x, .int f_now_ground_y])), (q_lowering, .inr (3, [.int q45.2.2.1, .int q45.2.2.2.1, .int q45.2.2.2.2.1, .int q45.2.2.2.2.2.1])), (q_counts, .inr (0, [.ref q_lowering, .ref q_counts_sorts, .ref q_counts_counts, .ref q_counts_shares, .int q45.1, .int q45.2.1])), (q_counts_sorts, .inl (cy 0, 169, .inl q45.2.2.2.2.2.2.1)), (q_counts_counts, .inl (cy 0, 169, .inl q45.2.2.2.2.2.2.2.1)), (q_counts_shares, .inl (cy 1, 169, .inr (.inl q45.2.2.2.2.2.2.2.2)))] (va_runV (As := [.int f_now_ground_a, .int f_now_ground_b]) (rest := []) ⟨hx, hb, hml, hown, htA⟩ (kX0_fillFor l G cy q_counts q_lowering q_counts_sorts q_counts_counts q_counts_shares H.size f_counts_a f_counts_b f_lowering_x f_lowering_y f_lowering_steps f_lowering_metLetter f_counts_sorts f_counts_counts f_counts_shares f_now_ground_a f_now_ground_b n h45_33) (u_cwV htA a_ml_X8_202 pk_X0_fillFor ⟨Nat.le_of_ble_eq_true rfl, Nat.le_of_ble_eq_true rfl⟩) (u_preV hK hN hP hD [4, 3, 5, 6, 7] rfl (by decide) 4 rfl rfl) rfl rfl hl.1 rfl (lv_room (Nat.le_of_ble_eq_true rfl)) dX8_c_45 ⟨Nat.zero_le _, Nat.zero_le _⟩) hP hD hS hA [4, 3, 5, 6, 7] rfl [0, 1, 2] 8 rfl rfl rfl (by decide) rfl (fun H locs hP hD hS => ?_)
      refine lv_aload_n hx hb dX8_c_48 rfl (lv_at hl 0 rfl) ?_
      refine va_get (D := G) (ci := 8) (v := .ref q_counts) (C := RX8) (T := TX8) (N := 9) hx hb htA lyX8 hown hK hP 0 rfl rfl 5 (by decide) (htA _ a_fl_X8_44) (fun _ h9 => h9) rfl dX8_c_49 ?_
      refine lv_iload_n hx hb dX8_c_52 rfl (lv_at hl 1 rfl) ?_
      refine lv_iload_n hx hb dX8_c_53 rfl (lv_at hl 2 rfl) ?_
      obtain ⟨q54, h54_34, hf⟩ := bd_s hf
      refine u_calllR (va_runV (As := [.int p1, .int p2]) (rest := []) ⟨hx, hb, hml, hown, htA⟩ (kX0_shareAt l G cy q_counts q_lowering q_counts_sorts q_counts_counts q_counts_shares H.size q45.1 q45.2.1 q45.2.2.2.2.2.2.2.2 p1 p2 h54_34) (u_cwV htA a_ml_X8_209 pk_X0_shareAt ⟨Nat.le_of_ble_eq_true rfl, Nat.le_of_ble_eq_true rfl⟩) (u_preV hK hN hP hD [4, 7] rfl (by decide) 4 rfl rfl) rfl rfl hl.1 rfl (lv_room (Nat.le_of_ble_eq_true rfl)) dX8_c_54 ⟨Nat.zero_le _, Nat.zero_le _⟩) hP hD hS hA [4, 7] rfl (fun H locs hP hS => ?_)
      refine lv_ldc2 (v := 27720) hx hb hown (htA _ a_cl_X8_213) dX8_c_57 ?_
      refine lv_iload_n hx hb dX8_c_60 rfl (lv_at hl 3 rfl) ?_
      obtain ⟨q61, h61_35, hf⟩ := bd_s hf
      refine u_calllR (va_runS (As := [.long q54, .long 27720, .int p3]) (rest := []) ⟨hx, hb, hml, hown, htA⟩ (kX8_partOf l G cy H.size q54 27720 p3 n h61_35) (u_cwS htA a_ml_X8_215 pk_X8_partOf ⟨Nat.le_of_ble_eq_true rfl, Nat.le_of_ble_eq_true rfl⟩) (u_preS hK hN hP hD [] rfl (by decide)) rfl rfl hl.1 rfl (lv_room (Nat.le_of_ble_eq_true rfl)) dX8_c_61 ⟨Nat.zero_le _, Nat.zero_le _⟩) hP hD hS hA [] rfl (fun H locs hP hS => ?_)
      have ho := Option.some.inj hf
      subst ho
      exact W.lret (v := q61) hx hb hr (fun t ht hW => ⟨⟨_, (), rfl, rfl, by rw [ht]; exact hP, va_K.moved hW.alike hK, hD⟩, hS.F ht⟩) hS.2.2 dX8_c_64
    · have hf := ite_t c_32 hf
      refine lv_ldc2 (v := (-9223372036854775808)) hx hb hown (htA _ a_cl_X8_170) dX8_c_17 ?_
      have ho := Option.some.inj hf
      subst ho
      exact W.lret (v := (-9223372036854775808)) hx hb hr (fun t ht hW => ⟨⟨_, (), rfl, rfl, by rw [ht]; exact hP, va_K.moved hW.alike hK, hD⟩, hS.F ht⟩) hS.2.2 dX8_c_20
set_option maxRecDepth 100000 in
set_option maxHeartbeats 4000000 in
theorem kX8_level (l : Launch) (G : va_G) (cy : Nat → ClassId) (q_this : Nat) (q_now : Nat) (q_saved : Nat) (q_trial : Nat) (q_lowering : Nat) (q_counts : Nat) (q_expansion : Nat) (q_setUp : Nat) (q_tapes : Nat) (q_now_ground : Nat) (q_now_notes : Nat) (q_now_seen : Nat) (q_now_events : Nat) (q_now_book : Nat) (q_counts_sorts : Nat) (q_counts_counts : Nat) (q_counts_shares : Nat) (sz : Nat) (f_imaged : Int32) (f_now_ground_a : Int32) (f_now_ground_b : Int32) (f_now_ground_x : Int32) (f_now_ground_y : Int32) (f_lowering_x : Int32) (f_lowering_y : Int32) (f_lowering_steps : Int32) (f_lowering_metLetter : Int32) (f_counts_a : Int32) (f_counts_b : Int32) (f_counts_sorts : Nat → Int32) (f_counts_counts : Nat → Int32) (f_counts_shares : Nat → Int64) (p1 : Int32) (p2 : Int32) (n : Nat) {o : Int32 × Int32 × Int32 × Int32 × Int32 × Int32 × Int32 × (Nat → Int32) × (Nat → Int32) × (Nat → Int64)} (hf : fX8_level n p1 p2 f_now_ground_a f_now_ground_b f_lowering_x f_lowering_y f_lowering_steps f_lowering_metLetter f_counts_a f_counts_b f_counts_sorts f_counts_counts f_counts_shares = some o) : Met l yX8_level (Cond.code yX8_level cX8_level 3 (some .int) :: AW) ({ frames := 6, cells := 0, slots := 0, locals := 140 } : Room) (va_Pc [.ref q_this, .int p1, .int p2] (Wp G cy [(q_this, .inr (8, [.ref q_now, .ref q_saved, .int f_imaged, .ref q_trial, .ref q_lowering, .ref q_counts, .ref q_expansion, .ref q_setUp, .ref q_tapes])), (q_now, .inr (6, [.ref q_now_ground, .ref q_now_notes, .ref q_now_seen, .ref q_now_events, .ref q_now_book])), (q_now_ground, .inr (2, [.int f_now_ground_a, .int f_now_ground_b, .int f_now_ground_x, .int f_now_ground_y])), (q_lowering, .inr (3, [.int f_lowering_x, .int f_lowering_y, .int f_lowering_steps, .int f_lowering_metLetter])), (q_counts, .inr (0, [.ref q_lowering, .ref q_counts_sorts, .ref q_counts_counts, .ref q_counts_shares, .int f_counts_a, .int f_counts_b])), (q_counts_sorts, .inl (cy 0, 169, .inl f_counts_sorts)), (q_counts_counts, .inl (cy 0, 169, .inl f_counts_counts)), (q_counts_shares, .inl (cy 1, 169, .inr (.inl f_counts_shares)))] sz)) (va_Qi (fun r (_ : Unit) => r = o.1) (fun _ => Wq G cy (va_A [(q_this, .inr (8, [.ref q_now, .ref q_saved, .int f_imaged, .ref q_trial, .ref q_lowering, .ref q_counts, .ref q_expansion, .ref q_setUp, .ref q_tapes])), (q_now, .inr (6, [.ref q_now_ground, .ref q_now_notes, .ref q_now_seen, .ref q_now_events, .ref q_now_book])), (q_now_ground, .inr (2, [.int f_now_ground_a, .int f_now_ground_b, .int f_now_ground_x, .int f_now_ground_y])), (q_lowering, .inr (3, [.int f_lowering_x, .int f_lowering_y, .int f_lowering_steps, .int f_lowering_metLetter])), (q_counts, .inr (0, [.ref q_lowering, .ref q_counts_sorts, .ref q_counts_counts, .ref q_counts_shares, .int f_counts_a, .int f_counts_b])), (q_counts_sorts, .inl (cy 0, 169, .inl f_counts_sorts)), (q_counts_counts, .inl (cy 0, 169, .inl f_counts_counts)), (q_counts_shares, .inl (cy 1, 169, .inr (.inl f_counts_shares)))] sz) [(q_this, .inr (8, [.ref q_now, .ref q_saved, .int f_imaged, .ref q_trial, .ref q_lowering, .ref q_counts, .ref q_expansion, .ref q_setUp, .ref q_tapes])), (q_now, .inr (6, [.ref q_now_ground, .ref q_now_notes, .ref q_now_seen, .ref q_now_events, .ref q_now_book])), (q_now_ground, .inr (2, [.int f_now_ground_a, .int f_now_ground_b, .int f_now_ground_x, .int f_now_ground_y])), (q_lowering, .inr (3, [.int o.2.1, .int o.2.2.1, .int o.2.2.2.1, .int o.2.2.2.2.1])), (q_counts, .inr (0, [.ref q_lowering, .ref q_counts_sorts, .ref q_counts_counts, .ref q_counts_shares, .int o.2.2.2.2.2.1, .int o.2.2.2.2.2.2.1])), (q_counts_sorts, .inl (cy 0, 169, .inl o.2.2.2.2.2.2.2.1)), (q_counts_counts, .inl (cy 0, 169, .inl o.2.2.2.2.2.2.2.2.1)), (q_counts_shares, .inl (cy 1, 169, .inr (.inl o.2.2.2.2.2.2.2.2.2)))]) (va_A [(q_this, .inr (8, [.ref q_now, .ref q_saved, .int f_imaged, .ref q_trial, .ref q_lowering, .ref q_counts, .ref q_expansion, .ref q_setUp, .ref q_tapes])), (q_now, .inr (6, [.ref q_now_ground, .ref q_now_notes, .ref q_now_seen, .ref q_now_events, .ref q_now_book])), (q_now_ground, .inr (2, [.int f_now_ground_a, .int f_now_ground_b, .int f_now_ground_x, .int f_now_ground_y])), (q_lowering, .inr (3, [.int f_lowering_x, .int f_lowering_y, .int f_lowering_steps, .int f_lowering_metLetter])), (q_counts, .inr (0, [.ref q_lowering, .ref q_counts_sorts, .ref q_counts_counts, .ref q_counts_shares, .int f_counts_a, .int f_counts_b])), (q_counts_sorts, .inl (cy 0, 169, .inl f_counts_sorts)), (q_counts_counts, .inl (cy 0, 169, .inl f_counts_counts)), (q_counts_shares, .inl (cy 1, 169, .inr (.inl f_counts_shares)))] sz)) 0 0 (va_A [(q_this, .inr (8, [.ref q_now, .ref q_saved, .int f_imaged, .ref q_trial, .ref q_lowering, .ref q_counts, .ref q_expansion, .ref q_setUp, .ref q_tapes])), (q_now, .inr (6, [.ref q_now_ground, .ref q_now_notes, .ref q_now_seen, .ref q_now_events, .ref q_now_book])), (q_now_ground, .inr (2, [.int f_now_ground_a, .int f_now_ground_b, .int f_now_ground_x, .int f_now_ground_y])), (q_lowering, .inr (3, [.int f_lowering_x, .int f_lowering_y, .int f_lowering_steps, .int f_lowering_metLetter])), (q_counts, .inr (0, [.ref q_lowering, .ref q_counts_sorts, .ref q_counts_counts, .ref q_counts_shares, .int f_counts_a, .int f_counts_b])), (q_counts_sorts, .inl (cy 0, 169, .inl f_counts_sorts)), (q_counts_counts, .inl (cy 0, 169, .inl f_counts_counts)), (q_counts_shares, .inl (cy 1, 169, .inr (.inl f_counts_shares)))] sz) := by
  refine Met.ofW (cc := cX8_level) (maxL := 3) (ret := (some .int)) (by decide) rfl ?_
  intro p e s m args below meth c s₁ B hml hv
  obtain ⟨rfl, hsz, hP, hK, hD0, hN⟩ := hv
  have hx := B.exec
  have hb := B.bytes
  have hr := B.returns
  have htA : ∀ w ∈ AW, w.before _ s = true := fun w h => atoms_spec (ws := Cond.code yX8_level cX8_level 3 (some .int) :: AW) B.pre w (List.mem_cons_of_mem _ h)
  have hown : s.vm.findClass RX8 = some m.cls := findClass_of_methodNamed B.named
  have hlocks := B.notSynchronized
  subst hsz
  have hD := hD0.self (sz := s.heap.size)
  generalize hAe : va_A [(q_this, .inr (8, [.ref q_now, .ref q_saved, .int f_imaged, .ref q_trial, .ref q_lowering, .ref q_counts, .ref q_expansion, .ref q_setUp, .ref q_tapes])), (q_now, .inr (6, [.ref q_now_ground, .ref q_now_notes, .ref q_now_seen, .ref q_now_events, .ref q_now_book])), (q_now_ground, .inr (2, [.int f_now_ground_a, .int f_now_ground_b, .int f_now_ground_x, .int f_now_ground_y])), (q_lowering, .inr (3, [.int f_lowering_x, .int f_lowering_y, .int f_lowering_steps, .int f_lowering_metLetter])), (q_counts, .inr (0, [.ref q_lowering, .ref q_counts_sorts, .ref q_counts_counts, .ref q_counts_shares, .int f_counts_a, .int f_counts_b])), (q_counts_sorts, .inl (cy 0, 169, .inl f_counts_sorts)), (q_counts_counts, .inl (cy 0, 169, .inl f_counts_counts)), (q_counts_shares, .inl (cy 1, 169, .inr (.inl f_counts_shares)))] s.heap.size = A at hD ⊢
  have hA : ∀ q : Nat, s.heap.size ≤ q → A q := fun q h => by rw [← hAe]; exact Or.inr h
  have hS : va_S A s.heap s.heap [] := va_S.rf
  have hl := lv_entry ([.ref q_this, .int p1, .int p2]) (n := 3) (Nat.le_of_ble_eq_true rfl)
  rw [lg_entry_eq]
  generalize (lg_sl ([.ref q_this, .int p1, .int p2]) ++ List.replicate (3 - (lg_sl ([.ref q_this, .int p1, .int p2])).length) Slot.unset).toArray = ls at hl ⊢
  have hl : lv_has ls 3 [(0, .ref q_this), (1, .int p1), (2, .int p2)] := hl
  have hP : va_P G vwCl [(q_this, .inr (8, [.ref q_now, .ref q_saved, .int f_imaged, .ref q_trial, .ref q_lowering, .ref q_counts, .ref q_expansion, .ref q_setUp, .ref q_tapes])), (q_now, .inr (6, [.ref q_now_ground, .ref q_now_notes, .ref q_now_seen, .ref q_now_events, .ref q_now_book])), (q_now_ground, .inr (2, [.int f_now_ground_a, .int f_now_ground_b, .int f_now_ground_x, .int f_now_ground_y])), (q_lowering, .inr (3, [.int f_lowering_x, .int f_lowering_y, .int f_lowering_steps, .int f_lowering_metLetter])), (q_counts, .inr (0, [.ref q_lowering, .ref q_counts_sorts, .ref q_counts_counts, .ref q_counts_shares, .int f_counts_a, .int f_counts_b])), (q_counts_sorts, .inl (cy 0, 169, .inl f_counts_sorts)), (q_counts_counts, .inl (cy 0, 169, .inl f_counts_counts)), (q_counts_shares, .inl (cy 1, 169, .inr (.inl f_counts_shares)))] s.heap := hP
  have hf : ((fX8_isIn p1 1 12).bind fun q4 => ((if q4 = 0 then some ((-2), f_lowering_x, f_lowering_y, f_lowering_steps, f_lowering_metLetter, f_counts_a, f_counts_b, f_counts_sorts, f_counts_counts, f_counts_shares) else (fX8_isIn p2 0 1).bind fun q16 => ((if q16 = 0 then some ((-1), f_lowering_x, f_lowering_y, f_lowering_steps, f_lowering_metLetter, f_counts_a, f_counts_b, f_counts_sorts, f_counts_counts, f_counts_shares) else (fX0_fillFor n f_now_ground_a f_now_ground_b f_counts_a f_counts_b f_lowering_x f_lowering_y f_lowering_steps f_lowering_metLetter f_counts_sorts f_counts_counts f_counts_shares).bind fun q48 => ((if p2 = 0 then (fX0_rootsOfHeight n p1 q48.2.2.2.2.2.2.1).bind fun q60 => (some (q60, q48.2.2.1, q48.2.2.2.1, q48.2.2.2.2.1, q48.2.2.2.2.2.1, q48.1, q48.2.1, q48.2.2.2.2.2.2.1, q48.2.2.2.2.2.2.2.1, q48.2.2.2.2.2.2.2.2)) else (fX0_sumOfHeight n p1 q48.2.2.2.2.2.2.2.1).bind fun q71 => (some (q71, q48.2.2.1, q48.2.2.2.1, q48.2.2.2.2.1, q48.2.2.2.2.2.1, q48.1, q48.2.1, q48.2.2.2.2.2.2.1, q48.2.2.2.2.2.2.2.1, q48.2.2.2.2.2.2.2.2)))))))) : Option (Int32 × Int32 × Int32 × Int32 × Int32 × Int32 × Int32 × (Nat → Int32) × (Nat → Int32) × (Nat → Int64))) = some o := hf
  refine lv_iload_n hx hb dX8_level_0 rfl (lv_at hl 1 rfl) ?_
  refine lv_iconst (v := 1) hx hb dX8_level_1 (by decide) ?_
  refine lv_bipush (v := 12) hx hb dX8_level_2 (by decide) ?_
  obtain ⟨q4, h4_33, hf⟩ := bd_s hf
  refine u_calliR (va_runS (As := [.int p1, .int 1, .int 12]) (rest := []) ⟨hx, hb, hml, hown, htA⟩ (kX8_isIn l G cy s.heap.size p1 1 12 h4_33) (u_cwS htA a_ml_X8_69 pk_X8_isIn ⟨Nat.le_of_ble_eq_true rfl, Nat.le_of_ble_eq_true rfl⟩) (u_preS hK hN hP hD [] rfl (by decide)) rfl rfl hl.1 rfl (lv_room (Nat.le_of_ble_eq_true rfl)) dX8_level_4 ⟨Nat.zero_le _, Nat.zero_le _⟩) hP hD hS hA [] rfl (fun H locs hP hS => ?_)
  refine lv_if_ne (tgt := 13) hx hb dX8_level_7 (by decide) (fun c_34 => ?_) (fun c_34 => ?_)
  · have hf := ite_f c_34 hf
    refine lv_iload_n hx hb dX8_level_13 rfl (lv_at hl 2 rfl) ?_
    refine lv_iconst (v := 0) hx hb dX8_level_14 (by decide) ?_
    refine lv_iconst (v := 1) hx hb dX8_level_15 (by decide) ?_
    obtain ⟨q16, h16_35, hf⟩ := bd_s hf
    refine u_calliR (va_runS (As := [.int p2, .int 0, .int 1]) (rest := []) ⟨hx, hb, hml, hown, htA⟩ (kX8_isIn l G cy H.size p2 0 1 h16_35) (u_cwS htA a_ml_X8_69 pk_X8_isIn ⟨Nat.le_of_ble_eq_true rfl, Nat.le_of_ble_eq_true rfl⟩) (u_preS hK hN hP hD [] rfl (by decide)) rfl rfl hl.1 rfl (lv_room (Nat.le_of_ble_eq_true rfl)) dX8_level_16 ⟨Nat.zero_le _, Nat.zero_le _⟩) hP hD hS hA [] rfl (fun H locs hP hS => ?_)
    refine lv_if_ne (tgt := 24) hx hb dX8_level_19 (by decide) (fun c_36 => ?_) (fun c_36 => ?_)
    · have hf := ite_f c_36 hf
      refine lv_aload_n hx hb dX8_level_24 rfl (lv_at hl 0 rfl) ?_
      refine va_get (D := G) (ci := 8) (v := .ref q_counts) (C := RX8) (T := TX8) (N := 9) hx hb htA lyX8 hown hK hP 0 rfl rfl 5 (by decide) (htA _ a_fl_X8_44) (fun _ h9 => h9) rfl dX8_level_25 ?_
      refine lv_aload_n hx hb dX8_level_28 rfl (lv_at hl 0 rfl) ?_
      refine va_get (D := G) (ci := 8) (v := .ref q_now) (C := RX8) (T := TX8) (N := 9) hx hb htA lyX8 hown hK hP 0 rfl rfl 0 (by decide) (htA _ a_fl_X8_14) (fun _ h9 => h9) rfl dX8_level_29 ?_
      refine va_getN (D := G) (ci := 6) (v := .ref q_now_ground) (C := RX6) (T := TX6) (N := 5) hx hb htA lyX6 hown hK hP 1 rfl rfl 0 (by decide) (u_link hN (List.mem_of_getElem? (i := 6) rfl)) (fun _ h9 => h9) rfl dX8_level_32 ?_
      refine va_getN (D := G) (ci := 2) (v := .int f_now_ground_a) (C := RX2) (T := TX2) (N := 4) hx hb htA lyX2 hown hK hP 2 rfl rfl 0 (by decide) (u_link hN (List.mem_of_getElem? (i := 2) rfl)) (fun _ h9 => h9) rfl dX8_level_35 ?_
      refine lv_aload_n hx hb dX8_level_38 rfl (lv_at hl 0 rfl) ?_
      refine va_get (D := G) (ci := 8) (v := .ref q_now) (C := RX8) (T := TX8) (N := 9) hx hb htA lyX8 hown hK hP 0 rfl rfl 0 (by decide) (htA _ a_fl_X8_14) (fun _ h9 => h9) rfl dX8_level_39 ?_
      refine va_getN (D := G) (ci := 6) (v := .ref q_now_ground) (C := RX6) (T := TX6) (N := 5) hx hb htA lyX6 hown hK hP 1 rfl rfl 0 (by decide) (u_link hN (List.mem_of_getElem? (i := 6) rfl)) (fun _ h9 => h9) rfl dX8_level_42 ?_
      refine va_getN (D := G) (ci := 2) (v := .int f_now_ground_b) (C := RX2) (T := TX2) (N := 4) hx hb htA lyX2 hown hK hP 2 rfl rfl 1 (by decide) (u_link hN (List.mem_of_getElem? (i := 3) rfl)) (fun _ h9 => h9) rfl dX8_level_45 ?_
      obtain ⟨q48, h48_37, hf⟩ := bd_s hf
      refine u_callv [(q_this, .inr (8, [.ref q_now, .ref q_saved, .int f_imaged, .ref q_trial, .ref q_lowering, .ref q_counts, .ref q_expansion, .ref q_setUp, .ref q_tapes])), (q_now, .inr (6, [.ref q_now_ground, .ref q_now_notes, .ref q_now_seen, .ref q_now_events, .ref q_now_book])), (q_now_ground, .inr (2, [.int f_now_ground_a, .int f_now_ground_b, .int f_now_ground_x, .int f_now_ground_y])), (q_lowering, .inr (3, [.int q48.2.2.1, .int q48.2.2.2.1, .int q48.2.2.2.2.1, .int q48.2.2.2.2.2.1])), (q_counts, .inr (0, [.ref q_lowering, .ref q_counts_sorts, .ref q_counts_counts, .ref q_counts_shares, .int q48.1, .int q48.2.1])), (q_counts_sorts, .inl (cy 0, 169, .inl q48.2.2.2.2.2.2.1)), (q_counts_counts, .inl (cy 0, 169, .inl q48.2.2.2.2.2.2.2.1)), (q_counts_shares, .inl (cy 1, 169, .inr (.inl q48.2.2.2.2.2.2.2.2)))] (va_runV (As := [.int f_now_ground_a, .int f_now_ground_b]) (rest := []) ⟨hx, hb, hml, hown, htA⟩ (kX0_fillFor l G cy q_counts q_lowering q_counts_sorts q_counts_counts q_counts_shares H.size f_counts_a f_counts_b f_lowering_x f_lowering_y f_lowering_steps f_lowering_metLetter f_counts_sorts f_counts_counts f_counts_shares f_now_ground_a f_now_ground_b n h48_37) (u_cwV htA a_ml_X8_202 pk_X0_fillFor ⟨Nat.le_of_ble_eq_true rfl, Nat.le_of_ble_eq_true rfl⟩) (u_preV hK hN hP hD [4, 3, 5, 6, 7] rfl (by decide) 4 rfl rfl) rfl rfl hl.1 rfl (lv_room (Nat.le_of_ble_eq_true rfl)) dX8_level_48 ⟨Nat.zero_le _, Nat.zero_le _⟩) hP hD hS hA [4, 3, 5, 6, 7] rfl [0, 1, 2] 8 rfl rfl rfl (by decide) rfl (fun H locs hP hD hS => ?_)
      refine lv_iload_n hx hb dX8_level_51 rfl (lv_at hl 2 rfl) ?_
      refine lv_if_ne (tgt := 66) hx hb dX8_level_52 (by decide) (fun c_38 => ?_) (fun c_38 => ?_)
      · have hf := ite_f c_38 hf
        refine lv_aload_n hx hb dX8_level_66 rfl (lv_at hl 0 rfl) ?_
        refine va_get (D := G) (ci := 8) (v := .ref q_counts) (C := RX8) (T := TX8) (N := 9) hx hb htA lyX8 hown hK hP 0 rfl rfl 5 (by decide) (htA _ a_fl_X8_44) (fun _ h9 => h9) rfl dX8_level_67 ?_
        refine lv_iload_n hx hb dX8_level_70 rfl (lv_at hl 1 rfl) ?_
        obtain ⟨q71, h71_39, hf⟩ := bd_s hf
        refine u_calliR (va_runV (As := [.int p1]) (rest := []) ⟨hx, hb, hml, hown, htA⟩ (kX0_sumOfHeight l G cy q_counts q_lowering q_counts_sorts q_counts_counts q_counts_shares H.size q48.1 q48.2.1 q48.2.2.2.2.2.2.2.1 p1 n h71_39) (u_cwV htA a_ml_X8_222 pk_X0_sumOfHeight ⟨Nat.le_of_ble_eq_true rfl, Nat.le_of_ble_eq_true rfl⟩) (u_preV hK hN hP hD [4, 6] rfl (by decide) 4 rfl rfl) rfl rfl hl.1 rfl (lv_room (Nat.le_of_ble_eq_true rfl)) dX8_level_71 ⟨Nat.zero_le _, Nat.zero_le _⟩) hP hD hS hA [4, 6] rfl (fun H locs hP hS => ?_)
        have ho := Option.some.inj hf
        subst ho
        exact W.iret (v := q71) hx hb hr (fun t ht hW => ⟨⟨_, (), rfl, rfl, by rw [ht]; exact hP, va_K.moved hW.alike hK, hD⟩, hS.F ht⟩) hS.2.2 dX8_level_74
      · have hf := ite_t c_38 hf
        refine lv_aload_n hx hb dX8_level_55 rfl (lv_at hl 0 rfl) ?_
        refine va_get (D := G) (ci := 8) (v := .ref q_counts) (C := RX8) (T := TX8) (N := 9) hx hb htA lyX8 hown hK hP 0 rfl rfl 5 (by decide) (htA _ a_fl_X8_44) (fun _ h9 => h9) rfl dX8_level_56 ?_
        refine lv_iload_n hx hb dX8_level_59 rfl (lv_at hl 1 rfl) ?_
        obtain ⟨q60, h60_40, hf⟩ := bd_s hf
        refine u_calliR (va_runV (As := [.int p1]) (rest := []) ⟨hx, hb, hml, hown, htA⟩ (kX0_rootsOfHeight l G cy q_counts q_lowering q_counts_sorts q_counts_counts q_counts_shares H.size q48.1 q48.2.1 q48.2.2.2.2.2.2.1 p1 n h60_40) (u_cwV htA a_ml_X8_219 pk_X0_rootsOfHeight ⟨Nat.le_of_ble_eq_true rfl, Nat.le_of_ble_eq_true rfl⟩) (u_preV hK hN hP hD [4, 5] rfl (by decide) 4 rfl rfl) rfl rfl hl.1 rfl (lv_room (Nat.le_of_ble_eq_true rfl)) dX8_level_60 ⟨Nat.zero_le _, Nat.zero_le _⟩) hP hD hS hA [4, 5] rfl (fun H locs hP hS => ?_)
        refine lv_goto (tgt := 74) hx hb dX8_level_63 (by decide) ?_
        have ho := Option.some.inj hf
        subst ho
        exact W.iret (v := q60) hx hb hr (fun t ht hW => ⟨⟨_, (), rfl, rfl, by rw [ht]; exact hP, va_K.moved hW.alike hK, hD⟩, hS.F ht⟩) hS.2.2 dX8_level_74
    · have hf := ite_t c_36 hf
      refine lv_iconst (v := (-1)) hx hb dX8_level_22 (by decide) ?_
      have ho := Option.some.inj hf
      subst ho
      exact W.iret (v := (-1)) hx hb hr (fun t ht hW => ⟨⟨_, (), rfl, rfl, by rw [ht]; exact hP, va_K.moved hW.alike hK, hD⟩, hS.F ht⟩) hS.2.2 dX8_level_23
  · have hf := ite_t c_34 hf
    refine lv_bipush (v := (-2)) hx hb dX8_level_10 (by decide) ?_
    have ho := Option.some.inj hf
    subst ho
    exact W.iret (v := (-2)) hx hb hr (fun t ht hW => ⟨⟨_, (), rfl, rfl, by rw [ht]; exact hP, va_K.moved hW.alike hK, hD⟩, hS.F ht⟩) hS.2.2 dX8_level_12
set_option maxRecDepth 100000 in
set_option maxHeartbeats 4000000 in
theorem kX8_made (l : Launch) (G : va_G) (cy : Nat → ClassId) (q_this : Nat) (q_now : Nat) (q_saved : Nat) (q_trial : Nat) (q_lowering : Nat) (q_counts : Nat) (q_expansion : Nat) (q_setUp : Nat) (q_tapes : Nat) (q_now_ground : Nat) (q_now_notes : Nat) (q_now_seen : Nat) (q_now_events : Nat) (q_now_book : Nat) (q_counts_sorts : Nat) (q_counts_counts : Nat) (q_counts_shares : Nat) (q_expansion_coefficients : Nat) (sz : Nat) (f_imaged : Int32) (f_now_ground_a : Int32) (f_now_ground_b : Int32) (f_now_ground_x : Int32) (f_now_ground_y : Int32) (f_lowering_x : Int32) (f_lowering_y : Int32) (f_lowering_steps : Int32) (f_lowering_metLetter : Int32) (f_counts_a : Int32) (f_counts_b : Int32) (f_counts_sorts : Nat → Int32) (f_counts_counts : Nat → Int32) (f_counts_shares : Nat → Int64) (f_expansion_a : Int32) (f_expansion_b : Int32) (f_expansion_coefficients : Nat → Int64) (p1 : Int32) (p2 : Int32) (n : Nat) {o : Int64 × Int32 × Int32 × Int32 × Int32 × Int32 × Int32 × (Nat → Int32) × (Nat → Int32) × (Nat → Int64) × Int32 × Int32 × (Nat → Int64)} (hf : fX8_made n p1 p2 f_now_ground_a f_now_ground_b f_lowering_x f_lowering_y f_lowering_steps f_lowering_metLetter f_counts_a f_counts_b f_counts_sorts f_counts_counts f_counts_shares f_expansion_a f_expansion_b f_expansion_coefficients = some o) : Met l yX8_made (Cond.code yX8_made cX8_made 3 (some .long) :: AW) ({ frames := 6, cells := 0, slots := 0, locals := 140 } : Room) (va_Pc [.ref q_this, .int p1, .int p2] (Wp G cy [(q_this, .inr (8, [.ref q_now, .ref q_saved, .int f_imaged, .ref q_trial, .ref q_lowering, .ref q_counts, .ref q_expansion, .ref q_setUp, .ref q_tapes])), (q_now, .inr (6, [.ref q_now_ground, .ref q_now_notes, .ref q_now_seen, .ref q_now_events, .ref q_now_book])), (q_now_ground, .inr (2, [.int f_now_ground_a, .int f_now_ground_b, .int f_now_ground_x, .int f_now_ground_y])), (q_lowering, .inr (3, [.int f_lowering_x, .int f_lowering_y, .int f_lowering_steps, .int f_lowering_metLetter])), (q_counts, .inr (0, [.ref q_lowering, .ref q_counts_sorts, .ref q_counts_counts, .ref q_counts_shares, .int f_counts_a, .int f_counts_b])), (q_counts_sorts, .inl (cy 0, 169, .inl f_counts_sorts)), (q_counts_counts, .inl (cy 0, 169, .inl f_counts_counts)), (q_counts_shares, .inl (cy 1, 169, .inr (.inl f_counts_shares))), (q_expansion, .inr (1, [.ref q_expansion_coefficients, .int f_expansion_a, .int f_expansion_b])), (q_expansion_coefficients, .inl (cy 1, 169, .inr (.inl f_expansion_coefficients)))] sz)) (va_Ql (fun r (_ : Unit) => r = o.1) (fun _ => Wq G cy (va_A [(q_this, .inr (8, [.ref q_now, .ref q_saved, .int f_imaged, .ref q_trial, .ref q_lowering, .ref q_counts, .ref q_expansion, .ref q_setUp, .ref q_tapes])), (q_now, .inr (6, [.ref q_now_ground, .ref q_now_notes, .ref q_now_seen, .ref q_now_events, .ref q_now_book])), (q_now_ground, .inr (2, [.int f_now_ground_a, .int f_now_ground_b, .int f_now_ground_x, .int f_now_ground_y])), (q_lowering, .inr (3, [.int f_lowering_x, .int f_lowering_y, .int f_lowering_steps, .int f_lowering_metLetter])), (q_counts, .inr (0, [.ref q_lowering, .ref q_counts_sorts, .ref q_counts_counts, .ref q_counts_shares, .int f_counts_a, .int f_counts_b])), (q_counts_sorts, .inl (cy 0, 169, .inl f_counts_sorts)), (q_counts_counts, .inl (cy 0, 169, .inl f_counts_counts)), (q_counts_shares, .inl (cy 1, 169, .inr (.inl f_counts_shares))), (q_expansion, .inr (1, [.ref q_expansion_coefficients, .int f_expansion_a, .int f_expansion_b])), (q_expansion_coefficients, .inl (cy 1, 169, .inr (.inl f_expansion_coefficients)))] sz) [(q_this, .inr (8, [.ref q_now, .ref q_saved, .int f_imaged, .ref q_trial, .ref q_lowering, .ref q_counts, .ref q_expansion, .ref q_setUp, .ref q_tapes])), (q_now, .inr (6, [.ref q_now_ground, .ref q_now_notes, .ref q_now_seen, .ref q_now_events, .ref q_now_book])), (q_now_ground, .inr (2, [.int f_now_ground_a, .int f_now_ground_b, .int f_now_ground_x, .int f_now_ground_y])), (q_lowering, .inr (3, [.int o.2.1, .int o.2.2.1, .int o.2.2.2.1, .int o.2.2.2.2.1])), (q_counts, .inr (0, [.ref q_lowering, .ref q_counts_sorts, .ref q_counts_counts, .ref q_counts_shares, .int o.2.2.2.2.2.1, .int o.2.2.2.2.2.2.1])), (q_counts_sorts, .inl (cy 0, 169, .inl o.2.2.2.2.2.2.2.1)), (q_counts_counts, .inl (cy 0, 169, .inl o.2.2.2.2.2.2.2.2.1)), (q_counts_shares, .inl (cy 1, 169, .inr (.inl o.2.2.2.2.2.2.2.2.2.1))), (q_expansion, .inr (1, [.ref q_expansion_coefficients, .int o.2.2.2.2.2.2.2.2.2.2.1, .int o.2.2.2.2.2.2.2.2.2.2.2.1])), (q_expansion_coefficients, .inl (cy 1, 169, .inr (.inl o.2.2.2.2.2.2.2.2.2.2.2.2)))]) (va_A [(q_this, .inr (8, [.ref q_now, .ref q_saved, .int f_imaged, .ref q_trial, .ref q_lowering, .ref q_counts, .ref q_expansion, .ref q_setUp, .ref q_tapes])), (q_now, .inr (6, [.ref q_now_ground, .ref q_now_notes, .ref q_now_seen, .ref q_now_events, .ref q_now_book])), (q_now_ground, .inr (2, [.int f_now_ground_a, .int f_now_ground_b, .int f_now_ground_x, .int f_now_ground_y])), (q_lowering, .inr (3, [.int f_lowering_x, .int f_lowering_y, .int f_lowering_steps, .int f_lowering_metLetter])), (q_counts, .inr (0, [.ref q_lowering, .ref q_counts_sorts, .ref q_counts_counts, .ref q_counts_shares, .int f_counts_a, .int f_counts_b])), (q_counts_sorts, .inl (cy 0, 169, .inl f_counts_sorts)), (q_counts_counts, .inl (cy 0, 169, .inl f_counts_counts)), (q_counts_shares, .inl (cy 1, 169, .inr (.inl f_counts_shares))), (q_expansion, .inr (1, [.ref q_expansion_coefficients, .int f_expansion_a, .int f_expansion_b])), (q_expansion_coefficients, .inl (cy 1, 169, .inr (.inl f_expansion_coefficients)))] sz)) 0 0 (va_A [(q_this, .inr (8, [.ref q_now, .ref q_saved, .int f_imaged, .ref q_trial, .ref q_lowering, .ref q_counts, .ref q_expansion, .ref q_setUp, .ref q_tapes])), (q_now, .inr (6, [.ref q_now_ground, .ref q_now_notes, .ref q_now_seen, .ref q_now_events, .ref q_now_book])), (q_now_ground, .inr (2, [.int f_now_ground_a, .int f_now_ground_b, .int f_now_ground_x, .int f_now_ground_y])), (q_lowering, .inr (3, [.int f_lowering_x, .int f_lowering_y, .int f_lowering_steps, .int f_lowering_metLetter])), (q_counts, .inr (0, [.ref q_lowering, .ref q_counts_sorts, .ref q_counts_counts, .ref q_counts_shares, .int f_counts_a, .int f_counts_b])), (q_counts_sorts, .inl (cy 0, 169, .inl f_counts_sorts)), (q_counts_counts, .inl (cy 0, 169, .inl f_counts_counts)), (q_counts_shares, .inl (cy 1, 169, .inr (.inl f_counts_shares))), (q_expansion, .inr (1, [.ref q_expansion_coefficients, .int f_expansion_a, .int f_expansion_b])), (q_expansion_coefficients, .inl (cy 1, 169, .inr (.inl f_expansion_coefficients)))] sz) := by
  refine Met.ofW (cc := cX8_made) (maxL := 3) (ret := (some .long)) (by decide) rfl ?_
  intro p e s m args below meth c s₁ B hml hv
  obtain ⟨rfl, hsz, hP, hK, hD0, hN⟩ := hv
  have hx := B.exec
  have hb := B.bytes
  have hr := B.returns
  have htA : ∀ w ∈ AW, w.before _ s = true := fun w h => atoms_spec (ws := Cond.code yX8_made cX8_made 3 (some .long) :: AW) B.pre w (List.mem_cons_of_mem _ h)
  have hown : s.vm.findClass RX8 = some m.cls := findClass_of_methodNamed B.named
  have hlocks := B.notSynchronized
  subst hsz
  have hD := hD0.self (sz := s.heap.size)
  generalize hAe : va_A [(q_this, .inr (8, [.ref q_now, .ref q_saved, .int f_imaged, .ref q_trial, .ref q_lowering, .ref q_counts, .ref q_expansion, .ref q_setUp, .ref q_tapes])), (q_now, .inr (6, [.ref q_now_ground, .ref q_now_notes, .ref q_now_seen, .ref q_now_events, .ref q_now_book])), (q_now_ground, .inr (2, [.int f_now_ground_a, .int f_now_ground_b, .int f_now_ground_x, .int f_now_ground_y])), (q_lowering, .inr (3, [.int f_lowering_x, .int f_lowering_y, .int f_lowering_steps, .int f_lowering_metLetter])), (q_counts, .inr (0, [.ref q_lowering, .ref q_counts_sorts, .ref q_counts_counts, .ref q_counts_shares, .int f_counts_a, .int f_counts_b])), (q_counts_sorts, .inl (cy 0, 169, .inl f_counts_sorts)), (q_counts_counts, .inl (cy 0, 169, .inl f_counts_counts)), (q_counts_shares, .inl (cy 1, 169, .inr (.inl f_counts_shares))), (q_expansion, .inr (1, [.ref q_expansion_coefficients, .int f_expansion_a, .int f_expansion_b])), (q_expansion_coefficients, .inl (cy 1, 169, .inr (.inl f_expansion_coefficients)))] s.heap.size = A at hD ⊢
  have hA : ∀ q : Nat, s.heap.size ≤ q → A q := fun q h => by rw [← hAe]; exact Or.inr h
  have hS : va_S A s.heap s.heap [] := va_S.rf
  have hl := lv_entry ([.ref q_this, .int p1, .int p2]) (n := 3) (Nat.le_of_ble_eq_true rfl)
  rw [lg_entry_eq]
  generalize (lg_sl ([.ref q_this, .int p1, .int p2]) ++ List.replicate (3 - (lg_sl ([.ref q_this, .int p1, .int p2])).length) Slot.unset).toArray = ls at hl ⊢
  have hl : lv_has ls 3 [(0, .ref q_this), (1, .int p1), (2, .int p2)] := hl
  have hP : va_P G vwCl [(q_this, .inr (8, [.ref q_now, .ref q_saved, .int f_imaged, .ref q_trial, .ref q_lowering, .ref q_counts, .ref q_expansion, .ref q_setUp, .ref q_tapes])), (q_now, .inr (6, [.ref q_now_ground, .ref q_now_notes, .ref q_now_seen, .ref q_now_events, .ref q_now_book])), (q_now_ground, .inr (2, [.int f_now_ground_a, .int f_now_ground_b, .int f_now_ground_x, .int f_now_ground_y])), (q_lowering, .inr (3, [.int f_lowering_x, .int f_lowering_y, .int f_lowering_steps, .int f_lowering_metLetter])), (q_counts, .inr (0, [.ref q_lowering, .ref q_counts_sorts, .ref q_counts_counts, .ref q_counts_shares, .int f_counts_a, .int f_counts_b])), (q_counts_sorts, .inl (cy 0, 169, .inl f_counts_sorts)), (q_counts_counts, .inl (cy 0, 169, .inl f_counts_counts)), (q_counts_shares, .inl (cy 1, 169, .inr (.inl f_counts_shares))), (q_expansion, .inr (1, [.ref q_expansion_coefficients, .int f_expansion_a, .int f_expansion_b])), (q_expansion_coefficients, .inl (cy 1, 169, .inr (.inl f_expansion_coefficients)))] s.heap := hP
  have hf : ((fX8_isSmall p1 p2).bind fun q2 => ((if q2 = 0 then some ((-9223372036854775808), f_lowering_x, f_lowering_y, f_lowering_steps, f_lowering_metLetter, f_counts_a, f_counts_b, f_counts_sorts, f_counts_counts, f_counts_shares, f_expansion_a, f_expansion_b, f_expansion_coefficients) else (fX0_fillFor n f_now_ground_a f_now_ground_b f_counts_a f_counts_b f_lowering_x f_lowering_y f_lowering_steps f_lowering_metLetter f_counts_sorts f_counts_counts f_counts_shares).bind fun q36 => ((fX1_fillFrom n f_expansion_a f_expansion_b f_expansion_coefficients q36.1 q36.2.1 q36.2.2.2.2.2.2.2.1).bind fun q47 => ((fX1_coefficientAt p1 p2 q47.2.2).bind fun q56 => (some (q56, q36.2.2.1, q36.2.2.2.1, q36.2.2.2.2.1, q36.2.2.2.2.2.1, q36.1, q36.2.1, q36.2.2.2.2.2.2.1, q36.2.2.2.2.2.2.2.1, q36.2.2.2.2.2.2.2.2, q47.1, q47.2.1, q47.2.2)))))) : Option (Int64 × Int32 × Int32 × Int32 × Int32 × Int32 × Int32 × (Nat → Int32) × (Nat → Int32) × (Nat → Int64) × Int32 × Int32 × (Nat → Int64))) = some o := hf
  refine lv_iload_n hx hb dX8_made_0 rfl (lv_at hl 1 rfl) ?_
  refine lv_iload_n hx hb dX8_made_1 rfl (lv_at hl 2 rfl) ?_
  obtain ⟨q2, h2_21, hf⟩ := bd_s hf
  refine u_calliR (va_runS (As := [.int p1, .int p2]) (rest := []) ⟨hx, hb, hml, hown, htA⟩ (kX8_isSmall l G cy s.heap.size p1 p2 h2_21) (u_cwS htA a_ml_X8_225 pk_X8_isSmall ⟨Nat.le_of_ble_eq_true rfl, Nat.le_of_ble_eq_true rfl⟩) (u_preS hK hN hP hD [] rfl (by decide)) rfl rfl hl.1 rfl (lv_room (Nat.le_of_ble_eq_true rfl)) dX8_made_2 ⟨Nat.zero_le _, Nat.zero_le _⟩) hP hD hS hA [] rfl (fun H locs hP hS => ?_)
  refine lv_if_ne (tgt := 12) hx hb dX8_made_5 (by decide) (fun c_22 => ?_) (fun c_22 => ?_)
  · have hf := ite_f c_22 hf
    refine lv_aload_n hx hb dX8_made_12 rfl (lv_at hl 0 rfl) ?_
    refine va_get (D := G) (ci := 8) (v := .ref q_counts) (C := RX8) (T := TX8) (N := 9) hx hb htA lyX8 hown hK hP 0 rfl rfl 5 (by decide) (htA _ a_fl_X8_44) (fun _ h9 => h9) rfl dX8_made_13 ?_
    refine lv_aload_n hx hb dX8_made_16 rfl (lv_at hl 0 rfl) ?_
    refine va_get (D := G) (ci := 8) (v := .ref q_now) (C := RX8) (T := TX8) (N := 9) hx hb htA lyX8 hown hK hP 0 rfl rfl 0 (by decide) (htA _ a_fl_X8_14) (fun _ h9 => h9) rfl dX8_made_17 ?_
    refine va_getN (D := G) (ci := 6) (v := .ref q_now_ground) (C := RX6) (T := TX6) (N := 5) hx hb htA lyX6 hown hK hP 1 rfl rfl 0 (by decide) (u_link hN (List.mem_of_getElem? (i := 6) rfl)) (fun _ h9 => h9) rfl dX8_made_20 ?_
    refine va_getN (D := G) (ci := 2) (v := .int f_now_ground_a) (C := RX2) (T := TX2) (N := 4) hx hb htA lyX2 hown hK hP 2 rfl rfl 0 (by decide) (u_link hN (List.mem_of_getElem? (i := 2) rfl)) (fun _ h9 => h9) rfl dX8_made_23 ?_
    refine lv_aload_n hx hb dX8_made_26 rfl (lv_at hl 0 rfl) ?_
    refine va_get (D := G) (ci := 8) (v := .ref q_now) (C := RX8) (T := TX8) (N := 9) hx hb htA lyX8 hown hK hP 0 rfl rfl 0 (by decide) (htA _ a_fl_X8_14) (fun _ h9 => h9) rfl dX8_made_27 ?_
    refine va_getN (D := G) (ci := 6) (v := .ref q_now_ground) (C := RX6) (T := TX6) (N := 5) hx hb htA lyX6 hown hK hP 1 rfl rfl 0 (by decide) (u_link hN (List.mem_of_getElem? (i := 6) rfl)) (fun _ h9 => h9) rfl dX8_made_30 ?_
    refine va_getN (D := G) (ci := 2) (v := .int f_now_ground_b) (C := RX2) (T := TX2) (N := 4) hx hb htA lyX2 hown hK hP 2 rfl rfl 1 (by decide) (u_link hN (List.mem_of_getElem? (i := 3) rfl)) (fun _ h9 => h9) rfl dX8_made_33 ?_
    obtain ⟨q36, h36_23, hf⟩ := bd_s hf
    refine u_callv [(q_this, .inr (8, [.ref q_now, .ref q_saved, .int f_imaged, .ref q_trial, .ref q_lowering, .ref q_counts, .ref q_expansion, .ref q_setUp, .ref q_tapes])), (q_now, .inr (6, [.ref q_now_ground, .ref q_now_notes, .ref q_now_seen, .ref q_now_events, .ref q_now_book])), (q_now_ground, .inr (2, [.int f_now_ground_a, .int f_now_ground_b, .int f_now_ground_x, .int f_now_ground_y])), (q_lowering, .inr (3, [.int q36.2.2.1, .int q36.2.2.2.1, .int q36.2.2.2.2.1, .int q36.2.2.2.2.2.1])), (q_counts, .inr (0, [.ref q_lowering, .ref q_counts_sorts, .ref q_counts_counts, .ref q_counts_shares, .int q36.1, .int q36.2.1])), (q_counts_sorts, .inl (cy 0, 169, .inl q36.2.2.2.2.2.2.1)), (q_counts_counts, .inl (cy 0, 169, .inl q36.2.2.2.2.2.2.2.1)), (q_counts_shares, .inl (cy 1, 169, .inr (.inl q36.2.2.2.2.2.2.2.2))), (q_expansion, .inr (1, [.ref q_expansion_coefficients, .int f_expansion_a, .int f_expansion_b])), (q_expansion_coefficients, .inl (cy 1, 169, .inr (.inl f_expansion_coefficients)))] (va_runV (As := [.int f_now_ground_a, .int f_now_ground_b]) (rest := []) ⟨hx, hb, hml, hown, htA⟩ (kX0_fillFor l G cy q_counts q_lowering q_counts_sorts q_counts_counts q_counts_shares H.size f_counts_a f_counts_b f_lowering_x f_lowering_y f_lowering_steps f_lowering_metLetter f_counts_sorts f_counts_counts f_counts_shares f_now_ground_a f_now_ground_b n h36_23) (u_cwV htA a_ml_X8_202 pk_X0_fillFor ⟨Nat.le_of_ble_eq_true rfl, Nat.le_of_ble_eq_true rfl⟩) (u_preV hK hN hP hD [4, 3, 5, 6, 7] rfl (by decide) 4 rfl rfl) rfl rfl hl.1 rfl (lv_room (Nat.le_of_ble_eq_true rfl)) dX8_made_36 ⟨Nat.zero_le _, Nat.zero_le _⟩) hP hD hS hA [4, 3, 5, 6, 7] rfl [0, 1, 2, 8, 9] 10 rfl rfl rfl (by decide) rfl (fun H locs hP hD hS => ?_)
    refine lv_aload_n hx hb dX8_made_39 rfl (lv_at hl 0 rfl) ?_
    refine va_get (D := G) (ci := 8) (v := .ref q_expansion) (C := RX8) (T := TX8) (N := 9) hx hb htA lyX8 hown hK hP 0 rfl rfl 6 (by decide) (htA _ a_fl_X8_51) (fun _ h9 => h9) rfl dX8_made_40 ?_
    refine lv_aload_n hx hb dX8_made_43 rfl (lv_at hl 0 rfl) ?_
    refine va_get (D := G) (ci := 8) (v := .ref q_counts) (C := RX8) (T := TX8) (N := 9) hx hb htA lyX8 hown hK hP 0 rfl rfl 5 (by decide) (htA _ a_fl_X8_44) (fun _ h9 => h9) rfl dX8_made_44 ?_
    obtain ⟨q47, h47_24, hf⟩ := bd_s hf
    refine u_callv [(q_this, .inr (8, [.ref q_now, .ref q_saved, .int f_imaged, .ref q_trial, .ref q_lowering, .ref q_counts, .ref q_expansion, .ref q_setUp, .ref q_tapes])), (q_now, .inr (6, [.ref q_now_ground, .ref q_now_notes, .ref q_now_seen, .ref q_now_events, .ref q_now_book])), (q_now_ground, .inr (2, [.int f_now_ground_a, .int f_now_ground_b, .int f_now_ground_x, .int f_now_ground_y])), (q_lowering, .inr (3, [.int q36.2.2.1, .int q36.2.2.2.1, .int q36.2.2.2.2.1, .int q36.2.2.2.2.2.1])), (q_counts, .inr (0, [.ref q_lowering, .ref q_counts_sorts, .ref q_counts_counts, .ref q_counts_shares, .int q36.1, .int q36.2.1])), (q_counts_sorts, .inl (cy 0, 169, .inl q36.2.2.2.2.2.2.1)), (q_counts_counts, .inl (cy 0, 169, .inl q36.2.2.2.2.2.2.2.1)), (q_counts_shares, .inl (cy 1, 169, .inr (.inl q36.2.2.2.2.2.2.2.2))), (q_expansion, .inr (1, [.ref q_expansion_coefficients, .int q47.1, .int q47.2.1])), (q_expansion_coefficients, .inl (cy 1, 169, .inr (.inl q47.2.2)))] (va_runV (As := [.ref q_counts]) (rest := []) ⟨hx, hb, hml, hown, htA⟩ (kX1_fillFrom l G cy q_expansion q_expansion_coefficients q_counts q_lowering q_counts_sorts q_counts_counts q_counts_shares H.size f_expansion_a f_expansion_b f_expansion_coefficients q36.1 q36.2.1 q36.2.2.2.2.2.2.2.1 n h47_24) (u_cwV htA a_ml_X8_228 pk_X1_fillFrom ⟨Nat.le_of_ble_eq_true rfl, Nat.le_of_ble_eq_true rfl⟩) (u_preV hK hN hP hD [8, 9, 4, 6] rfl (by decide) 8 rfl rfl) rfl rfl hl.1 rfl (lv_room (Nat.le_of_ble_eq_true rfl)) dX8_made_47 ⟨Nat.zero_le _, Nat.zero_le _⟩) hP hD hS hA [8, 9, 4, 6] rfl [0, 1, 2, 3, 5, 7] 10 rfl rfl rfl (by decide) rfl (fun H locs hP hD hS => ?_)
    refine lv_aload_n hx hb dX8_made_50 rfl (lv_at hl 0 rfl) ?_
    refine va_get (D := G) (ci := 8) (v := .ref q_expansion) (C := RX8) (T := TX8) (N := 9) hx hb htA lyX8 hown hK hP 0 rfl rfl 6 (by decide) (htA _ a_fl_X8_51) (fun _ h9 => h9) rfl dX8_made_51 ?_
    refine lv_iload_n hx hb dX8_made_54 rfl (lv_at hl 1 rfl) ?_
    refine lv_iload_n hx hb dX8_made_55 rfl (lv_at hl 2 rfl) ?_
    obtain ⟨q56, h56_25, hf⟩ := bd_s hf
    refine u_calllR (va_runV (As := [.int p1, .int p2]) (rest := []) ⟨hx, hb, hml, hown, htA⟩ (kX1_coefficientAt l G cy q_expansion q_expansion_coefficients H.size q47.1 q47.2.1 q47.2.2 p1 p2 h56_25) (u_cwV htA a_ml_X8_232 pk_X1_coefficientAt ⟨Nat.le_of_ble_eq_true rfl, Nat.le_of_ble_eq_true rfl⟩) (u_preV hK hN hP hD [8, 9] rfl (by decide) 8 rfl rfl) rfl rfl hl.1 rfl (lv_room (Nat.le_of_ble_eq_true rfl)) dX8_made_56 ⟨Nat.zero_le _, Nat.zero_le _⟩) hP hD hS hA [8, 9] rfl (fun H locs hP hS => ?_)
    have ho := Option.some.inj hf
    subst ho
    exact W.lret (v := q56) hx hb hr (fun t ht hW => ⟨⟨_, (), rfl, rfl, by rw [ht]; exact hP, va_K.moved hW.alike hK, hD⟩, hS.F ht⟩) hS.2.2 dX8_made_59
  · have hf := ite_t c_22 hf
    refine lv_ldc2 (v := (-9223372036854775808)) hx hb hown (htA _ a_cl_X8_170) dX8_made_8 ?_
    have ho := Option.some.inj hf
    subst ho
    exact W.lret (v := (-9223372036854775808)) hx hb hr (fun t ht hW => ⟨⟨_, (), rfl, rfl, by rw [ht]; exact hP, va_K.moved hW.alike hK, hD⟩, hS.F ht⟩) hS.2.2 dX8_made_11
set_option maxRecDepth 100000 in
set_option maxHeartbeats 4000000 in
theorem wX8_shortestWordTo_34 {p : Program} {l : Launch} {e : Env} {s : State} {m : MethodId} {args : Array Value} {below : List Frame} {meth : Method} {c : Code} {G : va_G} {cy : Nat → ClassId} {A : Nat → Prop} {q_this : Nat} {q_now : Nat} {q_saved : Nat} {q_trial : Nat} {q_lowering : Nat} {q_counts : Nat} {q_expansion : Nat} {q_setUp : Nat} {q_tapes : Nat} {q_now_ground : Nat} {q_now_notes : Nat} {q_now_seen : Nat} {q_now_events : Nat} {q_now_book : Nat} {f_imaged : Int32} {f_now_ground_a : Int32} {f_now_ground_b : Int32} {f_now_ground_x : Int32} {f_now_ground_y : Int32} {n : Nat} {o : Int32} (C : Cx p s m args meth c cX8_shortestWordTo 8 (some .int) RX8 G cy A) {K12 : Int32 → Int32 → Int32 → Int32 → Int32 → Int32 → Option (Int32)} (ih12 : ∀ (v1 : Int32) (v2 : Int32) (v4 : Int32) (v5 : Int32) (v6 : Int32) (v7 : Int32) (H : Heap) (locs : List Loc) (ls : Array Slot), va_P G vwCl [(q_this, .inr (8, [.ref q_now, .ref q_saved, .int f_imaged, .ref q_trial, .ref q_lowering, .ref q_counts, .ref q_expansion, .ref q_setUp, .ref q_tapes])), (q_now, .inr (6, [.ref q_now_ground, .ref q_now_notes, .ref q_now_seen, .ref q_now_events, .ref q_now_book])), (q_now_ground, .inr (2, [.int f_now_ground_a, .int f_now_ground_b, .int f_now_ground_x, .int f_now_ground_y]))] H → va_D A [(q_this, .inr (8, [.ref q_now, .ref q_saved, .int f_imaged, .ref q_trial, .ref q_lowering, .ref q_counts, .ref q_expansion, .ref q_setUp, .ref q_tapes])), (q_now, .inr (6, [.ref q_now_ground, .ref q_now_notes, .ref q_now_seen, .ref q_now_events, .ref q_now_book])), (q_now_ground, .inr (2, [.int f_now_ground_a, .int f_now_ground_b, .int f_now_ground_x, .int f_now_ground_y]))] → va_S A s.heap H locs → lv_has ls 8 [(0, .ref q_this), (1, .int v1), (2, .int v2), (4, .int v4), (5, .int v5), (6, .int v6), (7, .int v7)] → K12 v1 v2 v4 v5 v6 v7 = some o → W p l e (headSpec (Cond.code yX8_shortestWordTo cX8_shortestWordTo 8 (some .int) :: AW) ({ frames := 0, cells := 0, slots := 0, locals := 0 } : Room)).room s m args below meth c H locs 0 0 (MQ below (va_Qi (fun r (_ : Unit) => r = o) (fun _ => Wq G cy A [(q_this, .inr (8, [.ref q_now, .ref q_saved, .int f_imaged, .ref q_trial, .ref q_lowering, .ref q_counts, .ref q_expansion, .ref q_setUp, .ref q_tapes])), (q_now, .inr (6, [.ref q_now_ground, .ref q_now_notes, .ref q_now_seen, .ref q_now_events, .ref q_now_book])), (q_now_ground, .inr (2, [.int f_now_ground_a, .int f_now_ground_b, .int f_now_ground_x, .int f_now_ground_y]))]) A) args s 0 0 A) (F0 m 12 ls [])) : ∀ (v1 : Int32) (v2 : Int32) (v4 : Int32) (v5 : Int32) (v6 : Int32) (v7 : Int32) (H : Heap) (locs : List Loc) (ls : Array Slot), va_P G vwCl [(q_this, .inr (8, [.ref q_now, .ref q_saved, .int f_imaged, .ref q_trial, .ref q_lowering, .ref q_counts, .ref q_expansion, .ref q_setUp, .ref q_tapes])), (q_now, .inr (6, [.ref q_now_ground, .ref q_now_notes, .ref q_now_seen, .ref q_now_events, .ref q_now_book])), (q_now_ground, .inr (2, [.int f_now_ground_a, .int f_now_ground_b, .int f_now_ground_x, .int f_now_ground_y]))] H → va_D A [(q_this, .inr (8, [.ref q_now, .ref q_saved, .int f_imaged, .ref q_trial, .ref q_lowering, .ref q_counts, .ref q_expansion, .ref q_setUp, .ref q_tapes])), (q_now, .inr (6, [.ref q_now_ground, .ref q_now_notes, .ref q_now_seen, .ref q_now_events, .ref q_now_book])), (q_now_ground, .inr (2, [.int f_now_ground_a, .int f_now_ground_b, .int f_now_ground_x, .int f_now_ground_y]))] → va_S A s.heap H locs → lv_has ls 8 [(0, .ref q_this), (1, .int v1), (2, .int v2), (4, .int v4), (5, .int v5), (6, .int v6), (7, .int v7)] → jX8_shortestWordTo_34 n f_now_ground_a f_now_ground_b K12 v1 v2 v4 v5 v6 v7 = some o → W p l e (headSpec (Cond.code yX8_shortestWordTo cX8_shortestWordTo 8 (some .int) :: AW) ({ frames := 0, cells := 0, slots := 0, locals := 0 } : Room)).room s m args below meth c H locs 0 0 (MQ below (va_Qi (fun r (_ : Unit) => r = o) (fun _ => Wq G cy A [(q_this, .inr (8, [.ref q_now, .ref q_saved, .int f_imaged, .ref q_trial, .ref q_lowering, .ref q_counts, .ref q_expansion, .ref q_setUp, .ref q_tapes])), (q_now, .inr (6, [.ref q_now_ground, .ref q_now_notes, .ref q_now_seen, .ref q_now_events, .ref q_now_book])), (q_now_ground, .inr (2, [.int f_now_ground_a, .int f_now_ground_b, .int f_now_ground_x, .int f_now_ground_y]))]) A) args s 0 0 A) (F0 m 34 ls []) := by
  have C0 := C
  obtain ⟨hx, hb, hr, hml, htA, hown, hK, hN, hA, hlocks⟩ := C
  intro v1 v2 v4 v5 v6 v7 H locs ls hP hD hS hl hf
  have hf : ((if 999 < v4 then some ((-1)) else (if v5 ≤ 999 then (if v6 = 0 then K12 v1 v2 (((f_now_ground_a * v5) - v4) + 1) v5 (1 - v6) (v7 + 1) else K12 v1 v2 v4 (((f_now_ground_b * v4) - v5) + 1) (1 - v6) (v7 + 1)) else some ((-1)))) : Option (Int32)) = some o := hf
  refine lv_iload hx hb dX8_shortestWordTo_34 (lv_at hl 3 rfl) ?_
  refine lv_sipush (v := 999) hx hb dX8_shortestWordTo_36 (by decide) ?_
  refine lv_icmp_gt (tgt := 50) hx hb dX8_shortestWordTo_39 (by decide) (fun c_25 => ?_) (fun c_25 => ?_)
  · have hf := ite_t c_25 hf
    refine lv_iconst (v := (-1)) hx hb dX8_shortestWordTo_50 (by decide) ?_
    have ho := Option.some.inj hf
    subst ho
    exact W.iret (v := (-1)) hx hb hr (fun t ht hW => ⟨⟨_, (), rfl, rfl, by rw [ht]; exact hP, va_K.moved hW.alike hK, hD⟩, hS.F ht⟩) hS.2.2 dX8_shortestWordTo_51
  · have hf := ite_f c_25 hf
    refine lv_iload hx hb dX8_shortestWordTo_42 (lv_at hl 4 rfl) ?_
    refine lv_sipush (v := 999) hx hb dX8_shortestWordTo_44 (by decide) ?_
    refine lv_icmp_le (tgt := 52) hx hb dX8_shortestWordTo_47 (by decide) (fun c_26 => ?_) (fun c_26 => ?_)
    · have hf := ite_t c_26 hf
      refine lv_iload hx hb dX8_shortestWordTo_52 (lv_at hl 5 rfl) ?_
      refine lv_if_ne (tgt := 80) hx hb dX8_shortestWordTo_54 (by decide) (fun c_27 => ?_) (fun c_27 => ?_)
      · have hf := ite_f c_27 hf
        refine lv_aload_n hx hb dX8_shortestWordTo_80 rfl (lv_at hl 0 rfl) ?_
        refine va_get (D := G) (ci := 8) (v := .ref q_now) (C := RX8) (T := TX8) (N := 9) hx hb htA lyX8 hown hK hP 0 rfl rfl 0 (by decide) (htA _ a_fl_X8_14) (fun _ h9 => h9) rfl dX8_shortestWordTo_81 ?_
        refine va_getN (D := G) (ci := 6) (v := .ref q_now_ground) (C := RX6) (T := TX6) (N := 5) hx hb htA lyX6 hown hK hP 1 rfl rfl 0 (by decide) (u_link hN (List.mem_of_getElem? (i := 6) rfl)) (fun _ h9 => h9) rfl dX8_shortestWordTo_84 ?_
        refine va_getN (D := G) (ci := 2) (v := .int f_now_ground_b) (C := RX2) (T := TX2) (N := 4) hx hb htA lyX2 hown hK hP 2 rfl rfl 1 (by decide) (u_link hN (List.mem_of_getElem? (i := 3) rfl)) (fun _ h9 => h9) rfl dX8_shortestWordTo_87 ?_
        refine lv_iload hx hb dX8_shortestWordTo_90 (lv_at hl 3 rfl) ?_
        refine lv_imul hx hb dX8_shortestWordTo_92 ?_
        refine lv_iload hx hb dX8_shortestWordTo_93 (lv_at hl 4 rfl) ?_
        refine lv_isub hx hb dX8_shortestWordTo_95 ?_
        refine lv_iconst (v := 1) hx hb dX8_shortestWordTo_96 (by decide) ?_
        refine lv_iadd hx hb dX8_shortestWordTo_97 ?_
        refine lv_istore (lv' := [(5, .int (((f_now_ground_b * v4) - v5) + 1)), (0, .ref q_this), (1, .int v1), (2, .int v2), (4, .int v4), (6, .int v6), (7, .int v7)]) hx hb dX8_shortestWordTo_98 hl (by decide) rfl (fun ls hl => ?_)
        refine lv_iconst (v := 1) hx hb dX8_shortestWordTo_100 (by decide) ?_
        refine lv_iload hx hb dX8_shortestWordTo_101 (lv_at hl 5 rfl) ?_
        refine lv_isub hx hb dX8_shortestWordTo_103 ?_
        refine lv_istore (lv' := [(6, .int (1 - v6)), (5, .int (((f_now_ground_b * v4) - v5) + 1)), (0, .ref q_this), (1, .int v1), (2, .int v2), (4, .int v4), (7, .int v7)]) hx hb dX8_shortestWordTo_104 hl (by decide) rfl (fun ls hl => ?_)
        refine lv_iinc (v := (v7 + 1)) (lv' := [(7, .int (v7 + 1)), (6, .int (1 - v6)), (5, .int (((f_now_ground_b * v4) - v5) + 1)), (0, .ref q_this), (1, .int v1), (2, .int v2), (4, .int v4)]) hx hb dX8_shortestWordTo_106 hl (k := 6) rfl rfl (by decide) rfl (fun ls hl => ?_)
        refine lv_goto (tgt := 12) hx hb dX8_shortestWordTo_109 (by decide) ?_
        exact ih12 _ _ _ _ _ _ _ _ _ hP hD hS (lv_sub hl [3, 4, 5, 6, 2, 1, 0] rfl) hf
      · have hf := ite_t c_27 hf
        refine lv_aload_n hx hb dX8_shortestWordTo_57 rfl (lv_at hl 0 rfl) ?_
        refine va_get (D := G) (ci := 8) (v := .ref q_now) (C := RX8) (T := TX8) (N := 9) hx hb htA lyX8 hown hK hP 0 rfl rfl 0 (by decide) (htA _ a_fl_X8_14) (fun _ h9 => h9) rfl dX8_shortestWordTo_58 ?_
        refine va_getN (D := G) (ci := 6) (v := .ref q_now_ground) (C := RX6) (T := TX6) (N := 5) hx hb htA lyX6 hown hK hP 1 rfl rfl 0 (by decide) (u_link hN (List.mem_of_getElem? (i := 6) rfl)) (fun _ h9 => h9) rfl dX8_shortestWordTo_61 ?_
        refine va_getN (D := G) (ci := 2) (v := .int f_now_ground_a) (C := RX2) (T := TX2) (N := 4) hx hb htA lyX2 hown hK hP 2 rfl rfl 0 (by decide) (u_link hN (List.mem_of_getElem? (i := 2) rfl)) (fun _ h9 => h9) rfl dX8_shortestWordTo_64 ?_
        refine lv_iload hx hb dX8_shortestWordTo_67 (lv_at hl 4 rfl) ?_
        refine lv_imul hx hb dX8_shortestWordTo_69 ?_
        refine lv_iload hx hb dX8_shortestWordTo_70 (lv_at hl 3 rfl) ?_
        refine lv_isub hx hb dX8_shortestWordTo_72 ?_
        refine lv_iconst (v := 1) hx hb dX8_shortestWordTo_73 (by decide) ?_
        refine lv_iadd hx hb dX8_shortestWordTo_74 ?_
        refine lv_istore (lv' := [(4, .int (((f_now_ground_a * v5) - v4) + 1)), (0, .ref q_this), (1, .int v1), (2, .int v2), (5, .int v5), (6, .int v6), (7, .int v7)]) hx hb dX8_shortestWordTo_75 hl (by decide) rfl (fun ls hl => ?_)
        refine lv_goto (tgt := 100) hx hb dX8_shortestWordTo_77 (by decide) ?_
        refine lv_iconst (v := 1) hx hb dX8_shortestWordTo_100 (by decide) ?_
        refine lv_iload hx hb dX8_shortestWordTo_101 (lv_at hl 5 rfl) ?_
        refine lv_isub hx hb dX8_shortestWordTo_103 ?_
        refine lv_istore (lv' := [(6, .int (1 - v6)), (4, .int (((f_now_ground_a * v5) - v4) + 1)), (0, .ref q_this), (1, .int v1), (2, .int v2), (5, .int v5), (7, .int v7)]) hx hb dX8_shortestWordTo_104 hl (by decide) rfl (fun ls hl => ?_)
        refine lv_iinc (v := (v7 + 1)) (lv' := [(7, .int (v7 + 1)), (6, .int (1 - v6)), (4, .int (((f_now_ground_a * v5) - v4) + 1)), (0, .ref q_this), (1, .int v1), (2, .int v2), (5, .int v5)]) hx hb dX8_shortestWordTo_106 hl (k := 6) rfl rfl (by decide) rfl (fun ls hl => ?_)
        refine lv_goto (tgt := 12) hx hb dX8_shortestWordTo_109 (by decide) ?_
        exact ih12 _ _ _ _ _ _ _ _ _ hP hD hS (lv_sub hl [3, 4, 5, 2, 6, 1, 0] rfl) hf
    · have hf := ite_f c_26 hf
      refine lv_iconst (v := (-1)) hx hb dX8_shortestWordTo_50 (by decide) ?_
      have ho := Option.some.inj hf
      subst ho
      exact W.iret (v := (-1)) hx hb hr (fun t ht hW => ⟨⟨_, (), rfl, rfl, by rw [ht]; exact hP, va_K.moved hW.alike hK, hD⟩, hS.F ht⟩) hS.2.2 dX8_shortestWordTo_51
set_option maxRecDepth 100000 in
set_option maxHeartbeats 4000000 in
theorem wX8_shortestWordTo_12 {p : Program} {l : Launch} {e : Env} {s : State} {m : MethodId} {args : Array Value} {below : List Frame} {meth : Method} {c : Code} {G : va_G} {cy : Nat → ClassId} {A : Nat → Prop} {q_this : Nat} {q_now : Nat} {q_saved : Nat} {q_trial : Nat} {q_lowering : Nat} {q_counts : Nat} {q_expansion : Nat} {q_setUp : Nat} {q_tapes : Nat} {q_now_ground : Nat} {q_now_notes : Nat} {q_now_seen : Nat} {q_now_events : Nat} {q_now_book : Nat} {f_imaged : Int32} {f_now_ground_a : Int32} {f_now_ground_b : Int32} {f_now_ground_x : Int32} {f_now_ground_y : Int32} {n : Nat} {o : Int32} (C : Cx p s m args meth c cX8_shortestWordTo 8 (some .int) RX8 G cy A) : ∀ k12 : Nat, ∀ (v1 : Int32) (v2 : Int32) (v4 : Int32) (v5 : Int32) (v6 : Int32) (v7 : Int32) (H : Heap) (locs : List Loc) (ls : Array Slot), va_P G vwCl [(q_this, .inr (8, [.ref q_now, .ref q_saved, .int f_imaged, .ref q_trial, .ref q_lowering, .ref q_counts, .ref q_expansion, .ref q_setUp, .ref q_tapes])), (q_now, .inr (6, [.ref q_now_ground, .ref q_now_notes, .ref q_now_seen, .ref q_now_events, .ref q_now_book])), (q_now_ground, .inr (2, [.int f_now_ground_a, .int f_now_ground_b, .int f_now_ground_x, .int f_now_ground_y]))] H → va_D A [(q_this, .inr (8, [.ref q_now, .ref q_saved, .int f_imaged, .ref q_trial, .ref q_lowering, .ref q_counts, .ref q_expansion, .ref q_setUp, .ref q_tapes])), (q_now, .inr (6, [.ref q_now_ground, .ref q_now_notes, .ref q_now_seen, .ref q_now_events, .ref q_now_book])), (q_now_ground, .inr (2, [.int f_now_ground_a, .int f_now_ground_b, .int f_now_ground_x, .int f_now_ground_y]))] → va_S A s.heap H locs → lv_has ls 8 [(0, .ref q_this), (1, .int v1), (2, .int v2), (4, .int v4), (5, .int v5), (6, .int v6), (7, .int v7)] → lX8_shortestWordTo_12 n f_now_ground_a f_now_ground_b k12 v1 v2 v4 v5 v6 v7 = some o → W p l e (headSpec (Cond.code yX8_shortestWordTo cX8_shortestWordTo 8 (some .int) :: AW) ({ frames := 0, cells := 0, slots := 0, locals := 0 } : Room)).room s m args below meth c H locs 0 0 (MQ below (va_Qi (fun r (_ : Unit) => r = o) (fun _ => Wq G cy A [(q_this, .inr (8, [.ref q_now, .ref q_saved, .int f_imaged, .ref q_trial, .ref q_lowering, .ref q_counts, .ref q_expansion, .ref q_setUp, .ref q_tapes])), (q_now, .inr (6, [.ref q_now_ground, .ref q_now_notes, .ref q_now_seen, .ref q_now_events, .ref q_now_book])), (q_now_ground, .inr (2, [.int f_now_ground_a, .int f_now_ground_b, .int f_now_ground_x, .int f_now_ground_y]))]) A) args s 0 0 A) (F0 m 12 ls []) := by
  have C0 := C
  obtain ⟨hx, hb, hr, hml, htA, hown, hK, hN, hA, hlocks⟩ := C
  intro k12
  induction k12 with
  | zero =>
    intro v1 v2 v4 v5 v6 v7 H locs ls hP hD hS hl hf
    exact no_s hf
  | succ k12 ih12 =>
    intro v1 v2 v4 v5 v6 v7 H locs ls hP hD hS hl hf
    have hf : ((if 24 < v7 then some ((-1)) else (if v4 = v1 then (if v5 = v2 then some (v7) else jX8_shortestWordTo_34 n f_now_ground_a f_now_ground_b (lX8_shortestWordTo_12 n f_now_ground_a f_now_ground_b k12) v1 v2 v4 v5 v6 v7) else jX8_shortestWordTo_34 n f_now_ground_a f_now_ground_b (lX8_shortestWordTo_12 n f_now_ground_a f_now_ground_b k12) v1 v2 v4 v5 v6 v7)) : Option (Int32)) = some o := hf
    refine lv_iload hx hb dX8_shortestWordTo_12 (lv_at hl 6 rfl) ?_
    refine lv_bipush (v := 24) hx hb dX8_shortestWordTo_14 (by decide) ?_
    refine lv_icmp_gt (tgt := 112) hx hb dX8_shortestWordTo_16 (by decide) (fun c_28 => ?_) (fun c_28 => ?_)
    · have hf := ite_t c_28 hf
      refine lv_iconst (v := (-1)) hx hb dX8_shortestWordTo_112 (by decide) ?_
      have ho := Option.some.inj hf
      subst ho
      exact W.iret (v := (-1)) hx hb hr (fun t ht hW => ⟨⟨_, (), rfl, rfl, by rw [ht]; exact hP, va_K.moved hW.alike hK, hD⟩, hS.F ht⟩) hS.2.2 dX8_shortestWordTo_113
    · have hf := ite_f c_28 hf
      refine lv_iload hx hb dX8_shortestWordTo_19 (lv_at hl 3 rfl) ?_
      refine lv_iload_n hx hb dX8_shortestWordTo_21 rfl (lv_at hl 1 rfl) ?_
      refine lv_icmp_ne (tgt := 34) hx hb dX8_shortestWordTo_22 (by decide) (fun c_29 => ?_) (fun c_29 => ?_)
      · have hf := ite_f c_29 hf
        exact wX8_shortestWordTo_34 C0 ih12 _ _ _ _ _ _ _ _ _ hP hD hS (lv_sub hl [0, 1, 2, 3, 4, 5, 6] rfl) hf
      · have hf := ite_t c_29 hf
        refine lv_iload hx hb dX8_shortestWordTo_25 (lv_at hl 4 rfl) ?_
        refine lv_iload_n hx hb dX8_shortestWordTo_27 rfl (lv_at hl 2 rfl) ?_
        refine lv_icmp_ne (tgt := 34) hx hb dX8_shortestWordTo_28 (by decide) (fun c_30 => ?_) (fun c_30 => ?_)
        · have hf := ite_f c_30 hf
          exact wX8_shortestWordTo_34 C0 ih12 _ _ _ _ _ _ _ _ _ hP hD hS (lv_sub hl [0, 1, 2, 3, 4, 5, 6] rfl) hf
        · have hf := ite_t c_30 hf
          refine lv_iload hx hb dX8_shortestWordTo_31 (lv_at hl 6 rfl) ?_
          have ho := Option.some.inj hf
          subst ho
          exact W.iret (v := v7) hx hb hr (fun t ht hW => ⟨⟨_, (), rfl, rfl, by rw [ht]; exact hP, va_K.moved hW.alike hK, hD⟩, hS.F ht⟩) hS.2.2 dX8_shortestWordTo_33
set_option maxRecDepth 100000 in
set_option maxHeartbeats 4000000 in
theorem kX8_shortestWordTo (l : Launch) (G : va_G) (cy : Nat → ClassId) (q_this : Nat) (q_now : Nat) (q_saved : Nat) (q_trial : Nat) (q_lowering : Nat) (q_counts : Nat) (q_expansion : Nat) (q_setUp : Nat) (q_tapes : Nat) (q_now_ground : Nat) (q_now_notes : Nat) (q_now_seen : Nat) (q_now_events : Nat) (q_now_book : Nat) (sz : Nat) (f_imaged : Int32) (f_now_ground_a : Int32) (f_now_ground_b : Int32) (f_now_ground_x : Int32) (f_now_ground_y : Int32) (p1 : Int32) (p2 : Int32) (p3 : Int32) (n : Nat) {o : Int32} (hf : fX8_shortestWordTo n p1 p2 p3 f_now_ground_a f_now_ground_b = some o) : Met l yX8_shortestWordTo (Cond.code yX8_shortestWordTo cX8_shortestWordTo 8 (some .int) :: AW) ({ frames := 0, cells := 0, slots := 0, locals := 0 } : Room) (va_Pc [.ref q_this, .int p1, .int p2, .int p3] (Wp G cy [(q_this, .inr (8, [.ref q_now, .ref q_saved, .int f_imaged, .ref q_trial, .ref q_lowering, .ref q_counts, .ref q_expansion, .ref q_setUp, .ref q_tapes])), (q_now, .inr (6, [.ref q_now_ground, .ref q_now_notes, .ref q_now_seen, .ref q_now_events, .ref q_now_book])), (q_now_ground, .inr (2, [.int f_now_ground_a, .int f_now_ground_b, .int f_now_ground_x, .int f_now_ground_y]))] sz)) (va_Qi (fun r (_ : Unit) => r = o) (fun _ => Wq G cy (va_A [(q_this, .inr (8, [.ref q_now, .ref q_saved, .int f_imaged, .ref q_trial, .ref q_lowering, .ref q_counts, .ref q_expansion, .ref q_setUp, .ref q_tapes])), (q_now, .inr (6, [.ref q_now_ground, .ref q_now_notes, .ref q_now_seen, .ref q_now_events, .ref q_now_book])), (q_now_ground, .inr (2, [.int f_now_ground_a, .int f_now_ground_b, .int f_now_ground_x, .int f_now_ground_y]))] sz) [(q_this, .inr (8, [.ref q_now, .ref q_saved, .int f_imaged, .ref q_trial, .ref q_lowering, .ref q_counts, .ref q_expansion, .ref q_setUp, .ref q_tapes])), (q_now, .inr (6, [.ref q_now_ground, .ref q_now_notes, .ref q_now_seen, .ref q_now_events, .ref q_now_book])), (q_now_ground, .inr (2, [.int f_now_ground_a, .int f_now_ground_b, .int f_now_ground_x, .int f_now_ground_y]))]) (va_A [(q_this, .inr (8, [.ref q_now, .ref q_saved, .int f_imaged, .ref q_trial, .ref q_lowering, .ref q_counts, .ref q_expansion, .ref q_setUp, .ref q_tapes])), (q_now, .inr (6, [.ref q_now_ground, .ref q_now_notes, .ref q_now_seen, .ref q_now_events, .ref q_now_book])), (q_now_ground, .inr (2, [.int f_now_ground_a, .int f_now_ground_b, .int f_now_ground_x, .int f_now_ground_y]))] sz)) 0 0 (va_A [(q_this, .inr (8, [.ref q_now, .ref q_saved, .int f_imaged, .ref q_trial, .ref q_lowering, .ref q_counts, .ref q_expansion, .ref q_setUp, .ref q_tapes])), (q_now, .inr (6, [.ref q_now_ground, .ref q_now_notes, .ref q_now_seen, .ref q_now_events, .ref q_now_book])), (q_now_ground, .inr (2, [.int f_now_ground_a, .int f_now_ground_b, .int f_now_ground_x, .int f_now_ground_y]))] sz) := by
  refine Met.ofW (cc := cX8_shortestWordTo) (maxL := 8) (ret := (some .int)) (by decide) rfl ?_
  intro p e s m args below meth c s₁ B hml hv
  obtain ⟨rfl, hsz, hP, hK, hD0, hN⟩ := hv
  have hx := B.exec
  have hb := B.bytes
  have hr := B.returns
  have htA : ∀ w ∈ AW, w.before _ s = true := fun w h => atoms_spec (ws := Cond.code yX8_shortestWordTo cX8_shortestWordTo 8 (some .int) :: AW) B.pre w (List.mem_cons_of_mem _ h)
  have hown : s.vm.findClass RX8 = some m.cls := findClass_of_methodNamed B.named
  have hlocks := B.notSynchronized
  subst hsz
  have hD := hD0.self (sz := s.heap.size)
  generalize hAe : va_A [(q_this, .inr (8, [.ref q_now, .ref q_saved, .int f_imaged, .ref q_trial, .ref q_lowering, .ref q_counts, .ref q_expansion, .ref q_setUp, .ref q_tapes])), (q_now, .inr (6, [.ref q_now_ground, .ref q_now_notes, .ref q_now_seen, .ref q_now_events, .ref q_now_book])), (q_now_ground, .inr (2, [.int f_now_ground_a, .int f_now_ground_b, .int f_now_ground_x, .int f_now_ground_y]))] s.heap.size = A at hD ⊢
  have hA : ∀ q : Nat, s.heap.size ≤ q → A q := fun q h => by rw [← hAe]; exact Or.inr h
  have hS : va_S A s.heap s.heap [] := va_S.rf
  have hl := lv_entry ([.ref q_this, .int p1, .int p2, .int p3]) (n := 8) (Nat.le_of_ble_eq_true rfl)
  rw [lg_entry_eq]
  generalize (lg_sl ([.ref q_this, .int p1, .int p2, .int p3]) ++ List.replicate (8 - (lg_sl ([.ref q_this, .int p1, .int p2, .int p3])).length) Slot.unset).toArray = ls at hl ⊢
  have hl : lv_has ls 8 [(0, .ref q_this), (1, .int p1), (2, .int p2), (3, .int p3)] := hl
  have hP : va_P G vwCl [(q_this, .inr (8, [.ref q_now, .ref q_saved, .int f_imaged, .ref q_trial, .ref q_lowering, .ref q_counts, .ref q_expansion, .ref q_setUp, .ref q_tapes])), (q_now, .inr (6, [.ref q_now_ground, .ref q_now_notes, .ref q_now_seen, .ref q_now_events, .ref q_now_book])), (q_now_ground, .inr (2, [.int f_now_ground_a, .int f_now_ground_b, .int f_now_ground_x, .int f_now_ground_y]))] s.heap := hP
  have C0 : Cx p s m _ meth c cX8_shortestWordTo 8 (some .int) RX8 G cy A := ⟨hx, hb, hr, hml, htA, hown, hK, hN, hA, hlocks⟩
  have hf : (lX8_shortestWordTo_12 n f_now_ground_a f_now_ground_b n p1 p2 0 0 p3 0 : Option (Int32)) = some o := hf
  refine lv_iconst (v := 0) hx hb dX8_shortestWordTo_0 (by decide) ?_
  refine lv_istore (lv' := [(4, .int 0), (0, .ref q_this), (1, .int p1), (2, .int p2), (3, .int p3)]) hx hb dX8_shortestWordTo_1 hl (by decide) rfl (fun ls hl => ?_)
  refine lv_iconst (v := 0) hx hb dX8_shortestWordTo_3 (by decide) ?_
  refine lv_istore (lv' := [(5, .int 0), (4, .int 0), (0, .ref q_this), (1, .int p1), (2, .int p2), (3, .int p3)]) hx hb dX8_shortestWordTo_4 hl (by decide) rfl (fun ls hl => ?_)
  refine lv_iload_n hx hb dX8_shortestWordTo_6 rfl (lv_at hl 5 rfl) ?_
  refine lv_istore (lv' := [(6, .int p3), (5, .int 0), (4, .int 0), (0, .ref q_this), (1, .int p1), (2, .int p2), (3, .int p3)]) hx hb dX8_shortestWordTo_7 hl (by decide) rfl (fun ls hl => ?_)
  refine lv_iconst (v := 0) hx hb dX8_shortestWordTo_9 (by decide) ?_
  refine lv_istore (lv' := [(7, .int 0), (6, .int p3), (5, .int 0), (4, .int 0), (0, .ref q_this), (1, .int p1), (2, .int p2), (3, .int p3)]) hx hb dX8_shortestWordTo_10 hl (by decide) rfl (fun ls hl => ?_)
  exact wX8_shortestWordTo_12 C0 n _ _ _ _ _ _ _ _ _ hP hD hS (lv_sub hl [4, 5, 6, 3, 2, 1, 0] rfl) hf
set_option maxRecDepth 100000 in
set_option maxHeartbeats 4000000 in
theorem wX8_signed_60 {p : Program} {l : Launch} {e : Env} {s : State} {m : MethodId} {args : Array Value} {below : List Frame} {meth : Method} {c : Code} {G : va_G} {cy : Nat → ClassId} {A : Nat → Prop} {q_this : Nat} {q_now : Nat} {q_saved : Nat} {q_trial : Nat} {q_lowering : Nat} {q_counts : Nat} {q_expansion : Nat} {q_setUp : Nat} {q_tapes : Nat} {q_now_ground : Nat} {q_now_notes : Nat} {q_now_seen : Nat} {q_now_events : Nat} {q_now_book : Nat} {f_imaged : Int32} {f_now_ground_a : Int32} {f_now_ground_b : Int32} {f_now_ground_x : Int32} {f_now_ground_y : Int32} {n : Nat} {o : Int32} (C : Cx p s m args meth c cX8_signed 6 (some .int) RX8 G cy A) : ∀ (s0 : Int32) (H : Heap) (locs : List Loc) (ls : Array Slot), va_P G vwCl [(q_this, .inr (8, [.ref q_now, .ref q_saved, .int f_imaged, .ref q_trial, .ref q_lowering, .ref q_counts, .ref q_expansion, .ref q_setUp, .ref q_tapes])), (q_now, .inr (6, [.ref q_now_ground, .ref q_now_notes, .ref q_now_seen, .ref q_now_events, .ref q_now_book])), (q_now_ground, .inr (2, [.int f_now_ground_a, .int f_now_ground_b, .int f_now_ground_x, .int f_now_ground_y]))] H → va_D A [(q_this, .inr (8, [.ref q_now, .ref q_saved, .int f_imaged, .ref q_trial, .ref q_lowering, .ref q_counts, .ref q_expansion, .ref q_setUp, .ref q_tapes])), (q_now, .inr (6, [.ref q_now_ground, .ref q_now_notes, .ref q_now_seen, .ref q_now_events, .ref q_now_book])), (q_now_ground, .inr (2, [.int f_now_ground_a, .int f_now_ground_b, .int f_now_ground_x, .int f_now_ground_y]))] → va_S A s.heap H locs → lv_has ls 6 [] → jX8_signed_60 n s0 = some o → W p l e (headSpec (Cond.code yX8_signed cX8_signed 6 (some .int) :: AW) ({ frames := 1, cells := 0, slots := 0, locals := 27 } : Room)).room s m args below meth c H locs 0 0 (MQ below (va_Qi (fun r (_ : Unit) => r = o) (fun _ => Wq G cy A [(q_this, .inr (8, [.ref q_now, .ref q_saved, .int f_imaged, .ref q_trial, .ref q_lowering, .ref q_counts, .ref q_expansion, .ref q_setUp, .ref q_tapes])), (q_now, .inr (6, [.ref q_now_ground, .ref q_now_notes, .ref q_now_seen, .ref q_now_events, .ref q_now_book])), (q_now_ground, .inr (2, [.int f_now_ground_a, .int f_now_ground_b, .int f_now_ground_x, .int f_now_ground_y]))]) A) args s 0 0 A) (F0 m 60 ls [.int s0]) := by
  have C0 := C
  obtain ⟨hx, hb, hr, hml, htA, hown, hK, hN, hA, hlocks⟩ := C
  intro s0 H locs ls hP hD hS hl hf
  have hf : ((if (s0 - s0 / 2 * 2) = 0 then some (2) else some (0)) : Option (Int32)) = some o := hf
  refine lv_istore (lv' := [(5, .int s0)]) hx hb dX8_signed_60 hl (by decide) rfl (fun ls hl => ?_)
  refine lv_iload hx hb dX8_signed_62 (lv_at hl 0 rfl) ?_
  refine lv_iconst (v := 2) hx hb dX8_signed_64 (by decide) ?_
  refine lv_irem hx hb dX8_signed_65 (by decide) ?_
  refine lv_if_ne (tgt := 73) hx hb dX8_signed_66 (by decide) (fun c_41 => ?_) (fun c_41 => ?_)
  · have hf := ite_f c_41 hf
    refine lv_iconst (v := 0) hx hb dX8_signed_73 (by decide) ?_
    have ho := Option.some.inj hf
    subst ho
    exact W.iret (v := 0) hx hb hr (fun t ht hW => ⟨⟨_, (), rfl, rfl, by rw [ht]; exact hP, va_K.moved hW.alike hK, hD⟩, hS.F ht⟩) hS.2.2 dX8_signed_74
  · have hf := ite_t c_41 hf
    refine lv_iconst (v := 2) hx hb dX8_signed_69 (by decide) ?_
    refine lv_goto (tgt := 74) hx hb dX8_signed_70 (by decide) ?_
    have ho := Option.some.inj hf
    subst ho
    exact W.iret (v := 2) hx hb hr (fun t ht hW => ⟨⟨_, (), rfl, rfl, by rw [ht]; exact hP, va_K.moved hW.alike hK, hD⟩, hS.F ht⟩) hS.2.2 dX8_signed_74
set_option maxRecDepth 100000 in
set_option maxHeartbeats 4000000 in
theorem wX8_signed_39 {p : Program} {l : Launch} {e : Env} {s : State} {m : MethodId} {args : Array Value} {below : List Frame} {meth : Method} {c : Code} {G : va_G} {cy : Nat → ClassId} {A : Nat → Prop} {q_this : Nat} {q_now : Nat} {q_saved : Nat} {q_trial : Nat} {q_lowering : Nat} {q_counts : Nat} {q_expansion : Nat} {q_setUp : Nat} {q_tapes : Nat} {q_now_ground : Nat} {q_now_notes : Nat} {q_now_seen : Nat} {q_now_events : Nat} {q_now_book : Nat} {f_imaged : Int32} {f_now_ground_a : Int32} {f_now_ground_b : Int32} {f_now_ground_x : Int32} {f_now_ground_y : Int32} {n : Nat} {o : Int32} (C : Cx p s m args meth c cX8_signed 6 (some .int) RX8 G cy A) : ∀ (v3 : Int32) (v4 : Int32) (H : Heap) (locs : List Loc) (ls : Array Slot), va_P G vwCl [(q_this, .inr (8, [.ref q_now, .ref q_saved, .int f_imaged, .ref q_trial, .ref q_lowering, .ref q_counts, .ref q_expansion, .ref q_setUp, .ref q_tapes])), (q_now, .inr (6, [.ref q_now_ground, .ref q_now_notes, .ref q_now_seen, .ref q_now_events, .ref q_now_book])), (q_now_ground, .inr (2, [.int f_now_ground_a, .int f_now_ground_b, .int f_now_ground_x, .int f_now_ground_y]))] H → va_D A [(q_this, .inr (8, [.ref q_now, .ref q_saved, .int f_imaged, .ref q_trial, .ref q_lowering, .ref q_counts, .ref q_expansion, .ref q_setUp, .ref q_tapes])), (q_now, .inr (6, [.ref q_now_ground, .ref q_now_notes, .ref q_now_seen, .ref q_now_events, .ref q_now_book])), (q_now_ground, .inr (2, [.int f_now_ground_a, .int f_now_ground_b, .int f_now_ground_x, .int f_now_ground_y]))] → va_S A s.heap H locs → lv_has ls 6 [(3, .int v3), (4, .int v4)] → jX8_signed_39 n v3 v4 = some o → W p l e (headSpec (Cond.code yX8_signed cX8_signed 6 (some .int) :: AW) ({ frames := 1, cells := 0, slots := 0, locals := 27 } : Room)).room s m args below meth c H locs 0 0 (MQ below (va_Qi (fun r (_ : Unit) => r = o) (fun _ => Wq G cy A [(q_this, .inr (8, [.ref q_now, .ref q_saved, .int f_imaged, .ref q_trial, .ref q_lowering, .ref q_counts, .ref q_expansion, .ref q_setUp, .ref q_tapes])), (q_now, .inr (6, [.ref q_now_ground, .ref q_now_notes, .ref q_now_seen, .ref q_now_events, .ref q_now_book])), (q_now_ground, .inr (2, [.int f_now_ground_a, .int f_now_ground_b, .int f_now_ground_x, .int f_now_ground_y]))]) A) args s 0 0 A) (F0 m 39 ls []) := by
  have C0 := C
  obtain ⟨hx, hb, hr, hml, htA, hown, hK, hN, hA, hlocks⟩ := C
  intro v3 v4 H locs ls hP hD hS hl hf
  have hf : ((if v3 < 0 then jX8_signed_60 n v4 else (if v4 < 0 then jX8_signed_60 n v3 else (if v3 ≤ v4 then jX8_signed_60 n v3 else jX8_signed_60 n v4))) : Option (Int32)) = some o := hf
  refine lv_iload_n hx hb dX8_signed_39 rfl (lv_at hl 0 rfl) ?_
  refine lv_if_lt (tgt := 54) hx hb dX8_signed_40 (by decide) (fun c_42 => ?_) (fun c_42 => ?_)
  · have hf := ite_t c_42 hf
    refine lv_iload hx hb dX8_signed_54 (lv_at hl 1 rfl) ?_
    refine lv_goto (tgt := 60) hx hb dX8_signed_56 (by decide) ?_
    exact wX8_signed_60 C0 _ _ _ _ hP hD hS (lv_sub hl [] rfl) hf
  · have hf := ite_f c_42 hf
    refine lv_iload hx hb dX8_signed_43 (lv_at hl 1 rfl) ?_
    refine lv_if_lt (tgt := 59) hx hb dX8_signed_45 (by decide) (fun c_43 => ?_) (fun c_43 => ?_)
    · have hf := ite_t c_43 hf
      refine lv_iload_n hx hb dX8_signed_59 rfl (lv_at hl 0 rfl) ?_
      exact wX8_signed_60 C0 _ _ _ _ hP hD hS (lv_sub hl [] rfl) hf
    · have hf := ite_f c_43 hf
      refine lv_iload hx hb dX8_signed_48 (lv_at hl 1 rfl) ?_
      refine lv_iload_n hx hb dX8_signed_50 rfl (lv_at hl 0 rfl) ?_
      refine lv_icmp_ge (tgt := 59) hx hb dX8_signed_51 (by decide) (fun c_44 => ?_) (fun c_44 => ?_)
      · have hf := ite_t c_44 hf
        refine lv_iload_n hx hb dX8_signed_59 rfl (lv_at hl 0 rfl) ?_
        exact wX8_signed_60 C0 _ _ _ _ hP hD hS (lv_sub hl [] rfl) hf
      · have hf := ite_f c_44 hf
        refine lv_iload hx hb dX8_signed_54 (lv_at hl 1 rfl) ?_
        refine lv_goto (tgt := 60) hx hb dX8_signed_56 (by decide) ?_
        exact wX8_signed_60 C0 _ _ _ _ hP hD hS (lv_sub hl [] rfl) hf
set_option maxRecDepth 100000 in
set_option maxHeartbeats 4000000 in
theorem kX8_signed (l : Launch) (G : va_G) (cy : Nat → ClassId) (q_this : Nat) (q_now : Nat) (q_saved : Nat) (q_trial : Nat) (q_lowering : Nat) (q_counts : Nat) (q_expansion : Nat) (q_setUp : Nat) (q_tapes : Nat) (q_now_ground : Nat) (q_now_notes : Nat) (q_now_seen : Nat) (q_now_events : Nat) (q_now_book : Nat) (sz : Nat) (f_imaged : Int32) (f_now_ground_a : Int32) (f_now_ground_b : Int32) (f_now_ground_x : Int32) (f_now_ground_y : Int32) (p1 : Int32) (p2 : Int32) (n : Nat) {o : Int32} (hf : fX8_signed n p1 p2 f_now_ground_a f_now_ground_b = some o) : Met l yX8_signed (Cond.code yX8_signed cX8_signed 6 (some .int) :: AW) ({ frames := 1, cells := 0, slots := 0, locals := 27 } : Room) (va_Pc [.ref q_this, .int p1, .int p2] (Wp G cy [(q_this, .inr (8, [.ref q_now, .ref q_saved, .int f_imaged, .ref q_trial, .ref q_lowering, .ref q_counts, .ref q_expansion, .ref q_setUp, .ref q_tapes])), (q_now, .inr (6, [.ref q_now_ground, .ref q_now_notes, .ref q_now_seen, .ref q_now_events, .ref q_now_book])), (q_now_ground, .inr (2, [.int f_now_ground_a, .int f_now_ground_b, .int f_now_ground_x, .int f_now_ground_y]))] sz)) (va_Qi (fun r (_ : Unit) => r = o) (fun _ => Wq G cy (va_A [(q_this, .inr (8, [.ref q_now, .ref q_saved, .int f_imaged, .ref q_trial, .ref q_lowering, .ref q_counts, .ref q_expansion, .ref q_setUp, .ref q_tapes])), (q_now, .inr (6, [.ref q_now_ground, .ref q_now_notes, .ref q_now_seen, .ref q_now_events, .ref q_now_book])), (q_now_ground, .inr (2, [.int f_now_ground_a, .int f_now_ground_b, .int f_now_ground_x, .int f_now_ground_y]))] sz) [(q_this, .inr (8, [.ref q_now, .ref q_saved, .int f_imaged, .ref q_trial, .ref q_lowering, .ref q_counts, .ref q_expansion, .ref q_setUp, .ref q_tapes])), (q_now, .inr (6, [.ref q_now_ground, .ref q_now_notes, .ref q_now_seen, .ref q_now_events, .ref q_now_book])), (q_now_ground, .inr (2, [.int f_now_ground_a, .int f_now_ground_b, .int f_now_ground_x, .int f_now_ground_y]))]) (va_A [(q_this, .inr (8, [.ref q_now, .ref q_saved, .int f_imaged, .ref q_trial, .ref q_lowering, .ref q_counts, .ref q_expansion, .ref q_setUp, .ref q_tapes])), (q_now, .inr (6, [.ref q_now_ground, .ref q_now_notes, .ref q_now_seen, .ref q_now_events, .ref q_now_book])), (q_now_ground, .inr (2, [.int f_now_ground_a, .int f_now_ground_b, .int f_now_ground_x, .int f_now_ground_y]))] sz)) 0 0 (va_A [(q_this, .inr (8, [.ref q_now, .ref q_saved, .int f_imaged, .ref q_trial, .ref q_lowering, .ref q_counts, .ref q_expansion, .ref q_setUp, .ref q_tapes])), (q_now, .inr (6, [.ref q_now_ground, .ref q_now_notes, .ref q_now_seen, .ref q_now_events, .ref q_now_book])), (q_now_ground, .inr (2, [.int f_now_ground_a, .int f_now_ground_b, .int f_now_ground_x, .int f_now_ground_y]))] sz) := by
  refine Met.ofW (cc := cX8_signed) (maxL := 6) (ret := (some .int)) (by decide) rfl ?_
  intro p e s m args below meth c s₁ B hml hv
  obtain ⟨rfl, hsz, hP, hK, hD0, hN⟩ := hv
  have hx := B.exec
  have hb := B.bytes
  have hr := B.returns
  have htA : ∀ w ∈ AW, w.before _ s = true := fun w h => atoms_spec (ws := Cond.code yX8_signed cX8_signed 6 (some .int) :: AW) B.pre w (List.mem_cons_of_mem _ h)
  have hown : s.vm.findClass RX8 = some m.cls := findClass_of_methodNamed B.named
  have hlocks := B.notSynchronized
  subst hsz
  have hD := hD0.self (sz := s.heap.size)
  generalize hAe : va_A [(q_this, .inr (8, [.ref q_now, .ref q_saved, .int f_imaged, .ref q_trial, .ref q_lowering, .ref q_counts, .ref q_expansion, .ref q_setUp, .ref q_tapes])), (q_now, .inr (6, [.ref q_now_ground, .ref q_now_notes, .ref q_now_seen, .ref q_now_events, .ref q_now_book])), (q_now_ground, .inr (2, [.int f_now_ground_a, .int f_now_ground_b, .int f_now_ground_x, .int f_now_ground_y]))] s.heap.size = A at hD ⊢
  have hA : ∀ q : Nat, s.heap.size ≤ q → A q := fun q h => by rw [← hAe]; exact Or.inr h
  have hS : va_S A s.heap s.heap [] := va_S.rf
  have hl := lv_entry ([.ref q_this, .int p1, .int p2]) (n := 6) (Nat.le_of_ble_eq_true rfl)
  rw [lg_entry_eq]
  generalize (lg_sl ([.ref q_this, .int p1, .int p2]) ++ List.replicate (6 - (lg_sl ([.ref q_this, .int p1, .int p2])).length) Slot.unset).toArray = ls at hl ⊢
  have hl : lv_has ls 6 [(0, .ref q_this), (1, .int p1), (2, .int p2)] := hl
  have hP : va_P G vwCl [(q_this, .inr (8, [.ref q_now, .ref q_saved, .int f_imaged, .ref q_trial, .ref q_lowering, .ref q_counts, .ref q_expansion, .ref q_setUp, .ref q_tapes])), (q_now, .inr (6, [.ref q_now_ground, .ref q_now_notes, .ref q_now_seen, .ref q_now_events, .ref q_now_book])), (q_now_ground, .inr (2, [.int f_now_ground_a, .int f_now_ground_b, .int f_now_ground_x, .int f_now_ground_y]))] s.heap := hP
  have C0 : Cx p s m _ meth c cX8_signed 6 (some .int) RX8 G cy A := ⟨hx, hb, hr, hml, htA, hown, hK, hN, hA, hlocks⟩
  have hf : ((fX8_isSmall p1 p2).bind fun q2 => ((if q2 = 0 then some ((-2)) else (fX8_shortestWordTo n p1 p2 0 f_now_ground_a f_now_ground_b).bind fun q15 => ((fX8_shortestWordTo n p1 p2 1 f_now_ground_a f_now_ground_b).bind fun q23 => ((if 0 ≤ q15 then jX8_signed_39 n q15 q23 else (if 0 ≤ q23 then jX8_signed_39 n q15 q23 else some (1))))))) : Option (Int32)) = some o := hf
  refine lv_iload_n hx hb dX8_signed_0 rfl (lv_at hl 1 rfl) ?_
  refine lv_iload_n hx hb dX8_signed_1 rfl (lv_at hl 2 rfl) ?_
  obtain ⟨q2, h2_45, hf⟩ := bd_s hf
  refine u_calliR (va_runS (As := [.int p1, .int p2]) (rest := []) ⟨hx, hb, hml, hown, htA⟩ (kX8_isSmall l G cy s.heap.size p1 p2 h2_45) (u_cwS htA a_ml_X8_225 pk_X8_isSmall ⟨Nat.le_of_ble_eq_true rfl, Nat.le_of_ble_eq_true rfl⟩) (u_preS hK hN hP hD [] rfl (by decide)) rfl rfl hl.1 rfl (lv_room (Nat.le_of_ble_eq_true rfl)) dX8_signed_2 ⟨Nat.zero_le _, Nat.zero_le _⟩) hP hD hS hA [] rfl (fun H locs hP hS => ?_)
  refine lv_if_ne (tgt := 11) hx hb dX8_signed_5 (by decide) (fun c_46 => ?_) (fun c_46 => ?_)
  · have hf := ite_f c_46 hf
    refine lv_aload_n hx hb dX8_signed_11 rfl (lv_at hl 0 rfl) ?_
    refine lv_iload_n hx hb dX8_signed_12 rfl (lv_at hl 1 rfl) ?_
    refine lv_iload_n hx hb dX8_signed_13 rfl (lv_at hl 2 rfl) ?_
    refine lv_iconst (v := 0) hx hb dX8_signed_14 (by decide) ?_
    obtain ⟨q15, h15_47, hf⟩ := bd_s hf
    refine u_calliR (va_runV (As := [.int p1, .int p2, .int 0]) (rest := []) ⟨hx, hb, hml, hown, htA⟩ (kX8_shortestWordTo l G cy q_this q_now q_saved q_trial q_lowering q_counts q_expansion q_setUp q_tapes q_now_ground q_now_notes q_now_seen q_now_events q_now_book H.size f_imaged f_now_ground_a f_now_ground_b f_now_ground_x f_now_ground_y p1 p2 0 n h15_47) (u_cwV htA a_ml_X8_235 pk_X8_shortestWordTo ⟨Nat.le_of_ble_eq_true rfl, Nat.le_of_ble_eq_true rfl⟩) (u_preV hK hN hP hD [0, 1, 2] rfl (by decide) 0 rfl rfl) rfl rfl hl.1 rfl (lv_room (Nat.le_of_ble_eq_true rfl)) dX8_signed_15 ⟨Nat.zero_le _, Nat.zero_le _⟩) hP hD hS hA [0, 1, 2] rfl (fun H locs hP hS => ?_)
    refine lv_istore_n (lv' := [(3, .int q15), (0, .ref q_this), (1, .int p1), (2, .int p2)]) hx hb dX8_signed_18 rfl hl (by decide) rfl (fun ls hl => ?_)
    refine lv_aload_n hx hb dX8_signed_19 rfl (lv_at hl 1 rfl) ?_
    refine lv_iload_n hx hb dX8_signed_20 rfl (lv_at hl 2 rfl) ?_
    refine lv_iload_n hx hb dX8_signed_21 rfl (lv_at hl 3 rfl) ?_
    refine lv_iconst (v := 1) hx hb dX8_signed_22 (by decide) ?_
    obtain ⟨q23, h23_48, hf⟩ := bd_s hf
    refine u_calliR (va_runV (As := [.int p1, .int p2, .int 1]) (rest := []) ⟨hx, hb, hml, hown, htA⟩ (kX8_shortestWordTo l G cy q_this q_now q_saved q_trial q_lowering q_counts q_expansion q_setUp q_tapes q_now_ground q_now_notes q_now_seen q_now_events q_now_book H.size f_imaged f_now_ground_a f_now_ground_b f_now_ground_x f_now_ground_y p1 p2 1 n h23_48) (u_cwV htA a_ml_X8_235 pk_X8_shortestWordTo ⟨Nat.le_of_ble_eq_true rfl, Nat.le_of_ble_eq_true rfl⟩) (u_preV hK hN hP hD [0, 1, 2] rfl (by decide) 0 rfl rfl) rfl rfl hl.1 rfl (lv_room (Nat.le_of_ble_eq_true rfl)) dX8_signed_23 ⟨Nat.zero_le _, Nat.zero_le _⟩) hP hD hS hA [0, 1, 2] rfl (fun H locs hP hS => ?_)
    refine lv_istore (lv' := [(4, .int q23), (3, .int q15), (0, .ref q_this), (1, .int p1), (2, .int p2)]) hx hb dX8_signed_26 hl (by decide) rfl (fun ls hl => ?_)
    refine lv_iload_n hx hb dX8_signed_28 rfl (lv_at hl 1 rfl) ?_
    refine lv_if_ge (tgt := 39) hx hb dX8_signed_29 (by decide) (fun c_49 => ?_) (fun c_49 => ?_)
    · have hf := ite_t c_49 hf
      exact wX8_signed_39 C0 _ _ _ _ _ hP hD hS (lv_sub hl [1, 0] rfl) hf
    · have hf := ite_f c_49 hf
      refine lv_iload hx hb dX8_signed_32 (lv_at hl 0 rfl) ?_
      refine lv_if_ge (tgt := 39) hx hb dX8_signed_34 (by decide) (fun c_50 => ?_) (fun c_50 => ?_)
      · have hf := ite_t c_50 hf
        exact wX8_signed_39 C0 _ _ _ _ _ hP hD hS (lv_sub hl [1, 0] rfl) hf
      · have hf := ite_f c_50 hf
        refine lv_iconst (v := 1) hx hb dX8_signed_37 (by decide) ?_
        have ho := Option.some.inj hf
        subst ho
        exact W.iret (v := 1) hx hb hr (fun t ht hW => ⟨⟨_, (), rfl, rfl, by rw [ht]; exact hP, va_K.moved hW.alike hK, hD⟩, hS.F ht⟩) hS.2.2 dX8_signed_38
  · have hf := ite_t c_46 hf
    refine lv_bipush (v := (-2)) hx hb dX8_signed_8 (by decide) ?_
    have ho := Option.some.inj hf
    subst ho
    exact W.iret (v := (-2)) hx hb hr (fun t ht hW => ⟨⟨_, (), rfl, rfl, by rw [ht]; exact hP, va_K.moved hW.alike hK, hD⟩, hS.F ht⟩) hS.2.2 dX8_signed_10
set_option maxRecDepth 100000 in
set_option maxHeartbeats 4000000 in
theorem kX8_see (l : Launch) (G : va_G) (cy : Nat → ClassId) (q_this : Nat) (q_now : Nat) (q_saved : Nat) (q_trial : Nat) (q_lowering : Nat) (q_counts : Nat) (q_expansion : Nat) (q_setUp : Nat) (q_tapes : Nat) (q_now_ground : Nat) (q_now_notes : Nat) (q_now_seen : Nat) (q_now_events : Nat) (q_now_book : Nat) (q_now_seen_cells : Nat) (sz : Nat) (n_now_seen_cells : Nat) (f_imaged : Int32) (f_now_seen_limit : Int32) (f_now_seen_used : Int32) (f_now_seen_cells : Nat → Int32) (p1 : Int32) (p2 : Int32) (p3 : Int32) {o : Int32 × Int32 × (Nat → Int32)} (hf : fX8_see p1 p2 p3 n_now_seen_cells f_now_seen_limit f_now_seen_used f_now_seen_cells = some o) : Met l yX8_see (Cond.code yX8_see cX8_see 4 (some .int) :: AW) ({ frames := 1, cells := 0, slots := 0, locals := 23 } : Room) (va_Pc [.ref q_this, .int p1, .int p2, .int p3] (Wp G cy [(q_this, .inr (8, [.ref q_now, .ref q_saved, .int f_imaged, .ref q_trial, .ref q_lowering, .ref q_counts, .ref q_expansion, .ref q_setUp, .ref q_tapes])), (q_now, .inr (6, [.ref q_now_ground, .ref q_now_notes, .ref q_now_seen, .ref q_now_events, .ref q_now_book])), (q_now_seen, .inr (4, [.int f_now_seen_limit, .ref q_now_seen_cells, .int f_now_seen_used])), (q_now_seen_cells, .inl (cy 0, n_now_seen_cells, .inl f_now_seen_cells))] sz)) (va_Qi (fun r (_ : Unit) => r = o.1) (fun _ => Wq G cy (va_A [(q_this, .inr (8, [.ref q_now, .ref q_saved, .int f_imaged, .ref q_trial, .ref q_lowering, .ref q_counts, .ref q_expansion, .ref q_setUp, .ref q_tapes])), (q_now, .inr (6, [.ref q_now_ground, .ref q_now_notes, .ref q_now_seen, .ref q_now_events, .ref q_now_book])), (q_now_seen, .inr (4, [.int f_now_seen_limit, .ref q_now_seen_cells, .int f_now_seen_used])), (q_now_seen_cells, .inl (cy 0, n_now_seen_cells, .inl f_now_seen_cells))] sz) [(q_this, .inr (8, [.ref q_now, .ref q_saved, .int f_imaged, .ref q_trial, .ref q_lowering, .ref q_counts, .ref q_expansion, .ref q_setUp, .ref q_tapes])), (q_now, .inr (6, [.ref q_now_ground, .ref q_now_notes, .ref q_now_seen, .ref q_now_events, .ref q_now_book])), (q_now_seen, .inr (4, [.int f_now_seen_limit, .ref q_now_seen_cells, .int o.2.1])), (q_now_seen_cells, .inl (cy 0, n_now_seen_cells, .inl o.2.2))]) (va_A [(q_this, .inr (8, [.ref q_now, .ref q_saved, .int f_imaged, .ref q_trial, .ref q_lowering, .ref q_counts, .ref q_expansion, .ref q_setUp, .ref q_tapes])), (q_now, .inr (6, [.ref q_now_ground, .ref q_now_notes, .ref q_now_seen, .ref q_now_events, .ref q_now_book])), (q_now_seen, .inr (4, [.int f_now_seen_limit, .ref q_now_seen_cells, .int f_now_seen_used])), (q_now_seen_cells, .inl (cy 0, n_now_seen_cells, .inl f_now_seen_cells))] sz)) 0 0 (va_A [(q_this, .inr (8, [.ref q_now, .ref q_saved, .int f_imaged, .ref q_trial, .ref q_lowering, .ref q_counts, .ref q_expansion, .ref q_setUp, .ref q_tapes])), (q_now, .inr (6, [.ref q_now_ground, .ref q_now_notes, .ref q_now_seen, .ref q_now_events, .ref q_now_book])), (q_now_seen, .inr (4, [.int f_now_seen_limit, .ref q_now_seen_cells, .int f_now_seen_used])), (q_now_seen_cells, .inl (cy 0, n_now_seen_cells, .inl f_now_seen_cells))] sz) := by
  refine Met.ofW (cc := cX8_see) (maxL := 4) (ret := (some .int)) (by decide) rfl ?_
  intro p e s m args below meth c s₁ B hml hv
  obtain ⟨rfl, hsz, hP, hK, hD0, hN⟩ := hv
  have hx := B.exec
  have hb := B.bytes
  have hr := B.returns
  have htA : ∀ w ∈ AW, w.before _ s = true := fun w h => atoms_spec (ws := Cond.code yX8_see cX8_see 4 (some .int) :: AW) B.pre w (List.mem_cons_of_mem _ h)
  have hown : s.vm.findClass RX8 = some m.cls := findClass_of_methodNamed B.named
  have hlocks := B.notSynchronized
  subst hsz
  have hD := hD0.self (sz := s.heap.size)
  generalize hAe : va_A [(q_this, .inr (8, [.ref q_now, .ref q_saved, .int f_imaged, .ref q_trial, .ref q_lowering, .ref q_counts, .ref q_expansion, .ref q_setUp, .ref q_tapes])), (q_now, .inr (6, [.ref q_now_ground, .ref q_now_notes, .ref q_now_seen, .ref q_now_events, .ref q_now_book])), (q_now_seen, .inr (4, [.int f_now_seen_limit, .ref q_now_seen_cells, .int f_now_seen_used])), (q_now_seen_cells, .inl (cy 0, n_now_seen_cells, .inl f_now_seen_cells))] s.heap.size = A at hD ⊢
  have hA : ∀ q : Nat, s.heap.size ≤ q → A q := fun q h => by rw [← hAe]; exact Or.inr h
  have hS : va_S A s.heap s.heap [] := va_S.rf
  have hl := lv_entry ([.ref q_this, .int p1, .int p2, .int p3]) (n := 4) (Nat.le_of_ble_eq_true rfl)
  rw [lg_entry_eq]
  generalize (lg_sl ([.ref q_this, .int p1, .int p2, .int p3]) ++ List.replicate (4 - (lg_sl ([.ref q_this, .int p1, .int p2, .int p3])).length) Slot.unset).toArray = ls at hl ⊢
  have hl : lv_has ls 4 [(0, .ref q_this), (1, .int p1), (2, .int p2), (3, .int p3)] := hl
  have hP : va_P G vwCl [(q_this, .inr (8, [.ref q_now, .ref q_saved, .int f_imaged, .ref q_trial, .ref q_lowering, .ref q_counts, .ref q_expansion, .ref q_setUp, .ref q_tapes])), (q_now, .inr (6, [.ref q_now_ground, .ref q_now_notes, .ref q_now_seen, .ref q_now_events, .ref q_now_book])), (q_now_seen, .inr (4, [.int f_now_seen_limit, .ref q_now_seen_cells, .int f_now_seen_used])), (q_now_seen_cells, .inl (cy 0, n_now_seen_cells, .inl f_now_seen_cells))] s.heap := hP
  have hf : ((if p1 = (-100) then (fX4_clear f_now_seen_used).bind fun q13 => (some (0, q13, f_now_seen_cells)) else (fX8_isIn p1 (-12) 12).bind fun q23 => ((if q23 = 0 then some ((-2), f_now_seen_used, f_now_seen_cells) else (fX8_isIn p2 (-12) 12).bind fun q34 => ((if q34 = 0 then some ((-2), f_now_seen_used, f_now_seen_cells) else (fX8_isIn p3 0 2).bind fun q46 => ((if q46 = 0 then some ((-2), f_now_seen_used, f_now_seen_cells) else (fX4_put p1 p2 p3 n_now_seen_cells f_now_seen_limit f_now_seen_used f_now_seen_cells).bind fun q65 => (some (q65.1, q65.2.1, q65.2.2))))))))) : Option (Int32 × Int32 × (Nat → Int32))) = some o := hf
  refine lv_iload_n hx hb dX8_see_0 rfl (lv_at hl 1 rfl) ?_
  refine lv_bipush (v := (-100)) hx hb dX8_see_1 (by decide) ?_
  refine lv_icmp_ne (tgt := 18) hx hb dX8_see_3 (by decide) (fun c_37 => ?_) (fun c_37 => ?_)
  · have hf := ite_f c_37 hf
    refine lv_iload_n hx hb dX8_see_18 rfl (lv_at hl 1 rfl) ?_
    refine lv_bipush (v := (-12)) hx hb dX8_see_19 (by decide) ?_
    refine lv_bipush (v := 12) hx hb dX8_see_21 (by decide) ?_
    obtain ⟨q23, h23_38, hf⟩ := bd_s hf
    refine u_calliR (va_runS (As := [.int p1, .int (-12), .int 12]) (rest := []) ⟨hx, hb, hml, hown, htA⟩ (kX8_isIn l G cy s.heap.size p1 (-12) 12 h23_38) (u_cwS htA a_ml_X8_69 pk_X8_isIn ⟨Nat.le_of_ble_eq_true rfl, Nat.le_of_ble_eq_true rfl⟩) (u_preS hK hN hP hD [] rfl (by decide)) rfl rfl hl.1 rfl (lv_room (Nat.le_of_ble_eq_true rfl)) dX8_see_23 ⟨Nat.zero_le _, Nat.zero_le _⟩) hP hD hS hA [] rfl (fun H locs hP hS => ?_)
    refine lv_if_eq (tgt := 40) hx hb dX8_see_26 (by decide) (fun c_39 => ?_) (fun c_39 => ?_)
    · have hf := ite_t c_39 hf
      refine lv_bipush (v := (-2)) hx hb dX8_see_40 (by decide) ?_
      have ho := Option.some.inj hf
      subst ho
      exact W.iret (v := (-2)) hx hb hr (fun t ht hW => ⟨⟨_, (), rfl, rfl, by rw [ht]; exact hP, va_K.moved hW.alike hK, hD⟩, hS.F ht⟩) hS.2.2 dX8_see_42
    · have hf := ite_f c_39 hf
      refine lv_iload_n hx hb dX8_see_29 rfl (lv_at hl 2 rfl) ?_
      refine lv_bipush (v := (-12)) hx hb dX8_see_30 (by decide) ?_
      refine lv_bipush (v := 12) hx hb dX8_see_32 (by decide) ?_
      obtain ⟨q34, h34_40, hf⟩ := bd_s hf
      refine u_calliR (va_runS (As := [.int p2, .int (-12), .int 12]) (rest := []) ⟨hx, hb, hml, hown, htA⟩ (kX8_isIn l G cy H.size p2 (-12) 12 h34_40) (u_cwS htA a_ml_X8_69 pk_X8_isIn ⟨Nat.le_of_ble_eq_true rfl, Nat.le_of_ble_eq_true rfl⟩) (u_preS hK hN hP hD [] rfl (by decide)) rfl rfl hl.1 rfl (lv_room (Nat.le_of_ble_eq_true rfl)) dX8_see_34 ⟨Nat.zero_le _, Nat.zero_le _⟩) hP hD hS hA [] rfl (fun H locs hP hS => ?_)
      refine lv_if_ne (tgt := 43) hx hb dX8_see_37 (by decide) (fun c_41 => ?_) (fun c_41 => ?_)
      · have hf := ite_f c_41 hf
        refine lv_iload_n hx hb dX8_see_43 rfl (lv_at hl 3 rfl) ?_
        refine lv_iconst (v := 0) hx hb dX8_see_44 (by decide) ?_
        refine lv_iconst (v := 2) hx hb dX8_see_45 (by decide) ?_
        obtain ⟨q46, h46_42, hf⟩ := bd_s hf
        refine u_calliR (va_runS (As := [.int p3, .int 0, .int 2]) (rest := []) ⟨hx, hb, hml, hown, htA⟩ (kX8_isIn l G cy H.size p3 0 2 h46_42) (u_cwS htA a_ml_X8_69 pk_X8_isIn ⟨Nat.le_of_ble_eq_true rfl, Nat.le_of_ble_eq_true rfl⟩) (u_preS hK hN hP hD [] rfl (by decide)) rfl rfl hl.1 rfl (lv_room (Nat.le_of_ble_eq_true rfl)) dX8_see_46 ⟨Nat.zero_le _, Nat.zero_le _⟩) hP hD hS hA [] rfl (fun H locs hP hS => ?_)
        refine lv_if_ne (tgt := 55) hx hb dX8_see_49 (by decide) (fun c_43 => ?_) (fun c_43 => ?_)
        · have hf := ite_f c_43 hf
          refine lv_aload_n hx hb dX8_see_55 rfl (lv_at hl 0 rfl) ?_
          refine va_get (D := G) (ci := 8) (v := .ref q_now) (C := RX8) (T := TX8) (N := 9) hx hb htA lyX8 hown hK hP 0 rfl rfl 0 (by decide) (htA _ a_fl_X8_14) (fun _ h9 => h9) rfl dX8_see_56 ?_
          refine va_getN (D := G) (ci := 6) (v := .ref q_now_seen) (C := RX6) (T := TX6) (N := 5) hx hb htA lyX6 hown hK hP 1 rfl rfl 2 (by decide) (u_link hN (List.mem_of_getElem? (i := 8) rfl)) (fun _ h9 => h9) rfl dX8_see_59 ?_
          refine lv_iload_n hx hb dX8_see_62 rfl (lv_at hl 1 rfl) ?_
          refine lv_iload_n hx hb dX8_see_63 rfl (lv_at hl 2 rfl) ?_
          refine lv_iload_n hx hb dX8_see_64 rfl (lv_at hl 3 rfl) ?_
          obtain ⟨q65, h65_44, hf⟩ := bd_s hf
          refine u_calli [(q_this, .inr (8, [.ref q_now, .ref q_saved, .int f_imaged, .ref q_trial, .ref q_lowering, .ref q_counts, .ref q_expansion, .ref q_setUp, .ref q_tapes])), (q_now, .inr (6, [.ref q_now_ground, .ref q_now_notes, .ref q_now_seen, .ref q_now_events, .ref q_now_book])), (q_now_seen, .inr (4, [.int f_now_seen_limit, .ref q_now_seen_cells, .int q65.2.1])), (q_now_seen_cells, .inl (cy 0, n_now_seen_cells, .inl q65.2.2))] (va_runV (As := [.int p1, .int p2, .int p3]) (rest := []) ⟨hx, hb, hml, hown, htA⟩ (kX4_put l G cy q_now_seen q_now_seen_cells H.size n_now_seen_cells f_now_seen_limit f_now_seen_used f_now_seen_cells p1 p2 p3 h65_44) (u_cwV htA a_ml_X8_117 pk_X4_put ⟨Nat.le_of_ble_eq_true rfl, Nat.le_of_ble_eq_true rfl⟩) (u_preV hK hN hP hD [2, 3] rfl (by decide) 2 rfl rfl) rfl rfl hl.1 rfl (lv_room (Nat.le_of_ble_eq_true rfl)) dX8_see_65 ⟨Nat.zero_le _, Nat.zero_le _⟩) hP hD hS hA [2, 3] rfl [0, 1] 4 rfl rfl rfl (by decide) rfl (fun H locs hP hD hS => ?_)
          have ho := Option.some.inj hf
          subst ho
          exact W.iret (v := q65.1) hx hb hr (fun t ht hW => ⟨⟨_, (), rfl, rfl, by rw [ht]; exact hP, va_K.moved hW.alike hK, hD⟩, hS.F ht⟩) hS.2.2 dX8_see_68
        · have hf := ite_t c_43 hf
          refine lv_bipush (v := (-2)) hx hb dX8_see_52 (by decide) ?_
          have ho := Option.some.inj hf
          subst ho
          exact W.iret (v := (-2)) hx hb hr (fun t ht hW => ⟨⟨_, (), rfl, rfl, by rw [ht]; exact hP, va_K.moved hW.alike hK, hD⟩, hS.F ht⟩) hS.2.2 dX8_see_54
      · have hf := ite_t c_41 hf
        refine lv_bipush (v := (-2)) hx hb dX8_see_40 (by decide) ?_
        have ho := Option.some.inj hf
        subst ho
        exact W.iret (v := (-2)) hx hb hr (fun t ht hW => ⟨⟨_, (), rfl, rfl, by rw [ht]; exact hP, va_K.moved hW.alike hK, hD⟩, hS.F ht⟩) hS.2.2 dX8_see_42
  · have hf := ite_t c_37 hf
    refine lv_aload_n hx hb dX8_see_6 rfl (lv_at hl 0 rfl) ?_
    refine va_get (D := G) (ci := 8) (v := .ref q_now) (C := RX8) (T := TX8) (N := 9) hx hb htA lyX8 hown hK hP 0 rfl rfl 0 (by decide) (htA _ a_fl_X8_14) (fun _ h9 => h9) rfl dX8_see_7 ?_
    refine va_getN (D := G) (ci := 6) (v := .ref q_now_seen) (C := RX6) (T := TX6) (N := 5) hx hb htA lyX6 hown hK hP 1 rfl rfl 2 (by decide) (u_link hN (List.mem_of_getElem? (i := 8) rfl)) (fun _ h9 => h9) rfl dX8_see_10 ?_
    obtain ⟨q13, h13_45, hf⟩ := bd_s hf
    refine u_callv [(q_this, .inr (8, [.ref q_now, .ref q_saved, .int f_imaged, .ref q_trial, .ref q_lowering, .ref q_counts, .ref q_expansion, .ref q_setUp, .ref q_tapes])), (q_now, .inr (6, [.ref q_now_ground, .ref q_now_notes, .ref q_now_seen, .ref q_now_events, .ref q_now_book])), (q_now_seen, .inr (4, [.int f_now_seen_limit, .ref q_now_seen_cells, .int q13])), (q_now_seen_cells, .inl (cy 0, n_now_seen_cells, .inl f_now_seen_cells))] (va_runV (As := []) (rest := []) ⟨hx, hb, hml, hown, htA⟩ (kX4_clear l G cy q_now_seen q_now_seen_cells s.heap.size f_now_seen_limit f_now_seen_used h13_45) (u_cwV htA a_ml_X8_121 pk_X4_clear ⟨Nat.le_of_ble_eq_true rfl, Nat.le_of_ble_eq_true rfl⟩) (u_preV hK hN hP hD [2] rfl (by decide) 2 rfl rfl) rfl rfl hl.1 rfl (lv_room (Nat.le_of_ble_eq_true rfl)) dX8_see_13 ⟨Nat.zero_le _, Nat.zero_le _⟩) hP hD hS hA [2] rfl [0, 1, 3] 4 rfl rfl rfl (by decide) rfl (fun H locs hP hD hS => ?_)
    refine lv_iconst (v := 0) hx hb dX8_see_16 (by decide) ?_
    have ho := Option.some.inj hf
    subst ho
    exact W.iret (v := 0) hx hb hr (fun t ht hW => ⟨⟨_, (), rfl, rfl, by rw [ht]; exact hP, va_K.moved hW.alike hK, hD⟩, hS.F ht⟩) hS.2.2 dX8_see_17
set_option maxRecDepth 100000 in
set_option maxHeartbeats 4000000 in
theorem wX8_isAllSeenBy_10 {p : Program} {l : Launch} {e : Env} {s : State} {m : MethodId} {args : Array Value} {below : List Frame} {meth : Method} {c : Code} {G : va_G} {cy : Nat → ClassId} {A : Nat → Prop} {q_this : Nat} {q_now : Nat} {q_saved : Nat} {q_trial : Nat} {q_lowering : Nat} {q_counts : Nat} {q_expansion : Nat} {q_setUp : Nat} {q_tapes : Nat} {q_now_ground : Nat} {q_now_notes : Nat} {q_now_seen : Nat} {q_now_events : Nat} {q_now_book : Nat} {q_now_seen_cells : Nat} {n_now_seen_cells : Nat} {f_imaged : Int32} {f_now_ground_a : Int32} {f_now_ground_b : Int32} {f_now_ground_x : Int32} {f_now_ground_y : Int32} {f_now_seen_limit : Int32} {f_now_seen_used : Int32} {f_now_seen_cells : Nat → Int32} {n : Nat} {o : Int32 × Int32 × Int32 × Int32 × Int32} (C : Cx p s m args meth c cX8_isAllSeenBy 4 (some .boolean) RX8 G cy A) : ∀ k10 : Nat, ∀ (v1 : Int32) (v3 : Int32) (f_lowering_x : Int32) (f_lowering_y : Int32) (f_lowering_steps : Int32) (f_lowering_metLetter : Int32) (H : Heap) (locs : List Loc) (ls : Array Slot), va_P G vwCl [(q_this, .inr (8, [.ref q_now, .ref q_saved, .int f_imaged, .ref q_trial, .ref q_lowering, .ref q_counts, .ref q_expansion, .ref q_setUp, .ref q_tapes])), (q_now, .inr (6, [.ref q_now_ground, .ref q_now_notes, .ref q_now_seen, .ref q_now_events, .ref q_now_book])), (q_now_ground, .inr (2, [.int f_now_ground_a, .int f_now_ground_b, .int f_now_ground_x, .int f_now_ground_y])), (q_now_seen, .inr (4, [.int f_now_seen_limit, .ref q_now_seen_cells, .int f_now_seen_used])), (q_now_seen_cells, .inl (cy 0, n_now_seen_cells, .inl f_now_seen_cells)), (q_lowering, .inr (3, [.int f_lowering_x, .int f_lowering_y, .int f_lowering_steps, .int f_lowering_metLetter]))] H → va_D A [(q_this, .inr (8, [.ref q_now, .ref q_saved, .int f_imaged, .ref q_trial, .ref q_lowering, .ref q_counts, .ref q_expansion, .ref q_setUp, .ref q_tapes])), (q_now, .inr (6, [.ref q_now_ground, .ref q_now_notes, .ref q_now_seen, .ref q_now_events, .ref q_now_book])), (q_now_ground, .inr (2, [.int f_now_ground_a, .int f_now_ground_b, .int f_now_ground_x, .int f_now_ground_y])), (q_now_seen, .inr (4, [.int f_now_seen_limit, .ref q_now_seen_cells, .int f_now_seen_used])), (q_now_seen_cells, .inl (cy 0, n_now_seen_cells, .inl f_now_seen_cells)), (q_lowering, .inr (3, [.int f_lowering_x, .int f_lowering_y, .int f_lowering_steps, .int f_lowering_metLetter]))] → va_S A s.heap H locs → lv_has ls 4 [(0, .ref q_this), (1, .int v1), (2, .ref q_now_seen), (3, .int v3)] → lX8_isAllSeenBy_10 n n_now_seen_cells f_now_ground_b f_now_seen_used f_now_seen_cells k10 v1 v3 f_lowering_x f_lowering_y f_lowering_steps f_lowering_metLetter = some o → W p l e (headSpec (Cond.code yX8_isAllSeenBy cX8_isAllSeenBy 4 (some .boolean) :: AW) ({ frames := 3, cells := 0, slots := 0, locals := 70 } : Room)).room s m args below meth c H locs 0 0 (MQ below (va_Qi (fun r (_ : Unit) => r = o.1) (fun _ => Wq G cy A [(q_this, .inr (8, [.ref q_now, .ref q_saved, .int f_imaged, .ref q_trial, .ref q_lowering, .ref q_counts, .ref q_expansion, .ref q_setUp, .ref q_tapes])), (q_now, .inr (6, [.ref q_now_ground, .ref q_now_notes, .ref q_now_seen, .ref q_now_events, .ref q_now_book])), (q_now_ground, .inr (2, [.int f_now_ground_a, .int f_now_ground_b, .int f_now_ground_x, .int f_now_ground_y])), (q_now_seen, .inr (4, [.int f_now_seen_limit, .ref q_now_seen_cells, .int f_now_seen_used])), (q_now_seen_cells, .inl (cy 0, n_now_seen_cells, .inl f_now_seen_cells)), (q_lowering, .inr (3, [.int o.2.1, .int o.2.2.1, .int o.2.2.2.1, .int o.2.2.2.2]))]) A) args s 0 0 A) (F0 m 10 ls []) := by
  have C0 := C
  obtain ⟨hx, hb, hr, hml, htA, hown, hK, hN, hA, hlocks⟩ := C
  intro k10
  induction k10 with
  | zero =>
    intro v1 v3 f_lowering_x f_lowering_y f_lowering_steps f_lowering_metLetter H locs ls hP hD hS hl hf
    exact no_s hf
  | succ k10 ih10 =>
    intro v1 v3 f_lowering_x f_lowering_y f_lowering_steps f_lowering_metLetter H locs ls hP hD hS hl hf
    have hf : ((fX4_size f_now_seen_used).bind fun q12 => ((if q12 ≤ v3 then some (1, f_lowering_x, f_lowering_y, f_lowering_steps, f_lowering_metLetter) else (fX4_cell v3 0 n_now_seen_cells f_now_seen_used f_now_seen_cells).bind fun q36 => ((fX4_cell v3 1 n_now_seen_cells f_now_seen_used f_now_seen_cells).bind fun q42 => ((fX3_sortOf n v1 f_now_ground_b q36 q42 f_lowering_x f_lowering_y f_lowering_steps f_lowering_metLetter).bind fun q45 => ((fX4_cell v3 2 n_now_seen_cells f_now_seen_used f_now_seen_cells).bind fun q51 => ((if q45.1 = q51 then lX8_isAllSeenBy_10 n n_now_seen_cells f_now_ground_b f_now_seen_used f_now_seen_cells k10 v1 (v3 + 1) q45.2.1 q45.2.2.1 q45.2.2.2.1 q45.2.2.2.2 else some (0, q45.2.1, q45.2.2.1, q45.2.2.2.1, q45.2.2.2.2)))))))) : Option (Int32 × Int32 × Int32 × Int32 × Int32)) = some o := hf
    refine lv_iload_n hx hb dX8_isAllSeenBy_10 rfl (lv_at hl 3 rfl) ?_
    refine lv_aload_n hx hb dX8_isAllSeenBy_11 rfl (lv_at hl 2 rfl) ?_
    obtain ⟨q12, h12_29, hf⟩ := bd_s hf
    refine u_calliR (va_runV (As := []) (rest := [.int v3]) ⟨hx, hb, hml, hown, htA⟩ (kX4_size l G cy q_now_seen q_now_seen_cells H.size f_now_seen_limit f_now_seen_used h12_29) (u_cwV htA a_ml_X8_109 pk_X4_size ⟨Nat.le_of_ble_eq_true rfl, Nat.le_of_ble_eq_true rfl⟩) (u_preV hK hN hP hD [3] rfl (by decide) 3 rfl rfl) rfl rfl hl.1 rfl (lv_room (Nat.le_of_ble_eq_true rfl)) dX8_isAllSeenBy_12 ⟨Nat.zero_le _, Nat.zero_le _⟩) hP hD hS hA [3] rfl (fun H locs hP hS => ?_)
    refine lv_icmp_ge (tgt := 65) hx hb dX8_isAllSeenBy_15 (by decide) (fun c_30 => ?_) (fun c_30 => ?_)
    · have hf := ite_t c_30 hf
      refine lv_iconst (v := 1) hx hb dX8_isAllSeenBy_65 (by decide) ?_
      have ho := Option.some.inj hf
      subst ho
      exact W.zret (v := 1) hx hb hr rfl (fun t ht hW => ⟨⟨_, (), rfl, rfl, by rw [ht]; exact hP, va_K.moved hW.alike hK, hD⟩, hS.F ht⟩) hS.2.2 dX8_isAllSeenBy_66
    · have hf := ite_f c_30 hf
      refine lv_aload_n hx hb dX8_isAllSeenBy_18 rfl (lv_at hl 0 rfl) ?_
      refine va_get (D := G) (ci := 8) (v := .ref q_lowering) (C := RX8) (T := TX8) (N := 9) hx hb htA lyX8 hown hK hP 0 rfl rfl 4 (by decide) (htA _ a_fl_X8_35) (fun _ h9 => h9) rfl dX8_isAllSeenBy_19 ?_
      refine lv_iload_n hx hb dX8_isAllSeenBy_22 rfl (lv_at hl 1 rfl) ?_
      refine lv_aload_n hx hb dX8_isAllSeenBy_23 rfl (lv_at hl 0 rfl) ?_
      refine va_get (D := G) (ci := 8) (v := .ref q_now) (C := RX8) (T := TX8) (N := 9) hx hb htA lyX8 hown hK hP 0 rfl rfl 0 (by decide) (htA _ a_fl_X8_14) (fun _ h9 => h9) rfl dX8_isAllSeenBy_24 ?_
      refine va_getN (D := G) (ci := 6) (v := .ref q_now_ground) (C := RX6) (T := TX6) (N := 5) hx hb htA lyX6 hown hK hP 1 rfl rfl 0 (by decide) (u_link hN (List.mem_of_getElem? (i := 6) rfl)) (fun _ h9 => h9) rfl dX8_isAllSeenBy_27 ?_
      refine va_getN (D := G) (ci := 2) (v := .int f_now_ground_b) (C := RX2) (T := TX2) (N := 4) hx hb htA lyX2 hown hK hP 2 rfl rfl 1 (by decide) (u_link hN (List.mem_of_getElem? (i := 3) rfl)) (fun _ h9 => h9) rfl dX8_isAllSeenBy_30 ?_
      refine lv_aload_n hx hb dX8_isAllSeenBy_33 rfl (lv_at hl 2 rfl) ?_
      refine lv_iload_n hx hb dX8_isAllSeenBy_34 rfl (lv_at hl 3 rfl) ?_
      refine lv_iconst (v := 0) hx hb dX8_isAllSeenBy_35 (by decide) ?_
      obtain ⟨q36, h36_31, hf⟩ := bd_s hf
      refine u_calliR (va_runV (As := [.int v3, .int 0]) (rest := [.int f_now_ground_b, .int v1, .ref q_lowering]) ⟨hx, hb, hml, hown, htA⟩ (kX4_cell l G cy q_now_seen q_now_seen_cells H.size n_now_seen_cells f_now_seen_limit f_now_seen_used f_now_seen_cells v3 0 h36_31) (u_cwV htA a_ml_X8_114 pk_X4_cell ⟨Nat.le_of_ble_eq_true rfl, Nat.le_of_ble_eq_true rfl⟩) (u_preV hK hN hP hD [3, 4] rfl (by decide) 3 rfl rfl) rfl rfl hl.1 rfl (lv_room (Nat.le_of_ble_eq_true rfl)) dX8_isAllSeenBy_36 ⟨Nat.zero_le _, Nat.zero_le _⟩) hP hD hS hA [3, 4] rfl (fun H locs hP hS => ?_)
      refine lv_aload_n hx hb dX8_isAllSeenBy_39 rfl (lv_at hl 2 rfl) ?_
      refine lv_iload_n hx hb dX8_isAllSeenBy_40 rfl (lv_at hl 3 rfl) ?_
      refine lv_iconst (v := 1) hx hb dX8_isAllSeenBy_41 (by decide) ?_
      obtain ⟨q42, h42_32, hf⟩ := bd_s hf
      refine u_calliR (va_runV (As := [.int v3, .int 1]) (rest := [.int q36, .int f_now_ground_b, .int v1, .ref q_lowering]) ⟨hx, hb, hml, hown, htA⟩ (kX4_cell l G cy q_now_seen q_now_seen_cells H.size n_now_seen_cells f_now_seen_limit f_now_seen_used f_now_seen_cells v3 1 h42_32) (u_cwV htA a_ml_X8_114 pk_X4_cell ⟨Nat.le_of_ble_eq_true rfl, Nat.le_of_ble_eq_true rfl⟩) (u_preV hK hN hP hD [3, 4] rfl (by decide) 3 rfl rfl) rfl rfl hl.1 rfl (lv_room (Nat.le_of_ble_eq_true rfl)) dX8_isAllSeenBy_42 ⟨Nat.zero_le _, Nat.zero_le _⟩) hP hD hS hA [3, 4] rfl (fun H locs hP hS => ?_)
      obtain ⟨q45, h45_33, hf⟩ := bd_s hf
      refine u_calli [(q_this, .inr (8, [.ref q_now, .ref q_saved, .int f_imaged, .ref q_trial, .ref q_lowering, .ref q_counts, .ref q_expansion, .ref q_setUp, .ref q_tapes])), (q_now, .inr (6, [.ref q_now_ground, .ref q_now_notes, .ref q_now_seen, .ref q_now_events, .ref q_now_book])), (q_now_ground, .inr (2, [.int f_now_ground_a, .int f_now_ground_b, .int f_now_ground_x, .int f_now_ground_y])), (q_now_seen, .inr (4, [.int f_now_seen_limit, .ref q_now_seen_cells, .int f_now_seen_used])), (q_now_seen_cells, .inl (cy 0, n_now_seen_cells, .inl f_now_seen_cells)), (q_lowering, .inr (3, [.int q45.2.1, .int q45.2.2.1, .int q45.2.2.2.1, .int q45.2.2.2.2]))] (va_runV (As := [.int v1, .int f_now_ground_b, .int q36, .int q42]) (rest := []) ⟨hx, hb, hml, hown, htA⟩ (kX3_sortOf l G cy q_lowering H.size f_lowering_x f_lowering_y f_lowering_steps f_lowering_metLetter v1 f_now_ground_b q36 q42 n h45_33) (u_cwV htA a_ml_X8_244 pk_X3_sortOf ⟨Nat.le_of_ble_eq_true rfl, Nat.le_of_ble_eq_true rfl⟩) (u_preV hK hN hP hD [5] rfl (by decide) 5 rfl rfl) rfl rfl hl.1 rfl (lv_room (Nat.le_of_ble_eq_true rfl)) dX8_isAllSeenBy_45 ⟨Nat.zero_le _, Nat.zero_le _⟩) hP hD hS hA [5] rfl [0, 1, 2, 3, 4] 6 rfl rfl rfl (by decide) rfl (fun H locs hP hD hS => ?_)
      refine lv_aload_n hx hb dX8_isAllSeenBy_48 rfl (lv_at hl 2 rfl) ?_
      refine lv_iload_n hx hb dX8_isAllSeenBy_49 rfl (lv_at hl 3 rfl) ?_
      refine lv_iconst (v := 2) hx hb dX8_isAllSeenBy_50 (by decide) ?_
      obtain ⟨q51, h51_34, hf⟩ := bd_s hf
      refine u_calliR (va_runV (As := [.int v3, .int 2]) (rest := [.int q45.1]) ⟨hx, hb, hml, hown, htA⟩ (kX4_cell l G cy q_now_seen q_now_seen_cells H.size n_now_seen_cells f_now_seen_limit f_now_seen_used f_now_seen_cells v3 2 h51_34) (u_cwV htA a_ml_X8_114 pk_X4_cell ⟨Nat.le_of_ble_eq_true rfl, Nat.le_of_ble_eq_true rfl⟩) (u_preV hK hN hP hD [3, 4] rfl (by decide) 3 rfl rfl) rfl rfl hl.1 rfl (lv_room (Nat.le_of_ble_eq_true rfl)) dX8_isAllSeenBy_51 ⟨Nat.zero_le _, Nat.zero_le _⟩) hP hD hS hA [3, 4] rfl (fun H locs hP hS => ?_)
      refine lv_icmp_eq (tgt := 59) hx hb dX8_isAllSeenBy_54 (by decide) (fun c_35 => ?_) (fun c_35 => ?_)
      · have hf := ite_t c_35 hf
        refine lv_iinc (v := (v3 + 1)) (lv' := [(3, .int (v3 + 1)), (0, .ref q_this), (1, .int v1), (2, .ref q_now_seen)]) hx hb dX8_isAllSeenBy_59 hl (k := 3) rfl rfl (by decide) rfl (fun ls hl => ?_)
        refine lv_goto (tgt := 10) hx hb dX8_isAllSeenBy_62 (by decide) ?_
        exact ih10 _ _ _ _ _ _ _ _ _ hP hD hS (lv_sub hl [1, 2, 3, 0] rfl) hf
      · have hf := ite_f c_35 hf
        refine lv_iconst (v := 0) hx hb dX8_isAllSeenBy_57 (by decide) ?_
        have ho := Option.some.inj hf
        subst ho
        exact W.zret (v := 0) hx hb hr rfl (fun t ht hW => ⟨⟨_, (), rfl, rfl, by rw [ht]; exact hP, va_K.moved hW.alike hK, hD⟩, hS.F ht⟩) hS.2.2 dX8_isAllSeenBy_58
set_option maxRecDepth 100000 in
set_option maxHeartbeats 4000000 in
theorem kX8_isAllSeenBy (l : Launch) (G : va_G) (cy : Nat → ClassId) (q_this : Nat) (q_now : Nat) (q_saved : Nat) (q_trial : Nat) (q_lowering : Nat) (q_counts : Nat) (q_expansion : Nat) (q_setUp : Nat) (q_tapes : Nat) (q_now_ground : Nat) (q_now_notes : Nat) (q_now_seen : Nat) (q_now_events : Nat) (q_now_book : Nat) (q_now_seen_cells : Nat) (sz : Nat) (n_now_seen_cells : Nat) (f_imaged : Int32) (f_now_ground_a : Int32) (f_now_ground_b : Int32) (f_now_ground_x : Int32) (f_now_ground_y : Int32) (f_now_seen_limit : Int32) (f_now_seen_used : Int32) (f_now_seen_cells : Nat → Int32) (f_lowering_x : Int32) (f_lowering_y : Int32) (f_lowering_steps : Int32) (f_lowering_metLetter : Int32) (p1 : Int32) (n : Nat) {o : Int32 × Int32 × Int32 × Int32 × Int32} (hf : fX8_isAllSeenBy n p1 n_now_seen_cells f_now_ground_b f_now_seen_used f_now_seen_cells f_lowering_x f_lowering_y f_lowering_steps f_lowering_metLetter = some o) : Met l yX8_isAllSeenBy (Cond.code yX8_isAllSeenBy cX8_isAllSeenBy 4 (some .boolean) :: AW) ({ frames := 3, cells := 0, slots := 0, locals := 70 } : Room) (va_Pc [.ref q_this, .int p1] (Wp G cy [(q_this, .inr (8, [.ref q_now, .ref q_saved, .int f_imaged, .ref q_trial, .ref q_lowering, .ref q_counts, .ref q_expansion, .ref q_setUp, .ref q_tapes])), (q_now, .inr (6, [.ref q_now_ground, .ref q_now_notes, .ref q_now_seen, .ref q_now_events, .ref q_now_book])), (q_now_ground, .inr (2, [.int f_now_ground_a, .int f_now_ground_b, .int f_now_ground_x, .int f_now_ground_y])), (q_now_seen, .inr (4, [.int f_now_seen_limit, .ref q_now_seen_cells, .int f_now_seen_used])), (q_now_seen_cells, .inl (cy 0, n_now_seen_cells, .inl f_now_seen_cells)), (q_lowering, .inr (3, [.int f_lowering_x, .int f_lowering_y, .int f_lowering_steps, .int f_lowering_metLetter]))] sz)) (va_Qi (fun r (_ : Unit) => r = o.1) (fun _ => Wq G cy (va_A [(q_this, .inr (8, [.ref q_now, .ref q_saved, .int f_imaged, .ref q_trial, .ref q_lowering, .ref q_counts, .ref q_expansion, .ref q_setUp, .ref q_tapes])), (q_now, .inr (6, [.ref q_now_ground, .ref q_now_notes, .ref q_now_seen, .ref q_now_events, .ref q_now_book])), (q_now_ground, .inr (2, [.int f_now_ground_a, .int f_now_ground_b, .int f_now_ground_x, .int f_now_ground_y])), (q_now_seen, .inr (4, [.int f_now_seen_limit, .ref q_now_seen_cells, .int f_now_seen_used])), (q_now_seen_cells, .inl (cy 0, n_now_seen_cells, .inl f_now_seen_cells)), (q_lowering, .inr (3, [.int f_lowering_x, .int f_lowering_y, .int f_lowering_steps, .int f_lowering_metLetter]))] sz) [(q_this, .inr (8, [.ref q_now, .ref q_saved, .int f_imaged, .ref q_trial, .ref q_lowering, .ref q_counts, .ref q_expansion, .ref q_setUp, .ref q_tapes])), (q_now, .inr (6, [.ref q_now_ground, .ref q_now_notes, .ref q_now_seen, .ref q_now_events, .ref q_now_book])), (q_now_ground, .inr (2, [.int f_now_ground_a, .int f_now_ground_b, .int f_now_ground_x, .int f_now_ground_y])), (q_now_seen, .inr (4, [.int f_now_seen_limit, .ref q_now_seen_cells, .int f_now_seen_used])), (q_now_seen_cells, .inl (cy 0, n_now_seen_cells, .inl f_now_seen_cells)), (q_lowering, .inr (3, [.int o.2.1, .int o.2.2.1, .int o.2.2.2.1, .int o.2.2.2.2]))]) (va_A [(q_this, .inr (8, [.ref q_now, .ref q_saved, .int f_imaged, .ref q_trial, .ref q_lowering, .ref q_counts, .ref q_expansion, .ref q_setUp, .ref q_tapes])), (q_now, .inr (6, [.ref q_now_ground, .ref q_now_notes, .ref q_now_seen, .ref q_now_events, .ref q_now_book])), (q_now_ground, .inr (2, [.int f_now_ground_a, .int f_now_ground_b, .int f_now_ground_x, .int f_now_ground_y])), (q_now_seen, .inr (4, [.int f_now_seen_limit, .ref q_now_seen_cells, .int f_now_seen_used])), (q_now_seen_cells, .inl (cy 0, n_now_seen_cells, .inl f_now_seen_cells)), (q_lowering, .inr (3, [.int f_lowering_x, .int f_lowering_y, .int f_lowering_steps, .int f_lowering_metLetter]))] sz)) 0 0 (va_A [(q_this, .inr (8, [.ref q_now, .ref q_saved, .int f_imaged, .ref q_trial, .ref q_lowering, .ref q_counts, .ref q_expansion, .ref q_setUp, .ref q_tapes])), (q_now, .inr (6, [.ref q_now_ground, .ref q_now_notes, .ref q_now_seen, .ref q_now_events, .ref q_now_book])), (q_now_ground, .inr (2, [.int f_now_ground_a, .int f_now_ground_b, .int f_now_ground_x, .int f_now_ground_y])), (q_now_seen, .inr (4, [.int f_now_seen_limit, .ref q_now_seen_cells, .int f_now_seen_used])), (q_now_seen_cells, .inl (cy 0, n_now_seen_cells, .inl f_now_seen_cells)), (q_lowering, .inr (3, [.int f_lowering_x, .int f_lowering_y, .int f_lowering_steps, .int f_lowering_metLetter]))] sz) := by
  refine Met.ofW (cc := cX8_isAllSeenBy) (maxL := 4) (ret := (some .boolean)) (by decide) rfl ?_
  intro p e s m args below meth c s₁ B hml hv
  obtain ⟨rfl, hsz, hP, hK, hD0, hN⟩ := hv
  have hx := B.exec
  have hb := B.bytes
  have hr := B.returns
  have htA : ∀ w ∈ AW, w.before _ s = true := fun w h => atoms_spec (ws := Cond.code yX8_isAllSeenBy cX8_isAllSeenBy 4 (some .boolean) :: AW) B.pre w (List.mem_cons_of_mem _ h)
  have hown : s.vm.findClass RX8 = some m.cls := findClass_of_methodNamed B.named
  have hlocks := B.notSynchronized
  subst hsz
  have hD := hD0.self (sz := s.heap.size)
  generalize hAe : va_A [(q_this, .inr (8, [.ref q_now, .ref q_saved, .int f_imaged, .ref q_trial, .ref q_lowering, .ref q_counts, .ref q_expansion, .ref q_setUp, .ref q_tapes])), (q_now, .inr (6, [.ref q_now_ground, .ref q_now_notes, .ref q_now_seen, .ref q_now_events, .ref q_now_book])), (q_now_ground, .inr (2, [.int f_now_ground_a, .int f_now_ground_b, .int f_now_ground_x, .int f_now_ground_y])), (q_now_seen, .inr (4, [.int f_now_seen_limit, .ref q_now_seen_cells, .int f_now_seen_used])), (q_now_seen_cells, .inl (cy 0, n_now_seen_cells, .inl f_now_seen_cells)), (q_lowering, .inr (3, [.int f_lowering_x, .int f_lowering_y, .int f_lowering_steps, .int f_lowering_metLetter]))] s.heap.size = A at hD ⊢
  have hA : ∀ q : Nat, s.heap.size ≤ q → A q := fun q h => by rw [← hAe]; exact Or.inr h
  have hS : va_S A s.heap s.heap [] := va_S.rf
  have hl := lv_entry ([.ref q_this, .int p1]) (n := 4) (Nat.le_of_ble_eq_true rfl)
  rw [lg_entry_eq]
  generalize (lg_sl ([.ref q_this, .int p1]) ++ List.replicate (4 - (lg_sl ([.ref q_this, .int p1])).length) Slot.unset).toArray = ls at hl ⊢
  have hl : lv_has ls 4 [(0, .ref q_this), (1, .int p1)] := hl
  have hP : va_P G vwCl [(q_this, .inr (8, [.ref q_now, .ref q_saved, .int f_imaged, .ref q_trial, .ref q_lowering, .ref q_counts, .ref q_expansion, .ref q_setUp, .ref q_tapes])), (q_now, .inr (6, [.ref q_now_ground, .ref q_now_notes, .ref q_now_seen, .ref q_now_events, .ref q_now_book])), (q_now_ground, .inr (2, [.int f_now_ground_a, .int f_now_ground_b, .int f_now_ground_x, .int f_now_ground_y])), (q_now_seen, .inr (4, [.int f_now_seen_limit, .ref q_now_seen_cells, .int f_now_seen_used])), (q_now_seen_cells, .inl (cy 0, n_now_seen_cells, .inl f_now_seen_cells)), (q_lowering, .inr (3, [.int f_lowering_x, .int f_lowering_y, .int f_lowering_steps, .int f_lowering_metLetter]))] s.heap := hP
  have C0 : Cx p s m _ meth c cX8_isAllSeenBy 4 (some .boolean) RX8 G cy A := ⟨hx, hb, hr, hml, htA, hown, hK, hN, hA, hlocks⟩
  have hf : (lX8_isAllSeenBy_10 n n_now_seen_cells f_now_ground_b f_now_seen_used f_now_seen_cells n p1 0 f_lowering_x f_lowering_y f_lowering_steps f_lowering_metLetter : Option (Int32 × Int32 × Int32 × Int32 × Int32)) = some o := hf
  refine lv_aload_n hx hb dX8_isAllSeenBy_0 rfl (lv_at hl 0 rfl) ?_
  refine va_get (D := G) (ci := 8) (v := .ref q_now) (C := RX8) (T := TX8) (N := 9) hx hb htA lyX8 hown hK hP 0 rfl rfl 0 (by decide) (htA _ a_fl_X8_14) (fun _ h9 => h9) rfl dX8_isAllSeenBy_1 ?_
  refine va_getN (D := G) (ci := 6) (v := .ref q_now_seen) (C := RX6) (T := TX6) (N := 5) hx hb htA lyX6 hown hK hP 1 rfl rfl 2 (by decide) (u_link hN (List.mem_of_getElem? (i := 8) rfl)) (fun _ h9 => h9) rfl dX8_isAllSeenBy_4 ?_
  refine lv_astore_n (lv' := [(2, .ref q_now_seen), (0, .ref q_this), (1, .int p1)]) hx hb dX8_isAllSeenBy_7 rfl hl (by decide) rfl (fun ls hl => ?_)
  refine lv_iconst (v := 0) hx hb dX8_isAllSeenBy_8 (by decide) ?_
  refine lv_istore_n (lv' := [(3, .int 0), (2, .ref q_now_seen), (0, .ref q_this), (1, .int p1)]) hx hb dX8_isAllSeenBy_9 rfl hl (by decide) rfl (fun ls hl => ?_)
  exact wX8_isAllSeenBy_10 C0 n _ _ _ _ _ _ _ _ _ hP hD hS (lv_sub hl [2, 3, 1, 0] rfl) hf
set_option maxRecDepth 100000 in
set_option maxHeartbeats 4000000 in
theorem wX8_fits_4 {p : Program} {l : Launch} {e : Env} {s : State} {m : MethodId} {args : Array Value} {below : List Frame} {meth : Method} {c : Code} {G : va_G} {cy : Nat → ClassId} {A : Nat → Prop} {q_this : Nat} {q_now : Nat} {q_saved : Nat} {q_trial : Nat} {q_lowering : Nat} {q_counts : Nat} {q_expansion : Nat} {q_setUp : Nat} {q_tapes : Nat} {q_now_ground : Nat} {q_now_notes : Nat} {q_now_seen : Nat} {q_now_events : Nat} {q_now_book : Nat} {q_now_seen_cells : Nat} {n_now_seen_cells : Nat} {f_imaged : Int32} {f_now_ground_a : Int32} {f_now_ground_b : Int32} {f_now_ground_x : Int32} {f_now_ground_y : Int32} {f_now_seen_limit : Int32} {f_now_seen_used : Int32} {f_now_seen_cells : Nat → Int32} {n : Nat} {o : Int32 × Int32 × Int32 × Int32 × Int32} (C : Cx p s m args meth c cX8_fits 3 (some .int) RX8 G cy A) : ∀ k4 : Nat, ∀ (v1 : Int32) (v2 : Int32) (f_lowering_x : Int32) (f_lowering_y : Int32) (f_lowering_steps : Int32) (f_lowering_metLetter : Int32) (H : Heap) (locs : List Loc) (ls : Array Slot), va_P G vwCl [(q_this, .inr (8, [.ref q_now, .ref q_saved, .int f_imaged, .ref q_trial, .ref q_lowering, .ref q_counts, .ref q_expansion, .ref q_setUp, .ref q_tapes])), (q_now, .inr (6, [.ref q_now_ground, .ref q_now_notes, .ref q_now_seen, .ref q_now_events, .ref q_now_book])), (q_now_ground, .inr (2, [.int f_now_ground_a, .int f_now_ground_b, .int f_now_ground_x, .int f_now_ground_y])), (q_now_seen, .inr (4, [.int f_now_seen_limit, .ref q_now_seen_cells, .int f_now_seen_used])), (q_now_seen_cells, .inl (cy 0, n_now_seen_cells, .inl f_now_seen_cells)), (q_lowering, .inr (3, [.int f_lowering_x, .int f_lowering_y, .int f_lowering_steps, .int f_lowering_metLetter]))] H → va_D A [(q_this, .inr (8, [.ref q_now, .ref q_saved, .int f_imaged, .ref q_trial, .ref q_lowering, .ref q_counts, .ref q_expansion, .ref q_setUp, .ref q_tapes])), (q_now, .inr (6, [.ref q_now_ground, .ref q_now_notes, .ref q_now_seen, .ref q_now_events, .ref q_now_book])), (q_now_ground, .inr (2, [.int f_now_ground_a, .int f_now_ground_b, .int f_now_ground_x, .int f_now_ground_y])), (q_now_seen, .inr (4, [.int f_now_seen_limit, .ref q_now_seen_cells, .int f_now_seen_used])), (q_now_seen_cells, .inl (cy 0, n_now_seen_cells, .inl f_now_seen_cells)), (q_lowering, .inr (3, [.int f_lowering_x, .int f_lowering_y, .int f_lowering_steps, .int f_lowering_metLetter]))] → va_S A s.heap H locs → lv_has ls 3 [(0, .ref q_this), (1, .int v1), (2, .int v2)] → lX8_fits_4 n n_now_seen_cells f_now_ground_b f_now_seen_used f_now_seen_cells k4 v1 v2 f_lowering_x f_lowering_y f_lowering_steps f_lowering_metLetter = some o → W p l e (headSpec (Cond.code yX8_fits cX8_fits 3 (some .int) :: AW) ({ frames := 4, cells := 0, slots := 0, locals := 93 } : Room)).room s m args below meth c H locs 0 0 (MQ below (va_Qi (fun r (_ : Unit) => r = o.1) (fun _ => Wq G cy A [(q_this, .inr (8, [.ref q_now, .ref q_saved, .int f_imaged, .ref q_trial, .ref q_lowering, .ref q_counts, .ref q_expansion, .ref q_setUp, .ref q_tapes])), (q_now, .inr (6, [.ref q_now_ground, .ref q_now_notes, .ref q_now_seen, .ref q_now_events, .ref q_now_book])), (q_now_ground, .inr (2, [.int f_now_ground_a, .int f_now_ground_b, .int f_now_ground_x, .int f_now_ground_y])), (q_now_seen, .inr (4, [.int f_now_seen_limit, .ref q_now_seen_cells, .int f_now_seen_used])), (q_now_seen_cells, .inl (cy 0, n_now_seen_cells, .inl f_now_seen_cells)), (q_lowering, .inr (3, [.int o.2.1, .int o.2.2.1, .int o.2.2.2.1, .int o.2.2.2.2]))]) A) args s 0 0 A) (F0 m 4 ls []) := by
  have C0 := C
  obtain ⟨hx, hb, hr, hml, htA, hown, hK, hN, hA, hlocks⟩ := C
  intro k4
  induction k4 with
  | zero =>
    intro v1 v2 f_lowering_x f_lowering_y f_lowering_steps f_lowering_metLetter H locs ls hP hD hS hl hf
    exact no_s hf
  | succ k4 ih4 =>
    intro v1 v2 f_lowering_x f_lowering_y f_lowering_steps f_lowering_metLetter H locs ls hP hD hS hl hf
    have hf : ((if 6 < v2 then some (v1, f_lowering_x, f_lowering_y, f_lowering_steps, f_lowering_metLetter) else (fX8_isAllSeenBy n v2 n_now_seen_cells f_now_ground_b f_now_seen_used f_now_seen_cells f_lowering_x f_lowering_y f_lowering_steps f_lowering_metLetter).bind fun q12 => ((if q12.1 = 0 then lX8_fits_4 n n_now_seen_cells f_now_ground_b f_now_seen_used f_now_seen_cells k4 v1 (v2 + 1) q12.2.1 q12.2.2.1 q12.2.2.2.1 q12.2.2.2.2 else lX8_fits_4 n n_now_seen_cells f_now_ground_b f_now_seen_used f_now_seen_cells k4 (v1 ||| (1 <<< ((v2 - 1) &&& 31))) (v2 + 1) q12.2.1 q12.2.2.1 q12.2.2.2.1 q12.2.2.2.2))) : Option (Int32 × Int32 × Int32 × Int32 × Int32)) = some o := hf
    refine lv_iload_n hx hb dX8_fits_4 rfl (lv_at hl 2 rfl) ?_
    refine lv_bipush (v := 6) hx hb dX8_fits_5 (by decide) ?_
    refine lv_icmp_gt (tgt := 32) hx hb dX8_fits_7 (by decide) (fun c_13 => ?_) (fun c_13 => ?_)
    · have hf := ite_t c_13 hf
      refine lv_iload_n hx hb dX8_fits_32 rfl (lv_at hl 1 rfl) ?_
      have ho := Option.some.inj hf
      subst ho
      exact W.iret (v := v1) hx hb hr (fun t ht hW => ⟨⟨_, (), rfl, rfl, by rw [ht]; exact hP, va_K.moved hW.alike hK, hD⟩, hS.F ht⟩) hS.2.2 dX8_fits_33
    · have hf := ite_f c_13 hf
      refine lv_aload_n hx hb dX8_fits_10 rfl (lv_at hl 0 rfl) ?_
      refine lv_iload_n hx hb dX8_fits_11 rfl (lv_at hl 2 rfl) ?_
      obtain ⟨q12, h12_14, hf⟩ := bd_s hf
      refine u_calli [(q_this, .inr (8, [.ref q_now, .ref q_saved, .int f_imaged, .ref q_trial, .ref q_lowering, .ref q_counts, .ref q_expansion, .ref q_setUp, .ref q_tapes])), (q_now, .inr (6, [.ref q_now_ground, .ref q_now_notes, .ref q_now_seen, .ref q_now_events, .ref q_now_book])), (q_now_ground, .inr (2, [.int f_now_ground_a, .int f_now_ground_b, .int f_now_ground_x, .int f_now_ground_y])), (q_now_seen, .inr (4, [.int f_now_seen_limit, .ref q_now_seen_cells, .int f_now_seen_used])), (q_now_seen_cells, .inl (cy 0, n_now_seen_cells, .inl f_now_seen_cells)), (q_lowering, .inr (3, [.int q12.2.1, .int q12.2.2.1, .int q12.2.2.2.1, .int q12.2.2.2.2]))] (va_runV (As := [.int v2]) (rest := []) ⟨hx, hb, hml, hown, htA⟩ (kX8_isAllSeenBy l G cy q_this q_now q_saved q_trial q_lowering q_counts q_expansion q_setUp q_tapes q_now_ground q_now_notes q_now_seen q_now_events q_now_book q_now_seen_cells H.size n_now_seen_cells f_imaged f_now_ground_a f_now_ground_b f_now_ground_x f_now_ground_y f_now_seen_limit f_now_seen_used f_now_seen_cells f_lowering_x f_lowering_y f_lowering_steps f_lowering_metLetter v2 n h12_14) (u_cwV htA a_ml_X8_241 pk_X8_isAllSeenBy ⟨Nat.le_of_ble_eq_true rfl, Nat.le_of_ble_eq_true rfl⟩) (u_preV hK hN hP hD [0, 1, 2, 3, 4, 5] rfl (by decide) 0 rfl rfl) rfl rfl hl.1 rfl (lv_room (Nat.le_of_ble_eq_true rfl)) dX8_fits_12 ⟨Nat.zero_le _, Nat.zero_le _⟩) hP hD hS hA [0, 1, 2, 3, 4, 5] rfl [] 6 rfl rfl rfl (by decide) rfl (fun H locs hP hD hS => ?_)
      refine lv_if_eq (tgt := 26) hx hb dX8_fits_15 (by decide) (fun c_15 => ?_) (fun c_15 => ?_)
      · have hf := ite_t c_15 hf
        refine lv_iinc (v := (v2 + 1)) (lv' := [(2, .int (v2 + 1)), (0, .ref q_this), (1, .int v1)]) hx hb dX8_fits_26 hl (k := 2) rfl rfl (by decide) rfl (fun ls hl => ?_)
        refine lv_goto (tgt := 4) hx hb dX8_fits_29 (by decide) ?_
        exact ih4 _ _ _ _ _ _ _ _ _ hP hD hS (lv_sub hl [1, 2, 0] rfl) hf
      · have hf := ite_f c_15 hf
        refine lv_iload_n hx hb dX8_fits_18 rfl (lv_at hl 1 rfl) ?_
        refine lv_iconst (v := 1) hx hb dX8_fits_19 (by decide) ?_
        refine lv_iload_n hx hb dX8_fits_20 rfl (lv_at hl 2 rfl) ?_
        refine lv_iconst (v := 1) hx hb dX8_fits_21 (by decide) ?_
        refine lv_isub hx hb dX8_fits_22 ?_
        refine lv_ishl hx hb dX8_fits_23 ?_
        refine lv_ior hx hb dX8_fits_24 ?_
        refine lv_istore_n (lv' := [(1, .int (v1 ||| (1 <<< ((v2 - 1) &&& 31)))), (0, .ref q_this), (2, .int v2)]) hx hb dX8_fits_25 rfl hl (by decide) rfl (fun ls hl => ?_)
        refine lv_iinc (v := (v2 + 1)) (lv' := [(2, .int (v2 + 1)), (1, .int (v1 ||| (1 <<< ((v2 - 1) &&& 31)))), (0, .ref q_this)]) hx hb dX8_fits_26 hl (k := 2) rfl rfl (by decide) rfl (fun ls hl => ?_)
        refine lv_goto (tgt := 4) hx hb dX8_fits_29 (by decide) ?_
        exact ih4 _ _ _ _ _ _ _ _ _ hP hD hS (lv_sub hl [2, 1, 0] rfl) hf
set_option maxRecDepth 100000 in
set_option maxHeartbeats 4000000 in
theorem kX8_fits (l : Launch) (G : va_G) (cy : Nat → ClassId) (q_this : Nat) (q_now : Nat) (q_saved : Nat) (q_trial : Nat) (q_lowering : Nat) (q_counts : Nat) (q_expansion : Nat) (q_setUp : Nat) (q_tapes : Nat) (q_now_ground : Nat) (q_now_notes : Nat) (q_now_seen : Nat) (q_now_events : Nat) (q_now_book : Nat) (q_now_seen_cells : Nat) (sz : Nat) (n_now_seen_cells : Nat) (f_imaged : Int32) (f_now_ground_a : Int32) (f_now_ground_b : Int32) (f_now_ground_x : Int32) (f_now_ground_y : Int32) (f_now_seen_limit : Int32) (f_now_seen_used : Int32) (f_now_seen_cells : Nat → Int32) (f_lowering_x : Int32) (f_lowering_y : Int32) (f_lowering_steps : Int32) (f_lowering_metLetter : Int32) (n : Nat) {o : Int32 × Int32 × Int32 × Int32 × Int32} (hf : fX8_fits n n_now_seen_cells f_now_ground_b f_now_seen_used f_now_seen_cells f_lowering_x f_lowering_y f_lowering_steps f_lowering_metLetter = some o) : Met l yX8_fits (Cond.code yX8_fits cX8_fits 3 (some .int) :: AW) ({ frames := 4, cells := 0, slots := 0, locals := 93 } : Room) (va_Pc [.ref q_this] (Wp G cy [(q_this, .inr (8, [.ref q_now, .ref q_saved, .int f_imaged, .ref q_trial, .ref q_lowering, .ref q_counts, .ref q_expansion, .ref q_setUp, .ref q_tapes])), (q_now, .inr (6, [.ref q_now_ground, .ref q_now_notes, .ref q_now_seen, .ref q_now_events, .ref q_now_book])), (q_now_ground, .inr (2, [.int f_now_ground_a, .int f_now_ground_b, .int f_now_ground_x, .int f_now_ground_y])), (q_now_seen, .inr (4, [.int f_now_seen_limit, .ref q_now_seen_cells, .int f_now_seen_used])), (q_now_seen_cells, .inl (cy 0, n_now_seen_cells, .inl f_now_seen_cells)), (q_lowering, .inr (3, [.int f_lowering_x, .int f_lowering_y, .int f_lowering_steps, .int f_lowering_metLetter]))] sz)) (va_Qi (fun r (_ : Unit) => r = o.1) (fun _ => Wq G cy (va_A [(q_this, .inr (8, [.ref q_now, .ref q_saved, .int f_imaged, .ref q_trial, .ref q_lowering, .ref q_counts, .ref q_expansion, .ref q_setUp, .ref q_tapes])), (q_now, .inr (6, [.ref q_now_ground, .ref q_now_notes, .ref q_now_seen, .ref q_now_events, .ref q_now_book])), (q_now_ground, .inr (2, [.int f_now_ground_a, .int f_now_ground_b, .int f_now_ground_x, .int f_now_ground_y])), (q_now_seen, .inr (4, [.int f_now_seen_limit, .ref q_now_seen_cells, .int f_now_seen_used])), (q_now_seen_cells, .inl (cy 0, n_now_seen_cells, .inl f_now_seen_cells)), (q_lowering, .inr (3, [.int f_lowering_x, .int f_lowering_y, .int f_lowering_steps, .int f_lowering_metLetter]))] sz) [(q_this, .inr (8, [.ref q_now, .ref q_saved, .int f_imaged, .ref q_trial, .ref q_lowering, .ref q_counts, .ref q_expansion, .ref q_setUp, .ref q_tapes])), (q_now, .inr (6, [.ref q_now_ground, .ref q_now_notes, .ref q_now_seen, .ref q_now_events, .ref q_now_book])), (q_now_ground, .inr (2, [.int f_now_ground_a, .int f_now_ground_b, .int f_now_ground_x, .int f_now_ground_y])), (q_now_seen, .inr (4, [.int f_now_seen_limit, .ref q_now_seen_cells, .int f_now_seen_used])), (q_now_seen_cells, .inl (cy 0, n_now_seen_cells, .inl f_now_seen_cells)), (q_lowering, .inr (3, [.int o.2.1, .int o.2.2.1, .int o.2.2.2.1, .int o.2.2.2.2]))]) (va_A [(q_this, .inr (8, [.ref q_now, .ref q_saved, .int f_imaged, .ref q_trial, .ref q_lowering, .ref q_counts, .ref q_expansion, .ref q_setUp, .ref q_tapes])), (q_now, .inr (6, [.ref q_now_ground, .ref q_now_notes, .ref q_now_seen, .ref q_now_events, .ref q_now_book])), (q_now_ground, .inr (2, [.int f_now_ground_a, .int f_now_ground_b, .int f_now_ground_x, .int f_now_ground_y])), (q_now_seen, .inr (4, [.int f_now_seen_limit, .ref q_now_seen_cells, .int f_now_seen_used])), (q_now_seen_cells, .inl (cy 0, n_now_seen_cells, .inl f_now_seen_cells)), (q_lowering, .inr (3, [.int f_lowering_x, .int f_lowering_y, .int f_lowering_steps, .int f_lowering_metLetter]))] sz)) 0 0 (va_A [(q_this, .inr (8, [.ref q_now, .ref q_saved, .int f_imaged, .ref q_trial, .ref q_lowering, .ref q_counts, .ref q_expansion, .ref q_setUp, .ref q_tapes])), (q_now, .inr (6, [.ref q_now_ground, .ref q_now_notes, .ref q_now_seen, .ref q_now_events, .ref q_now_book])), (q_now_ground, .inr (2, [.int f_now_ground_a, .int f_now_ground_b, .int f_now_ground_x, .int f_now_ground_y])), (q_now_seen, .inr (4, [.int f_now_seen_limit, .ref q_now_seen_cells, .int f_now_seen_used])), (q_now_seen_cells, .inl (cy 0, n_now_seen_cells, .inl f_now_seen_cells)), (q_lowering, .inr (3, [.int f_lowering_x, .int f_lowering_y, .int f_lowering_steps, .int f_lowering_metLetter]))] sz) := by
  refine Met.ofW (cc := cX8_fits) (maxL := 3) (ret := (some .int)) (by decide) rfl ?_
  intro p e s m args below meth c s₁ B hml hv
  obtain ⟨rfl, hsz, hP, hK, hD0, hN⟩ := hv
  have hx := B.exec
  have hb := B.bytes
  have hr := B.returns
  have htA : ∀ w ∈ AW, w.before _ s = true := fun w h => atoms_spec (ws := Cond.code yX8_fits cX8_fits 3 (some .int) :: AW) B.pre w (List.mem_cons_of_mem _ h)
  have hown : s.vm.findClass RX8 = some m.cls := findClass_of_methodNamed B.named
  have hlocks := B.notSynchronized
  subst hsz
  have hD := hD0.self (sz := s.heap.size)
  generalize hAe : va_A [(q_this, .inr (8, [.ref q_now, .ref q_saved, .int f_imaged, .ref q_trial, .ref q_lowering, .ref q_counts, .ref q_expansion, .ref q_setUp, .ref q_tapes])), (q_now, .inr (6, [.ref q_now_ground, .ref q_now_notes, .ref q_now_seen, .ref q_now_events, .ref q_now_book])), (q_now_ground, .inr (2, [.int f_now_ground_a, .int f_now_ground_b, .int f_now_ground_x, .int f_now_ground_y])), (q_now_seen, .inr (4, [.int f_now_seen_limit, .ref q_now_seen_cells, .int f_now_seen_used])), (q_now_seen_cells, .inl (cy 0, n_now_seen_cells, .inl f_now_seen_cells)), (q_lowering, .inr (3, [.int f_lowering_x, .int f_lowering_y, .int f_lowering_steps, .int f_lowering_metLetter]))] s.heap.size = A at hD ⊢
  have hA : ∀ q : Nat, s.heap.size ≤ q → A q := fun q h => by rw [← hAe]; exact Or.inr h
  have hS : va_S A s.heap s.heap [] := va_S.rf
  have hl := lv_entry ([.ref q_this]) (n := 3) (Nat.le_of_ble_eq_true rfl)
  rw [lg_entry_eq]
  generalize (lg_sl ([.ref q_this]) ++ List.replicate (3 - (lg_sl ([.ref q_this])).length) Slot.unset).toArray = ls at hl ⊢
  have hl : lv_has ls 3 [(0, .ref q_this)] := hl
  have hP : va_P G vwCl [(q_this, .inr (8, [.ref q_now, .ref q_saved, .int f_imaged, .ref q_trial, .ref q_lowering, .ref q_counts, .ref q_expansion, .ref q_setUp, .ref q_tapes])), (q_now, .inr (6, [.ref q_now_ground, .ref q_now_notes, .ref q_now_seen, .ref q_now_events, .ref q_now_book])), (q_now_ground, .inr (2, [.int f_now_ground_a, .int f_now_ground_b, .int f_now_ground_x, .int f_now_ground_y])), (q_now_seen, .inr (4, [.int f_now_seen_limit, .ref q_now_seen_cells, .int f_now_seen_used])), (q_now_seen_cells, .inl (cy 0, n_now_seen_cells, .inl f_now_seen_cells)), (q_lowering, .inr (3, [.int f_lowering_x, .int f_lowering_y, .int f_lowering_steps, .int f_lowering_metLetter]))] s.heap := hP
  have C0 : Cx p s m _ meth c cX8_fits 3 (some .int) RX8 G cy A := ⟨hx, hb, hr, hml, htA, hown, hK, hN, hA, hlocks⟩
  have hf : (lX8_fits_4 n n_now_seen_cells f_now_ground_b f_now_seen_used f_now_seen_cells n 0 1 f_lowering_x f_lowering_y f_lowering_steps f_lowering_metLetter : Option (Int32 × Int32 × Int32 × Int32 × Int32)) = some o := hf
  refine lv_iconst (v := 0) hx hb dX8_fits_0 (by decide) ?_
  refine lv_istore_n (lv' := [(1, .int 0), (0, .ref q_this)]) hx hb dX8_fits_1 rfl hl (by decide) rfl (fun ls hl => ?_)
  refine lv_iconst (v := 1) hx hb dX8_fits_2 (by decide) ?_
  refine lv_istore_n (lv' := [(2, .int 1), (1, .int 0), (0, .ref q_this)]) hx hb dX8_fits_3 rfl hl (by decide) rfl (fun ls hl => ?_)
  exact wX8_fits_4 C0 n _ _ _ _ _ _ _ _ _ hP hD hS (lv_sub hl [2, 1, 0] rfl) hf
set_option maxRecDepth 100000 in
set_option maxHeartbeats 4000000 in
theorem kX8_odds (l : Launch) (G : va_G) (cy : Nat → ClassId) (q_this : Nat) (q_now : Nat) (q_saved : Nat) (q_trial : Nat) (q_lowering : Nat) (q_counts : Nat) (q_expansion : Nat) (q_setUp : Nat) (q_tapes : Nat) (q_now_ground : Nat) (q_now_notes : Nat) (q_now_seen : Nat) (q_now_events : Nat) (q_now_book : Nat) (q_counts_sorts : Nat) (q_counts_counts : Nat) (q_counts_shares : Nat) (sz : Nat) (f_imaged : Int32) (f_now_ground_a : Int32) (f_now_ground_b : Int32) (f_now_ground_x : Int32) (f_now_ground_y : Int32) (f_lowering_x : Int32) (f_lowering_y : Int32) (f_lowering_steps : Int32) (f_lowering_metLetter : Int32) (f_counts_a : Int32) (f_counts_b : Int32) (f_counts_sorts : Nat → Int32) (f_counts_counts : Nat → Int32) (f_counts_shares : Nat → Int64) (p1 : Int32) (p2 : Int32) (n : Nat) {o : Int64 × Int32 × Int32 × Int32 × Int32 × Int32 × Int32 × (Nat → Int32) × (Nat → Int32) × (Nat → Int64)} (hf : fX8_odds n p1 p2 f_now_ground_a f_now_ground_b f_lowering_x f_lowering_y f_lowering_steps f_lowering_metLetter f_counts_a f_counts_b f_counts_sorts f_counts_counts f_counts_shares = some o) : Met l yX8_odds (Cond.code yX8_odds cX8_odds 3 (some .long) :: AW) ({ frames := 6, cells := 0, slots := 0, locals := 140 } : Room) (va_Pc [.ref q_this, .int p1, .int p2] (Wp G cy [(q_this, .inr (8, [.ref q_now, .ref q_saved, .int f_imaged, .ref q_trial, .ref q_lowering, .ref q_counts, .ref q_expansion, .ref q_setUp, .ref q_tapes])), (q_now, .inr (6, [.ref q_now_ground, .ref q_now_notes, .ref q_now_seen, .ref q_now_events, .ref q_now_book])), (q_now_ground, .inr (2, [.int f_now_ground_a, .int f_now_ground_b, .int f_now_ground_x, .int f_now_ground_y])), (q_lowering, .inr (3, [.int f_lowering_x, .int f_lowering_y, .int f_lowering_steps, .int f_lowering_metLetter])), (q_counts, .inr (0, [.ref q_lowering, .ref q_counts_sorts, .ref q_counts_counts, .ref q_counts_shares, .int f_counts_a, .int f_counts_b])), (q_counts_sorts, .inl (cy 0, 169, .inl f_counts_sorts)), (q_counts_counts, .inl (cy 0, 169, .inl f_counts_counts)), (q_counts_shares, .inl (cy 1, 169, .inr (.inl f_counts_shares)))] sz)) (va_Ql (fun r (_ : Unit) => r = o.1) (fun _ => Wq G cy (va_A [(q_this, .inr (8, [.ref q_now, .ref q_saved, .int f_imaged, .ref q_trial, .ref q_lowering, .ref q_counts, .ref q_expansion, .ref q_setUp, .ref q_tapes])), (q_now, .inr (6, [.ref q_now_ground, .ref q_now_notes, .ref q_now_seen, .ref q_now_events, .ref q_now_book])), (q_now_ground, .inr (2, [.int f_now_ground_a, .int f_now_ground_b, .int f_now_ground_x, .int f_now_ground_y])), (q_lowering, .inr (3, [.int f_lowering_x, .int f_lowering_y, .int f_lowering_steps, .int f_lowering_metLetter])), (q_counts, .inr (0, [.ref q_lowering, .ref q_counts_sorts, .ref q_counts_counts, .ref q_counts_shares, .int f_counts_a, .int f_counts_b])), (q_counts_sorts, .inl (cy 0, 169, .inl f_counts_sorts)), (q_counts_counts, .inl (cy 0, 169, .inl f_counts_counts)), (q_counts_shares, .inl (cy 1, 169, .inr (.inl f_counts_shares)))] sz) [(q_this, .inr (8, [.ref q_now, .ref q_saved, .int f_imaged, .ref q_trial, .ref q_lowering, .ref q_counts, .ref q_expansion, .ref q_setUp, .ref q_tapes])), (q_now, .inr (6, [.ref q_now_ground, .ref q_now_notes, .ref q_now_seen, .ref q_now_events, .ref q_now_book])), (q_now_ground, .inr (2, [.int f_now_ground_a, .int f_now_ground_b, .int f_now_ground_x, .int f_now_ground_y])), (q_lowering, .inr (3, [.int o.2.1, .int o.2.2.1, .int o.2.2.2.1, .int o.2.2.2.2.1])), (q_counts, .inr (0, [.ref q_lowering, .ref q_counts_sorts, .ref q_counts_counts, .ref q_counts_shares, .int o.2.2.2.2.2.1, .int o.2.2.2.2.2.2.1])), (q_counts_sorts, .inl (cy 0, 169, .inl o.2.2.2.2.2.2.2.1)), (q_counts_counts, .inl (cy 0, 169, .inl o.2.2.2.2.2.2.2.2.1)), (q_counts_shares, .inl (cy 1, 169, .inr (.inl o.2.2.2.2.2.2.2.2.2)))]) (va_A [(q_this, .inr (8, [.ref q_now, .ref q_saved, .int f_imaged, .ref q_trial, .ref q_lowering, .ref q_counts, .ref q_expansion, .ref q_setUp, .ref q_tapes])), (q_now, .inr (6, [.ref q_now_ground, .ref q_now_notes, .ref q_now_seen, .ref q_now_events, .ref q_now_book])), (q_now_ground, .inr (2, [.int f_now_ground_a, .int f_now_ground_b, .int f_now_ground_x, .int f_now_ground_y])), (q_lowering, .inr (3, [.int f_lowering_x, .int f_lowering_y, .int f_lowering_steps, .int f_lowering_metLetter])), (q_counts, .inr (0, [.ref q_lowering, .ref q_counts_sorts, .ref q_counts_counts, .ref q_counts_shares, .int f_counts_a, .int f_counts_b])), (q_counts_sorts, .inl (cy 0, 169, .inl f_counts_sorts)), (q_counts_counts, .inl (cy 0, 169, .inl f_counts_counts)), (q_counts_shares, .inl (cy 1, 169, .inr (.inl f_counts_shares)))] sz)) 0 0 (va_A [(q_this, .inr (8, [.ref q_now, .ref q_saved, .int f_imaged, .ref q_trial, .ref q_lowering, .ref q_counts, .ref q_expansion, .ref q_setUp, .ref q_tapes])), (q_now, .inr (6, [.ref q_now_ground, .ref q_now_notes, .ref q_now_seen, .ref q_now_events, .ref q_now_book])), (q_now_ground, .inr (2, [.int f_now_ground_a, .int f_now_ground_b, .int f_now_ground_x, .int f_now_ground_y])), (q_lowering, .inr (3, [.int f_lowering_x, .int f_lowering_y, .int f_lowering_steps, .int f_lowering_metLetter])), (q_counts, .inr (0, [.ref q_lowering, .ref q_counts_sorts, .ref q_counts_counts, .ref q_counts_shares, .int f_counts_a, .int f_counts_b])), (q_counts_sorts, .inl (cy 0, 169, .inl f_counts_sorts)), (q_counts_counts, .inl (cy 0, 169, .inl f_counts_counts)), (q_counts_shares, .inl (cy 1, 169, .inr (.inl f_counts_shares)))] sz) := by
  refine Met.ofW (cc := cX8_odds) (maxL := 3) (ret := (some .long)) (by decide) rfl ?_
  intro p e s m args below meth c s₁ B hml hv
  obtain ⟨rfl, hsz, hP, hK, hD0, hN⟩ := hv
  have hx := B.exec
  have hb := B.bytes
  have hr := B.returns
  have htA : ∀ w ∈ AW, w.before _ s = true := fun w h => atoms_spec (ws := Cond.code yX8_odds cX8_odds 3 (some .long) :: AW) B.pre w (List.mem_cons_of_mem _ h)
  have hown : s.vm.findClass RX8 = some m.cls := findClass_of_methodNamed B.named
  have hlocks := B.notSynchronized
  subst hsz
  have hD := hD0.self (sz := s.heap.size)
  generalize hAe : va_A [(q_this, .inr (8, [.ref q_now, .ref q_saved, .int f_imaged, .ref q_trial, .ref q_lowering, .ref q_counts, .ref q_expansion, .ref q_setUp, .ref q_tapes])), (q_now, .inr (6, [.ref q_now_ground, .ref q_now_notes, .ref q_now_seen, .ref q_now_events, .ref q_now_book])), (q_now_ground, .inr (2, [.int f_now_ground_a, .int f_now_ground_b, .int f_now_ground_x, .int f_now_ground_y])), (q_lowering, .inr (3, [.int f_lowering_x, .int f_lowering_y, .int f_lowering_steps, .int f_lowering_metLetter])), (q_counts, .inr (0, [.ref q_lowering, .ref q_counts_sorts, .ref q_counts_counts, .ref q_counts_shares, .int f_counts_a, .int f_counts_b])), (q_counts_sorts, .inl (cy 0, 169, .inl f_counts_sorts)), (q_counts_counts, .inl (cy 0, 169, .inl f_counts_counts)), (q_counts_shares, .inl (cy 1, 169, .inr (.inl f_counts_shares)))] s.heap.size = A at hD ⊢
  have hA : ∀ q : Nat, s.heap.size ≤ q → A q := fun q h => by rw [← hAe]; exact Or.inr h
  have hS : va_S A s.heap s.heap [] := va_S.rf
  have hl := lv_entry ([.ref q_this, .int p1, .int p2]) (n := 3) (Nat.le_of_ble_eq_true rfl)
  rw [lg_entry_eq]
  generalize (lg_sl ([.ref q_this, .int p1, .int p2]) ++ List.replicate (3 - (lg_sl ([.ref q_this, .int p1, .int p2])).length) Slot.unset).toArray = ls at hl ⊢
  have hl : lv_has ls 3 [(0, .ref q_this), (1, .int p1), (2, .int p2)] := hl
  have hP : va_P G vwCl [(q_this, .inr (8, [.ref q_now, .ref q_saved, .int f_imaged, .ref q_trial, .ref q_lowering, .ref q_counts, .ref q_expansion, .ref q_setUp, .ref q_tapes])), (q_now, .inr (6, [.ref q_now_ground, .ref q_now_notes, .ref q_now_seen, .ref q_now_events, .ref q_now_book])), (q_now_ground, .inr (2, [.int f_now_ground_a, .int f_now_ground_b, .int f_now_ground_x, .int f_now_ground_y])), (q_lowering, .inr (3, [.int f_lowering_x, .int f_lowering_y, .int f_lowering_steps, .int f_lowering_metLetter])), (q_counts, .inr (0, [.ref q_lowering, .ref q_counts_sorts, .ref q_counts_counts, .ref q_counts_shares, .int f_counts_a, .int f_counts_b])), (q_counts_sorts, .inl (cy 0, 169, .inl f_counts_sorts)), (q_counts_counts, .inl (cy 0, 169, .inl f_counts_counts)), (q_counts_shares, .inl (cy 1, 169, .inr (.inl f_counts_shares)))] s.heap := hP
  have hf : ((fX8_isIn p1 1 12).bind fun q4 => ((if q4 = 0 then some ((-9223372036854775808), f_lowering_x, f_lowering_y, f_lowering_steps, f_lowering_metLetter, f_counts_a, f_counts_b, f_counts_sorts, f_counts_counts, f_counts_shares) else (fX8_isIn p2 0 1).bind fun q13 => ((if q13 = 0 then some ((-9223372036854775808), f_lowering_x, f_lowering_y, f_lowering_steps, f_lowering_metLetter, f_counts_a, f_counts_b, f_counts_sorts, f_counts_counts, f_counts_shares) else (fX0_fillFor n f_now_ground_a f_now_ground_b f_counts_a f_counts_b f_lowering_x f_lowering_y f_lowering_steps f_lowering_metLetter f_counts_sorts f_counts_counts f_counts_shares).bind fun q47 => ((fX0_rootsOfHeight n p1 q47.2.2.2.2.2.2.1).bind fun q55 => ((fX8_partOf n (Int32.toInt64 q55) (Int32.toInt64 (p1 + 1)) p2).bind fun q64 => (some (q64, q47.2.2.1, q47.2.2.2.1, q47.2.2.2.2.1, q47.2.2.2.2.2.1, q47.1, q47.2.1, q47.2.2.2.2.2.2.1, q47.2.2.2.2.2.2.2.1, q47.2.2.2.2.2.2.2.2)))))))) : Option (Int64 × Int32 × Int32 × Int32 × Int32 × Int32 × Int32 × (Nat → Int32) × (Nat → Int32) × (Nat → Int64))) = some o := hf
  refine lv_iload_n hx hb dX8_odds_0 rfl (lv_at hl 1 rfl) ?_
  refine lv_iconst (v := 1) hx hb dX8_odds_1 (by decide) ?_
  refine lv_bipush (v := 12) hx hb dX8_odds_2 (by decide) ?_
  obtain ⟨q4, h4_29, hf⟩ := bd_s hf
  refine u_calliR (va_runS (As := [.int p1, .int 1, .int 12]) (rest := []) ⟨hx, hb, hml, hown, htA⟩ (kX8_isIn l G cy s.heap.size p1 1 12 h4_29) (u_cwS htA a_ml_X8_69 pk_X8_isIn ⟨Nat.le_of_ble_eq_true rfl, Nat.le_of_ble_eq_true rfl⟩) (u_preS hK hN hP hD [] rfl (by decide)) rfl rfl hl.1 rfl (lv_room (Nat.le_of_ble_eq_true rfl)) dX8_odds_4 ⟨Nat.zero_le _, Nat.zero_le _⟩) hP hD hS hA [] rfl (fun H locs hP hS => ?_)
  refine lv_if_eq (tgt := 19) hx hb dX8_odds_7 (by decide) (fun c_30 => ?_) (fun c_30 => ?_)
  · have hf := ite_t c_30 hf
    refine lv_ldc2 (v := (-9223372036854775808)) hx hb hown (htA _ a_cl_X8_170) dX8_odds_19 ?_
    have ho := Option.some.inj hf
    subst ho
    exact W.lret (v := (-9223372036854775808)) hx hb hr (fun t ht hW => ⟨⟨_, (), rfl, rfl, by rw [ht]; exact hP, va_K.moved hW.alike hK, hD⟩, hS.F ht⟩) hS.2.2 dX8_odds_22
  · have hf := ite_f c_30 hf
    refine lv_iload_n hx hb dX8_odds_10 rfl (lv_at hl 2 rfl) ?_
    refine lv_iconst (v := 0) hx hb dX8_odds_11 (by decide) ?_
    refine lv_iconst (v := 1) hx hb dX8_odds_12 (by decide) ?_
    obtain ⟨q13, h13_31, hf⟩ := bd_s hf
    refine u_calliR (va_runS (As := [.int p2, .int 0, .int 1]) (rest := []) ⟨hx, hb, hml, hown, htA⟩ (kX8_isIn l G cy H.size p2 0 1 h13_31) (u_cwS htA a_ml_X8_69 pk_X8_isIn ⟨Nat.le_of_ble_eq_true rfl, Nat.le_of_ble_eq_true rfl⟩) (u_preS hK hN hP hD [] rfl (by decide)) rfl rfl hl.1 rfl (lv_room (Nat.le_of_ble_eq_true rfl)) dX8_odds_13 ⟨Nat.zero_le _, Nat.zero_le _⟩) hP hD hS hA [] rfl (fun H locs hP hS => ?_)
    refine lv_if_ne (tgt := 23) hx hb dX8_odds_16 (by decide) (fun c_32 => ?_) (fun c_32 => ?_)
    · have hf := ite_f c_32 hf
      refine lv_aload_n hx hb dX8_odds_23 rfl (lv_at hl 0 rfl) ?_
      refine va_get (D := G) (ci := 8) (v := .ref q_counts) (C := RX8) (T := TX8) (N := 9) hx hb htA lyX8 hown hK hP 0 rfl rfl 5 (by decide) (htA _ a_fl_X8_44) (fun _ h9 => h9) rfl dX8_odds_24 ?_
      refine lv_aload_n hx hb dX8_odds_27 rfl (lv_at hl 0 rfl) ?_
      refine va_get (D := G) (ci := 8) (v := .ref q_now) (C := RX8) (T := TX8) (N := 9) hx hb htA lyX8 hown hK hP 0 rfl rfl 0 (by decide) (htA _ a_fl_X8_14) (fun _ h9 => h9) rfl dX8_odds_28 ?_
      refine va_getN (D := G) (ci := 6) (v := .ref q_now_ground) (C := RX6) (T := TX6) (N := 5) hx hb htA lyX6 hown hK hP 1 rfl rfl 0 (by decide) (u_link hN (List.mem_of_getElem? (i := 6) rfl)) (fun _ h9 => h9) rfl dX8_odds_31 ?_
      refine va_getN (D := G) (ci := 2) (v := .int f_now_ground_a) (C := RX2) (T := TX2) (N := 4) hx hb htA lyX2 hown hK hP 2 rfl rfl 0 (by decide) (u_link hN (List.mem_of_getElem? (i := 2) rfl)) (fun _ h9 => h9) rfl dX8_odds_34 ?_
      refine lv_aload_n hx hb dX8_odds_37 rfl (lv_at hl 0 rfl) ?_
      refine va_get (D := G) (ci := 8) (v := .ref q_now) (C := RX8) (T := TX8) (N := 9) hx hb htA lyX8 hown hK hP 0 rfl rfl 0 (by decide) (htA _ a_fl_X8_14) (fun _ h9 => h9) rfl dX8_odds_38 ?_
      refine va_getN (D := G) (ci := 6) (v := .ref q_now_ground) (C := RX6) (T := TX6) (N := 5) hx hb htA lyX6 hown hK hP 1 rfl rfl 0 (by decide) (u_link hN (List.mem_of_getElem? (i := 6) rfl)) (fun _ h9 => h9) rfl dX8_odds_41 ?_
      refine va_getN (D := G) (ci := 2) (v := .int f_now_ground_b) (C := RX2) (T := TX2) (N := 4) hx hb htA lyX2 hown hK hP 2 rfl rfl 1 (by decide) (u_link hN (List.mem_of_getElem? (i := 3) rfl)) (fun _ h9 => h9) rfl dX8_odds_44 ?_
      obtain ⟨q47, h47_33, hf⟩ := bd_s hf
      refine u_callv [(q_this, .inr (8, [.ref q_now, .ref q_saved, .int f_imaged, .ref q_trial, .ref q_lowering, .ref q_counts, .ref q_expansion, .ref q_setUp, .ref q_tapes])), (q_now, .inr (6, [.ref q_now_ground, .ref q_now_notes, .ref q_now_seen, .ref q_now_events, .ref q_now_book])), (q_now_ground, .inr (2, [.int f_now_ground_a, .int f_now_ground_b, .int f_now_ground_x, .int f_now_ground_y])), (q_lowering, .inr (3, [.int q47.2.2.1, .int q47.2.2.2.1, .int q47.2.2.2.2.1, .int q47.2.2.2.2.2.1])), (q_counts, .inr (0, [.ref q_lowering, .ref q_counts_sorts, .ref q_counts_counts, .ref q_counts_shares, .int q47.1, .int q47.2.1])), (q_counts_sorts, .inl (cy 0, 169, .inl q47.2.2.2.2.2.2.1)), (q_counts_counts, .inl (cy 0, 169, .inl q47.2.2.2.2.2.2.2.1)), (q_counts_shares, .inl (cy 1, 169, .inr (.inl q47.2.2.2.2.2.2.2.2)))] (va_runV (As := [.int f_now_ground_a, .int f_now_ground_b]) (rest := []) ⟨hx, hb, hml, hown, htA⟩ (kX0_fillFor l G cy q_counts q_lowering q_counts_sorts q_counts_counts q_counts_shares H.size f_counts_a f_counts_b f_lowering_x f_lowering_y f_lowering_steps f_lowering_metLetter f_counts_sorts f_counts_counts f_counts_shares f_now_ground_a f_now_ground_b n h47_33) (u_cwV htA a_ml_X8_202 pk_X0_fillFor ⟨Nat.le_of_ble_eq_true rfl, Nat.le_of_ble_eq_true rfl⟩) (u_preV hK hN hP hD [4, 3, 5, 6, 7] rfl (by decide) 4 rfl rfl) rfl rfl hl.1 rfl (lv_room (Nat.le_of_ble_eq_true rfl)) dX8_odds_47 ⟨Nat.zero_le _, Nat.zero_le _⟩) hP hD hS hA [4, 3, 5, 6, 7] rfl [0, 1, 2] 8 rfl rfl rfl (by decide) rfl (fun H locs hP hD hS => ?_)
      refine lv_aload_n hx hb dX8_odds_50 rfl (lv_at hl 0 rfl) ?_
      refine va_get (D := G) (ci := 8) (v := .ref q_counts) (C := RX8) (T := TX8) (N := 9) hx hb htA lyX8 hown hK hP 0 rfl rfl 5 (by decide) (htA _ a_fl_X8_44) (fun _ h9 => h9) rfl dX8_odds_51 ?_
      refine lv_iload_n hx hb dX8_odds_54 rfl (lv_at hl 1 rfl) ?_
      obtain ⟨q55, h55_34, hf⟩ := bd_s hf
      refine u_calliR (va_runV (As := [.int p1]) (rest := []) ⟨hx, hb, hml, hown, htA⟩ (kX0_rootsOfHeight l G cy q_counts q_lowering q_counts_sorts q_counts_counts q_counts_shares H.size q47.1 q47.2.1 q47.2.2.2.2.2.2.1 p1 n h55_34) (u_cwV htA a_ml_X8_219 pk_X0_rootsOfHeight ⟨Nat.le_of_ble_eq_true rfl, Nat.le_of_ble_eq_true rfl⟩) (u_preV hK hN hP hD [4, 5] rfl (by decide) 4 rfl rfl) rfl rfl hl.1 rfl (lv_room (Nat.le_of_ble_eq_true rfl)) dX8_odds_55 ⟨Nat.zero_le _, Nat.zero_le _⟩) hP hD hS hA [4, 5] rfl (fun H locs hP hS => ?_)
      refine lv_i2l hx hb dX8_odds_58 rfl ?_
      refine lv_iload_n hx hb dX8_odds_59 rfl (lv_at hl 1 rfl) ?_
      refine lv_iconst (v := 1) hx hb dX8_odds_60 (by decide) ?_
      refine lv_iadd hx hb dX8_odds_61 ?_
      refine lv_i2l hx hb dX8_odds_62 rfl ?_
      refine lv_iload_n hx hb dX8_odds_63 rfl (lv_at hl 2 rfl) ?_
      obtain ⟨q64, h64_35, hf⟩ := bd_s hf
      refine u_calllR (va_runS (As := [.long (Int32.toInt64 q55), .long (Int32.toInt64 (p1 + 1)), .int p2]) (rest := []) ⟨hx, hb, hml, hown, htA⟩ (kX8_partOf l G cy H.size (Int32.toInt64 q55) (Int32.toInt64 (p1 + 1)) p2 n h64_35) (u_cwS htA a_ml_X8_215 pk_X8_partOf ⟨Nat.le_of_ble_eq_true rfl, Nat.le_of_ble_eq_true rfl⟩) (u_preS hK hN hP hD [] rfl (by decide)) rfl rfl hl.1 rfl (lv_room (Nat.le_of_ble_eq_true rfl)) dX8_odds_64 ⟨Nat.zero_le _, Nat.zero_le _⟩) hP hD hS hA [] rfl (fun H locs hP hS => ?_)
      have ho := Option.some.inj hf
      subst ho
      exact W.lret (v := q64) hx hb hr (fun t ht hW => ⟨⟨_, (), rfl, rfl, by rw [ht]; exact hP, va_K.moved hW.alike hK, hD⟩, hS.F ht⟩) hS.2.2 dX8_odds_67
    · have hf := ite_t c_32 hf
      refine lv_ldc2 (v := (-9223372036854775808)) hx hb hown (htA _ a_cl_X8_170) dX8_odds_19 ?_
      have ho := Option.some.inj hf
      subst ho
      exact W.lret (v := (-9223372036854775808)) hx hb hr (fun t ht hW => ⟨⟨_, (), rfl, rfl, by rw [ht]; exact hP, va_K.moved hW.alike hK, hD⟩, hS.F ht⟩) hS.2.2 dX8_odds_22
set_option maxRecDepth 100000 in
set_option maxHeartbeats 4000000 in
theorem kX8_mean (l : Launch) (G : va_G) (cy : Nat → ClassId) (q_this : Nat) (q_now : Nat) (q_saved : Nat) (q_trial : Nat) (q_lowering : Nat) (q_counts : Nat) (q_expansion : Nat) (q_setUp : Nat) (q_tapes : Nat) (q_now_ground : Nat) (q_now_notes : Nat) (q_now_seen : Nat) (q_now_events : Nat) (q_now_book : Nat) (q_counts_sorts : Nat) (q_counts_counts : Nat) (q_counts_shares : Nat) (sz : Nat) (f_imaged : Int32) (f_now_ground_a : Int32) (f_now_ground_b : Int32) (f_now_ground_x : Int32) (f_now_ground_y : Int32) (f_lowering_x : Int32) (f_lowering_y : Int32) (f_lowering_steps : Int32) (f_lowering_metLetter : Int32) (f_counts_a : Int32) (f_counts_b : Int32) (f_counts_sorts : Nat → Int32) (f_counts_counts : Nat → Int32) (f_counts_shares : Nat → Int64) (p1 : Int32) (p2 : Int32) (n : Nat) {o : Int64 × Int32 × Int32 × Int32 × Int32 × Int32 × Int32 × (Nat → Int32) × (Nat → Int32) × (Nat → Int64)} (hf : fX8_mean n p1 p2 f_now_ground_a f_now_ground_b f_lowering_x f_lowering_y f_lowering_steps f_lowering_metLetter f_counts_a f_counts_b f_counts_sorts f_counts_counts f_counts_shares = some o) : Met l yX8_mean (Cond.code yX8_mean cX8_mean 3 (some .long) :: AW) ({ frames := 6, cells := 0, slots := 0, locals := 140 } : Room) (va_Pc [.ref q_this, .int p1, .int p2] (Wp G cy [(q_this, .inr (8, [.ref q_now, .ref q_saved, .int f_imaged, .ref q_trial, .ref q_lowering, .ref q_counts, .ref q_expansion, .ref q_setUp, .ref q_tapes])), (q_now, .inr (6, [.ref q_now_ground, .ref q_now_notes, .ref q_now_seen, .ref q_now_events, .ref q_now_book])), (q_now_ground, .inr (2, [.int f_now_ground_a, .int f_now_ground_b, .int f_now_ground_x, .int f_now_ground_y])), (q_lowering, .inr (3, [.int f_lowering_x, .int f_lowering_y, .int f_lowering_steps, .int f_lowering_metLetter])), (q_counts, .inr (0, [.ref q_lowering, .ref q_counts_sorts, .ref q_counts_counts, .ref q_counts_shares, .int f_counts_a, .int f_counts_b])), (q_counts_sorts, .inl (cy 0, 169, .inl f_counts_sorts)), (q_counts_counts, .inl (cy 0, 169, .inl f_counts_counts)), (q_counts_shares, .inl (cy 1, 169, .inr (.inl f_counts_shares)))] sz)) (va_Ql (fun r (_ : Unit) => r = o.1) (fun _ => Wq G cy (va_A [(q_this, .inr (8, [.ref q_now, .ref q_saved, .int f_imaged, .ref q_trial, .ref q_lowering, .ref q_counts, .ref q_expansion, .ref q_setUp, .ref q_tapes])), (q_now, .inr (6, [.ref q_now_ground, .ref q_now_notes, .ref q_now_seen, .ref q_now_events, .ref q_now_book])), (q_now_ground, .inr (2, [.int f_now_ground_a, .int f_now_ground_b, .int f_now_ground_x, .int f_now_ground_y])), (q_lowering, .inr (3, [.int f_lowering_x, .int f_lowering_y, .int f_lowering_steps, .int f_lowering_metLetter])), (q_counts, .inr (0, [.ref q_lowering, .ref q_counts_sorts, .ref q_counts_counts, .ref q_counts_shares, .int f_counts_a, .int f_counts_b])), (q_counts_sorts, .inl (cy 0, 169, .inl f_counts_sorts)), (q_counts_counts, .inl (cy 0, 169, .inl f_counts_counts)), (q_counts_shares, .inl (cy 1, 169, .inr (.inl f_counts_shares)))] sz) [(q_this, .inr (8, [.ref q_now, .ref q_saved, .int f_imaged, .ref q_trial, .ref q_lowering, .ref q_counts, .ref q_expansion, .ref q_setUp, .ref q_tapes])), (q_now, .inr (6, [.ref q_now_ground, .ref q_now_notes, .ref q_now_seen, .ref q_now_events, .ref q_now_book])), (q_now_ground, .inr (2, [.int f_now_ground_a, .int f_now_ground_b, .int f_now_ground_x, .int f_now_ground_y])), (q_lowering, .inr (3, [.int o.2.1, .int o.2.2.1, .int o.2.2.2.1, .int o.2.2.2.2.1])), (q_counts, .inr (0, [.ref q_lowering, .ref q_counts_sorts, .ref q_counts_counts, .ref q_counts_shares, .int o.2.2.2.2.2.1, .int o.2.2.2.2.2.2.1])), (q_counts_sorts, .inl (cy 0, 169, .inl o.2.2.2.2.2.2.2.1)), (q_counts_counts, .inl (cy 0, 169, .inl o.2.2.2.2.2.2.2.2.1)), (q_counts_shares, .inl (cy 1, 169, .inr (.inl o.2.2.2.2.2.2.2.2.2)))]) (va_A [(q_this, .inr (8, [.ref q_now, .ref q_saved, .int f_imaged, .ref q_trial, .ref q_lowering, .ref q_counts, .ref q_expansion, .ref q_setUp, .ref q_tapes])), (q_now, .inr (6, [.ref q_now_ground, .ref q_now_notes, .ref q_now_seen, .ref q_now_events, .ref q_now_book])), (q_now_ground, .inr (2, [.int f_now_ground_a, .int f_now_ground_b, .int f_now_ground_x, .int f_now_ground_y])), (q_lowering, .inr (3, [.int f_lowering_x, .int f_lowering_y, .int f_lowering_steps, .int f_lowering_metLetter])), (q_counts, .inr (0, [.ref q_lowering, .ref q_counts_sorts, .ref q_counts_counts, .ref q_counts_shares, .int f_counts_a, .int f_counts_b])), (q_counts_sorts, .inl (cy 0, 169, .inl f_counts_sorts)), (q_counts_counts, .inl (cy 0, 169, .inl f_counts_counts)), (q_counts_shares, .inl (cy 1, 169, .inr (.inl f_counts_shares)))] sz)) 0 0 (va_A [(q_this, .inr (8, [.ref q_now, .ref q_saved, .int f_imaged, .ref q_trial, .ref q_lowering, .ref q_counts, .ref q_expansion, .ref q_setUp, .ref q_tapes])), (q_now, .inr (6, [.ref q_now_ground, .ref q_now_notes, .ref q_now_seen, .ref q_now_events, .ref q_now_book])), (q_now_ground, .inr (2, [.int f_now_ground_a, .int f_now_ground_b, .int f_now_ground_x, .int f_now_ground_y])), (q_lowering, .inr (3, [.int f_lowering_x, .int f_lowering_y, .int f_lowering_steps, .int f_lowering_metLetter])), (q_counts, .inr (0, [.ref q_lowering, .ref q_counts_sorts, .ref q_counts_counts, .ref q_counts_shares, .int f_counts_a, .int f_counts_b])), (q_counts_sorts, .inl (cy 0, 169, .inl f_counts_sorts)), (q_counts_counts, .inl (cy 0, 169, .inl f_counts_counts)), (q_counts_shares, .inl (cy 1, 169, .inr (.inl f_counts_shares)))] sz) := by
  refine Met.ofW (cc := cX8_mean) (maxL := 3) (ret := (some .long)) (by decide) rfl ?_
  intro p e s m args below meth c s₁ B hml hv
  obtain ⟨rfl, hsz, hP, hK, hD0, hN⟩ := hv
  have hx := B.exec
  have hb := B.bytes
  have hr := B.returns
  have htA : ∀ w ∈ AW, w.before _ s = true := fun w h => atoms_spec (ws := Cond.code yX8_mean cX8_mean 3 (some .long) :: AW) B.pre w (List.mem_cons_of_mem _ h)
  have hown : s.vm.findClass RX8 = some m.cls := findClass_of_methodNamed B.named
  have hlocks := B.notSynchronized
  subst hsz
  have hD := hD0.self (sz := s.heap.size)
  generalize hAe : va_A [(q_this, .inr (8, [.ref q_now, .ref q_saved, .int f_imaged, .ref q_trial, .ref q_lowering, .ref q_counts, .ref q_expansion, .ref q_setUp, .ref q_tapes])), (q_now, .inr (6, [.ref q_now_ground, .ref q_now_notes, .ref q_now_seen, .ref q_now_events, .ref q_now_book])), (q_now_ground, .inr (2, [.int f_now_ground_a, .int f_now_ground_b, .int f_now_ground_x, .int f_now_ground_y])), (q_lowering, .inr (3, [.int f_lowering_x, .int f_lowering_y, .int f_lowering_steps, .int f_lowering_metLetter])), (q_counts, .inr (0, [.ref q_lowering, .ref q_counts_sorts, .ref q_counts_counts, .ref q_counts_shares, .int f_counts_a, .int f_counts_b])), (q_counts_sorts, .inl (cy 0, 169, .inl f_counts_sorts)), (q_counts_counts, .inl (cy 0, 169, .inl f_counts_counts)), (q_counts_shares, .inl (cy 1, 169, .inr (.inl f_counts_shares)))] s.heap.size = A at hD ⊢
  have hA : ∀ q : Nat, s.heap.size ≤ q → A q := fun q h => by rw [← hAe]; exact Or.inr h
  have hS : va_S A s.heap s.heap [] := va_S.rf
  have hl := lv_entry ([.ref q_this, .int p1, .int p2]) (n := 3) (Nat.le_of_ble_eq_true rfl)
  rw [lg_entry_eq]
  generalize (lg_sl ([.ref q_this, .int p1, .int p2]) ++ List.replicate (3 - (lg_sl ([.ref q_this, .int p1, .int p2])).length) Slot.unset).toArray = ls at hl ⊢
  have hl : lv_has ls 3 [(0, .ref q_this), (1, .int p1), (2, .int p2)] := hl
  have hP : va_P G vwCl [(q_this, .inr (8, [.ref q_now, .ref q_saved, .int f_imaged, .ref q_trial, .ref q_lowering, .ref q_counts, .ref q_expansion, .ref q_setUp, .ref q_tapes])), (q_now, .inr (6, [.ref q_now_ground, .ref q_now_notes, .ref q_now_seen, .ref q_now_events, .ref q_now_book])), (q_now_ground, .inr (2, [.int f_now_ground_a, .int f_now_ground_b, .int f_now_ground_x, .int f_now_ground_y])), (q_lowering, .inr (3, [.int f_lowering_x, .int f_lowering_y, .int f_lowering_steps, .int f_lowering_metLetter])), (q_counts, .inr (0, [.ref q_lowering, .ref q_counts_sorts, .ref q_counts_counts, .ref q_counts_shares, .int f_counts_a, .int f_counts_b])), (q_counts_sorts, .inl (cy 0, 169, .inl f_counts_sorts)), (q_counts_counts, .inl (cy 0, 169, .inl f_counts_counts)), (q_counts_shares, .inl (cy 1, 169, .inr (.inl f_counts_shares)))] s.heap := hP
  have hf : ((fX8_isIn p1 1 12).bind fun q4 => ((if q4 = 0 then some ((-9223372036854775808), f_lowering_x, f_lowering_y, f_lowering_steps, f_lowering_metLetter, f_counts_a, f_counts_b, f_counts_sorts, f_counts_counts, f_counts_shares) else (fX8_isIn p2 0 1).bind fun q13 => ((if q13 = 0 then some ((-9223372036854775808), f_lowering_x, f_lowering_y, f_lowering_steps, f_lowering_metLetter, f_counts_a, f_counts_b, f_counts_sorts, f_counts_counts, f_counts_shares) else (fX0_fillFor n f_now_ground_a f_now_ground_b f_counts_a f_counts_b f_lowering_x f_lowering_y f_lowering_steps f_lowering_metLetter f_counts_sorts f_counts_counts f_counts_shares).bind fun q47 => ((fX0_sumOfHeight n p1 q47.2.2.2.2.2.2.2.1).bind fun q55 => ((fX8_partOf n (Int32.toInt64 q55) (Int32.toInt64 (p1 + 1)) p2).bind fun q64 => (some (q64, q47.2.2.1, q47.2.2.2.1, q47.2.2.2.2.1, q47.2.2.2.2.2.1, q47.1, q47.2.1, q47.2.2.2.2.2.2.1, q47.2.2.2.2.2.2.2.1, q47.2.2.2.2.2.2.2.2)))))))) : Option (Int64 × Int32 × Int32 × Int32 × Int32 × Int32 × Int32 × (Nat → Int32) × (Nat → Int32) × (Nat → Int64))) = some o := hf
  refine lv_iload_n hx hb dX8_mean_0 rfl (lv_at hl 1 rfl) ?_
  refine lv_iconst (v := 1) hx hb dX8_mean_1 (by decide) ?_
  refine lv_bipush (v := 12) hx hb dX8_mean_2 (by decide) ?_
  obtain ⟨q4, h4_29, hf⟩ := bd_s hf
  refine u_calliR (va_runS (As := [.int p1, .int 1, .int 12]) (rest := []) ⟨hx, hb, hml, hown, htA⟩ (kX8_isIn l G cy s.heap.size p1 1 12 h4_29) (u_cwS htA a_ml_X8_69 pk_X8_isIn ⟨Nat.le_of_ble_eq_true rfl, Nat.le_of_ble_eq_true rfl⟩) (u_preS hK hN hP hD [] rfl (by decide)) rfl rfl hl.1 rfl (lv_room (Nat.le_of_ble_eq_true rfl)) dX8_mean_4 ⟨Nat.zero_le _, Nat.zero_le _⟩) hP hD hS hA [] rfl (fun H locs hP hS => ?_)
  refine lv_if_eq (tgt := 19) hx hb dX8_mean_7 (by decide) (fun c_30 => ?_) (fun c_30 => ?_)
  · have hf := ite_t c_30 hf
    refine lv_ldc2 (v := (-9223372036854775808)) hx hb hown (htA _ a_cl_X8_170) dX8_mean_19 ?_
    have ho := Option.some.inj hf
    subst ho
    exact W.lret (v := (-9223372036854775808)) hx hb hr (fun t ht hW => ⟨⟨_, (), rfl, rfl, by rw [ht]; exact hP, va_K.moved hW.alike hK, hD⟩, hS.F ht⟩) hS.2.2 dX8_mean_22
  · have hf := ite_f c_30 hf
    refine lv_iload_n hx hb dX8_mean_10 rfl (lv_at hl 2 rfl) ?_
    refine lv_iconst (v := 0) hx hb dX8_mean_11 (by decide) ?_
    refine lv_iconst (v := 1) hx hb dX8_mean_12 (by decide) ?_
    obtain ⟨q13, h13_31, hf⟩ := bd_s hf
    refine u_calliR (va_runS (As := [.int p2, .int 0, .int 1]) (rest := []) ⟨hx, hb, hml, hown, htA⟩ (kX8_isIn l G cy H.size p2 0 1 h13_31) (u_cwS htA a_ml_X8_69 pk_X8_isIn ⟨Nat.le_of_ble_eq_true rfl, Nat.le_of_ble_eq_true rfl⟩) (u_preS hK hN hP hD [] rfl (by decide)) rfl rfl hl.1 rfl (lv_room (Nat.le_of_ble_eq_true rfl)) dX8_mean_13 ⟨Nat.zero_le _, Nat.zero_le _⟩) hP hD hS hA [] rfl (fun H locs hP hS => ?_)
    refine lv_if_ne (tgt := 23) hx hb dX8_mean_16 (by decide) (fun c_32 => ?_) (fun c_32 => ?_)
    · have hf := ite_f c_32 hf
      refine lv_aload_n hx hb dX8_mean_23 rfl (lv_at hl 0 rfl) ?_
      refine va_get (D := G) (ci := 8) (v := .ref q_counts) (C := RX8) (T := TX8) (N := 9) hx hb htA lyX8 hown hK hP 0 rfl rfl 5 (by decide) (htA _ a_fl_X8_44) (fun _ h9 => h9) rfl dX8_mean_24 ?_
      refine lv_aload_n hx hb dX8_mean_27 rfl (lv_at hl 0 rfl) ?_
      refine va_get (D := G) (ci := 8) (v := .ref q_now) (C := RX8) (T := TX8) (N := 9) hx hb htA lyX8 hown hK hP 0 rfl rfl 0 (by decide) (htA _ a_fl_X8_14) (fun _ h9 => h9) rfl dX8_mean_28 ?_
      refine va_getN (D := G) (ci := 6) (v := .ref q_now_ground) (C := RX6) (T := TX6) (N := 5) hx hb htA lyX6 hown hK hP 1 rfl rfl 0 (by decide) (u_link hN (List.mem_of_getElem? (i := 6) rfl)) (fun _ h9 => h9) rfl dX8_mean_31 ?_
      refine va_getN (D := G) (ci := 2) (v := .int f_now_ground_a) (C := RX2) (T := TX2) (N := 4) hx hb htA lyX2 hown hK hP 2 rfl rfl 0 (by decide) (u_link hN (List.mem_of_getElem? (i := 2) rfl)) (fun _ h9 => h9) rfl dX8_mean_34 ?_
      refine lv_aload_n hx hb dX8_mean_37 rfl (lv_at hl 0 rfl) ?_
      refine va_get (D := G) (ci := 8) (v := .ref q_now) (C := RX8) (T := TX8) (N := 9) hx hb htA lyX8 hown hK hP 0 rfl rfl 0 (by decide) (htA _ a_fl_X8_14) (fun _ h9 => h9) rfl dX8_mean_38 ?_
      refine va_getN (D := G) (ci := 6) (v := .ref q_now_ground) (C := RX6) (T := TX6) (N := 5) hx hb htA lyX6 hown hK hP 1 rfl rfl 0 (by decide) (u_link hN (List.mem_of_getElem? (i := 6) rfl)) (fun _ h9 => h9) rfl dX8_mean_41 ?_
      refine va_getN (D := G) (ci := 2) (v := .int f_now_ground_b) (C := RX2) (T := TX2) (N := 4) hx hb htA lyX2 hown hK hP 2 rfl rfl 1 (by decide) (u_link hN (List.mem_of_getElem? (i := 3) rfl)) (fun _ h9 => h9) rfl dX8_mean_44 ?_
      obtain ⟨q47, h47_33, hf⟩ := bd_s hf
      refine u_callv [(q_this, .inr (8, [.ref q_now, .ref q_saved, .int f_imaged, .ref q_trial, .ref q_lowering, .ref q_counts, .ref q_expansion, .ref q_setUp, .ref q_tapes])), (q_now, .inr (6, [.ref q_now_ground, .ref q_now_notes, .ref q_now_seen, .ref q_now_events, .ref q_now_book])), (q_now_ground, .inr (2, [.int f_now_ground_a, .int f_now_ground_b, .int f_now_ground_x, .int f_now_ground_y])), (q_lowering, .inr (3, [.int q47.2.2.1, .int q47.2.2.2.1, .int q47.2.2.2.2.1, .int q47.2.2.2.2.2.1])), (q_counts, .inr (0, [.ref q_lowering, .ref q_counts_sorts, .ref q_counts_counts, .ref q_counts_shares, .int q47.1, .int q47.2.1])), (q_counts_sorts, .inl (cy 0, 169, .inl q47.2.2.2.2.2.2.1)), (q_counts_counts, .inl (cy 0, 169, .inl q47.2.2.2.2.2.2.2.1)), (q_counts_shares, .inl (cy 1, 169, .inr (.inl q47.2.2.2.2.2.2.2.2)))] (va_runV (As := [.int f_now_ground_a, .int f_now_ground_b]) (rest := []) ⟨hx, hb, hml, hown, htA⟩ (kX0_fillFor l G cy q_counts q_lowering q_counts_sorts q_counts_counts q_counts_shares H.size f_counts_a f_counts_b f_lowering_x f_lowering_y f_lowering_steps f_lowering_metLetter f_counts_sorts f_counts_counts f_counts_shares f_now_ground_a f_now_ground_b n h47_33) (u_cwV htA a_ml_X8_202 pk_X0_fillFor ⟨Nat.le_of_ble_eq_true rfl, Nat.le_of_ble_eq_true rfl⟩) (u_preV hK hN hP hD [4, 3, 5, 6, 7] rfl (by decide) 4 rfl rfl) rfl rfl hl.1 rfl (lv_room (Nat.le_of_ble_eq_true rfl)) dX8_mean_47 ⟨Nat.zero_le _, Nat.zero_le _⟩) hP hD hS hA [4, 3, 5, 6, 7] rfl [0, 1, 2] 8 rfl rfl rfl (by decide) rfl (fun H locs hP hD hS => ?_)
      refine lv_aload_n hx hb dX8_mean_50 rfl (lv_at hl 0 rfl) ?_
      refine va_get (D := G) (ci := 8) (v := .ref q_counts) (C := RX8) (T := TX8) (N := 9) hx hb htA lyX8 hown hK hP 0 rfl rfl 5 (by decide) (htA _ a_fl_X8_44) (fun _ h9 => h9) rfl dX8_mean_51 ?_
      refine lv_iload_n hx hb dX8_mean_54 rfl (lv_at hl 1 rfl) ?_
      obtain ⟨q55, h55_34, hf⟩ := bd_s hf
      refine u_calliR (va_runV (As := [.int p1]) (rest := []) ⟨hx, hb, hml, hown, htA⟩ (kX0_sumOfHeight l G cy q_counts q_lowering q_counts_sorts q_counts_counts q_counts_shares H.size q47.1 q47.2.1 q47.2.2.2.2.2.2.2.1 p1 n h55_34) (u_cwV htA a_ml_X8_222 pk_X0_sumOfHeight ⟨Nat.le_of_ble_eq_true rfl, Nat.le_of_ble_eq_true rfl⟩) (u_preV hK hN hP hD [4, 6] rfl (by decide) 4 rfl rfl) rfl rfl hl.1 rfl (lv_room (Nat.le_of_ble_eq_true rfl)) dX8_mean_55 ⟨Nat.zero_le _, Nat.zero_le _⟩) hP hD hS hA [4, 6] rfl (fun H locs hP hS => ?_)
      refine lv_i2l hx hb dX8_mean_58 rfl ?_
      refine lv_iload_n hx hb dX8_mean_59 rfl (lv_at hl 1 rfl) ?_
      refine lv_iconst (v := 1) hx hb dX8_mean_60 (by decide) ?_
      refine lv_iadd hx hb dX8_mean_61 ?_
      refine lv_i2l hx hb dX8_mean_62 rfl ?_
      refine lv_iload_n hx hb dX8_mean_63 rfl (lv_at hl 2 rfl) ?_
      obtain ⟨q64, h64_35, hf⟩ := bd_s hf
      refine u_calllR (va_runS (As := [.long (Int32.toInt64 q55), .long (Int32.toInt64 (p1 + 1)), .int p2]) (rest := []) ⟨hx, hb, hml, hown, htA⟩ (kX8_partOf l G cy H.size (Int32.toInt64 q55) (Int32.toInt64 (p1 + 1)) p2 n h64_35) (u_cwS htA a_ml_X8_215 pk_X8_partOf ⟨Nat.le_of_ble_eq_true rfl, Nat.le_of_ble_eq_true rfl⟩) (u_preS hK hN hP hD [] rfl (by decide)) rfl rfl hl.1 rfl (lv_room (Nat.le_of_ble_eq_true rfl)) dX8_mean_64 ⟨Nat.zero_le _, Nat.zero_le _⟩) hP hD hS hA [] rfl (fun H locs hP hS => ?_)
      have ho := Option.some.inj hf
      subst ho
      exact W.lret (v := q64) hx hb hr (fun t ht hW => ⟨⟨_, (), rfl, rfl, by rw [ht]; exact hP, va_K.moved hW.alike hK, hD⟩, hS.F ht⟩) hS.2.2 dX8_mean_67
    · have hf := ite_t c_32 hf
      refine lv_ldc2 (v := (-9223372036854775808)) hx hb hown (htA _ a_cl_X8_170) dX8_mean_19 ?_
      have ho := Option.some.inj hf
      subst ho
      exact W.lret (v := (-9223372036854775808)) hx hb hr (fun t ht hW => ⟨⟨_, (), rfl, rfl, by rw [ht]; exact hP, va_K.moved hW.alike hK, hD⟩, hS.F ht⟩) hS.2.2 dX8_mean_22
set_option maxRecDepth 100000 in
set_option maxHeartbeats 4000000 in
theorem kX8_event (l : Launch) (G : va_G) (cy : Nat → ClassId) (q_this : Nat) (q_now : Nat) (q_saved : Nat) (q_trial : Nat) (q_lowering : Nat) (q_counts : Nat) (q_expansion : Nat) (q_setUp : Nat) (q_tapes : Nat) (q_now_ground : Nat) (q_now_notes : Nat) (q_now_seen : Nat) (q_now_events : Nat) (q_now_book : Nat) (q_now_events_cells : Nat) (sz : Nat) (n_now_events_cells : Nat) (f_imaged : Int32) (f_now_events_limit : Int32) (f_now_events_used : Int32) (f_now_events_cells : Nat → Int32) (p1 : Int32) (p2 : Int32) {o : Int32 × Int32 × (Nat → Int32)} (hf : fX8_event p1 p2 n_now_events_cells f_now_events_limit f_now_events_used f_now_events_cells = some o) : Met l yX8_event (Cond.code yX8_event cX8_event 3 (some .int) :: AW) ({ frames := 1, cells := 0, slots := 0, locals := 23 } : Room) (va_Pc [.ref q_this, .int p1, .int p2] (Wp G cy [(q_this, .inr (8, [.ref q_now, .ref q_saved, .int f_imaged, .ref q_trial, .ref q_lowering, .ref q_counts, .ref q_expansion, .ref q_setUp, .ref q_tapes])), (q_now, .inr (6, [.ref q_now_ground, .ref q_now_notes, .ref q_now_seen, .ref q_now_events, .ref q_now_book])), (q_now_events, .inr (4, [.int f_now_events_limit, .ref q_now_events_cells, .int f_now_events_used])), (q_now_events_cells, .inl (cy 0, n_now_events_cells, .inl f_now_events_cells))] sz)) (va_Qi (fun r (_ : Unit) => r = o.1) (fun _ => Wq G cy (va_A [(q_this, .inr (8, [.ref q_now, .ref q_saved, .int f_imaged, .ref q_trial, .ref q_lowering, .ref q_counts, .ref q_expansion, .ref q_setUp, .ref q_tapes])), (q_now, .inr (6, [.ref q_now_ground, .ref q_now_notes, .ref q_now_seen, .ref q_now_events, .ref q_now_book])), (q_now_events, .inr (4, [.int f_now_events_limit, .ref q_now_events_cells, .int f_now_events_used])), (q_now_events_cells, .inl (cy 0, n_now_events_cells, .inl f_now_events_cells))] sz) [(q_this, .inr (8, [.ref q_now, .ref q_saved, .int f_imaged, .ref q_trial, .ref q_lowering, .ref q_counts, .ref q_expansion, .ref q_setUp, .ref q_tapes])), (q_now, .inr (6, [.ref q_now_ground, .ref q_now_notes, .ref q_now_seen, .ref q_now_events, .ref q_now_book])), (q_now_events, .inr (4, [.int f_now_events_limit, .ref q_now_events_cells, .int o.2.1])), (q_now_events_cells, .inl (cy 0, n_now_events_cells, .inl o.2.2))]) (va_A [(q_this, .inr (8, [.ref q_now, .ref q_saved, .int f_imaged, .ref q_trial, .ref q_lowering, .ref q_counts, .ref q_expansion, .ref q_setUp, .ref q_tapes])), (q_now, .inr (6, [.ref q_now_ground, .ref q_now_notes, .ref q_now_seen, .ref q_now_events, .ref q_now_book])), (q_now_events, .inr (4, [.int f_now_events_limit, .ref q_now_events_cells, .int f_now_events_used])), (q_now_events_cells, .inl (cy 0, n_now_events_cells, .inl f_now_events_cells))] sz)) 0 0 (va_A [(q_this, .inr (8, [.ref q_now, .ref q_saved, .int f_imaged, .ref q_trial, .ref q_lowering, .ref q_counts, .ref q_expansion, .ref q_setUp, .ref q_tapes])), (q_now, .inr (6, [.ref q_now_ground, .ref q_now_notes, .ref q_now_seen, .ref q_now_events, .ref q_now_book])), (q_now_events, .inr (4, [.int f_now_events_limit, .ref q_now_events_cells, .int f_now_events_used])), (q_now_events_cells, .inl (cy 0, n_now_events_cells, .inl f_now_events_cells))] sz) := by
  refine Met.ofW (cc := cX8_event) (maxL := 3) (ret := (some .int)) (by decide) rfl ?_
  intro p e s m args below meth c s₁ B hml hv
  obtain ⟨rfl, hsz, hP, hK, hD0, hN⟩ := hv
  have hx := B.exec
  have hb := B.bytes
  have hr := B.returns
  have htA : ∀ w ∈ AW, w.before _ s = true := fun w h => atoms_spec (ws := Cond.code yX8_event cX8_event 3 (some .int) :: AW) B.pre w (List.mem_cons_of_mem _ h)
  have hown : s.vm.findClass RX8 = some m.cls := findClass_of_methodNamed B.named
  have hlocks := B.notSynchronized
  subst hsz
  have hD := hD0.self (sz := s.heap.size)
  generalize hAe : va_A [(q_this, .inr (8, [.ref q_now, .ref q_saved, .int f_imaged, .ref q_trial, .ref q_lowering, .ref q_counts, .ref q_expansion, .ref q_setUp, .ref q_tapes])), (q_now, .inr (6, [.ref q_now_ground, .ref q_now_notes, .ref q_now_seen, .ref q_now_events, .ref q_now_book])), (q_now_events, .inr (4, [.int f_now_events_limit, .ref q_now_events_cells, .int f_now_events_used])), (q_now_events_cells, .inl (cy 0, n_now_events_cells, .inl f_now_events_cells))] s.heap.size = A at hD ⊢
  have hA : ∀ q : Nat, s.heap.size ≤ q → A q := fun q h => by rw [← hAe]; exact Or.inr h
  have hS : va_S A s.heap s.heap [] := va_S.rf
  have hl := lv_entry ([.ref q_this, .int p1, .int p2]) (n := 3) (Nat.le_of_ble_eq_true rfl)
  rw [lg_entry_eq]
  generalize (lg_sl ([.ref q_this, .int p1, .int p2]) ++ List.replicate (3 - (lg_sl ([.ref q_this, .int p1, .int p2])).length) Slot.unset).toArray = ls at hl ⊢
  have hl : lv_has ls 3 [(0, .ref q_this), (1, .int p1), (2, .int p2)] := hl
  have hP : va_P G vwCl [(q_this, .inr (8, [.ref q_now, .ref q_saved, .int f_imaged, .ref q_trial, .ref q_lowering, .ref q_counts, .ref q_expansion, .ref q_setUp, .ref q_tapes])), (q_now, .inr (6, [.ref q_now_ground, .ref q_now_notes, .ref q_now_seen, .ref q_now_events, .ref q_now_book])), (q_now_events, .inr (4, [.int f_now_events_limit, .ref q_now_events_cells, .int f_now_events_used])), (q_now_events_cells, .inl (cy 0, n_now_events_cells, .inl f_now_events_cells))] s.heap := hP
  have hf : ((if p1 = (-1) then (fX4_clear f_now_events_used).bind fun q12 => (some (0, q12, f_now_events_cells)) else (if p1 = 0 then (fX8_isIn p2 0 1).bind fun q47 => ((if q47 = 0 then some ((-2), f_now_events_used, f_now_events_cells) else (fX4_put p1 p2 0 n_now_events_cells f_now_events_limit f_now_events_used f_now_events_cells).bind fun q63 => (some (q63.1, q63.2.1, q63.2.2)))) else if p1 = 1 then (fX8_isIn p2 1 6).bind fun q76 => ((if q76 = 0 then some ((-2), f_now_events_used, f_now_events_cells) else (fX4_put p1 p2 0 n_now_events_cells f_now_events_limit f_now_events_used f_now_events_cells).bind fun q92 => (some (q92.1, q92.2.1, q92.2.2)))) else if p1 = 2 then (if p2 = 0 then (fX4_put p1 p2 0 n_now_events_cells f_now_events_limit f_now_events_used f_now_events_cells).bind fun q115 => (some (q115.1, q115.2.1, q115.2.2)) else some ((-2), f_now_events_used, f_now_events_cells)) else some ((-1), f_now_events_used, f_now_events_cells))) : Option (Int32 × Int32 × (Nat → Int32))) = some o := hf
  refine lv_iload_n hx hb dX8_event_0 rfl (lv_at hl 1 rfl) ?_
  refine lv_iconst (v := (-1)) hx hb dX8_event_1 (by decide) ?_
  refine lv_icmp_ne (tgt := 17) hx hb dX8_event_2 (by decide) (fun c_53 => ?_) (fun c_53 => ?_)
  · have hf := ite_f c_53 hf
    refine lv_iload_n hx hb dX8_event_17 rfl (lv_at hl 1 rfl) ?_
    by_cases c_54 : p1 = 0
    · have hf := ite_t c_54 hf
      refine lv_tableIn (off := 26) (tgt := 44) hx hb dX8_event_18 (by rw [c_54]; decide) (by rw [c_54]; decide) (by rw [c_54]; rfl) (by decide) ?_
      refine lv_iload_n hx hb dX8_event_44 rfl (lv_at hl 2 rfl) ?_
      refine lv_iconst (v := 0) hx hb dX8_event_45 (by decide) ?_
      refine lv_iconst (v := 1) hx hb dX8_event_46 (by decide) ?_
      obtain ⟨q47, h47_55, hf⟩ := bd_s hf
      refine u_calliR (va_runS (As := [.int p2, .int 0, .int 1]) (rest := []) ⟨hx, hb, hml, hown, htA⟩ (kX8_isIn l G cy s.heap.size p2 0 1 h47_55) (u_cwS htA a_ml_X8_69 pk_X8_isIn ⟨Nat.le_of_ble_eq_true rfl, Nat.le_of_ble_eq_true rfl⟩) (u_preS hK hN hP hD [] rfl (by decide)) rfl rfl hl.1 rfl (lv_room (Nat.le_of_ble_eq_true rfl)) dX8_event_47 ⟨Nat.zero_le _, Nat.zero_le _⟩) hP hD hS hA [] rfl (fun H locs hP hS => ?_)
      refine lv_if_eq (tgt := 69) hx hb dX8_event_50 (by decide) (fun c_56 => ?_) (fun c_56 => ?_)
      · have hf := ite_t c_56 hf
        refine lv_bipush (v := (-2)) hx hb dX8_event_69 (by decide) ?_
        have ho := Option.some.inj hf
        subst ho
        exact W.iret (v := (-2)) hx hb hr (fun t ht hW => ⟨⟨_, (), rfl, rfl, by rw [ht]; exact hP, va_K.moved hW.alike hK, hD⟩, hS.F ht⟩) hS.2.2 dX8_event_71
      · have hf := ite_f c_56 hf
        refine lv_aload_n hx hb dX8_event_53 rfl (lv_at hl 0 rfl) ?_
        refine va_get (D := G) (ci := 8) (v := .ref q_now) (C := RX8) (T := TX8) (N := 9) hx hb htA lyX8 hown hK hP 0 rfl rfl 0 (by decide) (htA _ a_fl_X8_14) (fun _ h9 => h9) rfl dX8_event_54 ?_
        refine va_getN (D := G) (ci := 6) (v := .ref q_now_events) (C := RX6) (T := TX6) (N := 5) hx hb htA lyX6 hown hK hP 1 rfl rfl 3 (by decide) (u_link hN (List.mem_of_getElem? (i := 9) rfl)) (fun _ h9 => h9) rfl dX8_event_57 ?_
        refine lv_iload_n hx hb dX8_event_60 rfl (lv_at hl 1 rfl) ?_
        refine lv_iload_n hx hb dX8_event_61 rfl (lv_at hl 2 rfl) ?_
        refine lv_iconst (v := 0) hx hb dX8_event_62 (by decide) ?_
        obtain ⟨q63, h63_57, hf⟩ := bd_s hf
        refine u_calli [(q_this, .inr (8, [.ref q_now, .ref q_saved, .int f_imaged, .ref q_trial, .ref q_lowering, .ref q_counts, .ref q_expansion, .ref q_setUp, .ref q_tapes])), (q_now, .inr (6, [.ref q_now_ground, .ref q_now_notes, .ref q_now_seen, .ref q_now_events, .ref q_now_book])), (q_now_events, .inr (4, [.int f_now_events_limit, .ref q_now_events_cells, .int q63.2.1])), (q_now_events_cells, .inl (cy 0, n_now_events_cells, .inl q63.2.2))] (va_runV (As := [.int p1, .int p2, .int 0]) (rest := []) ⟨hx, hb, hml, hown, htA⟩ (kX4_put l G cy q_now_events q_now_events_cells H.size n_now_events_cells f_now_events_limit f_now_events_used f_now_events_cells p1 p2 0 h63_57) (u_cwV htA a_ml_X8_117 pk_X4_put ⟨Nat.le_of_ble_eq_true rfl, Nat.le_of_ble_eq_true rfl⟩) (u_preV hK hN hP hD [2, 3] rfl (by decide) 2 rfl rfl) rfl rfl hl.1 rfl (lv_room (Nat.le_of_ble_eq_true rfl)) dX8_event_63 ⟨Nat.zero_le _, Nat.zero_le _⟩) hP hD hS hA [2, 3] rfl [0, 1] 4 rfl rfl rfl (by decide) rfl (fun H locs hP hD hS => ?_)
        refine lv_goto (tgt := 71) hx hb dX8_event_66 (by decide) ?_
        have ho := Option.some.inj hf
        subst ho
        exact W.iret (v := q63.1) hx hb hr (fun t ht hW => ⟨⟨_, (), rfl, rfl, by rw [ht]; exact hP, va_K.moved hW.alike hK, hD⟩, hS.F ht⟩) hS.2.2 dX8_event_71
    · have hf := ite_f c_54 hf
      by_cases c_58 : p1 = 1
      · have hf := ite_t c_58 hf
        refine lv_tableIn (off := 54) (tgt := 72) hx hb dX8_event_18 (by rw [c_58]; decide) (by rw [c_58]; decide) (by rw [c_58]; rfl) (by decide) ?_
        refine lv_iload_n hx hb dX8_event_72 rfl (lv_at hl 2 rfl) ?_
        refine lv_iconst (v := 1) hx hb dX8_event_73 (by decide) ?_
        refine lv_bipush (v := 6) hx hb dX8_event_74 (by decide) ?_
        obtain ⟨q76, h76_59, hf⟩ := bd_s hf
        refine u_calliR (va_runS (As := [.int p2, .int 1, .int 6]) (rest := []) ⟨hx, hb, hml, hown, htA⟩ (kX8_isIn l G cy s.heap.size p2 1 6 h76_59) (u_cwS htA a_ml_X8_69 pk_X8_isIn ⟨Nat.le_of_ble_eq_true rfl, Nat.le_of_ble_eq_true rfl⟩) (u_preS hK hN hP hD [] rfl (by decide)) rfl rfl hl.1 rfl (lv_room (Nat.le_of_ble_eq_true rfl)) dX8_event_76 ⟨Nat.zero_le _, Nat.zero_le _⟩) hP hD hS hA [] rfl (fun H locs hP hS => ?_)
        refine lv_if_eq (tgt := 98) hx hb dX8_event_79 (by decide) (fun c_60 => ?_) (fun c_60 => ?_)
        · have hf := ite_t c_60 hf
          refine lv_bipush (v := (-2)) hx hb dX8_event_98 (by decide) ?_
          have ho := Option.some.inj hf
          subst ho
          exact W.iret (v := (-2)) hx hb hr (fun t ht hW => ⟨⟨_, (), rfl, rfl, by rw [ht]; exact hP, va_K.moved hW.alike hK, hD⟩, hS.F ht⟩) hS.2.2 dX8_event_100
        · have hf := ite_f c_60 hf
          refine lv_aload_n hx hb dX8_event_82 rfl (lv_at hl 0 rfl) ?_
          refine va_get (D := G) (ci := 8) (v := .ref q_now) (C := RX8) (T := TX8) (N := 9) hx hb htA lyX8 hown hK hP 0 rfl rfl 0 (by decide) (htA _ a_fl_X8_14) (fun _ h9 => h9) rfl dX8_event_83 ?_
          refine va_getN (D := G) (ci := 6) (v := .ref q_now_events) (C := RX6) (T := TX6) (N := 5) hx hb htA lyX6 hown hK hP 1 rfl rfl 3 (by decide) (u_link hN (List.mem_of_getElem? (i := 9) rfl)) (fun _ h9 => h9) rfl dX8_event_86 ?_
          refine lv_iload_n hx hb dX8_event_89 rfl (lv_at hl 1 rfl) ?_
          refine lv_iload_n hx hb dX8_event_90 rfl (lv_at hl 2 rfl) ?_
          refine lv_iconst (v := 0) hx hb dX8_event_91 (by decide) ?_
          obtain ⟨q92, h92_61, hf⟩ := bd_s hf
          refine u_calli [(q_this, .inr (8, [.ref q_now, .ref q_saved, .int f_imaged, .ref q_trial, .ref q_lowering, .ref q_counts, .ref q_expansion, .ref q_setUp, .ref q_tapes])), (q_now, .inr (6, [.ref q_now_ground, .ref q_now_notes, .ref q_now_seen, .ref q_now_events, .ref q_now_book])), (q_now_events, .inr (4, [.int f_now_events_limit, .ref q_now_events_cells, .int q92.2.1])), (q_now_events_cells, .inl (cy 0, n_now_events_cells, .inl q92.2.2))] (va_runV (As := [.int p1, .int p2, .int 0]) (rest := []) ⟨hx, hb, hml, hown, htA⟩ (kX4_put l G cy q_now_events q_now_events_cells H.size n_now_events_cells f_now_events_limit f_now_events_used f_now_events_cells p1 p2 0 h92_61) (u_cwV htA a_ml_X8_117 pk_X4_put ⟨Nat.le_of_ble_eq_true rfl, Nat.le_of_ble_eq_true rfl⟩) (u_preV hK hN hP hD [2, 3] rfl (by decide) 2 rfl rfl) rfl rfl hl.1 rfl (lv_room (Nat.le_of_ble_eq_true rfl)) dX8_event_92 ⟨Nat.zero_le _, Nat.zero_le _⟩) hP hD hS hA [2, 3] rfl [0, 1] 4 rfl rfl rfl (by decide) rfl (fun H locs hP hD hS => ?_)
          refine lv_goto (tgt := 100) hx hb dX8_event_95 (by decide) ?_
          have ho := Option.some.inj hf
          subst ho
          exact W.iret (v := q92.1) hx hb hr (fun t ht hW => ⟨⟨_, (), rfl, rfl, by rw [ht]; exact hP, va_K.moved hW.alike hK, hD⟩, hS.F ht⟩) hS.2.2 dX8_event_100
      · have hf := ite_f c_58 hf
        by_cases c_62 : p1 = 2
        · have hf := ite_t c_62 hf
          refine lv_tableIn (off := 83) (tgt := 101) hx hb dX8_event_18 (by rw [c_62]; decide) (by rw [c_62]; decide) (by rw [c_62]; rfl) (by decide) ?_
          refine lv_iload_n hx hb dX8_event_101 rfl (lv_at hl 2 rfl) ?_
          refine lv_if_ne (tgt := 121) hx hb dX8_event_102 (by decide) (fun c_63 => ?_) (fun c_63 => ?_)
          · have hf := ite_f c_63 hf
            refine lv_bipush (v := (-2)) hx hb dX8_event_121 (by decide) ?_
            have ho := Option.some.inj hf
            subst ho
            exact W.iret (v := (-2)) hx hb hr (fun t ht hW => ⟨⟨_, (), rfl, rfl, by rw [ht]; exact hP, va_K.moved hW.alike hK, hD⟩, hS.F ht⟩) hS.2.2 dX8_event_123
          · have hf := ite_t c_63 hf
            refine lv_aload_n hx hb dX8_event_105 rfl (lv_at hl 0 rfl) ?_
            refine va_get (D := G) (ci := 8) (v := .ref q_now) (C := RX8) (T := TX8) (N := 9) hx hb htA lyX8 hown hK hP 0 rfl rfl 0 (by decide) (htA _ a_fl_X8_14) (fun _ h9 => h9) rfl dX8_event_106 ?_
            refine va_getN (D := G) (ci := 6) (v := .ref q_now_events) (C := RX6) (T := TX6) (N := 5) hx hb htA lyX6 hown hK hP 1 rfl rfl 3 (by decide) (u_link hN (List.mem_of_getElem? (i := 9) rfl)) (fun _ h9 => h9) rfl dX8_event_109 ?_
            refine lv_iload_n hx hb dX8_event_112 rfl (lv_at hl 1 rfl) ?_
            refine lv_iload_n hx hb dX8_event_113 rfl (lv_at hl 2 rfl) ?_
            refine lv_iconst (v := 0) hx hb dX8_event_114 (by decide) ?_
            obtain ⟨q115, h115_64, hf⟩ := bd_s hf
            refine u_calli [(q_this, .inr (8, [.ref q_now, .ref q_saved, .int f_imaged, .ref q_trial, .ref q_lowering, .ref q_counts, .ref q_expansion, .ref q_setUp, .ref q_tapes])), (q_now, .inr (6, [.ref q_now_ground, .ref q_now_notes, .ref q_now_seen, .ref q_now_events, .ref q_now_book])), (q_now_events, .inr (4, [.int f_now_events_limit, .ref q_now_events_cells, .int q115.2.1])), (q_now_events_cells, .inl (cy 0, n_now_events_cells, .inl q115.2.2))] (va_runV (As := [.int p1, .int p2, .int 0]) (rest := []) ⟨hx, hb, hml, hown, htA⟩ (kX4_put l G cy q_now_events q_now_events_cells s.heap.size n_now_events_cells f_now_events_limit f_now_events_used f_now_events_cells p1 p2 0 h115_64) (u_cwV htA a_ml_X8_117 pk_X4_put ⟨Nat.le_of_ble_eq_true rfl, Nat.le_of_ble_eq_true rfl⟩) (u_preV hK hN hP hD [2, 3] rfl (by decide) 2 rfl rfl) rfl rfl hl.1 rfl (lv_room (Nat.le_of_ble_eq_true rfl)) dX8_event_115 ⟨Nat.zero_le _, Nat.zero_le _⟩) hP hD hS hA [2, 3] rfl [0, 1] 4 rfl rfl rfl (by decide) rfl (fun H locs hP hD hS => ?_)
            refine lv_goto (tgt := 123) hx hb dX8_event_118 (by decide) ?_
            have ho := Option.some.inj hf
            subst ho
            exact W.iret (v := q115.1) hx hb hr (fun t ht hW => ⟨⟨_, (), rfl, rfl, by rw [ht]; exact hP, va_K.moved hW.alike hK, hD⟩, hS.F ht⟩) hS.2.2 dX8_event_123
        · have hf := ite_f c_62 hf
          have c_54n := sw_no (a := 0) c_54 (by decide)
          have c_58n := sw_no (a := 1) c_58 (by decide)
          have c_62n := sw_no (a := 2) c_62 (by decide)
          refine lv_tableOut (tgt := 124) hx hb dX8_event_18 (by omega) (by decide) ?_
          refine lv_iconst (v := (-1)) hx hb dX8_event_124 (by decide) ?_
          have ho := Option.some.inj hf
          subst ho
          exact W.iret (v := (-1)) hx hb hr (fun t ht hW => ⟨⟨_, (), rfl, rfl, by rw [ht]; exact hP, va_K.moved hW.alike hK, hD⟩, hS.F ht⟩) hS.2.2 dX8_event_125
  · have hf := ite_t c_53 hf
    refine lv_aload_n hx hb dX8_event_5 rfl (lv_at hl 0 rfl) ?_
    refine va_get (D := G) (ci := 8) (v := .ref q_now) (C := RX8) (T := TX8) (N := 9) hx hb htA lyX8 hown hK hP 0 rfl rfl 0 (by decide) (htA _ a_fl_X8_14) (fun _ h9 => h9) rfl dX8_event_6 ?_
    refine va_getN (D := G) (ci := 6) (v := .ref q_now_events) (C := RX6) (T := TX6) (N := 5) hx hb htA lyX6 hown hK hP 1 rfl rfl 3 (by decide) (u_link hN (List.mem_of_getElem? (i := 9) rfl)) (fun _ h9 => h9) rfl dX8_event_9 ?_
    obtain ⟨q12, h12_65, hf⟩ := bd_s hf
    refine u_callv [(q_this, .inr (8, [.ref q_now, .ref q_saved, .int f_imaged, .ref q_trial, .ref q_lowering, .ref q_counts, .ref q_expansion, .ref q_setUp, .ref q_tapes])), (q_now, .inr (6, [.ref q_now_ground, .ref q_now_notes, .ref q_now_seen, .ref q_now_events, .ref q_now_book])), (q_now_events, .inr (4, [.int f_now_events_limit, .ref q_now_events_cells, .int q12])), (q_now_events_cells, .inl (cy 0, n_now_events_cells, .inl f_now_events_cells))] (va_runV (As := []) (rest := []) ⟨hx, hb, hml, hown, htA⟩ (kX4_clear l G cy q_now_events q_now_events_cells s.heap.size f_now_events_limit f_now_events_used h12_65) (u_cwV htA a_ml_X8_121 pk_X4_clear ⟨Nat.le_of_ble_eq_true rfl, Nat.le_of_ble_eq_true rfl⟩) (u_preV hK hN hP hD [2] rfl (by decide) 2 rfl rfl) rfl rfl hl.1 rfl (lv_room (Nat.le_of_ble_eq_true rfl)) dX8_event_12 ⟨Nat.zero_le _, Nat.zero_le _⟩) hP hD hS hA [2] rfl [0, 1, 3] 4 rfl rfl rfl (by decide) rfl (fun H locs hP hD hS => ?_)
    refine lv_iconst (v := 0) hx hb dX8_event_15 (by decide) ?_
    have ho := Option.some.inj hf
    subst ho
    exact W.iret (v := 0) hx hb hr (fun t ht hW => ⟨⟨_, (), rfl, rfl, by rw [ht]; exact hP, va_K.moved hW.alike hK, hD⟩, hS.F ht⟩) hS.2.2 dX8_event_16
set_option maxRecDepth 100000 in
set_option maxHeartbeats 4000000 in
theorem kX8_happen (l : Launch) (G : va_G) (cy : Nat → ClassId) (q_this : Nat) (q_now : Nat) (q_saved : Nat) (q_trial : Nat) (q_lowering : Nat) (q_counts : Nat) (q_expansion : Nat) (q_setUp : Nat) (q_tapes : Nat) (sz : Nat) (f_imaged : Int32) (f_trial_a : Int32) (f_trial_b : Int32) (f_trial_x : Int32) (f_trial_y : Int32) (p1 : Int32) (p2 : Int32) {o : Int32 × Int32 × Int32 × Int32} (hf : fX8_happen p1 p2 f_trial_a f_trial_b f_trial_x f_trial_y = some o) : Met l yX8_happen (Cond.code yX8_happen cX8_happen 3 none :: AW) ({ frames := 3, cells := 0, slots := 0, locals := 66 } : Room) (va_Pc [.ref q_this, .int p1, .int p2] (Wp G cy [(q_this, .inr (8, [.ref q_now, .ref q_saved, .int f_imaged, .ref q_trial, .ref q_lowering, .ref q_counts, .ref q_expansion, .ref q_setUp, .ref q_tapes])), (q_trial, .inr (2, [.int f_trial_a, .int f_trial_b, .int f_trial_x, .int f_trial_y]))] sz)) (va_Qv (fun (_ : Unit) => True) (fun _ => Wq G cy (va_A [(q_this, .inr (8, [.ref q_now, .ref q_saved, .int f_imaged, .ref q_trial, .ref q_lowering, .ref q_counts, .ref q_expansion, .ref q_setUp, .ref q_tapes])), (q_trial, .inr (2, [.int f_trial_a, .int f_trial_b, .int f_trial_x, .int f_trial_y]))] sz) [(q_this, .inr (8, [.ref q_now, .ref q_saved, .int f_imaged, .ref q_trial, .ref q_lowering, .ref q_counts, .ref q_expansion, .ref q_setUp, .ref q_tapes])), (q_trial, .inr (2, [.int o.1, .int o.2.1, .int o.2.2.1, .int o.2.2.2]))]) (va_A [(q_this, .inr (8, [.ref q_now, .ref q_saved, .int f_imaged, .ref q_trial, .ref q_lowering, .ref q_counts, .ref q_expansion, .ref q_setUp, .ref q_tapes])), (q_trial, .inr (2, [.int f_trial_a, .int f_trial_b, .int f_trial_x, .int f_trial_y]))] sz)) 0 0 (va_A [(q_this, .inr (8, [.ref q_now, .ref q_saved, .int f_imaged, .ref q_trial, .ref q_lowering, .ref q_counts, .ref q_expansion, .ref q_setUp, .ref q_tapes])), (q_trial, .inr (2, [.int f_trial_a, .int f_trial_b, .int f_trial_x, .int f_trial_y]))] sz) := by
  refine Met.ofW (cc := cX8_happen) (maxL := 3) (ret := none) (by decide) rfl ?_
  intro p e s m args below meth c s₁ B hml hv
  obtain ⟨rfl, hsz, hP, hK, hD0, hN⟩ := hv
  have hx := B.exec
  have hb := B.bytes
  have hr := B.returns
  have htA : ∀ w ∈ AW, w.before _ s = true := fun w h => atoms_spec (ws := Cond.code yX8_happen cX8_happen 3 none :: AW) B.pre w (List.mem_cons_of_mem _ h)
  have hown : s.vm.findClass RX8 = some m.cls := findClass_of_methodNamed B.named
  have hlocks := B.notSynchronized
  subst hsz
  have hD := hD0.self (sz := s.heap.size)
  generalize hAe : va_A [(q_this, .inr (8, [.ref q_now, .ref q_saved, .int f_imaged, .ref q_trial, .ref q_lowering, .ref q_counts, .ref q_expansion, .ref q_setUp, .ref q_tapes])), (q_trial, .inr (2, [.int f_trial_a, .int f_trial_b, .int f_trial_x, .int f_trial_y]))] s.heap.size = A at hD ⊢
  have hA : ∀ q : Nat, s.heap.size ≤ q → A q := fun q h => by rw [← hAe]; exact Or.inr h
  have hS : va_S A s.heap s.heap [] := va_S.rf
  have hl := lv_entry ([.ref q_this, .int p1, .int p2]) (n := 3) (Nat.le_of_ble_eq_true rfl)
  rw [lg_entry_eq]
  generalize (lg_sl ([.ref q_this, .int p1, .int p2]) ++ List.replicate (3 - (lg_sl ([.ref q_this, .int p1, .int p2])).length) Slot.unset).toArray = ls at hl ⊢
  have hl : lv_has ls 3 [(0, .ref q_this), (1, .int p1), (2, .int p2)] := hl
  have hP : va_P G vwCl [(q_this, .inr (8, [.ref q_now, .ref q_saved, .int f_imaged, .ref q_trial, .ref q_lowering, .ref q_counts, .ref q_expansion, .ref q_setUp, .ref q_tapes])), (q_trial, .inr (2, [.int f_trial_a, .int f_trial_b, .int f_trial_x, .int f_trial_y]))] s.heap := hP
  have hf : ((if p1 = 0 then (fX2_carryBy p2 f_trial_a f_trial_b f_trial_x f_trial_y).bind fun q9 => (some (f_trial_a, f_trial_b, q9.2.1, q9.2.2)) else (if p1 = 1 then some (p2, f_trial_b, f_trial_x, f_trial_y) else (fX2_swap f_trial_a f_trial_b f_trial_x f_trial_y).bind fun q36 => (some (q36.1, q36.2.1, q36.2.2.1, q36.2.2.2)))) : Option (Int32 × Int32 × Int32 × Int32)) = some o := hf
  refine lv_iload_n hx hb dX8_happen_0 rfl (lv_at hl 1 rfl) ?_
  refine lv_if_ne (tgt := 16) hx hb dX8_happen_1 (by decide) (fun c_17 => ?_) (fun c_17 => ?_)
  · have hf := ite_f c_17 hf
    refine lv_iload_n hx hb dX8_happen_16 rfl (lv_at hl 1 rfl) ?_
    refine lv_iconst (v := 1) hx hb dX8_happen_17 (by decide) ?_
    refine lv_icmp_ne (tgt := 32) hx hb dX8_happen_18 (by decide) (fun c_18 => ?_) (fun c_18 => ?_)
    · have hf := ite_f c_18 hf
      refine lv_aload_n hx hb dX8_happen_32 rfl (lv_at hl 0 rfl) ?_
      refine va_get (D := G) (ci := 8) (v := .ref q_trial) (C := RX8) (T := TX8) (N := 9) hx hb htA lyX8 hown hK hP 0 rfl rfl 3 (by decide) (htA _ a_fl_X8_28) (fun _ h9 => h9) rfl dX8_happen_33 ?_
      obtain ⟨q36, h36_19, hf⟩ := bd_s hf
      refine u_callv [(q_this, .inr (8, [.ref q_now, .ref q_saved, .int f_imaged, .ref q_trial, .ref q_lowering, .ref q_counts, .ref q_expansion, .ref q_setUp, .ref q_tapes])), (q_trial, .inr (2, [.int q36.1, .int q36.2.1, .int q36.2.2.1, .int q36.2.2.2]))] (va_runV (As := []) (rest := []) ⟨hx, hb, hml, hown, htA⟩ (kX2_swap l G cy q_trial s.heap.size f_trial_a f_trial_b f_trial_x f_trial_y h36_19) (u_cwV htA a_ml_X8_253 pk_X2_swap ⟨Nat.le_of_ble_eq_true rfl, Nat.le_of_ble_eq_true rfl⟩) (u_preV hK hN hP hD [1] rfl (by decide) 1 rfl rfl) rfl rfl hl.1 rfl (lv_room (Nat.le_of_ble_eq_true rfl)) dX8_happen_36 ⟨Nat.zero_le _, Nat.zero_le _⟩) hP hD hS hA [1] rfl [0] 2 rfl rfl rfl (by decide) rfl (fun H locs hP hD hS => ?_)
      have ho := Option.some.inj hf
      subst ho
      exact W.vret hx hb hr (fun t ht hW => ⟨⟨(), rfl, trivial, by rw [ht]; exact hP, va_K.moved hW.alike hK, hD⟩, hS.F ht⟩) hS.2.2 dX8_happen_39
    · have hf := ite_t c_18 hf
      refine lv_aload_n hx hb dX8_happen_21 rfl (lv_at hl 0 rfl) ?_
      refine va_get (D := G) (ci := 8) (v := .ref q_trial) (C := RX8) (T := TX8) (N := 9) hx hb htA lyX8 hown hK hP 0 rfl rfl 3 (by decide) (htA _ a_fl_X8_28) (fun _ h9 => h9) rfl dX8_happen_22 ?_
      refine lv_iload_n hx hb dX8_happen_25 rfl (lv_at hl 2 rfl) ?_
      refine va_putN (D := G) (ci := 2) (v := .int p2) (ty := tyX2 0) (C := RX2) (T := TX2) (N := 4) hx hb htA lyX2 tyX2 tyX2_ok nmX2 hown hK hP hD hS 1 rfl rfl 0 (by decide) (u_link hN (List.mem_of_getElem? (i := 2) rfl)) (fun _ h9 => h9) rfl (tyX2_ok 0 (by decide)) rfl rfl (Nat.le_of_ble_eq_true rfl) dX8_happen_26 (fun H locs hP hD hS => ?_)
      have hP : va_P G vwCl [(q_this, .inr (8, [.ref q_now, .ref q_saved, .int f_imaged, .ref q_trial, .ref q_lowering, .ref q_counts, .ref q_expansion, .ref q_setUp, .ref q_tapes])), (q_trial, .inr (2, [.int p2, .int f_trial_b, .int f_trial_x, .int f_trial_y]))] H := hP
      have hD : va_D A [(q_this, .inr (8, [.ref q_now, .ref q_saved, .int f_imaged, .ref q_trial, .ref q_lowering, .ref q_counts, .ref q_expansion, .ref q_setUp, .ref q_tapes])), (q_trial, .inr (2, [.int p2, .int f_trial_b, .int f_trial_x, .int f_trial_y]))] := hD
      refine lv_goto (tgt := 39) hx hb dX8_happen_29 (by decide) ?_
      have ho := Option.some.inj hf
      subst ho
      exact W.vret hx hb hr (fun t ht hW => ⟨⟨(), rfl, trivial, by rw [ht]; exact hP, va_K.moved hW.alike hK, hD⟩, hS.F ht⟩) hS.2.2 dX8_happen_39
  · have hf := ite_t c_17 hf
    refine lv_aload_n hx hb dX8_happen_4 rfl (lv_at hl 0 rfl) ?_
    refine va_get (D := G) (ci := 8) (v := .ref q_trial) (C := RX8) (T := TX8) (N := 9) hx hb htA lyX8 hown hK hP 0 rfl rfl 3 (by decide) (htA _ a_fl_X8_28) (fun _ h9 => h9) rfl dX8_happen_5 ?_
    refine lv_iload_n hx hb dX8_happen_8 rfl (lv_at hl 2 rfl) ?_
    obtain ⟨q9, h9_20, hf⟩ := bd_s hf
    refine u_calli [(q_this, .inr (8, [.ref q_now, .ref q_saved, .int f_imaged, .ref q_trial, .ref q_lowering, .ref q_counts, .ref q_expansion, .ref q_setUp, .ref q_tapes])), (q_trial, .inr (2, [.int f_trial_a, .int f_trial_b, .int q9.2.1, .int q9.2.2]))] (va_runV (As := [.int p2]) (rest := []) ⟨hx, hb, hml, hown, htA⟩ (kX2_carryBy l G cy q_trial s.heap.size f_trial_a f_trial_b f_trial_x f_trial_y p2 h9_20) (u_cwV htA a_ml_X8_101 pk_X2_carryBy ⟨Nat.le_of_ble_eq_true rfl, Nat.le_of_ble_eq_true rfl⟩) (u_preV hK hN hP hD [1] rfl (by decide) 1 rfl rfl) rfl rfl hl.1 rfl (lv_room (Nat.le_of_ble_eq_true rfl)) dX8_happen_9 ⟨Nat.zero_le _, Nat.zero_le _⟩) hP hD hS hA [1] rfl [0] 2 rfl rfl rfl (by decide) rfl (fun H locs hP hD hS => ?_)
    refine lv_pop hx hb dX8_happen_12 rfl ?_
    refine lv_goto (tgt := 39) hx hb dX8_happen_13 (by decide) ?_
    have ho := Option.some.inj hf
    subst ho
    exact W.vret hx hb hr (fun t ht hW => ⟨⟨(), rfl, trivial, by rw [ht]; exact hP, va_K.moved hW.alike hK, hD⟩, hS.F ht⟩) hS.2.2 dX8_happen_39
set_option maxRecDepth 100000 in
set_option maxHeartbeats 4000000 in
theorem wX8_after_29 {p : Program} {l : Launch} {e : Env} {s : State} {m : MethodId} {args : Array Value} {below : List Frame} {meth : Method} {c : Code} {G : va_G} {cy : Nat → ClassId} {A : Nat → Prop} {q_this : Nat} {q_now : Nat} {q_saved : Nat} {q_trial : Nat} {q_lowering : Nat} {q_counts : Nat} {q_expansion : Nat} {q_setUp : Nat} {q_tapes : Nat} {q_now_ground : Nat} {q_now_notes : Nat} {q_now_seen : Nat} {q_now_events : Nat} {q_now_book : Nat} {q_now_events_cells : Nat} {n_now_events_cells : Nat} {f_imaged : Int32} {f_now_ground_a : Int32} {f_now_ground_b : Int32} {f_now_ground_x : Int32} {f_now_ground_y : Int32} {f_now_events_limit : Int32} {f_now_events_used : Int32} {f_now_events_cells : Nat → Int32} {n : Nat} {o : Int64 × Int32 × Int32 × Int32 × Int32 × Int32 × Int32 × Int32 × Int32} (C : Cx p s m args meth c cX8_after 3 (some .long) RX8 G cy A) : ∀ k29 : Nat, ∀ (v1 : Int32) (v2 : Int32) (f_trial_a : Int32) (f_trial_b : Int32) (f_trial_x : Int32) (f_trial_y : Int32) (f_lowering_x : Int32) (f_lowering_y : Int32) (f_lowering_steps : Int32) (f_lowering_metLetter : Int32) (H : Heap) (locs : List Loc) (ls : Array Slot), va_P G vwCl [(q_this, .inr (8, [.ref q_now, .ref q_saved, .int f_imaged, .ref q_trial, .ref q_lowering, .ref q_counts, .ref q_expansion, .ref q_setUp, .ref q_tapes])), (q_now, .inr (6, [.ref q_now_ground, .ref q_now_notes, .ref q_now_seen, .ref q_now_events, .ref q_now_book])), (q_now_ground, .inr (2, [.int f_now_ground_a, .int f_now_ground_b, .int f_now_ground_x, .int f_now_ground_y])), (q_now_events, .inr (4, [.int f_now_events_limit, .ref q_now_events_cells, .int f_now_events_used])), (q_now_events_cells, .inl (cy 0, n_now_events_cells, .inl f_now_events_cells)), (q_trial, .inr (2, [.int f_trial_a, .int f_trial_b, .int f_trial_x, .int f_trial_y])), (q_lowering, .inr (3, [.int f_lowering_x, .int f_lowering_y, .int f_lowering_steps, .int f_lowering_metLetter]))] H → va_D A [(q_this, .inr (8, [.ref q_now, .ref q_saved, .int f_imaged, .ref q_trial, .ref q_lowering, .ref q_counts, .ref q_expansion, .ref q_setUp, .ref q_tapes])), (q_now, .inr (6, [.ref q_now_ground, .ref q_now_notes, .ref q_now_seen, .ref q_now_events, .ref q_now_book])), (q_now_ground, .inr (2, [.int f_now_ground_a, .int f_now_ground_b, .int f_now_ground_x, .int f_now_ground_y])), (q_now_events, .inr (4, [.int f_now_events_limit, .ref q_now_events_cells, .int f_now_events_used])), (q_now_events_cells, .inl (cy 0, n_now_events_cells, .inl f_now_events_cells)), (q_trial, .inr (2, [.int f_trial_a, .int f_trial_b, .int f_trial_x, .int f_trial_y])), (q_lowering, .inr (3, [.int f_lowering_x, .int f_lowering_y, .int f_lowering_steps, .int f_lowering_metLetter]))] → va_S A s.heap H locs → lv_has ls 3 [(0, .ref q_this), (1, .int v1), (2, .int v2)] → lX8_after_29 n n_now_events_cells f_now_events_used f_now_events_cells k29 v1 v2 f_trial_a f_trial_b f_trial_x f_trial_y f_lowering_x f_lowering_y f_lowering_steps f_lowering_metLetter = some o → W p l e (headSpec (Cond.code yX8_after cX8_after 3 (some .long) :: AW) ({ frames := 4, cells := 0, slots := 0, locals := 88 } : Room)).room s m args below meth c H locs 0 0 (MQ below (va_Ql (fun r (_ : Unit) => r = o.1) (fun _ => Wq G cy A [(q_this, .inr (8, [.ref q_now, .ref q_saved, .int f_imaged, .ref q_trial, .ref q_lowering, .ref q_counts, .ref q_expansion, .ref q_setUp, .ref q_tapes])), (q_now, .inr (6, [.ref q_now_ground, .ref q_now_notes, .ref q_now_seen, .ref q_now_events, .ref q_now_book])), (q_now_ground, .inr (2, [.int f_now_ground_a, .int f_now_ground_b, .int f_now_ground_x, .int f_now_ground_y])), (q_now_events, .inr (4, [.int f_now_events_limit, .ref q_now_events_cells, .int f_now_events_used])), (q_now_events_cells, .inl (cy 0, n_now_events_cells, .inl f_now_events_cells)), (q_trial, .inr (2, [.int o.2.1, .int o.2.2.1, .int o.2.2.2.1, .int o.2.2.2.2.1])), (q_lowering, .inr (3, [.int o.2.2.2.2.2.1, .int o.2.2.2.2.2.2.1, .int o.2.2.2.2.2.2.2.1, .int o.2.2.2.2.2.2.2.2]))]) A) args s 0 0 A) (F0 m 29 ls []) := by
  have C0 := C
  obtain ⟨hx, hb, hr, hml, htA, hown, hK, hN, hA, hlocks⟩ := C
  intro k29
  induction k29 with
  | zero =>
    intro v1 v2 f_trial_a f_trial_b f_trial_x f_trial_y f_lowering_x f_lowering_y f_lowering_steps f_lowering_metLetter H locs ls hP hD hS hl hf
    exact no_s hf
  | succ k29 ih29 =>
    intro v1 v2 f_trial_a f_trial_b f_trial_x f_trial_y f_lowering_x f_lowering_y f_lowering_steps f_lowering_metLetter H locs ls hP hD hS hl hf
    have hf : ((fX4_size f_now_events_used).bind fun q37 => ((if q37 ≤ v2 then (if v1 = 0 then (fX3_sortOf n f_trial_a f_trial_b f_trial_x f_trial_y f_lowering_x f_lowering_y f_lowering_steps f_lowering_metLetter).bind fun q113 => (some ((Int32.toInt64 q113.1), f_trial_a, f_trial_b, f_trial_x, f_trial_y, q113.2.1, q113.2.2.1, q113.2.2.2.1, q113.2.2.2.2)) else (if v1 = 1 then (fX8_kindOf f_trial_a f_trial_b).bind fun q137 => (some ((Int32.toInt64 q137), f_trial_a, f_trial_b, f_trial_x, f_trial_y, f_lowering_x, f_lowering_y, f_lowering_steps, f_lowering_metLetter)) else (fX8_normOf f_trial_a f_trial_b f_trial_x f_trial_y).bind fun q172 => (some (q172, f_trial_a, f_trial_b, f_trial_x, f_trial_y, f_lowering_x, f_lowering_y, f_lowering_steps, f_lowering_metLetter)))) else (fX4_cell v2 0 n_now_events_cells f_now_events_used f_now_events_cells).bind fun q53 => ((fX4_cell v2 1 n_now_events_cells f_now_events_used f_now_events_cells).bind fun q65 => ((fX8_happen q53 q65 f_trial_a f_trial_b f_trial_x f_trial_y).bind fun q68 => (lX8_after_29 n n_now_events_cells f_now_events_used f_now_events_cells k29 v1 (v2 + 1) q68.1 q68.2.1 q68.2.2.1 q68.2.2.2 f_lowering_x f_lowering_y f_lowering_steps f_lowering_metLetter))))) : Option (Int64 × Int32 × Int32 × Int32 × Int32 × Int32 × Int32 × Int32 × Int32)) = some o := hf
    refine lv_iload_n hx hb dX8_after_29 rfl (lv_at hl 2 rfl) ?_
    refine lv_aload_n hx hb dX8_after_30 rfl (lv_at hl 0 rfl) ?_
    refine va_get (D := G) (ci := 8) (v := .ref q_now) (C := RX8) (T := TX8) (N := 9) hx hb htA lyX8 hown hK hP 0 rfl rfl 0 (by decide) (htA _ a_fl_X8_14) (fun _ h9 => h9) rfl dX8_after_31 ?_
    refine va_getN (D := G) (ci := 6) (v := .ref q_now_events) (C := RX6) (T := TX6) (N := 5) hx hb htA lyX6 hown hK hP 1 rfl rfl 3 (by decide) (u_link hN (List.mem_of_getElem? (i := 9) rfl)) (fun _ h9 => h9) rfl dX8_after_34 ?_
    obtain ⟨q37, h37_53, hf⟩ := bd_s hf
    refine u_calliR (va_runV (As := []) (rest := [.int v2]) ⟨hx, hb, hml, hown, htA⟩ (kX4_size l G cy q_now_events q_now_events_cells H.size f_now_events_limit f_now_events_used h37_53) (u_cwV htA a_ml_X8_109 pk_X4_size ⟨Nat.le_of_ble_eq_true rfl, Nat.le_of_ble_eq_true rfl⟩) (u_preV hK hN hP hD [3] rfl (by decide) 3 rfl rfl) rfl rfl hl.1 rfl (lv_room (Nat.le_of_ble_eq_true rfl)) dX8_after_37 ⟨Nat.zero_le _, Nat.zero_le _⟩) hP hD hS hA [3] rfl (fun H locs hP hS => ?_)
    refine lv_icmp_ge (tgt := 77) hx hb dX8_after_40 (by decide) (fun c_54 => ?_) (fun c_54 => ?_)
    · have hf := ite_t c_54 hf
      refine lv_iload_n hx hb dX8_after_77 rfl (lv_at hl 1 rfl) ?_
      refine lv_if_ne (tgt := 118) hx hb dX8_after_78 (by decide) (fun c_55 => ?_) (fun c_55 => ?_)
      · have hf := ite_f c_55 hf
        refine lv_iload_n hx hb dX8_after_118 rfl (lv_at hl 1 rfl) ?_
        refine lv_iconst (v := 1) hx hb dX8_after_119 (by decide) ?_
        refine lv_icmp_ne (tgt := 144) hx hb dX8_after_120 (by decide) (fun c_56 => ?_) (fun c_56 => ?_)
        · have hf := ite_f c_56 hf
          refine lv_aload_n hx hb dX8_after_144 rfl (lv_at hl 0 rfl) ?_
          refine va_get (D := G) (ci := 8) (v := .ref q_trial) (C := RX8) (T := TX8) (N := 9) hx hb htA lyX8 hown hK hP 0 rfl rfl 3 (by decide) (htA _ a_fl_X8_28) (fun _ h9 => h9) rfl dX8_after_145 ?_
          refine va_getN (D := G) (ci := 2) (v := .int f_trial_a) (C := RX2) (T := TX2) (N := 4) hx hb htA lyX2 hown hK hP 5 rfl rfl 0 (by decide) (u_link hN (List.mem_of_getElem? (i := 2) rfl)) (fun _ h9 => h9) rfl dX8_after_148 ?_
          refine lv_aload_n hx hb dX8_after_151 rfl (lv_at hl 0 rfl) ?_
          refine va_get (D := G) (ci := 8) (v := .ref q_trial) (C := RX8) (T := TX8) (N := 9) hx hb htA lyX8 hown hK hP 0 rfl rfl 3 (by decide) (htA _ a_fl_X8_28) (fun _ h9 => h9) rfl dX8_after_152 ?_
          refine va_getN (D := G) (ci := 2) (v := .int f_trial_b) (C := RX2) (T := TX2) (N := 4) hx hb htA lyX2 hown hK hP 5 rfl rfl 1 (by decide) (u_link hN (List.mem_of_getElem? (i := 3) rfl)) (fun _ h9 => h9) rfl dX8_after_155 ?_
          refine lv_aload_n hx hb dX8_after_158 rfl (lv_at hl 0 rfl) ?_
          refine va_get (D := G) (ci := 8) (v := .ref q_trial) (C := RX8) (T := TX8) (N := 9) hx hb htA lyX8 hown hK hP 0 rfl rfl 3 (by decide) (htA _ a_fl_X8_28) (fun _ h9 => h9) rfl dX8_after_159 ?_
          refine va_getN (D := G) (ci := 2) (v := .int f_trial_x) (C := RX2) (T := TX2) (N := 4) hx hb htA lyX2 hown hK hP 5 rfl rfl 2 (by decide) (u_link hN (List.mem_of_getElem? (i := 4) rfl)) (fun _ h9 => h9) rfl dX8_after_162 ?_
          refine lv_aload_n hx hb dX8_after_165 rfl (lv_at hl 0 rfl) ?_
          refine va_get (D := G) (ci := 8) (v := .ref q_trial) (C := RX8) (T := TX8) (N := 9) hx hb htA lyX8 hown hK hP 0 rfl rfl 3 (by decide) (htA _ a_fl_X8_28) (fun _ h9 => h9) rfl dX8_after_166 ?_
          refine va_getN (D := G) (ci := 2) (v := .int f_trial_y) (C := RX2) (T := TX2) (N := 4) hx hb htA lyX2 hown hK hP 5 rfl rfl 3 (by decide) (u_link hN (List.mem_of_getElem? (i := 5) rfl)) (fun _ h9 => h9) rfl dX8_after_169 ?_
          obtain ⟨q172, h172_57, hf⟩ := bd_s hf
          refine u_calllR (va_runS (As := [.int f_trial_a, .int f_trial_b, .int f_trial_x, .int f_trial_y]) (rest := []) ⟨hx, hb, hml, hown, htA⟩ (kX8_normOf l G cy H.size f_trial_a f_trial_b f_trial_x f_trial_y h172_57) (u_cwS htA a_ml_X8_172 pk_X8_normOf ⟨Nat.le_of_ble_eq_true rfl, Nat.le_of_ble_eq_true rfl⟩) (u_preS hK hN hP hD [] rfl (by decide)) rfl rfl hl.1 rfl (lv_room (Nat.le_of_ble_eq_true rfl)) dX8_after_172 ⟨Nat.zero_le _, Nat.zero_le _⟩) hP hD hS hA [] rfl (fun H locs hP hS => ?_)
          have ho := Option.some.inj hf
          subst ho
          exact W.lret (v := q172) hx hb hr (fun t ht hW => ⟨⟨_, (), rfl, rfl, by rw [ht]; exact hP, va_K.moved hW.alike hK, hD⟩, hS.F ht⟩) hS.2.2 dX8_after_175
        · have hf := ite_t c_56 hf
          refine lv_aload_n hx hb dX8_after_123 rfl (lv_at hl 0 rfl) ?_
          refine va_get (D := G) (ci := 8) (v := .ref q_trial) (C := RX8) (T := TX8) (N := 9) hx hb htA lyX8 hown hK hP 0 rfl rfl 3 (by decide) (htA _ a_fl_X8_28) (fun _ h9 => h9) rfl dX8_after_124 ?_
          refine va_getN (D := G) (ci := 2) (v := .int f_trial_a) (C := RX2) (T := TX2) (N := 4) hx hb htA lyX2 hown hK hP 5 rfl rfl 0 (by decide) (u_link hN (List.mem_of_getElem? (i := 2) rfl)) (fun _ h9 => h9) rfl dX8_after_127 ?_
          refine lv_aload_n hx hb dX8_after_130 rfl (lv_at hl 0 rfl) ?_
          refine va_get (D := G) (ci := 8) (v := .ref q_trial) (C := RX8) (T := TX8) (N := 9) hx hb htA lyX8 hown hK hP 0 rfl rfl 3 (by decide) (htA _ a_fl_X8_28) (fun _ h9 => h9) rfl dX8_after_131 ?_
          refine va_getN (D := G) (ci := 2) (v := .int f_trial_b) (C := RX2) (T := TX2) (N := 4) hx hb htA lyX2 hown hK hP 5 rfl rfl 1 (by decide) (u_link hN (List.mem_of_getElem? (i := 3) rfl)) (fun _ h9 => h9) rfl dX8_after_134 ?_
          obtain ⟨q137, h137_58, hf⟩ := bd_s hf
          refine u_calliR (va_runS (As := [.int f_trial_a, .int f_trial_b]) (rest := []) ⟨hx, hb, hml, hown, htA⟩ (kX8_kindOf l G cy H.size f_trial_a f_trial_b h137_58) (u_cwS htA a_ml_X8_167 pk_X8_kindOf ⟨Nat.le_of_ble_eq_true rfl, Nat.le_of_ble_eq_true rfl⟩) (u_preS hK hN hP hD [] rfl (by decide)) rfl rfl hl.1 rfl (lv_room (Nat.le_of_ble_eq_true rfl)) dX8_after_137 ⟨Nat.zero_le _, Nat.zero_le _⟩) hP hD hS hA [] rfl (fun H locs hP hS => ?_)
          refine lv_i2l hx hb dX8_after_140 rfl ?_
          refine lv_goto (tgt := 175) hx hb dX8_after_141 (by decide) ?_
          have ho := Option.some.inj hf
          subst ho
          exact W.lret (v := (Int32.toInt64 q137)) hx hb hr (fun t ht hW => ⟨⟨_, (), rfl, rfl, by rw [ht]; exact hP, va_K.moved hW.alike hK, hD⟩, hS.F ht⟩) hS.2.2 dX8_after_175
      · have hf := ite_t c_55 hf
        refine lv_aload_n hx hb dX8_after_81 rfl (lv_at hl 0 rfl) ?_
        refine va_get (D := G) (ci := 8) (v := .ref q_lowering) (C := RX8) (T := TX8) (N := 9) hx hb htA lyX8 hown hK hP 0 rfl rfl 4 (by decide) (htA _ a_fl_X8_35) (fun _ h9 => h9) rfl dX8_after_82 ?_
        refine lv_aload_n hx hb dX8_after_85 rfl (lv_at hl 0 rfl) ?_
        refine va_get (D := G) (ci := 8) (v := .ref q_trial) (C := RX8) (T := TX8) (N := 9) hx hb htA lyX8 hown hK hP 0 rfl rfl 3 (by decide) (htA _ a_fl_X8_28) (fun _ h9 => h9) rfl dX8_after_86 ?_
        refine va_getN (D := G) (ci := 2) (v := .int f_trial_a) (C := RX2) (T := TX2) (N := 4) hx hb htA lyX2 hown hK hP 5 rfl rfl 0 (by decide) (u_link hN (List.mem_of_getElem? (i := 2) rfl)) (fun _ h9 => h9) rfl dX8_after_89 ?_
        refine lv_aload_n hx hb dX8_after_92 rfl (lv_at hl 0 rfl) ?_
        refine va_get (D := G) (ci := 8) (v := .ref q_trial) (C := RX8) (T := TX8) (N := 9) hx hb htA lyX8 hown hK hP 0 rfl rfl 3 (by decide) (htA _ a_fl_X8_28) (fun _ h9 => h9) rfl dX8_after_93 ?_
        refine va_getN (D := G) (ci := 2) (v := .int f_trial_b) (C := RX2) (T := TX2) (N := 4) hx hb htA lyX2 hown hK hP 5 rfl rfl 1 (by decide) (u_link hN (List.mem_of_getElem? (i := 3) rfl)) (fun _ h9 => h9) rfl dX8_after_96 ?_
        refine lv_aload_n hx hb dX8_after_99 rfl (lv_at hl 0 rfl) ?_
        refine va_get (D := G) (ci := 8) (v := .ref q_trial) (C := RX8) (T := TX8) (N := 9) hx hb htA lyX8 hown hK hP 0 rfl rfl 3 (by decide) (htA _ a_fl_X8_28) (fun _ h9 => h9) rfl dX8_after_100 ?_
        refine va_getN (D := G) (ci := 2) (v := .int f_trial_x) (C := RX2) (T := TX2) (N := 4) hx hb htA lyX2 hown hK hP 5 rfl rfl 2 (by decide) (u_link hN (List.mem_of_getElem? (i := 4) rfl)) (fun _ h9 => h9) rfl dX8_after_103 ?_
        refine lv_aload_n hx hb dX8_after_106 rfl (lv_at hl 0 rfl) ?_
        refine va_get (D := G) (ci := 8) (v := .ref q_trial) (C := RX8) (T := TX8) (N := 9) hx hb htA lyX8 hown hK hP 0 rfl rfl 3 (by decide) (htA _ a_fl_X8_28) (fun _ h9 => h9) rfl dX8_after_107 ?_
        refine va_getN (D := G) (ci := 2) (v := .int f_trial_y) (C := RX2) (T := TX2) (N := 4) hx hb htA lyX2 hown hK hP 5 rfl rfl 3 (by decide) (u_link hN (List.mem_of_getElem? (i := 5) rfl)) (fun _ h9 => h9) rfl dX8_after_110 ?_
        obtain ⟨q113, h113_59, hf⟩ := bd_s hf
        refine u_calli [(q_this, .inr (8, [.ref q_now, .ref q_saved, .int f_imaged, .ref q_trial, .ref q_lowering, .ref q_counts, .ref q_expansion, .ref q_setUp, .ref q_tapes])), (q_now, .inr (6, [.ref q_now_ground, .ref q_now_notes, .ref q_now_seen, .ref q_now_events, .ref q_now_book])), (q_now_ground, .inr (2, [.int f_now_ground_a, .int f_now_ground_b, .int f_now_ground_x, .int f_now_ground_y])), (q_now_events, .inr (4, [.int f_now_events_limit, .ref q_now_events_cells, .int f_now_events_used])), (q_now_events_cells, .inl (cy 0, n_now_events_cells, .inl f_now_events_cells)), (q_trial, .inr (2, [.int f_trial_a, .int f_trial_b, .int f_trial_x, .int f_trial_y])), (q_lowering, .inr (3, [.int q113.2.1, .int q113.2.2.1, .int q113.2.2.2.1, .int q113.2.2.2.2]))] (va_runV (As := [.int f_trial_a, .int f_trial_b, .int f_trial_x, .int f_trial_y]) (rest := []) ⟨hx, hb, hml, hown, htA⟩ (kX3_sortOf l G cy q_lowering H.size f_lowering_x f_lowering_y f_lowering_steps f_lowering_metLetter f_trial_a f_trial_b f_trial_x f_trial_y n h113_59) (u_cwV htA a_ml_X8_244 pk_X3_sortOf ⟨Nat.le_of_ble_eq_true rfl, Nat.le_of_ble_eq_true rfl⟩) (u_preV hK hN hP hD [6] rfl (by decide) 6 rfl rfl) rfl rfl hl.1 rfl (lv_room (Nat.le_of_ble_eq_true rfl)) dX8_after_113 ⟨Nat.zero_le _, Nat.zero_le _⟩) hP hD hS hA [6] rfl [0, 1, 2, 3, 4, 5] 7 rfl rfl rfl (by decide) rfl (fun H locs hP hD hS => ?_)
        refine lv_i2l hx hb dX8_after_116 rfl ?_
        have ho := Option.some.inj hf
        subst ho
        exact W.lret (v := (Int32.toInt64 q113.1)) hx hb hr (fun t ht hW => ⟨⟨_, (), rfl, rfl, by rw [ht]; exact hP, va_K.moved hW.alike hK, hD⟩, hS.F ht⟩) hS.2.2 dX8_after_117
    · have hf := ite_f c_54 hf
      refine lv_aload_n hx hb dX8_after_43 rfl (lv_at hl 0 rfl) ?_
      refine lv_aload_n hx hb dX8_after_44 rfl (lv_at hl 0 rfl) ?_
      refine va_get (D := G) (ci := 8) (v := .ref q_now) (C := RX8) (T := TX8) (N := 9) hx hb htA lyX8 hown hK hP 0 rfl rfl 0 (by decide) (htA _ a_fl_X8_14) (fun _ h9 => h9) rfl dX8_after_45 ?_
      refine va_getN (D := G) (ci := 6) (v := .ref q_now_events) (C := RX6) (T := TX6) (N := 5) hx hb htA lyX6 hown hK hP 1 rfl rfl 3 (by decide) (u_link hN (List.mem_of_getElem? (i := 9) rfl)) (fun _ h9 => h9) rfl dX8_after_48 ?_
      refine lv_iload_n hx hb dX8_after_51 rfl (lv_at hl 2 rfl) ?_
      refine lv_iconst (v := 0) hx hb dX8_after_52 (by decide) ?_
      obtain ⟨q53, h53_60, hf⟩ := bd_s hf
      refine u_calliR (va_runV (As := [.int v2, .int 0]) (rest := [.ref q_this]) ⟨hx, hb, hml, hown, htA⟩ (kX4_cell l G cy q_now_events q_now_events_cells H.size n_now_events_cells f_now_events_limit f_now_events_used f_now_events_cells v2 0 h53_60) (u_cwV htA a_ml_X8_114 pk_X4_cell ⟨Nat.le_of_ble_eq_true rfl, Nat.le_of_ble_eq_true rfl⟩) (u_preV hK hN hP hD [3, 4] rfl (by decide) 3 rfl rfl) rfl rfl hl.1 rfl (lv_room (Nat.le_of_ble_eq_true rfl)) dX8_after_53 ⟨Nat.zero_le _, Nat.zero_le _⟩) hP hD hS hA [3, 4] rfl (fun H locs hP hS => ?_)
      refine lv_aload_n hx hb dX8_after_56 rfl (lv_at hl 0 rfl) ?_
      refine va_get (D := G) (ci := 8) (v := .ref q_now) (C := RX8) (T := TX8) (N := 9) hx hb htA lyX8 hown hK hP 0 rfl rfl 0 (by decide) (htA _ a_fl_X8_14) (fun _ h9 => h9) rfl dX8_after_57 ?_
      refine va_getN (D := G) (ci := 6) (v := .ref q_now_events) (C := RX6) (T := TX6) (N := 5) hx hb htA lyX6 hown hK hP 1 rfl rfl 3 (by decide) (u_link hN (List.mem_of_getElem? (i := 9) rfl)) (fun _ h9 => h9) rfl dX8_after_60 ?_
      refine lv_iload_n hx hb dX8_after_63 rfl (lv_at hl 2 rfl) ?_
      refine lv_iconst (v := 1) hx hb dX8_after_64 (by decide) ?_
      obtain ⟨q65, h65_61, hf⟩ := bd_s hf
      refine u_calliR (va_runV (As := [.int v2, .int 1]) (rest := [.int q53, .ref q_this]) ⟨hx, hb, hml, hown, htA⟩ (kX4_cell l G cy q_now_events q_now_events_cells H.size n_now_events_cells f_now_events_limit f_now_events_used f_now_events_cells v2 1 h65_61) (u_cwV htA a_ml_X8_114 pk_X4_cell ⟨Nat.le_of_ble_eq_true rfl, Nat.le_of_ble_eq_true rfl⟩) (u_preV hK hN hP hD [3, 4] rfl (by decide) 3 rfl rfl) rfl rfl hl.1 rfl (lv_room (Nat.le_of_ble_eq_true rfl)) dX8_after_65 ⟨Nat.zero_le _, Nat.zero_le _⟩) hP hD hS hA [3, 4] rfl (fun H locs hP hS => ?_)
      obtain ⟨q68, h68_62, hf⟩ := bd_s hf
      refine u_callv [(q_this, .inr (8, [.ref q_now, .ref q_saved, .int f_imaged, .ref q_trial, .ref q_lowering, .ref q_counts, .ref q_expansion, .ref q_setUp, .ref q_tapes])), (q_now, .inr (6, [.ref q_now_ground, .ref q_now_notes, .ref q_now_seen, .ref q_now_events, .ref q_now_book])), (q_now_ground, .inr (2, [.int f_now_ground_a, .int f_now_ground_b, .int f_now_ground_x, .int f_now_ground_y])), (q_now_events, .inr (4, [.int f_now_events_limit, .ref q_now_events_cells, .int f_now_events_used])), (q_now_events_cells, .inl (cy 0, n_now_events_cells, .inl f_now_events_cells)), (q_trial, .inr (2, [.int q68.1, .int q68.2.1, .int q68.2.2.1, .int q68.2.2.2])), (q_lowering, .inr (3, [.int f_lowering_x, .int f_lowering_y, .int f_lowering_steps, .int f_lowering_metLetter]))] (va_runV (As := [.int q53, .int q65]) (rest := []) ⟨hx, hb, hml, hown, htA⟩ (kX8_happen l G cy q_this q_now q_saved q_trial q_lowering q_counts q_expansion q_setUp q_tapes H.size f_imaged f_trial_a f_trial_b f_trial_x f_trial_y q53 q65 h68_62) (u_cwV htA a_ml_X8_250 pk_X8_happen ⟨Nat.le_of_ble_eq_true rfl, Nat.le_of_ble_eq_true rfl⟩) (u_preV hK hN hP hD [0, 5] rfl (by decide) 0 rfl rfl) rfl rfl hl.1 rfl (lv_room (Nat.le_of_ble_eq_true rfl)) dX8_after_68 ⟨Nat.zero_le _, Nat.zero_le _⟩) hP hD hS hA [0, 5] rfl [1, 2, 3, 4, 6] 7 rfl rfl rfl (by decide) rfl (fun H locs hP hD hS => ?_)
      refine lv_iinc (v := (v2 + 1)) (lv' := [(2, .int (v2 + 1)), (0, .ref q_this), (1, .int v1)]) hx hb dX8_after_71 hl (k := 2) rfl rfl (by decide) rfl (fun ls hl => ?_)
      refine lv_goto (tgt := 29) hx hb dX8_after_74 (by decide) ?_
      exact ih29 _ _ _ _ _ _ _ _ _ _ _ _ _ hP hD hS (lv_sub hl [1, 2, 0] rfl) hf
set_option maxRecDepth 100000 in
set_option maxHeartbeats 4000000 in
theorem kX8_after (l : Launch) (G : va_G) (cy : Nat → ClassId) (q_this : Nat) (q_now : Nat) (q_saved : Nat) (q_trial : Nat) (q_lowering : Nat) (q_counts : Nat) (q_expansion : Nat) (q_setUp : Nat) (q_tapes : Nat) (q_now_ground : Nat) (q_now_notes : Nat) (q_now_seen : Nat) (q_now_events : Nat) (q_now_book : Nat) (q_now_events_cells : Nat) (sz : Nat) (n_now_events_cells : Nat) (f_imaged : Int32) (f_now_ground_a : Int32) (f_now_ground_b : Int32) (f_now_ground_x : Int32) (f_now_ground_y : Int32) (f_now_events_limit : Int32) (f_now_events_used : Int32) (f_now_events_cells : Nat → Int32) (f_trial_a : Int32) (f_trial_b : Int32) (f_trial_x : Int32) (f_trial_y : Int32) (f_lowering_x : Int32) (f_lowering_y : Int32) (f_lowering_steps : Int32) (f_lowering_metLetter : Int32) (p1 : Int32) (n : Nat) {o : Int64 × Int32 × Int32 × Int32 × Int32 × Int32 × Int32 × Int32 × Int32} (hf : fX8_after n p1 n_now_events_cells f_now_ground_a f_now_ground_b f_now_ground_x f_now_ground_y f_now_events_used f_now_events_cells f_trial_a f_trial_b f_trial_x f_trial_y f_lowering_x f_lowering_y f_lowering_steps f_lowering_metLetter = some o) : Met l yX8_after (Cond.code yX8_after cX8_after 3 (some .long) :: AW) ({ frames := 4, cells := 0, slots := 0, locals := 88 } : Room) (va_Pc [.ref q_this, .int p1] (Wp G cy [(q_this, .inr (8, [.ref q_now, .ref q_saved, .int f_imaged, .ref q_trial, .ref q_lowering, .ref q_counts, .ref q_expansion, .ref q_setUp, .ref q_tapes])), (q_now, .inr (6, [.ref q_now_ground, .ref q_now_notes, .ref q_now_seen, .ref q_now_events, .ref q_now_book])), (q_now_ground, .inr (2, [.int f_now_ground_a, .int f_now_ground_b, .int f_now_ground_x, .int f_now_ground_y])), (q_now_events, .inr (4, [.int f_now_events_limit, .ref q_now_events_cells, .int f_now_events_used])), (q_now_events_cells, .inl (cy 0, n_now_events_cells, .inl f_now_events_cells)), (q_trial, .inr (2, [.int f_trial_a, .int f_trial_b, .int f_trial_x, .int f_trial_y])), (q_lowering, .inr (3, [.int f_lowering_x, .int f_lowering_y, .int f_lowering_steps, .int f_lowering_metLetter]))] sz)) (va_Ql (fun r (_ : Unit) => r = o.1) (fun _ => Wq G cy (va_A [(q_this, .inr (8, [.ref q_now, .ref q_saved, .int f_imaged, .ref q_trial, .ref q_lowering, .ref q_counts, .ref q_expansion, .ref q_setUp, .ref q_tapes])), (q_now, .inr (6, [.ref q_now_ground, .ref q_now_notes, .ref q_now_seen, .ref q_now_events, .ref q_now_book])), (q_now_ground, .inr (2, [.int f_now_ground_a, .int f_now_ground_b, .int f_now_ground_x, .int f_now_ground_y])), (q_now_events, .inr (4, [.int f_now_events_limit, .ref q_now_events_cells, .int f_now_events_used])), (q_now_events_cells, .inl (cy 0, n_now_events_cells, .inl f_now_events_cells)), (q_trial, .inr (2, [.int f_trial_a, .int f_trial_b, .int f_trial_x, .int f_trial_y])), (q_lowering, .inr (3, [.int f_lowering_x, .int f_lowering_y, .int f_lowering_steps, .int f_lowering_metLetter]))] sz) [(q_this, .inr (8, [.ref q_now, .ref q_saved, .int f_imaged, .ref q_trial, .ref q_lowering, .ref q_counts, .ref q_expansion, .ref q_setUp, .ref q_tapes])), (q_now, .inr (6, [.ref q_now_ground, .ref q_now_notes, .ref q_now_seen, .ref q_now_events, .ref q_now_book])), (q_now_ground, .inr (2, [.int f_now_ground_a, .int f_now_ground_b, .int f_now_ground_x, .int f_now_ground_y])), (q_now_events, .inr (4, [.int f_now_events_limit, .ref q_now_events_cells, .int f_now_events_used])), (q_now_events_cells, .inl (cy 0, n_now_events_cells, .inl f_now_events_cells)), (q_trial, .inr (2, [.int o.2.1, .int o.2.2.1, .int o.2.2.2.1, .int o.2.2.2.2.1])), (q_lowering, .inr (3, [.int o.2.2.2.2.2.1, .int o.2.2.2.2.2.2.1, .int o.2.2.2.2.2.2.2.1, .int o.2.2.2.2.2.2.2.2]))]) (va_A [(q_this, .inr (8, [.ref q_now, .ref q_saved, .int f_imaged, .ref q_trial, .ref q_lowering, .ref q_counts, .ref q_expansion, .ref q_setUp, .ref q_tapes])), (q_now, .inr (6, [.ref q_now_ground, .ref q_now_notes, .ref q_now_seen, .ref q_now_events, .ref q_now_book])), (q_now_ground, .inr (2, [.int f_now_ground_a, .int f_now_ground_b, .int f_now_ground_x, .int f_now_ground_y])), (q_now_events, .inr (4, [.int f_now_events_limit, .ref q_now_events_cells, .int f_now_events_used])), (q_now_events_cells, .inl (cy 0, n_now_events_cells, .inl f_now_events_cells)), (q_trial, .inr (2, [.int f_trial_a, .int f_trial_b, .int f_trial_x, .int f_trial_y])), (q_lowering, .inr (3, [.int f_lowering_x, .int f_lowering_y, .int f_lowering_steps, .int f_lowering_metLetter]))] sz)) 0 0 (va_A [(q_this, .inr (8, [.ref q_now, .ref q_saved, .int f_imaged, .ref q_trial, .ref q_lowering, .ref q_counts, .ref q_expansion, .ref q_setUp, .ref q_tapes])), (q_now, .inr (6, [.ref q_now_ground, .ref q_now_notes, .ref q_now_seen, .ref q_now_events, .ref q_now_book])), (q_now_ground, .inr (2, [.int f_now_ground_a, .int f_now_ground_b, .int f_now_ground_x, .int f_now_ground_y])), (q_now_events, .inr (4, [.int f_now_events_limit, .ref q_now_events_cells, .int f_now_events_used])), (q_now_events_cells, .inl (cy 0, n_now_events_cells, .inl f_now_events_cells)), (q_trial, .inr (2, [.int f_trial_a, .int f_trial_b, .int f_trial_x, .int f_trial_y])), (q_lowering, .inr (3, [.int f_lowering_x, .int f_lowering_y, .int f_lowering_steps, .int f_lowering_metLetter]))] sz) := by
  refine Met.ofW (cc := cX8_after) (maxL := 3) (ret := (some .long)) (by decide) rfl ?_
  intro p e s m args below meth c s₁ B hml hv
  obtain ⟨rfl, hsz, hP, hK, hD0, hN⟩ := hv
  have hx := B.exec
  have hb := B.bytes
  have hr := B.returns
  have htA : ∀ w ∈ AW, w.before _ s = true := fun w h => atoms_spec (ws := Cond.code yX8_after cX8_after 3 (some .long) :: AW) B.pre w (List.mem_cons_of_mem _ h)
  have hown : s.vm.findClass RX8 = some m.cls := findClass_of_methodNamed B.named
  have hlocks := B.notSynchronized
  subst hsz
  have hD := hD0.self (sz := s.heap.size)
  generalize hAe : va_A [(q_this, .inr (8, [.ref q_now, .ref q_saved, .int f_imaged, .ref q_trial, .ref q_lowering, .ref q_counts, .ref q_expansion, .ref q_setUp, .ref q_tapes])), (q_now, .inr (6, [.ref q_now_ground, .ref q_now_notes, .ref q_now_seen, .ref q_now_events, .ref q_now_book])), (q_now_ground, .inr (2, [.int f_now_ground_a, .int f_now_ground_b, .int f_now_ground_x, .int f_now_ground_y])), (q_now_events, .inr (4, [.int f_now_events_limit, .ref q_now_events_cells, .int f_now_events_used])), (q_now_events_cells, .inl (cy 0, n_now_events_cells, .inl f_now_events_cells)), (q_trial, .inr (2, [.int f_trial_a, .int f_trial_b, .int f_trial_x, .int f_trial_y])), (q_lowering, .inr (3, [.int f_lowering_x, .int f_lowering_y, .int f_lowering_steps, .int f_lowering_metLetter]))] s.heap.size = A at hD ⊢
  have hA : ∀ q : Nat, s.heap.size ≤ q → A q := fun q h => by rw [← hAe]; exact Or.inr h
  have hS : va_S A s.heap s.heap [] := va_S.rf
  have hl := lv_entry ([.ref q_this, .int p1]) (n := 3) (Nat.le_of_ble_eq_true rfl)
  rw [lg_entry_eq]
  generalize (lg_sl ([.ref q_this, .int p1]) ++ List.replicate (3 - (lg_sl ([.ref q_this, .int p1])).length) Slot.unset).toArray = ls at hl ⊢
  have hl : lv_has ls 3 [(0, .ref q_this), (1, .int p1)] := hl
  have hP : va_P G vwCl [(q_this, .inr (8, [.ref q_now, .ref q_saved, .int f_imaged, .ref q_trial, .ref q_lowering, .ref q_counts, .ref q_expansion, .ref q_setUp, .ref q_tapes])), (q_now, .inr (6, [.ref q_now_ground, .ref q_now_notes, .ref q_now_seen, .ref q_now_events, .ref q_now_book])), (q_now_ground, .inr (2, [.int f_now_ground_a, .int f_now_ground_b, .int f_now_ground_x, .int f_now_ground_y])), (q_now_events, .inr (4, [.int f_now_events_limit, .ref q_now_events_cells, .int f_now_events_used])), (q_now_events_cells, .inl (cy 0, n_now_events_cells, .inl f_now_events_cells)), (q_trial, .inr (2, [.int f_trial_a, .int f_trial_b, .int f_trial_x, .int f_trial_y])), (q_lowering, .inr (3, [.int f_lowering_x, .int f_lowering_y, .int f_lowering_steps, .int f_lowering_metLetter]))] s.heap := hP
  have C0 : Cx p s m _ meth c cX8_after 3 (some .long) RX8 G cy A := ⟨hx, hb, hr, hml, htA, hown, hK, hN, hA, hlocks⟩
  have hf : ((fX8_isIn p1 0 2).bind fun q3 => ((if q3 = 0 then some ((-9223372036854775808), f_trial_a, f_trial_b, f_trial_x, f_trial_y, f_lowering_x, f_lowering_y, f_lowering_steps, f_lowering_metLetter) else (fX2_copyFrom f_trial_a f_trial_b f_trial_x f_trial_y f_now_ground_a f_now_ground_b f_now_ground_x f_now_ground_y).bind fun q24 => (lX8_after_29 n n_now_events_cells f_now_events_used f_now_events_cells n p1 0 q24.1 q24.2.1 q24.2.2.1 q24.2.2.2 f_lowering_x f_lowering_y f_lowering_steps f_lowering_metLetter))) : Option (Int64 × Int32 × Int32 × Int32 × Int32 × Int32 × Int32 × Int32 × Int32)) = some o := hf
  refine lv_iload_n hx hb dX8_after_0 rfl (lv_at hl 1 rfl) ?_
  refine lv_iconst (v := 0) hx hb dX8_after_1 (by decide) ?_
  refine lv_iconst (v := 2) hx hb dX8_after_2 (by decide) ?_
  obtain ⟨q3, h3_63, hf⟩ := bd_s hf
  refine u_calliR (va_runS (As := [.int p1, .int 0, .int 2]) (rest := []) ⟨hx, hb, hml, hown, htA⟩ (kX8_isIn l G cy s.heap.size p1 0 2 h3_63) (u_cwS htA a_ml_X8_69 pk_X8_isIn ⟨Nat.le_of_ble_eq_true rfl, Nat.le_of_ble_eq_true rfl⟩) (u_preS hK hN hP hD [] rfl (by decide)) rfl rfl hl.1 rfl (lv_room (Nat.le_of_ble_eq_true rfl)) dX8_after_3 ⟨Nat.zero_le _, Nat.zero_le _⟩) hP hD hS hA [] rfl (fun H locs hP hS => ?_)
  refine lv_if_ne (tgt := 13) hx hb dX8_after_6 (by decide) (fun c_64 => ?_) (fun c_64 => ?_)
  · have hf := ite_f c_64 hf
    refine lv_aload_n hx hb dX8_after_13 rfl (lv_at hl 0 rfl) ?_
    refine va_get (D := G) (ci := 8) (v := .ref q_trial) (C := RX8) (T := TX8) (N := 9) hx hb htA lyX8 hown hK hP 0 rfl rfl 3 (by decide) (htA _ a_fl_X8_28) (fun _ h9 => h9) rfl dX8_after_14 ?_
    refine lv_aload_n hx hb dX8_after_17 rfl (lv_at hl 0 rfl) ?_
    refine va_get (D := G) (ci := 8) (v := .ref q_now) (C := RX8) (T := TX8) (N := 9) hx hb htA lyX8 hown hK hP 0 rfl rfl 0 (by decide) (htA _ a_fl_X8_14) (fun _ h9 => h9) rfl dX8_after_18 ?_
    refine va_getN (D := G) (ci := 6) (v := .ref q_now_ground) (C := RX6) (T := TX6) (N := 5) hx hb htA lyX6 hown hK hP 1 rfl rfl 0 (by decide) (u_link hN (List.mem_of_getElem? (i := 6) rfl)) (fun _ h9 => h9) rfl dX8_after_21 ?_
    obtain ⟨q24, h24_65, hf⟩ := bd_s hf
    refine u_callv [(q_this, .inr (8, [.ref q_now, .ref q_saved, .int f_imaged, .ref q_trial, .ref q_lowering, .ref q_counts, .ref q_expansion, .ref q_setUp, .ref q_tapes])), (q_now, .inr (6, [.ref q_now_ground, .ref q_now_notes, .ref q_now_seen, .ref q_now_events, .ref q_now_book])), (q_now_ground, .inr (2, [.int f_now_ground_a, .int f_now_ground_b, .int f_now_ground_x, .int f_now_ground_y])), (q_now_events, .inr (4, [.int f_now_events_limit, .ref q_now_events_cells, .int f_now_events_used])), (q_now_events_cells, .inl (cy 0, n_now_events_cells, .inl f_now_events_cells)), (q_trial, .inr (2, [.int q24.1, .int q24.2.1, .int q24.2.2.1, .int q24.2.2.2])), (q_lowering, .inr (3, [.int f_lowering_x, .int f_lowering_y, .int f_lowering_steps, .int f_lowering_metLetter]))] (va_runV (As := [.ref q_now_ground]) (rest := []) ⟨hx, hb, hml, hown, htA⟩ (kX2_copyFrom l G cy q_trial q_now_ground H.size f_trial_a f_trial_b f_trial_x f_trial_y f_now_ground_a f_now_ground_b f_now_ground_x f_now_ground_y h24_65) (u_cwV htA a_ml_X8_160 pk_X2_copyFrom ⟨Nat.le_of_ble_eq_true rfl, Nat.le_of_ble_eq_true rfl⟩) (u_preV hK hN hP hD [5, 2] rfl (by decide) 5 rfl rfl) rfl rfl hl.1 rfl (lv_room (Nat.le_of_ble_eq_true rfl)) dX8_after_24 ⟨Nat.zero_le _, Nat.zero_le _⟩) hP hD hS hA [5, 2] rfl [0, 1, 3, 4, 6] 7 rfl rfl rfl (by decide) rfl (fun H locs hP hD hS => ?_)
    refine lv_iconst (v := 0) hx hb dX8_after_27 (by decide) ?_
    refine lv_istore_n (lv' := [(2, .int 0), (0, .ref q_this), (1, .int p1)]) hx hb dX8_after_28 rfl hl (by decide) rfl (fun ls hl => ?_)
    exact wX8_after_29 C0 n _ _ _ _ _ _ _ _ _ _ _ _ _ hP hD hS (lv_sub hl [1, 2, 0] rfl) hf
  · have hf := ite_t c_64 hf
    refine lv_ldc2 (v := (-9223372036854775808)) hx hb hown (htA _ a_cl_X8_170) dX8_after_9 ?_
    have ho := Option.some.inj hf
    subst ho
    exact W.lret (v := (-9223372036854775808)) hx hb hr (fun t ht hW => ⟨⟨_, (), rfl, rfl, by rw [ht]; exact hP, va_K.moved hW.alike hK, hD⟩, hS.F ht⟩) hS.2.2 dX8_after_12
set_option maxRecDepth 100000 in
set_option maxHeartbeats 4000000 in
theorem kX8_book (l : Launch) (G : va_G) (cy : Nat → ClassId) (q_this : Nat) (q_now : Nat) (q_saved : Nat) (q_trial : Nat) (q_lowering : Nat) (q_counts : Nat) (q_expansion : Nat) (q_setUp : Nat) (q_tapes : Nat) (q_now_ground : Nat) (q_now_notes : Nat) (q_now_seen : Nat) (q_now_events : Nat) (q_now_book : Nat) (q_now_book_cells : Nat) (sz : Nat) (n_now_book_cells : Nat) (f_imaged : Int32) (f_now_book_limit : Int32) (f_now_book_used : Int32) (f_now_book_cells : Nat → Int32) (p1 : Int32) (p2 : Int32) (p3 : Int32) {o : Int32 × Int32 × (Nat → Int32)} (hf : fX8_book p1 p2 p3 n_now_book_cells f_now_book_limit f_now_book_used f_now_book_cells = some o) : Met l yX8_book (Cond.code yX8_book cX8_book 4 (some .int) :: AW) ({ frames := 2, cells := 0, slots := 0, locals := 42 } : Room) (va_Pc [.ref q_this, .int p1, .int p2, .int p3] (Wp G cy [(q_this, .inr (8, [.ref q_now, .ref q_saved, .int f_imaged, .ref q_trial, .ref q_lowering, .ref q_counts, .ref q_expansion, .ref q_setUp, .ref q_tapes])), (q_now, .inr (6, [.ref q_now_ground, .ref q_now_notes, .ref q_now_seen, .ref q_now_events, .ref q_now_book])), (q_now_book, .inr (4, [.int f_now_book_limit, .ref q_now_book_cells, .int f_now_book_used])), (q_now_book_cells, .inl (cy 0, n_now_book_cells, .inl f_now_book_cells))] sz)) (va_Qi (fun r (_ : Unit) => r = o.1) (fun _ => Wq G cy (va_A [(q_this, .inr (8, [.ref q_now, .ref q_saved, .int f_imaged, .ref q_trial, .ref q_lowering, .ref q_counts, .ref q_expansion, .ref q_setUp, .ref q_tapes])), (q_now, .inr (6, [.ref q_now_ground, .ref q_now_notes, .ref q_now_seen, .ref q_now_events, .ref q_now_book])), (q_now_book, .inr (4, [.int f_now_book_limit, .ref q_now_book_cells, .int f_now_book_used])), (q_now_book_cells, .inl (cy 0, n_now_book_cells, .inl f_now_book_cells))] sz) [(q_this, .inr (8, [.ref q_now, .ref q_saved, .int f_imaged, .ref q_trial, .ref q_lowering, .ref q_counts, .ref q_expansion, .ref q_setUp, .ref q_tapes])), (q_now, .inr (6, [.ref q_now_ground, .ref q_now_notes, .ref q_now_seen, .ref q_now_events, .ref q_now_book])), (q_now_book, .inr (4, [.int f_now_book_limit, .ref q_now_book_cells, .int o.2.1])), (q_now_book_cells, .inl (cy 0, n_now_book_cells, .inl o.2.2))]) (va_A [(q_this, .inr (8, [.ref q_now, .ref q_saved, .int f_imaged, .ref q_trial, .ref q_lowering, .ref q_counts, .ref q_expansion, .ref q_setUp, .ref q_tapes])), (q_now, .inr (6, [.ref q_now_ground, .ref q_now_notes, .ref q_now_seen, .ref q_now_events, .ref q_now_book])), (q_now_book, .inr (4, [.int f_now_book_limit, .ref q_now_book_cells, .int f_now_book_used])), (q_now_book_cells, .inl (cy 0, n_now_book_cells, .inl f_now_book_cells))] sz)) 0 0 (va_A [(q_this, .inr (8, [.ref q_now, .ref q_saved, .int f_imaged, .ref q_trial, .ref q_lowering, .ref q_counts, .ref q_expansion, .ref q_setUp, .ref q_tapes])), (q_now, .inr (6, [.ref q_now_ground, .ref q_now_notes, .ref q_now_seen, .ref q_now_events, .ref q_now_book])), (q_now_book, .inr (4, [.int f_now_book_limit, .ref q_now_book_cells, .int f_now_book_used])), (q_now_book_cells, .inl (cy 0, n_now_book_cells, .inl f_now_book_cells))] sz) := by
  refine Met.ofW (cc := cX8_book) (maxL := 4) (ret := (some .int)) (by decide) rfl ?_
  intro p e s m args below meth c s₁ B hml hv
  obtain ⟨rfl, hsz, hP, hK, hD0, hN⟩ := hv
  have hx := B.exec
  have hb := B.bytes
  have hr := B.returns
  have htA : ∀ w ∈ AW, w.before _ s = true := fun w h => atoms_spec (ws := Cond.code yX8_book cX8_book 4 (some .int) :: AW) B.pre w (List.mem_cons_of_mem _ h)
  have hown : s.vm.findClass RX8 = some m.cls := findClass_of_methodNamed B.named
  have hlocks := B.notSynchronized
  subst hsz
  have hD := hD0.self (sz := s.heap.size)
  generalize hAe : va_A [(q_this, .inr (8, [.ref q_now, .ref q_saved, .int f_imaged, .ref q_trial, .ref q_lowering, .ref q_counts, .ref q_expansion, .ref q_setUp, .ref q_tapes])), (q_now, .inr (6, [.ref q_now_ground, .ref q_now_notes, .ref q_now_seen, .ref q_now_events, .ref q_now_book])), (q_now_book, .inr (4, [.int f_now_book_limit, .ref q_now_book_cells, .int f_now_book_used])), (q_now_book_cells, .inl (cy 0, n_now_book_cells, .inl f_now_book_cells))] s.heap.size = A at hD ⊢
  have hA : ∀ q : Nat, s.heap.size ≤ q → A q := fun q h => by rw [← hAe]; exact Or.inr h
  have hS : va_S A s.heap s.heap [] := va_S.rf
  have hl := lv_entry ([.ref q_this, .int p1, .int p2, .int p3]) (n := 4) (Nat.le_of_ble_eq_true rfl)
  rw [lg_entry_eq]
  generalize (lg_sl ([.ref q_this, .int p1, .int p2, .int p3]) ++ List.replicate (4 - (lg_sl ([.ref q_this, .int p1, .int p2, .int p3])).length) Slot.unset).toArray = ls at hl ⊢
  have hl : lv_has ls 4 [(0, .ref q_this), (1, .int p1), (2, .int p2), (3, .int p3)] := hl
  have hP : va_P G vwCl [(q_this, .inr (8, [.ref q_now, .ref q_saved, .int f_imaged, .ref q_trial, .ref q_lowering, .ref q_counts, .ref q_expansion, .ref q_setUp, .ref q_tapes])), (q_now, .inr (6, [.ref q_now_ground, .ref q_now_notes, .ref q_now_seen, .ref q_now_events, .ref q_now_book])), (q_now_book, .inr (4, [.int f_now_book_limit, .ref q_now_book_cells, .int f_now_book_used])), (q_now_book_cells, .inl (cy 0, n_now_book_cells, .inl f_now_book_cells))] s.heap := hP
  have hf : ((if p1 = (-1) then (fX4_clear f_now_book_used).bind fun q12 => (some (0, q12, f_now_book_cells)) else (fX8_isCountable p1 p2).bind fun q19 => ((if q19 = 0 then some ((-2), f_now_book_used, f_now_book_cells) else (fX8_isIn p3 0 999).bind fun q30 => ((if q30 = 0 then some ((-2), f_now_book_used, f_now_book_cells) else (fX4_put p1 p2 p3 n_now_book_cells f_now_book_limit f_now_book_used f_now_book_cells).bind fun q49 => (some (q49.1, q49.2.1, q49.2.2))))))) : Option (Int32 × Int32 × (Nat → Int32))) = some o := hf
  refine lv_iload_n hx hb dX8_book_0 rfl (lv_at hl 1 rfl) ?_
  refine lv_iconst (v := (-1)) hx hb dX8_book_1 (by decide) ?_
  refine lv_icmp_ne (tgt := 17) hx hb dX8_book_2 (by decide) (fun c_29 => ?_) (fun c_29 => ?_)
  · have hf := ite_f c_29 hf
    refine lv_iload_n hx hb dX8_book_17 rfl (lv_at hl 1 rfl) ?_
    refine lv_iload_n hx hb dX8_book_18 rfl (lv_at hl 2 rfl) ?_
    obtain ⟨q19, h19_30, hf⟩ := bd_s hf
    refine u_calliR (va_runS (As := [.int p1, .int p2]) (rest := []) ⟨hx, hb, hml, hown, htA⟩ (kX8_isCountable l G cy s.heap.size p1 p2 h19_30) (u_cwS htA a_ml_X8_199 pk_X8_isCountable ⟨Nat.le_of_ble_eq_true rfl, Nat.le_of_ble_eq_true rfl⟩) (u_preS hK hN hP hD [] rfl (by decide)) rfl rfl hl.1 rfl (lv_room (Nat.le_of_ble_eq_true rfl)) dX8_book_19 ⟨Nat.zero_le _, Nat.zero_le _⟩) hP hD hS hA [] rfl (fun H locs hP hS => ?_)
    refine lv_if_eq (tgt := 36) hx hb dX8_book_22 (by decide) (fun c_31 => ?_) (fun c_31 => ?_)
    · have hf := ite_t c_31 hf
      refine lv_bipush (v := (-2)) hx hb dX8_book_36 (by decide) ?_
      have ho := Option.some.inj hf
      subst ho
      exact W.iret (v := (-2)) hx hb hr (fun t ht hW => ⟨⟨_, (), rfl, rfl, by rw [ht]; exact hP, va_K.moved hW.alike hK, hD⟩, hS.F ht⟩) hS.2.2 dX8_book_38
    · have hf := ite_f c_31 hf
      refine lv_iload_n hx hb dX8_book_25 rfl (lv_at hl 3 rfl) ?_
      refine lv_iconst (v := 0) hx hb dX8_book_26 (by decide) ?_
      refine lv_sipush (v := 999) hx hb dX8_book_27 (by decide) ?_
      obtain ⟨q30, h30_32, hf⟩ := bd_s hf
      refine u_calliR (va_runS (As := [.int p3, .int 0, .int 999]) (rest := []) ⟨hx, hb, hml, hown, htA⟩ (kX8_isIn l G cy H.size p3 0 999 h30_32) (u_cwS htA a_ml_X8_69 pk_X8_isIn ⟨Nat.le_of_ble_eq_true rfl, Nat.le_of_ble_eq_true rfl⟩) (u_preS hK hN hP hD [] rfl (by decide)) rfl rfl hl.1 rfl (lv_room (Nat.le_of_ble_eq_true rfl)) dX8_book_30 ⟨Nat.zero_le _, Nat.zero_le _⟩) hP hD hS hA [] rfl (fun H locs hP hS => ?_)
      refine lv_if_ne (tgt := 39) hx hb dX8_book_33 (by decide) (fun c_33 => ?_) (fun c_33 => ?_)
      · have hf := ite_f c_33 hf
        refine lv_aload_n hx hb dX8_book_39 rfl (lv_at hl 0 rfl) ?_
        refine va_get (D := G) (ci := 8) (v := .ref q_now) (C := RX8) (T := TX8) (N := 9) hx hb htA lyX8 hown hK hP 0 rfl rfl 0 (by decide) (htA _ a_fl_X8_14) (fun _ h9 => h9) rfl dX8_book_40 ?_
        refine va_getN (D := G) (ci := 6) (v := .ref q_now_book) (C := RX6) (T := TX6) (N := 5) hx hb htA lyX6 hown hK hP 1 rfl rfl 4 (by decide) (u_link hN (List.mem_of_getElem? (i := 10) rfl)) (fun _ h9 => h9) rfl dX8_book_43 ?_
        refine lv_iload_n hx hb dX8_book_46 rfl (lv_at hl 1 rfl) ?_
        refine lv_iload_n hx hb dX8_book_47 rfl (lv_at hl 2 rfl) ?_
        refine lv_iload_n hx hb dX8_book_48 rfl (lv_at hl 3 rfl) ?_
        obtain ⟨q49, h49_34, hf⟩ := bd_s hf
        refine u_calli [(q_this, .inr (8, [.ref q_now, .ref q_saved, .int f_imaged, .ref q_trial, .ref q_lowering, .ref q_counts, .ref q_expansion, .ref q_setUp, .ref q_tapes])), (q_now, .inr (6, [.ref q_now_ground, .ref q_now_notes, .ref q_now_seen, .ref q_now_events, .ref q_now_book])), (q_now_book, .inr (4, [.int f_now_book_limit, .ref q_now_book_cells, .int q49.2.1])), (q_now_book_cells, .inl (cy 0, n_now_book_cells, .inl q49.2.2))] (va_runV (As := [.int p1, .int p2, .int p3]) (rest := []) ⟨hx, hb, hml, hown, htA⟩ (kX4_put l G cy q_now_book q_now_book_cells H.size n_now_book_cells f_now_book_limit f_now_book_used f_now_book_cells p1 p2 p3 h49_34) (u_cwV htA a_ml_X8_117 pk_X4_put ⟨Nat.le_of_ble_eq_true rfl, Nat.le_of_ble_eq_true rfl⟩) (u_preV hK hN hP hD [2, 3] rfl (by decide) 2 rfl rfl) rfl rfl hl.1 rfl (lv_room (Nat.le_of_ble_eq_true rfl)) dX8_book_49 ⟨Nat.zero_le _, Nat.zero_le _⟩) hP hD hS hA [2, 3] rfl [0, 1] 4 rfl rfl rfl (by decide) rfl (fun H locs hP hD hS => ?_)
        have ho := Option.some.inj hf
        subst ho
        exact W.iret (v := q49.1) hx hb hr (fun t ht hW => ⟨⟨_, (), rfl, rfl, by rw [ht]; exact hP, va_K.moved hW.alike hK, hD⟩, hS.F ht⟩) hS.2.2 dX8_book_52
      · have hf := ite_t c_33 hf
        refine lv_bipush (v := (-2)) hx hb dX8_book_36 (by decide) ?_
        have ho := Option.some.inj hf
        subst ho
        exact W.iret (v := (-2)) hx hb hr (fun t ht hW => ⟨⟨_, (), rfl, rfl, by rw [ht]; exact hP, va_K.moved hW.alike hK, hD⟩, hS.F ht⟩) hS.2.2 dX8_book_38
  · have hf := ite_t c_29 hf
    refine lv_aload_n hx hb dX8_book_5 rfl (lv_at hl 0 rfl) ?_
    refine va_get (D := G) (ci := 8) (v := .ref q_now) (C := RX8) (T := TX8) (N := 9) hx hb htA lyX8 hown hK hP 0 rfl rfl 0 (by decide) (htA _ a_fl_X8_14) (fun _ h9 => h9) rfl dX8_book_6 ?_
    refine va_getN (D := G) (ci := 6) (v := .ref q_now_book) (C := RX6) (T := TX6) (N := 5) hx hb htA lyX6 hown hK hP 1 rfl rfl 4 (by decide) (u_link hN (List.mem_of_getElem? (i := 10) rfl)) (fun _ h9 => h9) rfl dX8_book_9 ?_
    obtain ⟨q12, h12_35, hf⟩ := bd_s hf
    refine u_callv [(q_this, .inr (8, [.ref q_now, .ref q_saved, .int f_imaged, .ref q_trial, .ref q_lowering, .ref q_counts, .ref q_expansion, .ref q_setUp, .ref q_tapes])), (q_now, .inr (6, [.ref q_now_ground, .ref q_now_notes, .ref q_now_seen, .ref q_now_events, .ref q_now_book])), (q_now_book, .inr (4, [.int f_now_book_limit, .ref q_now_book_cells, .int q12])), (q_now_book_cells, .inl (cy 0, n_now_book_cells, .inl f_now_book_cells))] (va_runV (As := []) (rest := []) ⟨hx, hb, hml, hown, htA⟩ (kX4_clear l G cy q_now_book q_now_book_cells s.heap.size f_now_book_limit f_now_book_used h12_35) (u_cwV htA a_ml_X8_121 pk_X4_clear ⟨Nat.le_of_ble_eq_true rfl, Nat.le_of_ble_eq_true rfl⟩) (u_preV hK hN hP hD [2] rfl (by decide) 2 rfl rfl) rfl rfl hl.1 rfl (lv_room (Nat.le_of_ble_eq_true rfl)) dX8_book_12 ⟨Nat.zero_le _, Nat.zero_le _⟩) hP hD hS hA [2] rfl [0, 1, 3] 4 rfl rfl rfl (by decide) rfl (fun H locs hP hD hS => ?_)
    refine lv_iconst (v := 0) hx hb dX8_book_15 (by decide) ?_
    have ho := Option.some.inj hf
    subst ho
    exact W.iret (v := 0) hx hb hr (fun t ht hW => ⟨⟨_, (), rfl, rfl, by rw [ht]; exact hP, va_K.moved hW.alike hK, hD⟩, hS.F ht⟩) hS.2.2 dX8_book_16
set_option maxRecDepth 100000 in
set_option maxHeartbeats 4000000 in
theorem wX8_looked_37 {p : Program} {l : Launch} {e : Env} {s : State} {m : MethodId} {args : Array Value} {below : List Frame} {meth : Method} {c : Code} {G : va_G} {cy : Nat → ClassId} {A : Nat → Prop} {q_this : Nat} {q_now : Nat} {q_saved : Nat} {q_trial : Nat} {q_lowering : Nat} {q_counts : Nat} {q_expansion : Nat} {q_setUp : Nat} {q_tapes : Nat} {q_now_ground : Nat} {q_now_notes : Nat} {q_now_seen : Nat} {q_now_events : Nat} {q_now_book : Nat} {q_now_book_cells : Nat} {q_counts_sorts : Nat} {q_counts_counts : Nat} {q_counts_shares : Nat} {n_now_book_cells : Nat} {f_imaged : Int32} {f_now_ground_a : Int32} {f_now_ground_b : Int32} {f_now_ground_x : Int32} {f_now_ground_y : Int32} {f_now_book_limit : Int32} {f_now_book_used : Int32} {f_now_book_cells : Nat → Int32} {n : Nat} {o : Int32 × Int32 × Int32 × Int32 × Int32 × Int32 × Int32 × (Nat → Int32) × (Nat → Int32) × (Nat → Int64)} (C : Cx p s m args meth c cX8_looked 3 (some .int) RX8 G cy A) : ∀ k37 : Nat, ∀ (v2 : Int32) (f_lowering_x : Int32) (f_lowering_y : Int32) (f_lowering_steps : Int32) (f_lowering_metLetter : Int32) (f_counts_a : Int32) (f_counts_b : Int32) (f_counts_sorts : Nat → Int32) (f_counts_counts : Nat → Int32) (f_counts_shares : Nat → Int64) (H : Heap) (locs : List Loc) (ls : Array Slot), va_P G vwCl [(q_this, .inr (8, [.ref q_now, .ref q_saved, .int f_imaged, .ref q_trial, .ref q_lowering, .ref q_counts, .ref q_expansion, .ref q_setUp, .ref q_tapes])), (q_now, .inr (6, [.ref q_now_ground, .ref q_now_notes, .ref q_now_seen, .ref q_now_events, .ref q_now_book])), (q_now_ground, .inr (2, [.int f_now_ground_a, .int f_now_ground_b, .int f_now_ground_x, .int f_now_ground_y])), (q_now_book, .inr (4, [.int f_now_book_limit, .ref q_now_book_cells, .int f_now_book_used])), (q_now_book_cells, .inl (cy 0, n_now_book_cells, .inl f_now_book_cells)), (q_lowering, .inr (3, [.int f_lowering_x, .int f_lowering_y, .int f_lowering_steps, .int f_lowering_metLetter])), (q_counts, .inr (0, [.ref q_lowering, .ref q_counts_sorts, .ref q_counts_counts, .ref q_counts_shares, .int f_counts_a, .int f_counts_b])), (q_counts_sorts, .inl (cy 0, 169, .inl f_counts_sorts)), (q_counts_counts, .inl (cy 0, 169, .inl f_counts_counts)), (q_counts_shares, .inl (cy 1, 169, .inr (.inl f_counts_shares)))] H → va_D A [(q_this, .inr (8, [.ref q_now, .ref q_saved, .int f_imaged, .ref q_trial, .ref q_lowering, .ref q_counts, .ref q_expansion, .ref q_setUp, .ref q_tapes])), (q_now, .inr (6, [.ref q_now_ground, .ref q_now_notes, .ref q_now_seen, .ref q_now_events, .ref q_now_book])), (q_now_ground, .inr (2, [.int f_now_ground_a, .int f_now_ground_b, .int f_now_ground_x, .int f_now_ground_y])), (q_now_book, .inr (4, [.int f_now_book_limit, .ref q_now_book_cells, .int f_now_book_used])), (q_now_book_cells, .inl (cy 0, n_now_book_cells, .inl f_now_book_cells)), (q_lowering, .inr (3, [.int f_lowering_x, .int f_lowering_y, .int f_lowering_steps, .int f_lowering_metLetter])), (q_counts, .inr (0, [.ref q_lowering, .ref q_counts_sorts, .ref q_counts_counts, .ref q_counts_shares, .int f_counts_a, .int f_counts_b])), (q_counts_sorts, .inl (cy 0, 169, .inl f_counts_sorts)), (q_counts_counts, .inl (cy 0, 169, .inl f_counts_counts)), (q_counts_shares, .inl (cy 1, 169, .inr (.inl f_counts_shares)))] → va_S A s.heap H locs → lv_has ls 3 [(0, .ref q_this), (1, .ref q_now_book), (2, .int v2)] → lX8_looked_37 n n_now_book_cells f_now_book_used f_now_book_cells k37 v2 f_lowering_x f_lowering_y f_lowering_steps f_lowering_metLetter f_counts_a f_counts_b f_counts_sorts f_counts_counts f_counts_shares = some o → W p l e (headSpec (Cond.code yX8_looked cX8_looked 3 (some .int) :: AW) ({ frames := 6, cells := 0, slots := 0, locals := 140 } : Room)).room s m args below meth c H locs 0 0 (MQ below (va_Qi (fun r (_ : Unit) => r = o.1) (fun _ => Wq G cy A [(q_this, .inr (8, [.ref q_now, .ref q_saved, .int f_imaged, .ref q_trial, .ref q_lowering, .ref q_counts, .ref q_expansion, .ref q_setUp, .ref q_tapes])), (q_now, .inr (6, [.ref q_now_ground, .ref q_now_notes, .ref q_now_seen, .ref q_now_events, .ref q_now_book])), (q_now_ground, .inr (2, [.int f_now_ground_a, .int f_now_ground_b, .int f_now_ground_x, .int f_now_ground_y])), (q_now_book, .inr (4, [.int f_now_book_limit, .ref q_now_book_cells, .int f_now_book_used])), (q_now_book_cells, .inl (cy 0, n_now_book_cells, .inl f_now_book_cells)), (q_lowering, .inr (3, [.int o.2.1, .int o.2.2.1, .int o.2.2.2.1, .int o.2.2.2.2.1])), (q_counts, .inr (0, [.ref q_lowering, .ref q_counts_sorts, .ref q_counts_counts, .ref q_counts_shares, .int o.2.2.2.2.2.1, .int o.2.2.2.2.2.2.1])), (q_counts_sorts, .inl (cy 0, 169, .inl o.2.2.2.2.2.2.2.1)), (q_counts_counts, .inl (cy 0, 169, .inl o.2.2.2.2.2.2.2.2.1)), (q_counts_shares, .inl (cy 1, 169, .inr (.inl o.2.2.2.2.2.2.2.2.2)))]) A) args s 0 0 A) (F0 m 37 ls []) := by
  have C0 := C
  obtain ⟨hx, hb, hr, hml, htA, hown, hK, hN, hA, hlocks⟩ := C
  intro k37
  induction k37 with
  | zero =>
    intro v2 f_lowering_x f_lowering_y f_lowering_steps f_lowering_metLetter f_counts_a f_counts_b f_counts_sorts f_counts_counts f_counts_shares H locs ls hP hD hS hl hf
    exact no_s hf
  | succ k37 ih37 =>
    intro v2 f_lowering_x f_lowering_y f_lowering_steps f_lowering_metLetter f_counts_a f_counts_b f_counts_sorts f_counts_counts f_counts_shares H locs ls hP hD hS hl hf
    have hf : ((fX4_size f_now_book_used).bind fun q39 => ((if q39 ≤ v2 then some ((-5), f_lowering_x, f_lowering_y, f_lowering_steps, f_lowering_metLetter, f_counts_a, f_counts_b, f_counts_sorts, f_counts_counts, f_counts_shares) else (fX4_cell v2 0 n_now_book_cells f_now_book_used f_now_book_cells).bind fun q52 => ((fX4_cell v2 1 n_now_book_cells f_now_book_used f_now_book_cells).bind fun q58 => ((fX0_countAt q52 q58 f_counts_counts).bind fun q61 => ((fX4_cell v2 2 n_now_book_cells f_now_book_used f_now_book_cells).bind fun q67 => ((if q61 = q67 then lX8_looked_37 n n_now_book_cells f_now_book_used f_now_book_cells k37 (v2 + 1) f_lowering_x f_lowering_y f_lowering_steps f_lowering_metLetter f_counts_a f_counts_b f_counts_sorts f_counts_counts f_counts_shares else some (v2, f_lowering_x, f_lowering_y, f_lowering_steps, f_lowering_metLetter, f_counts_a, f_counts_b, f_counts_sorts, f_counts_counts, f_counts_shares)))))))) : Option (Int32 × Int32 × Int32 × Int32 × Int32 × Int32 × Int32 × (Nat → Int32) × (Nat → Int32) × (Nat → Int64))) = some o := hf
    refine lv_iload_n hx hb dX8_looked_37 rfl (lv_at hl 2 rfl) ?_
    refine lv_aload_n hx hb dX8_looked_38 rfl (lv_at hl 1 rfl) ?_
    obtain ⟨q39, h39_33, hf⟩ := bd_s hf
    refine u_calliR (va_runV (As := []) (rest := [.int v2]) ⟨hx, hb, hml, hown, htA⟩ (kX4_size l G cy q_now_book q_now_book_cells H.size f_now_book_limit f_now_book_used h39_33) (u_cwV htA a_ml_X8_109 pk_X4_size ⟨Nat.le_of_ble_eq_true rfl, Nat.le_of_ble_eq_true rfl⟩) (u_preV hK hN hP hD [3] rfl (by decide) 3 rfl rfl) rfl rfl hl.1 rfl (lv_room (Nat.le_of_ble_eq_true rfl)) dX8_looked_39 ⟨Nat.zero_le _, Nat.zero_le _⟩) hP hD hS hA [3] rfl (fun H locs hP hS => ?_)
    refine lv_icmp_ge (tgt := 81) hx hb dX8_looked_42 (by decide) (fun c_34 => ?_) (fun c_34 => ?_)
    · have hf := ite_t c_34 hf
      refine lv_bipush (v := (-5)) hx hb dX8_looked_81 (by decide) ?_
      have ho := Option.some.inj hf
      subst ho
      exact W.iret (v := (-5)) hx hb hr (fun t ht hW => ⟨⟨_, (), rfl, rfl, by rw [ht]; exact hP, va_K.moved hW.alike hK, hD⟩, hS.F ht⟩) hS.2.2 dX8_looked_83
    · have hf := ite_f c_34 hf
      refine lv_aload_n hx hb dX8_looked_45 rfl (lv_at hl 0 rfl) ?_
      refine va_get (D := G) (ci := 8) (v := .ref q_counts) (C := RX8) (T := TX8) (N := 9) hx hb htA lyX8 hown hK hP 0 rfl rfl 5 (by decide) (htA _ a_fl_X8_44) (fun _ h9 => h9) rfl dX8_looked_46 ?_
      refine lv_aload_n hx hb dX8_looked_49 rfl (lv_at hl 1 rfl) ?_
      refine lv_iload_n hx hb dX8_looked_50 rfl (lv_at hl 2 rfl) ?_
      refine lv_iconst (v := 0) hx hb dX8_looked_51 (by decide) ?_
      obtain ⟨q52, h52_35, hf⟩ := bd_s hf
      refine u_calliR (va_runV (As := [.int v2, .int 0]) (rest := [.ref q_counts]) ⟨hx, hb, hml, hown, htA⟩ (kX4_cell l G cy q_now_book q_now_book_cells H.size n_now_book_cells f_now_book_limit f_now_book_used f_now_book_cells v2 0 h52_35) (u_cwV htA a_ml_X8_114 pk_X4_cell ⟨Nat.le_of_ble_eq_true rfl, Nat.le_of_ble_eq_true rfl⟩) (u_preV hK hN hP hD [3, 4] rfl (by decide) 3 rfl rfl) rfl rfl hl.1 rfl (lv_room (Nat.le_of_ble_eq_true rfl)) dX8_looked_52 ⟨Nat.zero_le _, Nat.zero_le _⟩) hP hD hS hA [3, 4] rfl (fun H locs hP hS => ?_)
      refine lv_aload_n hx hb dX8_looked_55 rfl (lv_at hl 1 rfl) ?_
      refine lv_iload_n hx hb dX8_looked_56 rfl (lv_at hl 2 rfl) ?_
      refine lv_iconst (v := 1) hx hb dX8_looked_57 (by decide) ?_
      obtain ⟨q58, h58_36, hf⟩ := bd_s hf
      refine u_calliR (va_runV (As := [.int v2, .int 1]) (rest := [.int q52, .ref q_counts]) ⟨hx, hb, hml, hown, htA⟩ (kX4_cell l G cy q_now_book q_now_book_cells H.size n_now_book_cells f_now_book_limit f_now_book_used f_now_book_cells v2 1 h58_36) (u_cwV htA a_ml_X8_114 pk_X4_cell ⟨Nat.le_of_ble_eq_true rfl, Nat.le_of_ble_eq_true rfl⟩) (u_preV hK hN hP hD [3, 4] rfl (by decide) 3 rfl rfl) rfl rfl hl.1 rfl (lv_room (Nat.le_of_ble_eq_true rfl)) dX8_looked_58 ⟨Nat.zero_le _, Nat.zero_le _⟩) hP hD hS hA [3, 4] rfl (fun H locs hP hS => ?_)
      obtain ⟨q61, h61_37, hf⟩ := bd_s hf
      refine u_calliR (va_runV (As := [.int q52, .int q58]) (rest := []) ⟨hx, hb, hml, hown, htA⟩ (kX0_countAt l G cy q_counts q_lowering q_counts_sorts q_counts_counts q_counts_shares H.size f_counts_a f_counts_b f_counts_counts q52 q58 h61_37) (u_cwV htA a_ml_X8_206 pk_X0_countAt ⟨Nat.le_of_ble_eq_true rfl, Nat.le_of_ble_eq_true rfl⟩) (u_preV hK hN hP hD [6, 8] rfl (by decide) 6 rfl rfl) rfl rfl hl.1 rfl (lv_room (Nat.le_of_ble_eq_true rfl)) dX8_looked_61 ⟨Nat.zero_le _, Nat.zero_le _⟩) hP hD hS hA [6, 8] rfl (fun H locs hP hS => ?_)
      refine lv_aload_n hx hb dX8_looked_64 rfl (lv_at hl 1 rfl) ?_
      refine lv_iload_n hx hb dX8_looked_65 rfl (lv_at hl 2 rfl) ?_
      refine lv_iconst (v := 2) hx hb dX8_looked_66 (by decide) ?_
      obtain ⟨q67, h67_38, hf⟩ := bd_s hf
      refine u_calliR (va_runV (As := [.int v2, .int 2]) (rest := [.int q61]) ⟨hx, hb, hml, hown, htA⟩ (kX4_cell l G cy q_now_book q_now_book_cells H.size n_now_book_cells f_now_book_limit f_now_book_used f_now_book_cells v2 2 h67_38) (u_cwV htA a_ml_X8_114 pk_X4_cell ⟨Nat.le_of_ble_eq_true rfl, Nat.le_of_ble_eq_true rfl⟩) (u_preV hK hN hP hD [3, 4] rfl (by decide) 3 rfl rfl) rfl rfl hl.1 rfl (lv_room (Nat.le_of_ble_eq_true rfl)) dX8_looked_67 ⟨Nat.zero_le _, Nat.zero_le _⟩) hP hD hS hA [3, 4] rfl (fun H locs hP hS => ?_)
      refine lv_icmp_eq (tgt := 75) hx hb dX8_looked_70 (by decide) (fun c_39 => ?_) (fun c_39 => ?_)
      · have hf := ite_t c_39 hf
        refine lv_iinc (v := (v2 + 1)) (lv' := [(2, .int (v2 + 1)), (0, .ref q_this), (1, .ref q_now_book)]) hx hb dX8_looked_75 hl (k := 2) rfl rfl (by decide) rfl (fun ls hl => ?_)
        refine lv_goto (tgt := 37) hx hb dX8_looked_78 (by decide) ?_
        exact ih37 _ _ _ _ _ _ _ _ _ _ _ _ _ hP hD hS (lv_sub hl [1, 2, 0] rfl) hf
      · have hf := ite_f c_39 hf
        refine lv_iload_n hx hb dX8_looked_73 rfl (lv_at hl 2 rfl) ?_
        have ho := Option.some.inj hf
        subst ho
        exact W.iret (v := v2) hx hb hr (fun t ht hW => ⟨⟨_, (), rfl, rfl, by rw [ht]; exact hP, va_K.moved hW.alike hK, hD⟩, hS.F ht⟩) hS.2.2 dX8_looked_74
set_option maxRecDepth 100000 in
set_option maxHeartbeats 4000000 in
theorem kX8_looked (l : Launch) (G : va_G) (cy : Nat → ClassId) (q_this : Nat) (q_now : Nat) (q_saved : Nat) (q_trial : Nat) (q_lowering : Nat) (q_counts : Nat) (q_expansion : Nat) (q_setUp : Nat) (q_tapes : Nat) (q_now_ground : Nat) (q_now_notes : Nat) (q_now_seen : Nat) (q_now_events : Nat) (q_now_book : Nat) (q_now_book_cells : Nat) (q_counts_sorts : Nat) (q_counts_counts : Nat) (q_counts_shares : Nat) (sz : Nat) (n_now_book_cells : Nat) (f_imaged : Int32) (f_now_ground_a : Int32) (f_now_ground_b : Int32) (f_now_ground_x : Int32) (f_now_ground_y : Int32) (f_now_book_limit : Int32) (f_now_book_used : Int32) (f_now_book_cells : Nat → Int32) (f_lowering_x : Int32) (f_lowering_y : Int32) (f_lowering_steps : Int32) (f_lowering_metLetter : Int32) (f_counts_a : Int32) (f_counts_b : Int32) (f_counts_sorts : Nat → Int32) (f_counts_counts : Nat → Int32) (f_counts_shares : Nat → Int64) (n : Nat) {o : Int32 × Int32 × Int32 × Int32 × Int32 × Int32 × Int32 × (Nat → Int32) × (Nat → Int32) × (Nat → Int64)} (hf : fX8_looked n n_now_book_cells f_now_ground_a f_now_ground_b f_now_book_used f_now_book_cells f_lowering_x f_lowering_y f_lowering_steps f_lowering_metLetter f_counts_a f_counts_b f_counts_sorts f_counts_counts f_counts_shares = some o) : Met l yX8_looked (Cond.code yX8_looked cX8_looked 3 (some .int) :: AW) ({ frames := 6, cells := 0, slots := 0, locals := 140 } : Room) (va_Pc [.ref q_this] (Wp G cy [(q_this, .inr (8, [.ref q_now, .ref q_saved, .int f_imaged, .ref q_trial, .ref q_lowering, .ref q_counts, .ref q_expansion, .ref q_setUp, .ref q_tapes])), (q_now, .inr (6, [.ref q_now_ground, .ref q_now_notes, .ref q_now_seen, .ref q_now_events, .ref q_now_book])), (q_now_ground, .inr (2, [.int f_now_ground_a, .int f_now_ground_b, .int f_now_ground_x, .int f_now_ground_y])), (q_now_book, .inr (4, [.int f_now_book_limit, .ref q_now_book_cells, .int f_now_book_used])), (q_now_book_cells, .inl (cy 0, n_now_book_cells, .inl f_now_book_cells)), (q_lowering, .inr (3, [.int f_lowering_x, .int f_lowering_y, .int f_lowering_steps, .int f_lowering_metLetter])), (q_counts, .inr (0, [.ref q_lowering, .ref q_counts_sorts, .ref q_counts_counts, .ref q_counts_shares, .int f_counts_a, .int f_counts_b])), (q_counts_sorts, .inl (cy 0, 169, .inl f_counts_sorts)), (q_counts_counts, .inl (cy 0, 169, .inl f_counts_counts)), (q_counts_shares, .inl (cy 1, 169, .inr (.inl f_counts_shares)))] sz)) (va_Qi (fun r (_ : Unit) => r = o.1) (fun _ => Wq G cy (va_A [(q_this, .inr (8, [.ref q_now, .ref q_saved, .int f_imaged, .ref q_trial, .ref q_lowering, .ref q_counts, .ref q_expansion, .ref q_setUp, .ref q_tapes])), (q_now, .inr (6, [.ref q_now_ground, .ref q_now_notes, .ref q_now_seen, .ref q_now_events, .ref q_now_book])), (q_now_ground, .inr (2, [.int f_now_ground_a, .int f_now_ground_b, .int f_now_ground_x, .int f_now_ground_y])), (q_now_book, .inr (4, [.int f_now_book_limit, .ref q_now_book_cells, .int f_now_book_used])), (q_now_book_cells, .inl (cy 0, n_now_book_cells, .inl f_now_book_cells)), (q_lowering, .inr (3, [.int f_lowering_x, .int f_lowering_y, .int f_lowering_steps, .int f_lowering_metLetter])), (q_counts, .inr (0, [.ref q_lowering, .ref q_counts_sorts, .ref q_counts_counts, .ref q_counts_shares, .int f_counts_a, .int f_counts_b])), (q_counts_sorts, .inl (cy 0, 169, .inl f_counts_sorts)), (q_counts_counts, .inl (cy 0, 169, .inl f_counts_counts)), (q_counts_shares, .inl (cy 1, 169, .inr (.inl f_counts_shares)))] sz) [(q_this, .inr (8, [.ref q_now, .ref q_saved, .int f_imaged, .ref q_trial, .ref q_lowering, .ref q_counts, .ref q_expansion, .ref q_setUp, .ref q_tapes])), (q_now, .inr (6, [.ref q_now_ground, .ref q_now_notes, .ref q_now_seen, .ref q_now_events, .ref q_now_book])), (q_now_ground, .inr (2, [.int f_now_ground_a, .int f_now_ground_b, .int f_now_ground_x, .int f_now_ground_y])), (q_now_book, .inr (4, [.int f_now_book_limit, .ref q_now_book_cells, .int f_now_book_used])), (q_now_book_cells, .inl (cy 0, n_now_book_cells, .inl f_now_book_cells)), (q_lowering, .inr (3, [.int o.2.1, .int o.2.2.1, .int o.2.2.2.1, .int o.2.2.2.2.1])), (q_counts, .inr (0, [.ref q_lowering, .ref q_counts_sorts, .ref q_counts_counts, .ref q_counts_shares, .int o.2.2.2.2.2.1, .int o.2.2.2.2.2.2.1])), (q_counts_sorts, .inl (cy 0, 169, .inl o.2.2.2.2.2.2.2.1)), (q_counts_counts, .inl (cy 0, 169, .inl o.2.2.2.2.2.2.2.2.1)), (q_counts_shares, .inl (cy 1, 169, .inr (.inl o.2.2.2.2.2.2.2.2.2)))]) (va_A [(q_this, .inr (8, [.ref q_now, .ref q_saved, .int f_imaged, .ref q_trial, .ref q_lowering, .ref q_counts, .ref q_expansion, .ref q_setUp, .ref q_tapes])), (q_now, .inr (6, [.ref q_now_ground, .ref q_now_notes, .ref q_now_seen, .ref q_now_events, .ref q_now_book])), (q_now_ground, .inr (2, [.int f_now_ground_a, .int f_now_ground_b, .int f_now_ground_x, .int f_now_ground_y])), (q_now_book, .inr (4, [.int f_now_book_limit, .ref q_now_book_cells, .int f_now_book_used])), (q_now_book_cells, .inl (cy 0, n_now_book_cells, .inl f_now_book_cells)), (q_lowering, .inr (3, [.int f_lowering_x, .int f_lowering_y, .int f_lowering_steps, .int f_lowering_metLetter])), (q_counts, .inr (0, [.ref q_lowering, .ref q_counts_sorts, .ref q_counts_counts, .ref q_counts_shares, .int f_counts_a, .int f_counts_b])), (q_counts_sorts, .inl (cy 0, 169, .inl f_counts_sorts)), (q_counts_counts, .inl (cy 0, 169, .inl f_counts_counts)), (q_counts_shares, .inl (cy 1, 169, .inr (.inl f_counts_shares)))] sz)) 0 0 (va_A [(q_this, .inr (8, [.ref q_now, .ref q_saved, .int f_imaged, .ref q_trial, .ref q_lowering, .ref q_counts, .ref q_expansion, .ref q_setUp, .ref q_tapes])), (q_now, .inr (6, [.ref q_now_ground, .ref q_now_notes, .ref q_now_seen, .ref q_now_events, .ref q_now_book])), (q_now_ground, .inr (2, [.int f_now_ground_a, .int f_now_ground_b, .int f_now_ground_x, .int f_now_ground_y])), (q_now_book, .inr (4, [.int f_now_book_limit, .ref q_now_book_cells, .int f_now_book_used])), (q_now_book_cells, .inl (cy 0, n_now_book_cells, .inl f_now_book_cells)), (q_lowering, .inr (3, [.int f_lowering_x, .int f_lowering_y, .int f_lowering_steps, .int f_lowering_metLetter])), (q_counts, .inr (0, [.ref q_lowering, .ref q_counts_sorts, .ref q_counts_counts, .ref q_counts_shares, .int f_counts_a, .int f_counts_b])), (q_counts_sorts, .inl (cy 0, 169, .inl f_counts_sorts)), (q_counts_counts, .inl (cy 0, 169, .inl f_counts_counts)), (q_counts_shares, .inl (cy 1, 169, .inr (.inl f_counts_shares)))] sz) := by
  refine Met.ofW (cc := cX8_looked) (maxL := 3) (ret := (some .int)) (by decide) rfl ?_
  intro p e s m args below meth c s₁ B hml hv
  obtain ⟨rfl, hsz, hP, hK, hD0, hN⟩ := hv
  have hx := B.exec
  have hb := B.bytes
  have hr := B.returns
  have htA : ∀ w ∈ AW, w.before _ s = true := fun w h => atoms_spec (ws := Cond.code yX8_looked cX8_looked 3 (some .int) :: AW) B.pre w (List.mem_cons_of_mem _ h)
  have hown : s.vm.findClass RX8 = some m.cls := findClass_of_methodNamed B.named
  have hlocks := B.notSynchronized
  subst hsz
  have hD := hD0.self (sz := s.heap.size)
  generalize hAe : va_A [(q_this, .inr (8, [.ref q_now, .ref q_saved, .int f_imaged, .ref q_trial, .ref q_lowering, .ref q_counts, .ref q_expansion, .ref q_setUp, .ref q_tapes])), (q_now, .inr (6, [.ref q_now_ground, .ref q_now_notes, .ref q_now_seen, .ref q_now_events, .ref q_now_book])), (q_now_ground, .inr (2, [.int f_now_ground_a, .int f_now_ground_b, .int f_now_ground_x, .int f_now_ground_y])), (q_now_book, .inr (4, [.int f_now_book_limit, .ref q_now_book_cells, .int f_now_book_used])), (q_now_book_cells, .inl (cy 0, n_now_book_cells, .inl f_now_book_cells)), (q_lowering, .inr (3, [.int f_lowering_x, .int f_lowering_y, .int f_lowering_steps, .int f_lowering_metLetter])), (q_counts, .inr (0, [.ref q_lowering, .ref q_counts_sorts, .ref q_counts_counts, .ref q_counts_shares, .int f_counts_a, .int f_counts_b])), (q_counts_sorts, .inl (cy 0, 169, .inl f_counts_sorts)), (q_counts_counts, .inl (cy 0, 169, .inl f_counts_counts)), (q_counts_shares, .inl (cy 1, 169, .inr (.inl f_counts_shares)))] s.heap.size = A at hD ⊢
  have hA : ∀ q : Nat, s.heap.size ≤ q → A q := fun q h => by rw [← hAe]; exact Or.inr h
  have hS : va_S A s.heap s.heap [] := va_S.rf
  have hl := lv_entry ([.ref q_this]) (n := 3) (Nat.le_of_ble_eq_true rfl)
  rw [lg_entry_eq]
  generalize (lg_sl ([.ref q_this]) ++ List.replicate (3 - (lg_sl ([.ref q_this])).length) Slot.unset).toArray = ls at hl ⊢
  have hl : lv_has ls 3 [(0, .ref q_this)] := hl
  have hP : va_P G vwCl [(q_this, .inr (8, [.ref q_now, .ref q_saved, .int f_imaged, .ref q_trial, .ref q_lowering, .ref q_counts, .ref q_expansion, .ref q_setUp, .ref q_tapes])), (q_now, .inr (6, [.ref q_now_ground, .ref q_now_notes, .ref q_now_seen, .ref q_now_events, .ref q_now_book])), (q_now_ground, .inr (2, [.int f_now_ground_a, .int f_now_ground_b, .int f_now_ground_x, .int f_now_ground_y])), (q_now_book, .inr (4, [.int f_now_book_limit, .ref q_now_book_cells, .int f_now_book_used])), (q_now_book_cells, .inl (cy 0, n_now_book_cells, .inl f_now_book_cells)), (q_lowering, .inr (3, [.int f_lowering_x, .int f_lowering_y, .int f_lowering_steps, .int f_lowering_metLetter])), (q_counts, .inr (0, [.ref q_lowering, .ref q_counts_sorts, .ref q_counts_counts, .ref q_counts_shares, .int f_counts_a, .int f_counts_b])), (q_counts_sorts, .inl (cy 0, 169, .inl f_counts_sorts)), (q_counts_counts, .inl (cy 0, 169, .inl f_counts_counts)), (q_counts_shares, .inl (cy 1, 169, .inr (.inl f_counts_shares)))] s.heap := hP
  have C0 : Cx p s m _ meth c cX8_looked 3 (some .int) RX8 G cy A := ⟨hx, hb, hr, hml, htA, hown, hK, hN, hA, hlocks⟩
  have hf : ((fX0_fillFor n f_now_ground_a f_now_ground_b f_counts_a f_counts_b f_lowering_x f_lowering_y f_lowering_steps f_lowering_metLetter f_counts_sorts f_counts_counts f_counts_shares).bind fun q24 => (lX8_looked_37 n n_now_book_cells f_now_book_used f_now_book_cells n 0 q24.2.2.1 q24.2.2.2.1 q24.2.2.2.2.1 q24.2.2.2.2.2.1 q24.1 q24.2.1 q24.2.2.2.2.2.2.1 q24.2.2.2.2.2.2.2.1 q24.2.2.2.2.2.2.2.2) : Option (Int32 × Int32 × Int32 × Int32 × Int32 × Int32 × Int32 × (Nat → Int32) × (Nat → Int32) × (Nat → Int64))) = some o := hf
  refine lv_aload_n hx hb dX8_looked_0 rfl (lv_at hl 0 rfl) ?_
  refine va_get (D := G) (ci := 8) (v := .ref q_counts) (C := RX8) (T := TX8) (N := 9) hx hb htA lyX8 hown hK hP 0 rfl rfl 5 (by decide) (htA _ a_fl_X8_44) (fun _ h9 => h9) rfl dX8_looked_1 ?_
  refine lv_aload_n hx hb dX8_looked_4 rfl (lv_at hl 0 rfl) ?_
  refine va_get (D := G) (ci := 8) (v := .ref q_now) (C := RX8) (T := TX8) (N := 9) hx hb htA lyX8 hown hK hP 0 rfl rfl 0 (by decide) (htA _ a_fl_X8_14) (fun _ h9 => h9) rfl dX8_looked_5 ?_
  refine va_getN (D := G) (ci := 6) (v := .ref q_now_ground) (C := RX6) (T := TX6) (N := 5) hx hb htA lyX6 hown hK hP 1 rfl rfl 0 (by decide) (u_link hN (List.mem_of_getElem? (i := 6) rfl)) (fun _ h9 => h9) rfl dX8_looked_8 ?_
  refine va_getN (D := G) (ci := 2) (v := .int f_now_ground_a) (C := RX2) (T := TX2) (N := 4) hx hb htA lyX2 hown hK hP 2 rfl rfl 0 (by decide) (u_link hN (List.mem_of_getElem? (i := 2) rfl)) (fun _ h9 => h9) rfl dX8_looked_11 ?_
  refine lv_aload_n hx hb dX8_looked_14 rfl (lv_at hl 0 rfl) ?_
  refine va_get (D := G) (ci := 8) (v := .ref q_now) (C := RX8) (T := TX8) (N := 9) hx hb htA lyX8 hown hK hP 0 rfl rfl 0 (by decide) (htA _ a_fl_X8_14) (fun _ h9 => h9) rfl dX8_looked_15 ?_
  refine va_getN (D := G) (ci := 6) (v := .ref q_now_ground) (C := RX6) (T := TX6) (N := 5) hx hb htA lyX6 hown hK hP 1 rfl rfl 0 (by decide) (u_link hN (List.mem_of_getElem? (i := 6) rfl)) (fun _ h9 => h9) rfl dX8_looked_18 ?_
  refine va_getN (D := G) (ci := 2) (v := .int f_now_ground_b) (C := RX2) (T := TX2) (N := 4) hx hb htA lyX2 hown hK hP 2 rfl rfl 1 (by decide) (u_link hN (List.mem_of_getElem? (i := 3) rfl)) (fun _ h9 => h9) rfl dX8_looked_21 ?_
  obtain ⟨q24, h24_40, hf⟩ := bd_s hf
  refine u_callv [(q_this, .inr (8, [.ref q_now, .ref q_saved, .int f_imaged, .ref q_trial, .ref q_lowering, .ref q_counts, .ref q_expansion, .ref q_setUp, .ref q_tapes])), (q_now, .inr (6, [.ref q_now_ground, .ref q_now_notes, .ref q_now_seen, .ref q_now_events, .ref q_now_book])), (q_now_ground, .inr (2, [.int f_now_ground_a, .int f_now_ground_b, .int f_now_ground_x, .int f_now_ground_y])), (q_now_book, .inr (4, [.int f_now_book_limit, .ref q_now_book_cells, .int f_now_book_used])), (q_now_book_cells, .inl (cy 0, n_now_book_cells, .inl f_now_book_cells)), (q_lowering, .inr (3, [.int q24.2.2.1, .int q24.2.2.2.1, .int q24.2.2.2.2.1, .int q24.2.2.2.2.2.1])), (q_counts, .inr (0, [.ref q_lowering, .ref q_counts_sorts, .ref q_counts_counts, .ref q_counts_shares, .int q24.1, .int q24.2.1])), (q_counts_sorts, .inl (cy 0, 169, .inl q24.2.2.2.2.2.2.1)), (q_counts_counts, .inl (cy 0, 169, .inl q24.2.2.2.2.2.2.2.1)), (q_counts_shares, .inl (cy 1, 169, .inr (.inl q24.2.2.2.2.2.2.2.2)))] (va_runV (As := [.int f_now_ground_a, .int f_now_ground_b]) (rest := []) ⟨hx, hb, hml, hown, htA⟩ (kX0_fillFor l G cy q_counts q_lowering q_counts_sorts q_counts_counts q_counts_shares s.heap.size f_counts_a f_counts_b f_lowering_x f_lowering_y f_lowering_steps f_lowering_metLetter f_counts_sorts f_counts_counts f_counts_shares f_now_ground_a f_now_ground_b n h24_40) (u_cwV htA a_ml_X8_202 pk_X0_fillFor ⟨Nat.le_of_ble_eq_true rfl, Nat.le_of_ble_eq_true rfl⟩) (u_preV hK hN hP hD [6, 5, 7, 8, 9] rfl (by decide) 6 rfl rfl) rfl rfl hl.1 rfl (lv_room (Nat.le_of_ble_eq_true rfl)) dX8_looked_24 ⟨Nat.zero_le _, Nat.zero_le _⟩) hP hD hS hA [6, 5, 7, 8, 9] rfl [0, 1, 2, 3, 4] 10 rfl rfl rfl (by decide) rfl (fun H locs hP hD hS => ?_)
  refine lv_aload_n hx hb dX8_looked_27 rfl (lv_at hl 0 rfl) ?_
  refine va_get (D := G) (ci := 8) (v := .ref q_now) (C := RX8) (T := TX8) (N := 9) hx hb htA lyX8 hown hK hP 0 rfl rfl 0 (by decide) (htA _ a_fl_X8_14) (fun _ h9 => h9) rfl dX8_looked_28 ?_
  refine va_getN (D := G) (ci := 6) (v := .ref q_now_book) (C := RX6) (T := TX6) (N := 5) hx hb htA lyX6 hown hK hP 1 rfl rfl 4 (by decide) (u_link hN (List.mem_of_getElem? (i := 10) rfl)) (fun _ h9 => h9) rfl dX8_looked_31 ?_
  refine lv_astore_n (lv' := [(1, .ref q_now_book), (0, .ref q_this)]) hx hb dX8_looked_34 rfl hl (by decide) rfl (fun ls hl => ?_)
  refine lv_iconst (v := 0) hx hb dX8_looked_35 (by decide) ?_
  refine lv_istore_n (lv' := [(2, .int 0), (1, .ref q_now_book), (0, .ref q_this)]) hx hb dX8_looked_36 rfl hl (by decide) rfl (fun ls hl => ?_)
  exact wX8_looked_37 C0 n _ _ _ _ _ _ _ _ _ _ _ _ _ hP hD hS (lv_sub hl [2, 1, 0] rfl) hf
set_option maxRecDepth 100000 in
set_option maxHeartbeats 4000000 in
theorem wX8_judge_68 {p : Program} {l : Launch} {e : Env} {s : State} {m : MethodId} {args : Array Value} {below : List Frame} {meth : Method} {c : Code} {G : va_G} {cy : Nat → ClassId} {A : Nat → Prop} {q_this : Nat} {q_now : Nat} {q_saved : Nat} {q_trial : Nat} {q_lowering : Nat} {q_counts : Nat} {q_expansion : Nat} {q_setUp : Nat} {q_tapes : Nat} {q_now_ground : Nat} {q_now_notes : Nat} {q_now_seen : Nat} {q_now_events : Nat} {q_now_book : Nat} {q_counts_sorts : Nat} {q_counts_counts : Nat} {q_counts_shares : Nat} {q_tapes_sorts : Nat} {q_tapes_lengths : Nat} {q_tapes_items : Nat} {f_imaged : Int32} {f_now_ground_a : Int32} {f_now_ground_b : Int32} {f_now_ground_x : Int32} {f_now_ground_y : Int32} {f_tapes_sorts : Nat → Int32} {f_tapes_lengths : Nat → Int32} {f_tapes_items : Nat → Int64} {n : Nat} {o : Int32 × Int32 × Int32 × Int32 × Int32 × Int32 × Int32 × (Nat → Int32) × (Nat → Int32) × (Nat → Int64)} (C : Cx p s m args meth c cX8_judge 4 (some .int) RX8 G cy A) : ∀ k68 : Nat, ∀ (v1 : Int32) (v2 : Int32) (v3 : Int32) (f_lowering_x : Int32) (f_lowering_y : Int32) (f_lowering_steps : Int32) (f_lowering_metLetter : Int32) (f_counts_a : Int32) (f_counts_b : Int32) (f_counts_sorts : Nat → Int32) (f_counts_counts : Nat → Int32) (f_counts_shares : Nat → Int64) (H : Heap) (locs : List Loc) (ls : Array Slot), va_P G vwCl [(q_this, .inr (8, [.ref q_now, .ref q_saved, .int f_imaged, .ref q_trial, .ref q_lowering, .ref q_counts, .ref q_expansion, .ref q_setUp, .ref q_tapes])), (q_now, .inr (6, [.ref q_now_ground, .ref q_now_notes, .ref q_now_seen, .ref q_now_events, .ref q_now_book])), (q_now_ground, .inr (2, [.int f_now_ground_a, .int f_now_ground_b, .int f_now_ground_x, .int f_now_ground_y])), (q_lowering, .inr (3, [.int f_lowering_x, .int f_lowering_y, .int f_lowering_steps, .int f_lowering_metLetter])), (q_counts, .inr (0, [.ref q_lowering, .ref q_counts_sorts, .ref q_counts_counts, .ref q_counts_shares, .int f_counts_a, .int f_counts_b])), (q_counts_sorts, .inl (cy 0, 169, .inl f_counts_sorts)), (q_counts_counts, .inl (cy 0, 169, .inl f_counts_counts)), (q_counts_shares, .inl (cy 1, 169, .inr (.inl f_counts_shares))), (q_tapes, .inr (7, [.ref q_tapes_sorts, .ref q_tapes_lengths, .ref q_tapes_items])), (q_tapes_sorts, .inl (cy 0, 6, .inl f_tapes_sorts)), (q_tapes_lengths, .inl (cy 0, 6, .inl f_tapes_lengths)), (q_tapes_items, .inl (cy 1, 360, .inr (.inl f_tapes_items)))] H → va_D A [(q_this, .inr (8, [.ref q_now, .ref q_saved, .int f_imaged, .ref q_trial, .ref q_lowering, .ref q_counts, .ref q_expansion, .ref q_setUp, .ref q_tapes])), (q_now, .inr (6, [.ref q_now_ground, .ref q_now_notes, .ref q_now_seen, .ref q_now_events, .ref q_now_book])), (q_now_ground, .inr (2, [.int f_now_ground_a, .int f_now_ground_b, .int f_now_ground_x, .int f_now_ground_y])), (q_lowering, .inr (3, [.int f_lowering_x, .int f_lowering_y, .int f_lowering_steps, .int f_lowering_metLetter])), (q_counts, .inr (0, [.ref q_lowering, .ref q_counts_sorts, .ref q_counts_counts, .ref q_counts_shares, .int f_counts_a, .int f_counts_b])), (q_counts_sorts, .inl (cy 0, 169, .inl f_counts_sorts)), (q_counts_counts, .inl (cy 0, 169, .inl f_counts_counts)), (q_counts_shares, .inl (cy 1, 169, .inr (.inl f_counts_shares))), (q_tapes, .inr (7, [.ref q_tapes_sorts, .ref q_tapes_lengths, .ref q_tapes_items])), (q_tapes_sorts, .inl (cy 0, 6, .inl f_tapes_sorts)), (q_tapes_lengths, .inl (cy 0, 6, .inl f_tapes_lengths)), (q_tapes_items, .inl (cy 1, 360, .inr (.inl f_tapes_items)))] → va_S A s.heap H locs → lv_has ls 4 [(0, .ref q_this), (1, .int v1), (2, .int v2), (3, .int v3)] → lX8_judge_68 n f_tapes_lengths f_tapes_items k68 v1 v2 v3 f_lowering_x f_lowering_y f_lowering_steps f_lowering_metLetter f_counts_a f_counts_b f_counts_sorts f_counts_counts f_counts_shares = some o → W p l e (headSpec (Cond.code yX8_judge cX8_judge 4 (some .int) :: AW) ({ frames := 6, cells := 0, slots := 0, locals := 140 } : Room)).room s m args below meth c H locs 0 0 (MQ below (va_Qi (fun r (_ : Unit) => r = o.1) (fun _ => Wq G cy A [(q_this, .inr (8, [.ref q_now, .ref q_saved, .int f_imaged, .ref q_trial, .ref q_lowering, .ref q_counts, .ref q_expansion, .ref q_setUp, .ref q_tapes])), (q_now, .inr (6, [.ref q_now_ground, .ref q_now_notes, .ref q_now_seen, .ref q_now_events, .ref q_now_book])), (q_now_ground, .inr (2, [.int f_now_ground_a, .int f_now_ground_b, .int f_now_ground_x, .int f_now_ground_y])), (q_lowering, .inr (3, [.int o.2.1, .int o.2.2.1, .int o.2.2.2.1, .int o.2.2.2.2.1])), (q_counts, .inr (0, [.ref q_lowering, .ref q_counts_sorts, .ref q_counts_counts, .ref q_counts_shares, .int o.2.2.2.2.2.1, .int o.2.2.2.2.2.2.1])), (q_counts_sorts, .inl (cy 0, 169, .inl o.2.2.2.2.2.2.2.1)), (q_counts_counts, .inl (cy 0, 169, .inl o.2.2.2.2.2.2.2.2.1)), (q_counts_shares, .inl (cy 1, 169, .inr (.inl o.2.2.2.2.2.2.2.2.2))), (q_tapes, .inr (7, [.ref q_tapes_sorts, .ref q_tapes_lengths, .ref q_tapes_items])), (q_tapes_sorts, .inl (cy 0, 6, .inl f_tapes_sorts)), (q_tapes_lengths, .inl (cy 0, 6, .inl f_tapes_lengths)), (q_tapes_items, .inl (cy 1, 360, .inr (.inl f_tapes_items)))]) A) args s 0 0 A) (F0 m 68 ls []) := by
  have C0 := C
  obtain ⟨hx, hb, hr, hml, htA, hown, hK, hN, hA, hlocks⟩ := C
  intro k68
  induction k68 with
  | zero =>
    intro v1 v2 v3 f_lowering_x f_lowering_y f_lowering_steps f_lowering_metLetter f_counts_a f_counts_b f_counts_sorts f_counts_counts f_counts_shares H locs ls hP hD hS hl hf
    exact no_s hf
  | succ k68 ih68 =>
    intro v1 v2 v3 f_lowering_x f_lowering_y f_lowering_steps f_lowering_metLetter f_counts_a f_counts_b f_counts_sorts f_counts_counts f_counts_shares H locs ls hP hD hS hl hf
    have hf : ((if 12 < v3 then some ((-5), f_lowering_x, f_lowering_y, f_lowering_steps, f_lowering_metLetter, f_counts_a, f_counts_b, f_counts_sorts, f_counts_counts, f_counts_shares) else (fX7_hasRun v1 v2 v3 f_tapes_lengths).bind fun q81 => ((if q81 = 0 then some (((100 + v3) - 1), f_lowering_x, f_lowering_y, f_lowering_steps, f_lowering_metLetter, f_counts_a, f_counts_b, f_counts_sorts, f_counts_counts, f_counts_shares) else (fX7_itemAt v1 ((v2 + v3) - 1) f_tapes_lengths f_tapes_items).bind fun q104 => ((fX0_sumOfHeight n v3 f_counts_counts).bind fun q112 => ((if (lg_cmp q104 (Int32.toInt64 q112)) = 0 then lX8_judge_68 n f_tapes_lengths f_tapes_items k68 v1 v2 (v3 + 1) f_lowering_x f_lowering_y f_lowering_steps f_lowering_metLetter f_counts_a f_counts_b f_counts_sorts f_counts_counts f_counts_shares else some (v3, f_lowering_x, f_lowering_y, f_lowering_steps, f_lowering_metLetter, f_counts_a, f_counts_b, f_counts_sorts, f_counts_counts, f_counts_shares))))))) : Option (Int32 × Int32 × Int32 × Int32 × Int32 × Int32 × Int32 × (Nat → Int32) × (Nat → Int32) × (Nat → Int64))) = some o := hf
    refine lv_iload_n hx hb dX8_judge_68 rfl (lv_at hl 3 rfl) ?_
    refine lv_bipush (v := 12) hx hb dX8_judge_69 (by decide) ?_
    refine lv_icmp_gt (tgt := 128) hx hb dX8_judge_71 (by decide) (fun c_53 => ?_) (fun c_53 => ?_)
    · have hf := ite_t c_53 hf
      refine lv_bipush (v := (-5)) hx hb dX8_judge_128 (by decide) ?_
      have ho := Option.some.inj hf
      subst ho
      exact W.iret (v := (-5)) hx hb hr (fun t ht hW => ⟨⟨_, (), rfl, rfl, by rw [ht]; exact hP, va_K.moved hW.alike hK, hD⟩, hS.F ht⟩) hS.2.2 dX8_judge_130
    · have hf := ite_f c_53 hf
      refine lv_aload_n hx hb dX8_judge_74 rfl (lv_at hl 0 rfl) ?_
      refine va_get (D := G) (ci := 8) (v := .ref q_tapes) (C := RX8) (T := TX8) (N := 9) hx hb htA lyX8 hown hK hP 0 rfl rfl 8 (by decide) (htA _ a_fl_X8_65) (fun _ h9 => h9) rfl dX8_judge_75 ?_
      refine lv_iload_n hx hb dX8_judge_78 rfl (lv_at hl 1 rfl) ?_
      refine lv_iload_n hx hb dX8_judge_79 rfl (lv_at hl 2 rfl) ?_
      refine lv_iload_n hx hb dX8_judge_80 rfl (lv_at hl 3 rfl) ?_
      obtain ⟨q81, h81_54, hf⟩ := bd_s hf
      refine u_calliR (va_runV (As := [.int v1, .int v2, .int v3]) (rest := []) ⟨hx, hb, hml, hown, htA⟩ (kX7_hasRun l G cy q_tapes q_tapes_sorts q_tapes_lengths q_tapes_items H.size f_tapes_lengths v1 v2 v3 h81_54) (u_cwV htA a_ml_X8_268 pk_X7_hasRun ⟨Nat.le_of_ble_eq_true rfl, Nat.le_of_ble_eq_true rfl⟩) (u_preV hK hN hP hD [8, 10] rfl (by decide) 8 rfl rfl) rfl rfl hl.1 rfl (lv_room (Nat.le_of_ble_eq_true rfl)) dX8_judge_81 ⟨Nat.zero_le _, Nat.zero_le _⟩) hP hD hS hA [8, 10] rfl (fun H locs hP hS => ?_)
      refine lv_if_ne (tgt := 94) hx hb dX8_judge_84 (by decide) (fun c_55 => ?_) (fun c_55 => ?_)
      · have hf := ite_f c_55 hf
        refine lv_aload_n hx hb dX8_judge_94 rfl (lv_at hl 0 rfl) ?_
        refine va_get (D := G) (ci := 8) (v := .ref q_tapes) (C := RX8) (T := TX8) (N := 9) hx hb htA lyX8 hown hK hP 0 rfl rfl 8 (by decide) (htA _ a_fl_X8_65) (fun _ h9 => h9) rfl dX8_judge_95 ?_
        refine lv_iload_n hx hb dX8_judge_98 rfl (lv_at hl 1 rfl) ?_
        refine lv_iload_n hx hb dX8_judge_99 rfl (lv_at hl 2 rfl) ?_
        refine lv_iload_n hx hb dX8_judge_100 rfl (lv_at hl 3 rfl) ?_
        refine lv_iadd hx hb dX8_judge_101 ?_
        refine lv_iconst (v := 1) hx hb dX8_judge_102 (by decide) ?_
        refine lv_isub hx hb dX8_judge_103 ?_
        obtain ⟨q104, h104_56, hf⟩ := bd_s hf
        refine u_calllR (va_runV (As := [.int v1, .int ((v2 + v3) - 1)]) (rest := []) ⟨hx, hb, hml, hown, htA⟩ (kX7_itemAt l G cy q_tapes q_tapes_sorts q_tapes_lengths q_tapes_items H.size f_tapes_lengths f_tapes_items v1 ((v2 + v3) - 1) h104_56) (u_cwV htA a_ml_X8_271 pk_X7_itemAt ⟨Nat.le_of_ble_eq_true rfl, Nat.le_of_ble_eq_true rfl⟩) (u_preV hK hN hP hD [8, 10, 11] rfl (by decide) 8 rfl rfl) rfl rfl hl.1 rfl (lv_room (Nat.le_of_ble_eq_true rfl)) dX8_judge_104 ⟨Nat.zero_le _, Nat.zero_le _⟩) hP hD hS hA [8, 10, 11] rfl (fun H locs hP hS => ?_)
        refine lv_aload_n hx hb dX8_judge_107 rfl (lv_at hl 0 rfl) ?_
        refine va_get (D := G) (ci := 8) (v := .ref q_counts) (C := RX8) (T := TX8) (N := 9) hx hb htA lyX8 hown hK hP 0 rfl rfl 5 (by decide) (htA _ a_fl_X8_44) (fun _ h9 => h9) rfl dX8_judge_108 ?_
        refine lv_iload_n hx hb dX8_judge_111 rfl (lv_at hl 3 rfl) ?_
        obtain ⟨q112, h112_57, hf⟩ := bd_s hf
        refine u_calliR (va_runV (As := [.int v3]) (rest := [.long q104]) ⟨hx, hb, hml, hown, htA⟩ (kX0_sumOfHeight l G cy q_counts q_lowering q_counts_sorts q_counts_counts q_counts_shares H.size f_counts_a f_counts_b f_counts_counts v3 n h112_57) (u_cwV htA a_ml_X8_222 pk_X0_sumOfHeight ⟨Nat.le_of_ble_eq_true rfl, Nat.le_of_ble_eq_true rfl⟩) (u_preV hK hN hP hD [4, 6] rfl (by decide) 4 rfl rfl) rfl rfl hl.1 rfl (lv_room (Nat.le_of_ble_eq_true rfl)) dX8_judge_112 ⟨Nat.zero_le _, Nat.zero_le _⟩) hP hD hS hA [4, 6] rfl (fun H locs hP hS => ?_)
        refine lv_i2l hx hb dX8_judge_115 rfl ?_
        refine W.lcmp hx hb dX8_judge_116 ?_
        refine lv_if_eq (tgt := 122) hx hb dX8_judge_117 (by decide) (fun c_58 => ?_) (fun c_58 => ?_)
        · have hf := ite_t c_58 hf
          refine lv_iinc (v := (v3 + 1)) (lv' := [(3, .int (v3 + 1)), (0, .ref q_this), (1, .int v1), (2, .int v2)]) hx hb dX8_judge_122 hl (k := 3) rfl rfl (by decide) rfl (fun ls hl => ?_)
          refine lv_goto (tgt := 68) hx hb dX8_judge_125 (by decide) ?_
          exact ih68 _ _ _ _ _ _ _ _ _ _ _ _ _ _ _ hP hD hS (lv_sub hl [1, 2, 3, 0] rfl) hf
        · have hf := ite_f c_58 hf
          refine lv_iload_n hx hb dX8_judge_120 rfl (lv_at hl 3 rfl) ?_
          have ho := Option.some.inj hf
          subst ho
          exact W.iret (v := v3) hx hb hr (fun t ht hW => ⟨⟨_, (), rfl, rfl, by rw [ht]; exact hP, va_K.moved hW.alike hK, hD⟩, hS.F ht⟩) hS.2.2 dX8_judge_121
      · have hf := ite_t c_55 hf
        refine lv_bipush (v := 100) hx hb dX8_judge_87 (by decide) ?_
        refine lv_iload_n hx hb dX8_judge_89 rfl (lv_at hl 3 rfl) ?_
        refine lv_iadd hx hb dX8_judge_90 ?_
        refine lv_iconst (v := 1) hx hb dX8_judge_91 (by decide) ?_
        refine lv_isub hx hb dX8_judge_92 ?_
        have ho := Option.some.inj hf
        subst ho
        exact W.iret (v := ((100 + v3) - 1)) hx hb hr (fun t ht hW => ⟨⟨_, (), rfl, rfl, by rw [ht]; exact hP, va_K.moved hW.alike hK, hD⟩, hS.F ht⟩) hS.2.2 dX8_judge_93
set_option maxRecDepth 100000 in
set_option maxHeartbeats 4000000 in
theorem wX8_judge_39 {p : Program} {l : Launch} {e : Env} {s : State} {m : MethodId} {args : Array Value} {below : List Frame} {meth : Method} {c : Code} {G : va_G} {cy : Nat → ClassId} {A : Nat → Prop} {q_this : Nat} {q_now : Nat} {q_saved : Nat} {q_trial : Nat} {q_lowering : Nat} {q_counts : Nat} {q_expansion : Nat} {q_setUp : Nat} {q_tapes : Nat} {q_now_ground : Nat} {q_now_notes : Nat} {q_now_seen : Nat} {q_now_events : Nat} {q_now_book : Nat} {q_counts_sorts : Nat} {q_counts_counts : Nat} {q_counts_shares : Nat} {q_tapes_sorts : Nat} {q_tapes_lengths : Nat} {q_tapes_items : Nat} {f_imaged : Int32} {f_now_ground_a : Int32} {f_now_ground_b : Int32} {f_now_ground_x : Int32} {f_now_ground_y : Int32} {f_tapes_sorts : Nat → Int32} {f_tapes_lengths : Nat → Int32} {f_tapes_items : Nat → Int64} {n : Nat} {o : Int32 × Int32 × Int32 × Int32 × Int32 × Int32 × Int32 × (Nat → Int32) × (Nat → Int32) × (Nat → Int64)} (C : Cx p s m args meth c cX8_judge 4 (some .int) RX8 G cy A) : ∀ (v1 : Int32) (v2 : Int32) (f_lowering_x : Int32) (f_lowering_y : Int32) (f_lowering_steps : Int32) (f_lowering_metLetter : Int32) (f_counts_a : Int32) (f_counts_b : Int32) (f_counts_sorts : Nat → Int32) (f_counts_counts : Nat → Int32) (f_counts_shares : Nat → Int64) (H : Heap) (locs : List Loc) (ls : Array Slot), va_P G vwCl [(q_this, .inr (8, [.ref q_now, .ref q_saved, .int f_imaged, .ref q_trial, .ref q_lowering, .ref q_counts, .ref q_expansion, .ref q_setUp, .ref q_tapes])), (q_now, .inr (6, [.ref q_now_ground, .ref q_now_notes, .ref q_now_seen, .ref q_now_events, .ref q_now_book])), (q_now_ground, .inr (2, [.int f_now_ground_a, .int f_now_ground_b, .int f_now_ground_x, .int f_now_ground_y])), (q_lowering, .inr (3, [.int f_lowering_x, .int f_lowering_y, .int f_lowering_steps, .int f_lowering_metLetter])), (q_counts, .inr (0, [.ref q_lowering, .ref q_counts_sorts, .ref q_counts_counts, .ref q_counts_shares, .int f_counts_a, .int f_counts_b])), (q_counts_sorts, .inl (cy 0, 169, .inl f_counts_sorts)), (q_counts_counts, .inl (cy 0, 169, .inl f_counts_counts)), (q_counts_shares, .inl (cy 1, 169, .inr (.inl f_counts_shares))), (q_tapes, .inr (7, [.ref q_tapes_sorts, .ref q_tapes_lengths, .ref q_tapes_items])), (q_tapes_sorts, .inl (cy 0, 6, .inl f_tapes_sorts)), (q_tapes_lengths, .inl (cy 0, 6, .inl f_tapes_lengths)), (q_tapes_items, .inl (cy 1, 360, .inr (.inl f_tapes_items)))] H → va_D A [(q_this, .inr (8, [.ref q_now, .ref q_saved, .int f_imaged, .ref q_trial, .ref q_lowering, .ref q_counts, .ref q_expansion, .ref q_setUp, .ref q_tapes])), (q_now, .inr (6, [.ref q_now_ground, .ref q_now_notes, .ref q_now_seen, .ref q_now_events, .ref q_now_book])), (q_now_ground, .inr (2, [.int f_now_ground_a, .int f_now_ground_b, .int f_now_ground_x, .int f_now_ground_y])), (q_lowering, .inr (3, [.int f_lowering_x, .int f_lowering_y, .int f_lowering_steps, .int f_lowering_metLetter])), (q_counts, .inr (0, [.ref q_lowering, .ref q_counts_sorts, .ref q_counts_counts, .ref q_counts_shares, .int f_counts_a, .int f_counts_b])), (q_counts_sorts, .inl (cy 0, 169, .inl f_counts_sorts)), (q_counts_counts, .inl (cy 0, 169, .inl f_counts_counts)), (q_counts_shares, .inl (cy 1, 169, .inr (.inl f_counts_shares))), (q_tapes, .inr (7, [.ref q_tapes_sorts, .ref q_tapes_lengths, .ref q_tapes_items])), (q_tapes_sorts, .inl (cy 0, 6, .inl f_tapes_sorts)), (q_tapes_lengths, .inl (cy 0, 6, .inl f_tapes_lengths)), (q_tapes_items, .inl (cy 1, 360, .inr (.inl f_tapes_items)))] → va_S A s.heap H locs → lv_has ls 4 [(0, .ref q_this), (1, .int v1), (2, .int v2)] → jX8_judge_39 n f_now_ground_a f_now_ground_b f_tapes_lengths f_tapes_items v1 v2 f_lowering_x f_lowering_y f_lowering_steps f_lowering_metLetter f_counts_a f_counts_b f_counts_sorts f_counts_counts f_counts_shares = some o → W p l e (headSpec (Cond.code yX8_judge cX8_judge 4 (some .int) :: AW) ({ frames := 6, cells := 0, slots := 0, locals := 140 } : Room)).room s m args below meth c H locs 0 0 (MQ below (va_Qi (fun r (_ : Unit) => r = o.1) (fun _ => Wq G cy A [(q_this, .inr (8, [.ref q_now, .ref q_saved, .int f_imaged, .ref q_trial, .ref q_lowering, .ref q_counts, .ref q_expansion, .ref q_setUp, .ref q_tapes])), (q_now, .inr (6, [.ref q_now_ground, .ref q_now_notes, .ref q_now_seen, .ref q_now_events, .ref q_now_book])), (q_now_ground, .inr (2, [.int f_now_ground_a, .int f_now_ground_b, .int f_now_ground_x, .int f_now_ground_y])), (q_lowering, .inr (3, [.int o.2.1, .int o.2.2.1, .int o.2.2.2.1, .int o.2.2.2.2.1])), (q_counts, .inr (0, [.ref q_lowering, .ref q_counts_sorts, .ref q_counts_counts, .ref q_counts_shares, .int o.2.2.2.2.2.1, .int o.2.2.2.2.2.2.1])), (q_counts_sorts, .inl (cy 0, 169, .inl o.2.2.2.2.2.2.2.1)), (q_counts_counts, .inl (cy 0, 169, .inl o.2.2.2.2.2.2.2.2.1)), (q_counts_shares, .inl (cy 1, 169, .inr (.inl o.2.2.2.2.2.2.2.2.2))), (q_tapes, .inr (7, [.ref q_tapes_sorts, .ref q_tapes_lengths, .ref q_tapes_items])), (q_tapes_sorts, .inl (cy 0, 6, .inl f_tapes_sorts)), (q_tapes_lengths, .inl (cy 0, 6, .inl f_tapes_lengths)), (q_tapes_items, .inl (cy 1, 360, .inr (.inl f_tapes_items)))]) A) args s 0 0 A) (F0 m 39 ls []) := by
  have C0 := C
  obtain ⟨hx, hb, hr, hml, htA, hown, hK, hN, hA, hlocks⟩ := C
  intro v1 v2 f_lowering_x f_lowering_y f_lowering_steps f_lowering_metLetter f_counts_a f_counts_b f_counts_sorts f_counts_counts f_counts_shares H locs ls hP hD hS hl hf
  have hf : ((fX0_fillFor n f_now_ground_a f_now_ground_b f_counts_a f_counts_b f_lowering_x f_lowering_y f_lowering_steps f_lowering_metLetter f_counts_sorts f_counts_counts f_counts_shares).bind fun q63 => (lX8_judge_68 n f_tapes_lengths f_tapes_items n v1 v2 1 q63.2.2.1 q63.2.2.2.1 q63.2.2.2.2.1 q63.2.2.2.2.2.1 q63.1 q63.2.1 q63.2.2.2.2.2.2.1 q63.2.2.2.2.2.2.2.1 q63.2.2.2.2.2.2.2.2) : Option (Int32 × Int32 × Int32 × Int32 × Int32 × Int32 × Int32 × (Nat → Int32) × (Nat → Int32) × (Nat → Int64))) = some o := hf
  refine lv_aload_n hx hb dX8_judge_39 rfl (lv_at hl 0 rfl) ?_
  refine va_get (D := G) (ci := 8) (v := .ref q_counts) (C := RX8) (T := TX8) (N := 9) hx hb htA lyX8 hown hK hP 0 rfl rfl 5 (by decide) (htA _ a_fl_X8_44) (fun _ h9 => h9) rfl dX8_judge_40 ?_
  refine lv_aload_n hx hb dX8_judge_43 rfl (lv_at hl 0 rfl) ?_
  refine va_get (D := G) (ci := 8) (v := .ref q_now) (C := RX8) (T := TX8) (N := 9) hx hb htA lyX8 hown hK hP 0 rfl rfl 0 (by decide) (htA _ a_fl_X8_14) (fun _ h9 => h9) rfl dX8_judge_44 ?_
  refine va_getN (D := G) (ci := 6) (v := .ref q_now_ground) (C := RX6) (T := TX6) (N := 5) hx hb htA lyX6 hown hK hP 1 rfl rfl 0 (by decide) (u_link hN (List.mem_of_getElem? (i := 6) rfl)) (fun _ h9 => h9) rfl dX8_judge_47 ?_
  refine va_getN (D := G) (ci := 2) (v := .int f_now_ground_a) (C := RX2) (T := TX2) (N := 4) hx hb htA lyX2 hown hK hP 2 rfl rfl 0 (by decide) (u_link hN (List.mem_of_getElem? (i := 2) rfl)) (fun _ h9 => h9) rfl dX8_judge_50 ?_
  refine lv_aload_n hx hb dX8_judge_53 rfl (lv_at hl 0 rfl) ?_
  refine va_get (D := G) (ci := 8) (v := .ref q_now) (C := RX8) (T := TX8) (N := 9) hx hb htA lyX8 hown hK hP 0 rfl rfl 0 (by decide) (htA _ a_fl_X8_14) (fun _ h9 => h9) rfl dX8_judge_54 ?_
  refine va_getN (D := G) (ci := 6) (v := .ref q_now_ground) (C := RX6) (T := TX6) (N := 5) hx hb htA lyX6 hown hK hP 1 rfl rfl 0 (by decide) (u_link hN (List.mem_of_getElem? (i := 6) rfl)) (fun _ h9 => h9) rfl dX8_judge_57 ?_
  refine va_getN (D := G) (ci := 2) (v := .int f_now_ground_b) (C := RX2) (T := TX2) (N := 4) hx hb htA lyX2 hown hK hP 2 rfl rfl 1 (by decide) (u_link hN (List.mem_of_getElem? (i := 3) rfl)) (fun _ h9 => h9) rfl dX8_judge_60 ?_
  obtain ⟨q63, h63_59, hf⟩ := bd_s hf
  refine u_callv [(q_this, .inr (8, [.ref q_now, .ref q_saved, .int f_imaged, .ref q_trial, .ref q_lowering, .ref q_counts, .ref q_expansion, .ref q_setUp, .ref q_tapes])), (q_now, .inr (6, [.ref q_now_ground, .ref q_now_notes, .ref q_now_seen, .ref q_now_events, .ref q_now_book])), (q_now_ground, .inr (2, [.int f_now_ground_a, .int f_now_ground_b, .int f_now_ground_x, .int f_now_ground_y])), (q_lowering, .inr (3, [.int q63.2.2.1, .int q63.2.2.2.1, .int q63.2.2.2.2.1, .int q63.2.2.2.2.2.1])), (q_counts, .inr (0, [.ref q_lowering, .ref q_counts_sorts, .ref q_counts_counts, .ref q_counts_shares, .int q63.1, .int q63.2.1])), (q_counts_sorts, .inl (cy 0, 169, .inl q63.2.2.2.2.2.2.1)), (q_counts_counts, .inl (cy 0, 169, .inl q63.2.2.2.2.2.2.2.1)), (q_counts_shares, .inl (cy 1, 169, .inr (.inl q63.2.2.2.2.2.2.2.2))), (q_tapes, .inr (7, [.ref q_tapes_sorts, .ref q_tapes_lengths, .ref q_tapes_items])), (q_tapes_sorts, .inl (cy 0, 6, .inl f_tapes_sorts)), (q_tapes_lengths, .inl (cy 0, 6, .inl f_tapes_lengths)), (q_tapes_items, .inl (cy 1, 360, .inr (.inl f_tapes_items)))] (va_runV (As := [.int f_now_ground_a, .int f_now_ground_b]) (rest := []) ⟨hx, hb, hml, hown, htA⟩ (kX0_fillFor l G cy q_counts q_lowering q_counts_sorts q_counts_counts q_counts_shares H.size f_counts_a f_counts_b f_lowering_x f_lowering_y f_lowering_steps f_lowering_metLetter f_counts_sorts f_counts_counts f_counts_shares f_now_ground_a f_now_ground_b n h63_59) (u_cwV htA a_ml_X8_202 pk_X0_fillFor ⟨Nat.le_of_ble_eq_true rfl, Nat.le_of_ble_eq_true rfl⟩) (u_preV hK hN hP hD [4, 3, 5, 6, 7] rfl (by decide) 4 rfl rfl) rfl rfl hl.1 rfl (lv_room (Nat.le_of_ble_eq_true rfl)) dX8_judge_63 ⟨Nat.zero_le _, Nat.zero_le _⟩) hP hD hS hA [4, 3, 5, 6, 7] rfl [0, 1, 2, 8, 9, 10, 11] 12 rfl rfl rfl (by decide) rfl (fun H locs hP hD hS => ?_)
  refine lv_iconst (v := 1) hx hb dX8_judge_66 (by decide) ?_
  refine lv_istore_n (lv' := [(3, .int 1), (0, .ref q_this), (1, .int v1), (2, .int v2)]) hx hb dX8_judge_67 rfl hl (by decide) rfl (fun ls hl => ?_)
  exact wX8_judge_68 C0 n _ _ _ _ _ _ _ _ _ _ _ _ _ _ _ hP hD hS (lv_sub hl [1, 2, 3, 0] rfl) hf
set_option maxRecDepth 100000 in
set_option maxHeartbeats 4000000 in
theorem kX8_judge (l : Launch) (G : va_G) (cy : Nat → ClassId) (q_this : Nat) (q_now : Nat) (q_saved : Nat) (q_trial : Nat) (q_lowering : Nat) (q_counts : Nat) (q_expansion : Nat) (q_setUp : Nat) (q_tapes : Nat) (q_now_ground : Nat) (q_now_notes : Nat) (q_now_seen : Nat) (q_now_events : Nat) (q_now_book : Nat) (q_counts_sorts : Nat) (q_counts_counts : Nat) (q_counts_shares : Nat) (q_tapes_sorts : Nat) (q_tapes_lengths : Nat) (q_tapes_items : Nat) (sz : Nat) (f_imaged : Int32) (f_now_ground_a : Int32) (f_now_ground_b : Int32) (f_now_ground_x : Int32) (f_now_ground_y : Int32) (f_lowering_x : Int32) (f_lowering_y : Int32) (f_lowering_steps : Int32) (f_lowering_metLetter : Int32) (f_counts_a : Int32) (f_counts_b : Int32) (f_counts_sorts : Nat → Int32) (f_counts_counts : Nat → Int32) (f_counts_shares : Nat → Int64) (f_tapes_sorts : Nat → Int32) (f_tapes_lengths : Nat → Int32) (f_tapes_items : Nat → Int64) (p1 : Int32) (p2 : Int32) (n : Nat) {o : Int32 × Int32 × Int32 × Int32 × Int32 × Int32 × Int32 × (Nat → Int32) × (Nat → Int32) × (Nat → Int64)} (hf : fX8_judge n p1 p2 f_now_ground_a f_now_ground_b f_lowering_x f_lowering_y f_lowering_steps f_lowering_metLetter f_counts_a f_counts_b f_counts_sorts f_counts_counts f_counts_shares f_tapes_sorts f_tapes_lengths f_tapes_items = some o) : Met l yX8_judge (Cond.code yX8_judge cX8_judge 4 (some .int) :: AW) ({ frames := 6, cells := 0, slots := 0, locals := 140 } : Room) (va_Pc [.ref q_this, .int p1, .int p2] (Wp G cy [(q_this, .inr (8, [.ref q_now, .ref q_saved, .int f_imaged, .ref q_trial, .ref q_lowering, .ref q_counts, .ref q_expansion, .ref q_setUp, .ref q_tapes])), (q_now, .inr (6, [.ref q_now_ground, .ref q_now_notes, .ref q_now_seen, .ref q_now_events, .ref q_now_book])), (q_now_ground, .inr (2, [.int f_now_ground_a, .int f_now_ground_b, .int f_now_ground_x, .int f_now_ground_y])), (q_lowering, .inr (3, [.int f_lowering_x, .int f_lowering_y, .int f_lowering_steps, .int f_lowering_metLetter])), (q_counts, .inr (0, [.ref q_lowering, .ref q_counts_sorts, .ref q_counts_counts, .ref q_counts_shares, .int f_counts_a, .int f_counts_b])), (q_counts_sorts, .inl (cy 0, 169, .inl f_counts_sorts)), (q_counts_counts, .inl (cy 0, 169, .inl f_counts_counts)), (q_counts_shares, .inl (cy 1, 169, .inr (.inl f_counts_shares))), (q_tapes, .inr (7, [.ref q_tapes_sorts, .ref q_tapes_lengths, .ref q_tapes_items])), (q_tapes_sorts, .inl (cy 0, 6, .inl f_tapes_sorts)), (q_tapes_lengths, .inl (cy 0, 6, .inl f_tapes_lengths)), (q_tapes_items, .inl (cy 1, 360, .inr (.inl f_tapes_items)))] sz)) (va_Qi (fun r (_ : Unit) => r = o.1) (fun _ => Wq G cy (va_A [(q_this, .inr (8, [.ref q_now, .ref q_saved, .int f_imaged, .ref q_trial, .ref q_lowering, .ref q_counts, .ref q_expansion, .ref q_setUp, .ref q_tapes])), (q_now, .inr (6, [.ref q_now_ground, .ref q_now_notes, .ref q_now_seen, .ref q_now_events, .ref q_now_book])), (q_now_ground, .inr (2, [.int f_now_ground_a, .int f_now_ground_b, .int f_now_ground_x, .int f_now_ground_y])), (q_lowering, .inr (3, [.int f_lowering_x, .int f_lowering_y, .int f_lowering_steps, .int f_lowering_metLetter])), (q_counts, .inr (0, [.ref q_lowering, .ref q_counts_sorts, .ref q_counts_counts, .ref q_counts_shares, .int f_counts_a, .int f_counts_b])), (q_counts_sorts, .inl (cy 0, 169, .inl f_counts_sorts)), (q_counts_counts, .inl (cy 0, 169, .inl f_counts_counts)), (q_counts_shares, .inl (cy 1, 169, .inr (.inl f_counts_shares))), (q_tapes, .inr (7, [.ref q_tapes_sorts, .ref q_tapes_lengths, .ref q_tapes_items])), (q_tapes_sorts, .inl (cy 0, 6, .inl f_tapes_sorts)), (q_tapes_lengths, .inl (cy 0, 6, .inl f_tapes_lengths)), (q_tapes_items, .inl (cy 1, 360, .inr (.inl f_tapes_items)))] sz) [(q_this, .inr (8, [.ref q_now, .ref q_saved, .int f_imaged, .ref q_trial, .ref q_lowering, .ref q_counts, .ref q_expansion, .ref q_setUp, .ref q_tapes])), (q_now, .inr (6, [.ref q_now_ground, .ref q_now_notes, .ref q_now_seen, .ref q_now_events, .ref q_now_book])), (q_now_ground, .inr (2, [.int f_now_ground_a, .int f_now_ground_b, .int f_now_ground_x, .int f_now_ground_y])), (q_lowering, .inr (3, [.int o.2.1, .int o.2.2.1, .int o.2.2.2.1, .int o.2.2.2.2.1])), (q_counts, .inr (0, [.ref q_lowering, .ref q_counts_sorts, .ref q_counts_counts, .ref q_counts_shares, .int o.2.2.2.2.2.1, .int o.2.2.2.2.2.2.1])), (q_counts_sorts, .inl (cy 0, 169, .inl o.2.2.2.2.2.2.2.1)), (q_counts_counts, .inl (cy 0, 169, .inl o.2.2.2.2.2.2.2.2.1)), (q_counts_shares, .inl (cy 1, 169, .inr (.inl o.2.2.2.2.2.2.2.2.2))), (q_tapes, .inr (7, [.ref q_tapes_sorts, .ref q_tapes_lengths, .ref q_tapes_items])), (q_tapes_sorts, .inl (cy 0, 6, .inl f_tapes_sorts)), (q_tapes_lengths, .inl (cy 0, 6, .inl f_tapes_lengths)), (q_tapes_items, .inl (cy 1, 360, .inr (.inl f_tapes_items)))]) (va_A [(q_this, .inr (8, [.ref q_now, .ref q_saved, .int f_imaged, .ref q_trial, .ref q_lowering, .ref q_counts, .ref q_expansion, .ref q_setUp, .ref q_tapes])), (q_now, .inr (6, [.ref q_now_ground, .ref q_now_notes, .ref q_now_seen, .ref q_now_events, .ref q_now_book])), (q_now_ground, .inr (2, [.int f_now_ground_a, .int f_now_ground_b, .int f_now_ground_x, .int f_now_ground_y])), (q_lowering, .inr (3, [.int f_lowering_x, .int f_lowering_y, .int f_lowering_steps, .int f_lowering_metLetter])), (q_counts, .inr (0, [.ref q_lowering, .ref q_counts_sorts, .ref q_counts_counts, .ref q_counts_shares, .int f_counts_a, .int f_counts_b])), (q_counts_sorts, .inl (cy 0, 169, .inl f_counts_sorts)), (q_counts_counts, .inl (cy 0, 169, .inl f_counts_counts)), (q_counts_shares, .inl (cy 1, 169, .inr (.inl f_counts_shares))), (q_tapes, .inr (7, [.ref q_tapes_sorts, .ref q_tapes_lengths, .ref q_tapes_items])), (q_tapes_sorts, .inl (cy 0, 6, .inl f_tapes_sorts)), (q_tapes_lengths, .inl (cy 0, 6, .inl f_tapes_lengths)), (q_tapes_items, .inl (cy 1, 360, .inr (.inl f_tapes_items)))] sz)) 0 0 (va_A [(q_this, .inr (8, [.ref q_now, .ref q_saved, .int f_imaged, .ref q_trial, .ref q_lowering, .ref q_counts, .ref q_expansion, .ref q_setUp, .ref q_tapes])), (q_now, .inr (6, [.ref q_now_ground, .ref q_now_notes, .ref q_now_seen, .ref q_now_events, .ref q_now_book])), (q_now_ground, .inr (2, [.int f_now_ground_a, .int f_now_ground_b, .int f_now_ground_x, .int f_now_ground_y])), (q_lowering, .inr (3, [.int f_lowering_x, .int f_lowering_y, .int f_lowering_steps, .int f_lowering_metLetter])), (q_counts, .inr (0, [.ref q_lowering, .ref q_counts_sorts, .ref q_counts_counts, .ref q_counts_shares, .int f_counts_a, .int f_counts_b])), (q_counts_sorts, .inl (cy 0, 169, .inl f_counts_sorts)), (q_counts_counts, .inl (cy 0, 169, .inl f_counts_counts)), (q_counts_shares, .inl (cy 1, 169, .inr (.inl f_counts_shares))), (q_tapes, .inr (7, [.ref q_tapes_sorts, .ref q_tapes_lengths, .ref q_tapes_items])), (q_tapes_sorts, .inl (cy 0, 6, .inl f_tapes_sorts)), (q_tapes_lengths, .inl (cy 0, 6, .inl f_tapes_lengths)), (q_tapes_items, .inl (cy 1, 360, .inr (.inl f_tapes_items)))] sz) := by
  refine Met.ofW (cc := cX8_judge) (maxL := 4) (ret := (some .int)) (by decide) rfl ?_
  intro p e s m args below meth c s₁ B hml hv
  obtain ⟨rfl, hsz, hP, hK, hD0, hN⟩ := hv
  have hx := B.exec
  have hb := B.bytes
  have hr := B.returns
  have htA : ∀ w ∈ AW, w.before _ s = true := fun w h => atoms_spec (ws := Cond.code yX8_judge cX8_judge 4 (some .int) :: AW) B.pre w (List.mem_cons_of_mem _ h)
  have hown : s.vm.findClass RX8 = some m.cls := findClass_of_methodNamed B.named
  have hlocks := B.notSynchronized
  subst hsz
  have hD := hD0.self (sz := s.heap.size)
  generalize hAe : va_A [(q_this, .inr (8, [.ref q_now, .ref q_saved, .int f_imaged, .ref q_trial, .ref q_lowering, .ref q_counts, .ref q_expansion, .ref q_setUp, .ref q_tapes])), (q_now, .inr (6, [.ref q_now_ground, .ref q_now_notes, .ref q_now_seen, .ref q_now_events, .ref q_now_book])), (q_now_ground, .inr (2, [.int f_now_ground_a, .int f_now_ground_b, .int f_now_ground_x, .int f_now_ground_y])), (q_lowering, .inr (3, [.int f_lowering_x, .int f_lowering_y, .int f_lowering_steps, .int f_lowering_metLetter])), (q_counts, .inr (0, [.ref q_lowering, .ref q_counts_sorts, .ref q_counts_counts, .ref q_counts_shares, .int f_counts_a, .int f_counts_b])), (q_counts_sorts, .inl (cy 0, 169, .inl f_counts_sorts)), (q_counts_counts, .inl (cy 0, 169, .inl f_counts_counts)), (q_counts_shares, .inl (cy 1, 169, .inr (.inl f_counts_shares))), (q_tapes, .inr (7, [.ref q_tapes_sorts, .ref q_tapes_lengths, .ref q_tapes_items])), (q_tapes_sorts, .inl (cy 0, 6, .inl f_tapes_sorts)), (q_tapes_lengths, .inl (cy 0, 6, .inl f_tapes_lengths)), (q_tapes_items, .inl (cy 1, 360, .inr (.inl f_tapes_items)))] s.heap.size = A at hD ⊢
  have hA : ∀ q : Nat, s.heap.size ≤ q → A q := fun q h => by rw [← hAe]; exact Or.inr h
  have hS : va_S A s.heap s.heap [] := va_S.rf
  have hl := lv_entry ([.ref q_this, .int p1, .int p2]) (n := 4) (Nat.le_of_ble_eq_true rfl)
  rw [lg_entry_eq]
  generalize (lg_sl ([.ref q_this, .int p1, .int p2]) ++ List.replicate (4 - (lg_sl ([.ref q_this, .int p1, .int p2])).length) Slot.unset).toArray = ls at hl ⊢
  have hl : lv_has ls 4 [(0, .ref q_this), (1, .int p1), (2, .int p2)] := hl
  have hP : va_P G vwCl [(q_this, .inr (8, [.ref q_now, .ref q_saved, .int f_imaged, .ref q_trial, .ref q_lowering, .ref q_counts, .ref q_expansion, .ref q_setUp, .ref q_tapes])), (q_now, .inr (6, [.ref q_now_ground, .ref q_now_notes, .ref q_now_seen, .ref q_now_events, .ref q_now_book])), (q_now_ground, .inr (2, [.int f_now_ground_a, .int f_now_ground_b, .int f_now_ground_x, .int f_now_ground_y])), (q_lowering, .inr (3, [.int f_lowering_x, .int f_lowering_y, .int f_lowering_steps, .int f_lowering_metLetter])), (q_counts, .inr (0, [.ref q_lowering, .ref q_counts_sorts, .ref q_counts_counts, .ref q_counts_shares, .int f_counts_a, .int f_counts_b])), (q_counts_sorts, .inl (cy 0, 169, .inl f_counts_sorts)), (q_counts_counts, .inl (cy 0, 169, .inl f_counts_counts)), (q_counts_shares, .inl (cy 1, 169, .inr (.inl f_counts_shares))), (q_tapes, .inr (7, [.ref q_tapes_sorts, .ref q_tapes_lengths, .ref q_tapes_items])), (q_tapes_sorts, .inl (cy 0, 6, .inl f_tapes_sorts)), (q_tapes_lengths, .inl (cy 0, 6, .inl f_tapes_lengths)), (q_tapes_items, .inl (cy 1, 360, .inr (.inl f_tapes_items)))] s.heap := hP
  have C0 : Cx p s m _ meth c cX8_judge 4 (some .int) RX8 G cy A := ⟨hx, hb, hr, hml, htA, hown, hK, hN, hA, hlocks⟩
  have hf : ((fX7_isTape p1).bind fun q5 => ((if q5 = 0 then some ((-1), f_lowering_x, f_lowering_y, f_lowering_steps, f_lowering_metLetter, f_counts_a, f_counts_b, f_counts_sorts, f_counts_counts, f_counts_shares) else (fX7_holds p1 f_tapes_sorts).bind fun q18 => ((if q18 = 0 then jX8_judge_39 n f_now_ground_a f_now_ground_b f_tapes_lengths f_tapes_items p1 p2 f_lowering_x f_lowering_y f_lowering_steps f_lowering_metLetter f_counts_a f_counts_b f_counts_sorts f_counts_counts f_counts_shares else (fX7_sortAt p1 f_tapes_sorts).bind fun q29 => ((if q29 = 2 then jX8_judge_39 n f_now_ground_a f_now_ground_b f_tapes_lengths f_tapes_items p1 p2 f_lowering_x f_lowering_y f_lowering_steps f_lowering_metLetter f_counts_a f_counts_b f_counts_sorts f_counts_counts f_counts_shares else some ((-12), f_lowering_x, f_lowering_y, f_lowering_steps, f_lowering_metLetter, f_counts_a, f_counts_b, f_counts_sorts, f_counts_counts, f_counts_shares))))))) : Option (Int32 × Int32 × Int32 × Int32 × Int32 × Int32 × Int32 × (Nat → Int32) × (Nat → Int32) × (Nat → Int64))) = some o := hf
  refine lv_aload_n hx hb dX8_judge_0 rfl (lv_at hl 0 rfl) ?_
  refine va_get (D := G) (ci := 8) (v := .ref q_tapes) (C := RX8) (T := TX8) (N := 9) hx hb htA lyX8 hown hK hP 0 rfl rfl 8 (by decide) (htA _ a_fl_X8_65) (fun _ h9 => h9) rfl dX8_judge_1 ?_
  refine lv_iload_n hx hb dX8_judge_4 rfl (lv_at hl 1 rfl) ?_
  obtain ⟨q5, h5_60, hf⟩ := bd_s hf
  refine u_calliR (va_runV (As := [.int p1]) (rest := []) ⟨hx, hb, hml, hown, htA⟩ (kX7_isTape l G cy q_tapes q_tapes_sorts q_tapes_lengths q_tapes_items s.heap.size p1 h5_60) (u_cwV htA a_ml_X8_259 pk_X7_isTape ⟨Nat.le_of_ble_eq_true rfl, Nat.le_of_ble_eq_true rfl⟩) (u_preV hK hN hP hD [8] rfl (by decide) 8 rfl rfl) rfl rfl hl.1 rfl (lv_room (Nat.le_of_ble_eq_true rfl)) dX8_judge_5 ⟨Nat.zero_le _, Nat.zero_le _⟩) hP hD hS hA [8] rfl (fun H locs hP hS => ?_)
  refine lv_if_ne (tgt := 13) hx hb dX8_judge_8 (by decide) (fun c_61 => ?_) (fun c_61 => ?_)
  · have hf := ite_f c_61 hf
    refine lv_aload_n hx hb dX8_judge_13 rfl (lv_at hl 0 rfl) ?_
    refine va_get (D := G) (ci := 8) (v := .ref q_tapes) (C := RX8) (T := TX8) (N := 9) hx hb htA lyX8 hown hK hP 0 rfl rfl 8 (by decide) (htA _ a_fl_X8_65) (fun _ h9 => h9) rfl dX8_judge_14 ?_
    refine lv_iload_n hx hb dX8_judge_17 rfl (lv_at hl 1 rfl) ?_
    obtain ⟨q18, h18_62, hf⟩ := bd_s hf
    refine u_calliR (va_runV (As := [.int p1]) (rest := []) ⟨hx, hb, hml, hown, htA⟩ (kX7_holds l G cy q_tapes q_tapes_sorts q_tapes_lengths q_tapes_items H.size f_tapes_sorts p1 h18_62) (u_cwV htA a_ml_X8_262 pk_X7_holds ⟨Nat.le_of_ble_eq_true rfl, Nat.le_of_ble_eq_true rfl⟩) (u_preV hK hN hP hD [8, 9] rfl (by decide) 8 rfl rfl) rfl rfl hl.1 rfl (lv_room (Nat.le_of_ble_eq_true rfl)) dX8_judge_18 ⟨Nat.zero_le _, Nat.zero_le _⟩) hP hD hS hA [8, 9] rfl (fun H locs hP hS => ?_)
    refine lv_if_eq (tgt := 39) hx hb dX8_judge_21 (by decide) (fun c_63 => ?_) (fun c_63 => ?_)
    · have hf := ite_t c_63 hf
      exact wX8_judge_39 C0 _ _ _ _ _ _ _ _ _ _ _ _ _ _ hP hD hS (lv_sub hl [0, 1, 2] rfl) hf
    · have hf := ite_f c_63 hf
      refine lv_aload_n hx hb dX8_judge_24 rfl (lv_at hl 0 rfl) ?_
      refine va_get (D := G) (ci := 8) (v := .ref q_tapes) (C := RX8) (T := TX8) (N := 9) hx hb htA lyX8 hown hK hP 0 rfl rfl 8 (by decide) (htA _ a_fl_X8_65) (fun _ h9 => h9) rfl dX8_judge_25 ?_
      refine lv_iload_n hx hb dX8_judge_28 rfl (lv_at hl 1 rfl) ?_
      obtain ⟨q29, h29_64, hf⟩ := bd_s hf
      refine u_calliR (va_runV (As := [.int p1]) (rest := []) ⟨hx, hb, hml, hown, htA⟩ (kX7_sortAt l G cy q_tapes q_tapes_sorts q_tapes_lengths q_tapes_items H.size f_tapes_sorts p1 h29_64) (u_cwV htA a_ml_X8_265 pk_X7_sortAt ⟨Nat.le_of_ble_eq_true rfl, Nat.le_of_ble_eq_true rfl⟩) (u_preV hK hN hP hD [8, 9] rfl (by decide) 8 rfl rfl) rfl rfl hl.1 rfl (lv_room (Nat.le_of_ble_eq_true rfl)) dX8_judge_29 ⟨Nat.zero_le _, Nat.zero_le _⟩) hP hD hS hA [8, 9] rfl (fun H locs hP hS => ?_)
      refine lv_iconst (v := 2) hx hb dX8_judge_32 (by decide) ?_
      refine lv_icmp_eq (tgt := 39) hx hb dX8_judge_33 (by decide) (fun c_65 => ?_) (fun c_65 => ?_)
      · have hf := ite_t c_65 hf
        exact wX8_judge_39 C0 _ _ _ _ _ _ _ _ _ _ _ _ _ _ hP hD hS (lv_sub hl [0, 1, 2] rfl) hf
      · have hf := ite_f c_65 hf
        refine lv_bipush (v := (-12)) hx hb dX8_judge_36 (by decide) ?_
        have ho := Option.some.inj hf
        subst ho
        exact W.iret (v := (-12)) hx hb hr (fun t ht hW => ⟨⟨_, (), rfl, rfl, by rw [ht]; exact hP, va_K.moved hW.alike hK, hD⟩, hS.F ht⟩) hS.2.2 dX8_judge_38
  · have hf := ite_t c_61 hf
    refine lv_iconst (v := (-1)) hx hb dX8_judge_11 (by decide) ?_
    have ho := Option.some.inj hf
    subst ho
    exact W.iret (v := (-1)) hx hb hr (fun t ht hW => ⟨⟨_, (), rfl, rfl, by rw [ht]; exact hP, va_K.moved hW.alike hK, hD⟩, hS.F ht⟩) hS.2.2 dX8_judge_12
set_option maxRecDepth 100000 in
set_option maxHeartbeats 4000000 in
theorem kX8_image (l : Launch) (G : va_G) (cy : Nat → ClassId) (q_this : Nat) (q_now : Nat) (q_saved : Nat) (q_trial : Nat) (q_lowering : Nat) (q_counts : Nat) (q_expansion : Nat) (q_setUp : Nat) (q_tapes : Nat) (q_now_ground : Nat) (q_now_notes : Nat) (q_now_seen : Nat) (q_now_events : Nat) (q_now_book : Nat) (q_now_notes_cells : Nat) (q_now_seen_cells : Nat) (q_now_events_cells : Nat) (q_now_book_cells : Nat) (q_saved_ground : Nat) (q_saved_notes : Nat) (q_saved_seen : Nat) (q_saved_events : Nat) (q_saved_book : Nat) (q_saved_notes_cells : Nat) (q_saved_seen_cells : Nat) (q_saved_events_cells : Nat) (q_saved_book_cells : Nat) (sz : Nat) (n_now_notes_cells : Nat) (n_now_seen_cells : Nat) (n_now_events_cells : Nat) (n_now_book_cells : Nat) (n_saved_notes_cells : Nat) (n_saved_seen_cells : Nat) (n_saved_events_cells : Nat) (n_saved_book_cells : Nat) (f_imaged : Int32) (f_now_ground_a : Int32) (f_now_ground_b : Int32) (f_now_ground_x : Int32) (f_now_ground_y : Int32) (f_now_notes_limit : Int32) (f_now_notes_used : Int32) (f_now_notes_cells : Nat → Int32) (f_now_seen_limit : Int32) (f_now_seen_used : Int32) (f_now_seen_cells : Nat → Int32) (f_now_events_limit : Int32) (f_now_events_used : Int32) (f_now_events_cells : Nat → Int32) (f_now_book_limit : Int32) (f_now_book_used : Int32) (f_now_book_cells : Nat → Int32) (f_saved_ground_a : Int32) (f_saved_ground_b : Int32) (f_saved_ground_x : Int32) (f_saved_ground_y : Int32) (f_saved_notes_limit : Int32) (f_saved_notes_used : Int32) (f_saved_notes_cells : Nat → Int32) (f_saved_seen_limit : Int32) (f_saved_seen_used : Int32) (f_saved_seen_cells : Nat → Int32) (f_saved_events_limit : Int32) (f_saved_events_used : Int32) (f_saved_events_cells : Nat → Int32) (f_saved_book_limit : Int32) (f_saved_book_used : Int32) (f_saved_book_cells : Nat → Int32) (n : Nat) {o : Int32 × Int32 × Int32 × Int32 × Int32 × Int32 × Int32 × (Nat → Int32) × Int32 × (Nat → Int32) × Int32 × (Nat → Int32) × Int32 × (Nat → Int32)} (hf : fX8_image n n_now_notes_cells n_now_seen_cells n_now_events_cells n_now_book_cells n_saved_notes_cells n_saved_seen_cells n_saved_events_cells n_saved_book_cells f_imaged f_now_ground_a f_now_ground_b f_now_ground_x f_now_ground_y f_now_notes_used f_now_notes_cells f_now_seen_used f_now_seen_cells f_now_events_used f_now_events_cells f_now_book_used f_now_book_cells f_saved_ground_a f_saved_ground_b f_saved_ground_x f_saved_ground_y f_saved_notes_limit f_saved_notes_used f_saved_notes_cells f_saved_seen_limit f_saved_seen_used f_saved_seen_cells f_saved_events_limit f_saved_events_used f_saved_events_cells f_saved_book_limit f_saved_book_used f_saved_book_cells = some o) : Met l yX8_image (Cond.code yX8_image cX8_image 1 (some .int) :: AW) ({ frames := 4, cells := 0, slots := 0, locals := 87 } : Room) (va_Pc [.ref q_this] (Wp G cy [(q_this, .inr (8, [.ref q_now, .ref q_saved, .int f_imaged, .ref q_trial, .ref q_lowering, .ref q_counts, .ref q_expansion, .ref q_setUp, .ref q_tapes])), (q_now, .inr (6, [.ref q_now_ground, .ref q_now_notes, .ref q_now_seen, .ref q_now_events, .ref q_now_book])), (q_now_ground, .inr (2, [.int f_now_ground_a, .int f_now_ground_b, .int f_now_ground_x, .int f_now_ground_y])), (q_now_notes, .inr (4, [.int f_now_notes_limit, .ref q_now_notes_cells, .int f_now_notes_used])), (q_now_notes_cells, .inl (cy 0, n_now_notes_cells, .inl f_now_notes_cells)), (q_now_seen, .inr (4, [.int f_now_seen_limit, .ref q_now_seen_cells, .int f_now_seen_used])), (q_now_seen_cells, .inl (cy 0, n_now_seen_cells, .inl f_now_seen_cells)), (q_now_events, .inr (4, [.int f_now_events_limit, .ref q_now_events_cells, .int f_now_events_used])), (q_now_events_cells, .inl (cy 0, n_now_events_cells, .inl f_now_events_cells)), (q_now_book, .inr (4, [.int f_now_book_limit, .ref q_now_book_cells, .int f_now_book_used])), (q_now_book_cells, .inl (cy 0, n_now_book_cells, .inl f_now_book_cells)), (q_saved, .inr (6, [.ref q_saved_ground, .ref q_saved_notes, .ref q_saved_seen, .ref q_saved_events, .ref q_saved_book])), (q_saved_ground, .inr (2, [.int f_saved_ground_a, .int f_saved_ground_b, .int f_saved_ground_x, .int f_saved_ground_y])), (q_saved_notes, .inr (4, [.int f_saved_notes_limit, .ref q_saved_notes_cells, .int f_saved_notes_used])), (q_saved_notes_cells, .inl (cy 0, n_saved_notes_cells, .inl f_saved_notes_cells)), (q_saved_seen, .inr (4, [.int f_saved_seen_limit, .ref q_saved_seen_cells, .int f_saved_seen_used])), (q_saved_seen_cells, .inl (cy 0, n_saved_seen_cells, .inl f_saved_seen_cells)), (q_saved_events, .inr (4, [.int f_saved_events_limit, .ref q_saved_events_cells, .int f_saved_events_used])), (q_saved_events_cells, .inl (cy 0, n_saved_events_cells, .inl f_saved_events_cells)), (q_saved_book, .inr (4, [.int f_saved_book_limit, .ref q_saved_book_cells, .int f_saved_book_used])), (q_saved_book_cells, .inl (cy 0, n_saved_book_cells, .inl f_saved_book_cells))] sz)) (va_Qi (fun r (_ : Unit) => r = o.1) (fun _ => Wq G cy (va_A [(q_this, .inr (8, [.ref q_now, .ref q_saved, .int f_imaged, .ref q_trial, .ref q_lowering, .ref q_counts, .ref q_expansion, .ref q_setUp, .ref q_tapes])), (q_now, .inr (6, [.ref q_now_ground, .ref q_now_notes, .ref q_now_seen, .ref q_now_events, .ref q_now_book])), (q_now_ground, .inr (2, [.int f_now_ground_a, .int f_now_ground_b, .int f_now_ground_x, .int f_now_ground_y])), (q_now_notes, .inr (4, [.int f_now_notes_limit, .ref q_now_notes_cells, .int f_now_notes_used])), (q_now_notes_cells, .inl (cy 0, n_now_notes_cells, .inl f_now_notes_cells)), (q_now_seen, .inr (4, [.int f_now_seen_limit, .ref q_now_seen_cells, .int f_now_seen_used])), (q_now_seen_cells, .inl (cy 0, n_now_seen_cells, .inl f_now_seen_cells)), (q_now_events, .inr (4, [.int f_now_events_limit, .ref q_now_events_cells, .int f_now_events_used])), (q_now_events_cells, .inl (cy 0, n_now_events_cells, .inl f_now_events_cells)), (q_now_book, .inr (4, [.int f_now_book_limit, .ref q_now_book_cells, .int f_now_book_used])), (q_now_book_cells, .inl (cy 0, n_now_book_cells, .inl f_now_book_cells)), (q_saved, .inr (6, [.ref q_saved_ground, .ref q_saved_notes, .ref q_saved_seen, .ref q_saved_events, .ref q_saved_book])), (q_saved_ground, .inr (2, [.int f_saved_ground_a, .int f_saved_ground_b, .int f_saved_ground_x, .int f_saved_ground_y])), (q_saved_notes, .inr (4, [.int f_saved_notes_limit, .ref q_saved_notes_cells, .int f_saved_notes_used])), (q_saved_notes_cells, .inl (cy 0, n_saved_notes_cells, .inl f_saved_notes_cells)), (q_saved_seen, .inr (4, [.int f_saved_seen_limit, .ref q_saved_seen_cells, .int f_saved_seen_used])), (q_saved_seen_cells, .inl (cy 0, n_saved_seen_cells, .inl f_saved_seen_cells)), (q_saved_events, .inr (4, [.int f_saved_events_limit, .ref q_saved_events_cells, .int f_saved_events_used])), (q_saved_events_cells, .inl (cy 0, n_saved_events_cells, .inl f_saved_events_cells)), (q_saved_book, .inr (4, [.int f_saved_book_limit, .ref q_saved_book_cells, .int f_saved_book_used])), (q_saved_book_cells, .inl (cy 0, n_saved_book_cells, .inl f_saved_book_cells))] sz) [(q_this, .inr (8, [.ref q_now, .ref q_saved, .int o.2.1, .ref q_trial, .ref q_lowering, .ref q_counts, .ref q_expansion, .ref q_setUp, .ref q_tapes])), (q_now, .inr (6, [.ref q_now_ground, .ref q_now_notes, .ref q_now_seen, .ref q_now_events, .ref q_now_book])), (q_now_ground, .inr (2, [.int f_now_ground_a, .int f_now_ground_b, .int f_now_ground_x, .int f_now_ground_y])), (q_now_notes, .inr (4, [.int f_now_notes_limit, .ref q_now_notes_cells, .int f_now_notes_used])), (q_now_notes_cells, .inl (cy 0, n_now_notes_cells, .inl f_now_notes_cells)), (q_now_seen, .inr (4, [.int f_now_seen_limit, .ref q_now_seen_cells, .int f_now_seen_used])), (q_now_seen_cells, .inl (cy 0, n_now_seen_cells, .inl f_now_seen_cells)), (q_now_events, .inr (4, [.int f_now_events_limit, .ref q_now_events_cells, .int f_now_events_used])), (q_now_events_cells, .inl (cy 0, n_now_events_cells, .inl f_now_events_cells)), (q_now_book, .inr (4, [.int f_now_book_limit, .ref q_now_book_cells, .int f_now_book_used])), (q_now_book_cells, .inl (cy 0, n_now_book_cells, .inl f_now_book_cells)), (q_saved, .inr (6, [.ref q_saved_ground, .ref q_saved_notes, .ref q_saved_seen, .ref q_saved_events, .ref q_saved_book])), (q_saved_ground, .inr (2, [.int o.2.2.1, .int o.2.2.2.1, .int o.2.2.2.2.1, .int o.2.2.2.2.2.1])), (q_saved_notes, .inr (4, [.int f_saved_notes_limit, .ref q_saved_notes_cells, .int o.2.2.2.2.2.2.1])), (q_saved_notes_cells, .inl (cy 0, n_saved_notes_cells, .inl o.2.2.2.2.2.2.2.1)), (q_saved_seen, .inr (4, [.int f_saved_seen_limit, .ref q_saved_seen_cells, .int o.2.2.2.2.2.2.2.2.1])), (q_saved_seen_cells, .inl (cy 0, n_saved_seen_cells, .inl o.2.2.2.2.2.2.2.2.2.1)), (q_saved_events, .inr (4, [.int f_saved_events_limit, .ref q_saved_events_cells, .int o.2.2.2.2.2.2.2.2.2.2.1])), (q_saved_events_cells, .inl (cy 0, n_saved_events_cells, .inl o.2.2.2.2.2.2.2.2.2.2.2.1)), (q_saved_book, .inr (4, [.int f_saved_book_limit, .ref q_saved_book_cells, .int o.2.2.2.2.2.2.2.2.2.2.2.2.1])), (q_saved_book_cells, .inl (cy 0, n_saved_book_cells, .inl o.2.2.2.2.2.2.2.2.2.2.2.2.2))]) (va_A [(q_this, .inr (8, [.ref q_now, .ref q_saved, .int f_imaged, .ref q_trial, .ref q_lowering, .ref q_counts, .ref q_expansion, .ref q_setUp, .ref q_tapes])), (q_now, .inr (6, [.ref q_now_ground, .ref q_now_notes, .ref q_now_seen, .ref q_now_events, .ref q_now_book])), (q_now_ground, .inr (2, [.int f_now_ground_a, .int f_now_ground_b, .int f_now_ground_x, .int f_now_ground_y])), (q_now_notes, .inr (4, [.int f_now_notes_limit, .ref q_now_notes_cells, .int f_now_notes_used])), (q_now_notes_cells, .inl (cy 0, n_now_notes_cells, .inl f_now_notes_cells)), (q_now_seen, .inr (4, [.int f_now_seen_limit, .ref q_now_seen_cells, .int f_now_seen_used])), (q_now_seen_cells, .inl (cy 0, n_now_seen_cells, .inl f_now_seen_cells)), (q_now_events, .inr (4, [.int f_now_events_limit, .ref q_now_events_cells, .int f_now_events_used])), (q_now_events_cells, .inl (cy 0, n_now_events_cells, .inl f_now_events_cells)), (q_now_book, .inr (4, [.int f_now_book_limit, .ref q_now_book_cells, .int f_now_book_used])), (q_now_book_cells, .inl (cy 0, n_now_book_cells, .inl f_now_book_cells)), (q_saved, .inr (6, [.ref q_saved_ground, .ref q_saved_notes, .ref q_saved_seen, .ref q_saved_events, .ref q_saved_book])), (q_saved_ground, .inr (2, [.int f_saved_ground_a, .int f_saved_ground_b, .int f_saved_ground_x, .int f_saved_ground_y])), (q_saved_notes, .inr (4, [.int f_saved_notes_limit, .ref q_saved_notes_cells, .int f_saved_notes_used])), (q_saved_notes_cells, .inl (cy 0, n_saved_notes_cells, .inl f_saved_notes_cells)), (q_saved_seen, .inr (4, [.int f_saved_seen_limit, .ref q_saved_seen_cells, .int f_saved_seen_used])), (q_saved_seen_cells, .inl (cy 0, n_saved_seen_cells, .inl f_saved_seen_cells)), (q_saved_events, .inr (4, [.int f_saved_events_limit, .ref q_saved_events_cells, .int f_saved_events_used])), (q_saved_events_cells, .inl (cy 0, n_saved_events_cells, .inl f_saved_events_cells)), (q_saved_book, .inr (4, [.int f_saved_book_limit, .ref q_saved_book_cells, .int f_saved_book_used])), (q_saved_book_cells, .inl (cy 0, n_saved_book_cells, .inl f_saved_book_cells))] sz)) 0 0 (va_A [(q_this, .inr (8, [.ref q_now, .ref q_saved, .int f_imaged, .ref q_trial, .ref q_lowering, .ref q_counts, .ref q_expansion, .ref q_setUp, .ref q_tapes])), (q_now, .inr (6, [.ref q_now_ground, .ref q_now_notes, .ref q_now_seen, .ref q_now_events, .ref q_now_book])), (q_now_ground, .inr (2, [.int f_now_ground_a, .int f_now_ground_b, .int f_now_ground_x, .int f_now_ground_y])), (q_now_notes, .inr (4, [.int f_now_notes_limit, .ref q_now_notes_cells, .int f_now_notes_used])), (q_now_notes_cells, .inl (cy 0, n_now_notes_cells, .inl f_now_notes_cells)), (q_now_seen, .inr (4, [.int f_now_seen_limit, .ref q_now_seen_cells, .int f_now_seen_used])), (q_now_seen_cells, .inl (cy 0, n_now_seen_cells, .inl f_now_seen_cells)), (q_now_events, .inr (4, [.int f_now_events_limit, .ref q_now_events_cells, .int f_now_events_used])), (q_now_events_cells, .inl (cy 0, n_now_events_cells, .inl f_now_events_cells)), (q_now_book, .inr (4, [.int f_now_book_limit, .ref q_now_book_cells, .int f_now_book_used])), (q_now_book_cells, .inl (cy 0, n_now_book_cells, .inl f_now_book_cells)), (q_saved, .inr (6, [.ref q_saved_ground, .ref q_saved_notes, .ref q_saved_seen, .ref q_saved_events, .ref q_saved_book])), (q_saved_ground, .inr (2, [.int f_saved_ground_a, .int f_saved_ground_b, .int f_saved_ground_x, .int f_saved_ground_y])), (q_saved_notes, .inr (4, [.int f_saved_notes_limit, .ref q_saved_notes_cells, .int f_saved_notes_used])), (q_saved_notes_cells, .inl (cy 0, n_saved_notes_cells, .inl f_saved_notes_cells)), (q_saved_seen, .inr (4, [.int f_saved_seen_limit, .ref q_saved_seen_cells, .int f_saved_seen_used])), (q_saved_seen_cells, .inl (cy 0, n_saved_seen_cells, .inl f_saved_seen_cells)), (q_saved_events, .inr (4, [.int f_saved_events_limit, .ref q_saved_events_cells, .int f_saved_events_used])), (q_saved_events_cells, .inl (cy 0, n_saved_events_cells, .inl f_saved_events_cells)), (q_saved_book, .inr (4, [.int f_saved_book_limit, .ref q_saved_book_cells, .int f_saved_book_used])), (q_saved_book_cells, .inl (cy 0, n_saved_book_cells, .inl f_saved_book_cells))] sz) := by
  refine Met.ofW (cc := cX8_image) (maxL := 1) (ret := (some .int)) (by decide) rfl ?_
  intro p e s m args below meth c s₁ B hml hv
  obtain ⟨rfl, hsz, hP, hK, hD0, hN⟩ := hv
  have hx := B.exec
  have hb := B.bytes
  have hr := B.returns
  have htA : ∀ w ∈ AW, w.before _ s = true := fun w h => atoms_spec (ws := Cond.code yX8_image cX8_image 1 (some .int) :: AW) B.pre w (List.mem_cons_of_mem _ h)
  have hown : s.vm.findClass RX8 = some m.cls := findClass_of_methodNamed B.named
  have hlocks := B.notSynchronized
  subst hsz
  have hD := hD0.self (sz := s.heap.size)
  generalize hAe : va_A [(q_this, .inr (8, [.ref q_now, .ref q_saved, .int f_imaged, .ref q_trial, .ref q_lowering, .ref q_counts, .ref q_expansion, .ref q_setUp, .ref q_tapes])), (q_now, .inr (6, [.ref q_now_ground, .ref q_now_notes, .ref q_now_seen, .ref q_now_events, .ref q_now_book])), (q_now_ground, .inr (2, [.int f_now_ground_a, .int f_now_ground_b, .int f_now_ground_x, .int f_now_ground_y])), (q_now_notes, .inr (4, [.int f_now_notes_limit, .ref q_now_notes_cells, .int f_now_notes_used])), (q_now_notes_cells, .inl (cy 0, n_now_notes_cells, .inl f_now_notes_cells)), (q_now_seen, .inr (4, [.int f_now_seen_limit, .ref q_now_seen_cells, .int f_now_seen_used])), (q_now_seen_cells, .inl (cy 0, n_now_seen_cells, .inl f_now_seen_cells)), (q_now_events, .inr (4, [.int f_now_events_limit, .ref q_now_events_cells, .int f_now_events_used])), (q_now_events_cells, .inl (cy 0, n_now_events_cells, .inl f_now_events_cells)), (q_now_book, .inr (4, [.int f_now_book_limit, .ref q_now_book_cells, .int f_now_book_used])), (q_now_book_cells, .inl (cy 0, n_now_book_cells, .inl f_now_book_cells)), (q_saved, .inr (6, [.ref q_saved_ground, .ref q_saved_notes, .ref q_saved_seen, .ref q_saved_events, .ref q_saved_book])), (q_saved_ground, .inr (2, [.int f_saved_ground_a, .int f_saved_ground_b, .int f_saved_ground_x, .int f_saved_ground_y])), (q_saved_notes, .inr (4, [.int f_saved_notes_limit, .ref q_saved_notes_cells, .int f_saved_notes_used])), (q_saved_notes_cells, .inl (cy 0, n_saved_notes_cells, .inl f_saved_notes_cells)), (q_saved_seen, .inr (4, [.int f_saved_seen_limit, .ref q_saved_seen_cells, .int f_saved_seen_used])), (q_saved_seen_cells, .inl (cy 0, n_saved_seen_cells, .inl f_saved_seen_cells)), (q_saved_events, .inr (4, [.int f_saved_events_limit, .ref q_saved_events_cells, .int f_saved_events_used])), (q_saved_events_cells, .inl (cy 0, n_saved_events_cells, .inl f_saved_events_cells)), (q_saved_book, .inr (4, [.int f_saved_book_limit, .ref q_saved_book_cells, .int f_saved_book_used])), (q_saved_book_cells, .inl (cy 0, n_saved_book_cells, .inl f_saved_book_cells))] s.heap.size = A at hD ⊢
  have hA : ∀ q : Nat, s.heap.size ≤ q → A q := fun q h => by rw [← hAe]; exact Or.inr h
  have hS : va_S A s.heap s.heap [] := va_S.rf
  have hl := lv_entry ([.ref q_this]) (n := 1) (Nat.le_of_ble_eq_true rfl)
  rw [lg_entry_eq]
  generalize (lg_sl ([.ref q_this]) ++ List.replicate (1 - (lg_sl ([.ref q_this])).length) Slot.unset).toArray = ls at hl ⊢
  have hl : lv_has ls 1 [(0, .ref q_this)] := hl
  have hP : va_P G vwCl [(q_this, .inr (8, [.ref q_now, .ref q_saved, .int f_imaged, .ref q_trial, .ref q_lowering, .ref q_counts, .ref q_expansion, .ref q_setUp, .ref q_tapes])), (q_now, .inr (6, [.ref q_now_ground, .ref q_now_notes, .ref q_now_seen, .ref q_now_events, .ref q_now_book])), (q_now_ground, .inr (2, [.int f_now_ground_a, .int f_now_ground_b, .int f_now_ground_x, .int f_now_ground_y])), (q_now_notes, .inr (4, [.int f_now_notes_limit, .ref q_now_notes_cells, .int f_now_notes_used])), (q_now_notes_cells, .inl (cy 0, n_now_notes_cells, .inl f_now_notes_cells)), (q_now_seen, .inr (4, [.int f_now_seen_limit, .ref q_now_seen_cells, .int f_now_seen_used])), (q_now_seen_cells, .inl (cy 0, n_now_seen_cells, .inl f_now_seen_cells)), (q_now_events, .inr (4, [.int f_now_events_limit, .ref q_now_events_cells, .int f_now_events_used])), (q_now_events_cells, .inl (cy 0, n_now_events_cells, .inl f_now_events_cells)), (q_now_book, .inr (4, [.int f_now_book_limit, .ref q_now_book_cells, .int f_now_book_used])), (q_now_book_cells, .inl (cy 0, n_now_book_cells, .inl f_now_book_cells)), (q_saved, .inr (6, [.ref q_saved_ground, .ref q_saved_notes, .ref q_saved_seen, .ref q_saved_events, .ref q_saved_book])), (q_saved_ground, .inr (2, [.int f_saved_ground_a, .int f_saved_ground_b, .int f_saved_ground_x, .int f_saved_ground_y])), (q_saved_notes, .inr (4, [.int f_saved_notes_limit, .ref q_saved_notes_cells, .int f_saved_notes_used])), (q_saved_notes_cells, .inl (cy 0, n_saved_notes_cells, .inl f_saved_notes_cells)), (q_saved_seen, .inr (4, [.int f_saved_seen_limit, .ref q_saved_seen_cells, .int f_saved_seen_used])), (q_saved_seen_cells, .inl (cy 0, n_saved_seen_cells, .inl f_saved_seen_cells)), (q_saved_events, .inr (4, [.int f_saved_events_limit, .ref q_saved_events_cells, .int f_saved_events_used])), (q_saved_events_cells, .inl (cy 0, n_saved_events_cells, .inl f_saved_events_cells)), (q_saved_book, .inr (4, [.int f_saved_book_limit, .ref q_saved_book_cells, .int f_saved_book_used])), (q_saved_book_cells, .inl (cy 0, n_saved_book_cells, .inl f_saved_book_cells))] s.heap := hP
  have hf : ((fX6_copyFrom n n_saved_notes_cells n_saved_seen_cells n_saved_events_cells n_saved_book_cells n_now_notes_cells n_now_seen_cells n_now_events_cells n_now_book_cells f_saved_ground_a f_saved_ground_b f_saved_ground_x f_saved_ground_y f_saved_notes_limit f_saved_notes_used f_saved_notes_cells f_saved_seen_limit f_saved_seen_used f_saved_seen_cells f_saved_events_limit f_saved_events_used f_saved_events_cells f_saved_book_limit f_saved_book_used f_saved_book_cells f_now_ground_a f_now_ground_b f_now_ground_x f_now_ground_y f_now_notes_used f_now_notes_cells f_now_seen_used f_now_seen_cells f_now_events_used f_now_events_cells f_now_book_used f_now_book_cells).bind fun q8 => ((fX8_tableNumber f_now_ground_a f_now_ground_b).bind fun q17 => (some (q17, 1, q8.1, q8.2.1, q8.2.2.1, q8.2.2.2.1, q8.2.2.2.2.1, q8.2.2.2.2.2.1, q8.2.2.2.2.2.2.1, q8.2.2.2.2.2.2.2.1, q8.2.2.2.2.2.2.2.2.1, q8.2.2.2.2.2.2.2.2.2.1, q8.2.2.2.2.2.2.2.2.2.2.1, q8.2.2.2.2.2.2.2.2.2.2.2))) : Option (Int32 × Int32 × Int32 × Int32 × Int32 × Int32 × Int32 × (Nat → Int32) × Int32 × (Nat → Int32) × Int32 × (Nat → Int32) × Int32 × (Nat → Int32))) = some o := hf
  refine lv_aload_n hx hb dX8_image_0 rfl (lv_at hl 0 rfl) ?_
  refine va_get (D := G) (ci := 8) (v := .ref q_saved) (C := RX8) (T := TX8) (N := 9) hx hb htA lyX8 hown hK hP 0 rfl rfl 1 (by decide) (htA _ a_fl_X8_18) (fun _ h9 => h9) rfl dX8_image_1 ?_
  refine lv_aload_n hx hb dX8_image_4 rfl (lv_at hl 0 rfl) ?_
  refine va_get (D := G) (ci := 8) (v := .ref q_now) (C := RX8) (T := TX8) (N := 9) hx hb htA lyX8 hown hK hP 0 rfl rfl 0 (by decide) (htA _ a_fl_X8_14) (fun _ h9 => h9) rfl dX8_image_5 ?_
  obtain ⟨q8, h8_9, hf⟩ := bd_s hf
  refine u_callv [(q_this, .inr (8, [.ref q_now, .ref q_saved, .int f_imaged, .ref q_trial, .ref q_lowering, .ref q_counts, .ref q_expansion, .ref q_setUp, .ref q_tapes])), (q_now, .inr (6, [.ref q_now_ground, .ref q_now_notes, .ref q_now_seen, .ref q_now_events, .ref q_now_book])), (q_now_ground, .inr (2, [.int f_now_ground_a, .int f_now_ground_b, .int f_now_ground_x, .int f_now_ground_y])), (q_now_notes, .inr (4, [.int f_now_notes_limit, .ref q_now_notes_cells, .int f_now_notes_used])), (q_now_notes_cells, .inl (cy 0, n_now_notes_cells, .inl f_now_notes_cells)), (q_now_seen, .inr (4, [.int f_now_seen_limit, .ref q_now_seen_cells, .int f_now_seen_used])), (q_now_seen_cells, .inl (cy 0, n_now_seen_cells, .inl f_now_seen_cells)), (q_now_events, .inr (4, [.int f_now_events_limit, .ref q_now_events_cells, .int f_now_events_used])), (q_now_events_cells, .inl (cy 0, n_now_events_cells, .inl f_now_events_cells)), (q_now_book, .inr (4, [.int f_now_book_limit, .ref q_now_book_cells, .int f_now_book_used])), (q_now_book_cells, .inl (cy 0, n_now_book_cells, .inl f_now_book_cells)), (q_saved, .inr (6, [.ref q_saved_ground, .ref q_saved_notes, .ref q_saved_seen, .ref q_saved_events, .ref q_saved_book])), (q_saved_ground, .inr (2, [.int q8.1, .int q8.2.1, .int q8.2.2.1, .int q8.2.2.2.1])), (q_saved_notes, .inr (4, [.int f_saved_notes_limit, .ref q_saved_notes_cells, .int q8.2.2.2.2.1])), (q_saved_notes_cells, .inl (cy 0, n_saved_notes_cells, .inl q8.2.2.2.2.2.1)), (q_saved_seen, .inr (4, [.int f_saved_seen_limit, .ref q_saved_seen_cells, .int q8.2.2.2.2.2.2.1])), (q_saved_seen_cells, .inl (cy 0, n_saved_seen_cells, .inl q8.2.2.2.2.2.2.2.1)), (q_saved_events, .inr (4, [.int f_saved_events_limit, .ref q_saved_events_cells, .int q8.2.2.2.2.2.2.2.2.1])), (q_saved_events_cells, .inl (cy 0, n_saved_events_cells, .inl q8.2.2.2.2.2.2.2.2.2.1)), (q_saved_book, .inr (4, [.int f_saved_book_limit, .ref q_saved_book_cells, .int q8.2.2.2.2.2.2.2.2.2.2.1])), (q_saved_book_cells, .inl (cy 0, n_saved_book_cells, .inl q8.2.2.2.2.2.2.2.2.2.2.2))] (va_runV (As := [.ref q_now]) (rest := []) ⟨hx, hb, hml, hown, htA⟩ (kX6_copyFrom l G cy q_saved q_saved_ground q_saved_notes q_saved_seen q_saved_events q_saved_book q_saved_notes_cells q_saved_seen_cells q_saved_events_cells q_saved_book_cells q_now q_now_ground q_now_notes q_now_seen q_now_events q_now_book q_now_notes_cells q_now_seen_cells q_now_events_cells q_now_book_cells s.heap.size n_saved_notes_cells n_saved_seen_cells n_saved_events_cells n_saved_book_cells n_now_notes_cells n_now_seen_cells n_now_events_cells n_now_book_cells f_saved_ground_a f_saved_ground_b f_saved_ground_x f_saved_ground_y f_saved_notes_limit f_saved_notes_used f_saved_notes_cells f_saved_seen_limit f_saved_seen_used f_saved_seen_cells f_saved_events_limit f_saved_events_used f_saved_events_cells f_saved_book_limit f_saved_book_used f_saved_book_cells f_now_ground_a f_now_ground_b f_now_ground_x f_now_ground_y f_now_notes_limit f_now_notes_used f_now_notes_cells f_now_seen_limit f_now_seen_used f_now_seen_cells f_now_events_limit f_now_events_used f_now_events_cells f_now_book_limit f_now_book_used f_now_book_cells n h8_9) (u_cwV htA a_ml_X8_274 pk_X6_copyFrom ⟨Nat.le_of_ble_eq_true rfl, Nat.le_of_ble_eq_true rfl⟩) (u_preV hK hN hP hD [11, 12, 13, 14, 15, 16, 17, 18, 19, 20, 1, 2, 3, 4, 5, 6, 7, 8, 9, 10] rfl (by decide) 11 rfl rfl) rfl rfl hl.1 rfl (lv_room (Nat.le_of_ble_eq_true rfl)) dX8_image_8 ⟨Nat.zero_le _, Nat.zero_le _⟩) hP hD hS hA [11, 12, 13, 14, 15, 16, 17, 18, 19, 20, 1, 2, 3, 4, 5, 6, 7, 8, 9, 10] rfl [0] 21 rfl rfl rfl (by decide) rfl (fun H locs hP hD hS => ?_)
  refine lv_aload_n hx hb dX8_image_11 rfl (lv_at hl 0 rfl) ?_
  refine lv_iconst (v := 1) hx hb dX8_image_12 (by decide) ?_
  refine va_put (D := G) (ci := 8) (v := .int 1) (ty := tyX8 2) (C := RX8) (T := TX8) (N := 9) hx hb htA lyX8 tyX8 tyX8_ok nmX8 hown hK hP hD hS 0 rfl rfl 2 (by decide) (htA _ a_fl_X8_21) (fun _ h9 => h9) rfl (tyX8_ok 2 (by decide)) rfl rfl (Nat.le_of_ble_eq_true rfl) dX8_image_13 (fun H locs hP hD hS => ?_)
  have hP : va_P G vwCl [(q_this, .inr (8, [.ref q_now, .ref q_saved, .int 1, .ref q_trial, .ref q_lowering, .ref q_counts, .ref q_expansion, .ref q_setUp, .ref q_tapes])), (q_now, .inr (6, [.ref q_now_ground, .ref q_now_notes, .ref q_now_seen, .ref q_now_events, .ref q_now_book])), (q_now_ground, .inr (2, [.int f_now_ground_a, .int f_now_ground_b, .int f_now_ground_x, .int f_now_ground_y])), (q_now_notes, .inr (4, [.int f_now_notes_limit, .ref q_now_notes_cells, .int f_now_notes_used])), (q_now_notes_cells, .inl (cy 0, n_now_notes_cells, .inl f_now_notes_cells)), (q_now_seen, .inr (4, [.int f_now_seen_limit, .ref q_now_seen_cells, .int f_now_seen_used])), (q_now_seen_cells, .inl (cy 0, n_now_seen_cells, .inl f_now_seen_cells)), (q_now_events, .inr (4, [.int f_now_events_limit, .ref q_now_events_cells, .int f_now_events_used])), (q_now_events_cells, .inl (cy 0, n_now_events_cells, .inl f_now_events_cells)), (q_now_book, .inr (4, [.int f_now_book_limit, .ref q_now_book_cells, .int f_now_book_used])), (q_now_book_cells, .inl (cy 0, n_now_book_cells, .inl f_now_book_cells)), (q_saved, .inr (6, [.ref q_saved_ground, .ref q_saved_notes, .ref q_saved_seen, .ref q_saved_events, .ref q_saved_book])), (q_saved_ground, .inr (2, [.int q8.1, .int q8.2.1, .int q8.2.2.1, .int q8.2.2.2.1])), (q_saved_notes, .inr (4, [.int f_saved_notes_limit, .ref q_saved_notes_cells, .int q8.2.2.2.2.1])), (q_saved_notes_cells, .inl (cy 0, n_saved_notes_cells, .inl q8.2.2.2.2.2.1)), (q_saved_seen, .inr (4, [.int f_saved_seen_limit, .ref q_saved_seen_cells, .int q8.2.2.2.2.2.2.1])), (q_saved_seen_cells, .inl (cy 0, n_saved_seen_cells, .inl q8.2.2.2.2.2.2.2.1)), (q_saved_events, .inr (4, [.int f_saved_events_limit, .ref q_saved_events_cells, .int q8.2.2.2.2.2.2.2.2.1])), (q_saved_events_cells, .inl (cy 0, n_saved_events_cells, .inl q8.2.2.2.2.2.2.2.2.2.1)), (q_saved_book, .inr (4, [.int f_saved_book_limit, .ref q_saved_book_cells, .int q8.2.2.2.2.2.2.2.2.2.2.1])), (q_saved_book_cells, .inl (cy 0, n_saved_book_cells, .inl q8.2.2.2.2.2.2.2.2.2.2.2))] H := hP
  have hD : va_D A [(q_this, .inr (8, [.ref q_now, .ref q_saved, .int 1, .ref q_trial, .ref q_lowering, .ref q_counts, .ref q_expansion, .ref q_setUp, .ref q_tapes])), (q_now, .inr (6, [.ref q_now_ground, .ref q_now_notes, .ref q_now_seen, .ref q_now_events, .ref q_now_book])), (q_now_ground, .inr (2, [.int f_now_ground_a, .int f_now_ground_b, .int f_now_ground_x, .int f_now_ground_y])), (q_now_notes, .inr (4, [.int f_now_notes_limit, .ref q_now_notes_cells, .int f_now_notes_used])), (q_now_notes_cells, .inl (cy 0, n_now_notes_cells, .inl f_now_notes_cells)), (q_now_seen, .inr (4, [.int f_now_seen_limit, .ref q_now_seen_cells, .int f_now_seen_used])), (q_now_seen_cells, .inl (cy 0, n_now_seen_cells, .inl f_now_seen_cells)), (q_now_events, .inr (4, [.int f_now_events_limit, .ref q_now_events_cells, .int f_now_events_used])), (q_now_events_cells, .inl (cy 0, n_now_events_cells, .inl f_now_events_cells)), (q_now_book, .inr (4, [.int f_now_book_limit, .ref q_now_book_cells, .int f_now_book_used])), (q_now_book_cells, .inl (cy 0, n_now_book_cells, .inl f_now_book_cells)), (q_saved, .inr (6, [.ref q_saved_ground, .ref q_saved_notes, .ref q_saved_seen, .ref q_saved_events, .ref q_saved_book])), (q_saved_ground, .inr (2, [.int q8.1, .int q8.2.1, .int q8.2.2.1, .int q8.2.2.2.1])), (q_saved_notes, .inr (4, [.int f_saved_notes_limit, .ref q_saved_notes_cells, .int q8.2.2.2.2.1])), (q_saved_notes_cells, .inl (cy 0, n_saved_notes_cells, .inl q8.2.2.2.2.2.1)), (q_saved_seen, .inr (4, [.int f_saved_seen_limit, .ref q_saved_seen_cells, .int q8.2.2.2.2.2.2.1])), (q_saved_seen_cells, .inl (cy 0, n_saved_seen_cells, .inl q8.2.2.2.2.2.2.2.1)), (q_saved_events, .inr (4, [.int f_saved_events_limit, .ref q_saved_events_cells, .int q8.2.2.2.2.2.2.2.2.1])), (q_saved_events_cells, .inl (cy 0, n_saved_events_cells, .inl q8.2.2.2.2.2.2.2.2.2.1)), (q_saved_book, .inr (4, [.int f_saved_book_limit, .ref q_saved_book_cells, .int q8.2.2.2.2.2.2.2.2.2.2.1])), (q_saved_book_cells, .inl (cy 0, n_saved_book_cells, .inl q8.2.2.2.2.2.2.2.2.2.2.2))] := hD
  refine lv_aload_n hx hb dX8_image_16 rfl (lv_at hl 0 rfl) ?_
  obtain ⟨q17, h17_10, hf⟩ := bd_s hf
  refine u_calliR (va_runV (As := []) (rest := []) ⟨hx, hb, hml, hown, htA⟩ (kX8_tableNumber l G cy q_this q_now q_saved q_trial q_lowering q_counts q_expansion q_setUp q_tapes q_now_ground q_now_notes q_now_seen q_now_events q_now_book H.size 1 f_now_ground_a f_now_ground_b f_now_ground_x f_now_ground_y h17_10) (u_cwV htA a_ml_X8_73 pk_X8_tableNumber ⟨Nat.le_of_ble_eq_true rfl, Nat.le_of_ble_eq_true rfl⟩) (u_preV hK hN hP hD [0, 1, 2] rfl (by decide) 0 rfl rfl) rfl rfl hl.1 rfl (lv_room (Nat.le_of_ble_eq_true rfl)) dX8_image_17 ⟨Nat.zero_le _, Nat.zero_le _⟩) hP hD hS hA [0, 1, 2] rfl (fun H locs hP hS => ?_)
  have ho := Option.some.inj hf
  subst ho
  exact W.iret (v := q17) hx hb hr (fun t ht hW => ⟨⟨_, (), rfl, rfl, by rw [ht]; exact hP, va_K.moved hW.alike hK, hD⟩, hS.F ht⟩) hS.2.2 dX8_image_20
set_option maxRecDepth 100000 in
set_option maxHeartbeats 4000000 in
theorem kX8_undo (l : Launch) (G : va_G) (cy : Nat → ClassId) (q_this : Nat) (q_now : Nat) (q_saved : Nat) (q_trial : Nat) (q_lowering : Nat) (q_counts : Nat) (q_expansion : Nat) (q_setUp : Nat) (q_tapes : Nat) (q_now_ground : Nat) (q_now_notes : Nat) (q_now_seen : Nat) (q_now_events : Nat) (q_now_book : Nat) (q_now_notes_cells : Nat) (q_now_seen_cells : Nat) (q_now_events_cells : Nat) (q_now_book_cells : Nat) (q_saved_ground : Nat) (q_saved_notes : Nat) (q_saved_seen : Nat) (q_saved_events : Nat) (q_saved_book : Nat) (q_saved_notes_cells : Nat) (q_saved_seen_cells : Nat) (q_saved_events_cells : Nat) (q_saved_book_cells : Nat) (sz : Nat) (n_now_notes_cells : Nat) (n_now_seen_cells : Nat) (n_now_events_cells : Nat) (n_now_book_cells : Nat) (n_saved_notes_cells : Nat) (n_saved_seen_cells : Nat) (n_saved_events_cells : Nat) (n_saved_book_cells : Nat) (f_imaged : Int32) (f_now_ground_a : Int32) (f_now_ground_b : Int32) (f_now_ground_x : Int32) (f_now_ground_y : Int32) (f_now_notes_limit : Int32) (f_now_notes_used : Int32) (f_now_notes_cells : Nat → Int32) (f_now_seen_limit : Int32) (f_now_seen_used : Int32) (f_now_seen_cells : Nat → Int32) (f_now_events_limit : Int32) (f_now_events_used : Int32) (f_now_events_cells : Nat → Int32) (f_now_book_limit : Int32) (f_now_book_used : Int32) (f_now_book_cells : Nat → Int32) (f_saved_ground_a : Int32) (f_saved_ground_b : Int32) (f_saved_ground_x : Int32) (f_saved_ground_y : Int32) (f_saved_notes_limit : Int32) (f_saved_notes_used : Int32) (f_saved_notes_cells : Nat → Int32) (f_saved_seen_limit : Int32) (f_saved_seen_used : Int32) (f_saved_seen_cells : Nat → Int32) (f_saved_events_limit : Int32) (f_saved_events_used : Int32) (f_saved_events_cells : Nat → Int32) (f_saved_book_limit : Int32) (f_saved_book_used : Int32) (f_saved_book_cells : Nat → Int32) (n : Nat) {o : Int32 × Int32 × Int32 × Int32 × Int32 × Int32 × (Nat → Int32) × Int32 × (Nat → Int32) × Int32 × (Nat → Int32) × Int32 × (Nat → Int32)} (hf : fX8_undo n n_now_notes_cells n_now_seen_cells n_now_events_cells n_now_book_cells n_saved_notes_cells n_saved_seen_cells n_saved_events_cells n_saved_book_cells f_imaged f_now_ground_a f_now_ground_b f_now_ground_x f_now_ground_y f_now_notes_limit f_now_notes_used f_now_notes_cells f_now_seen_limit f_now_seen_used f_now_seen_cells f_now_events_limit f_now_events_used f_now_events_cells f_now_book_limit f_now_book_used f_now_book_cells f_saved_ground_a f_saved_ground_b f_saved_ground_x f_saved_ground_y f_saved_notes_used f_saved_notes_cells f_saved_seen_used f_saved_seen_cells f_saved_events_used f_saved_events_cells f_saved_book_used f_saved_book_cells = some o) : Met l yX8_undo (Cond.code yX8_undo cX8_undo 1 (some .int) :: AW) ({ frames := 4, cells := 0, slots := 0, locals := 87 } : Room) (va_Pc [.ref q_this] (Wp G cy [(q_this, .inr (8, [.ref q_now, .ref q_saved, .int f_imaged, .ref q_trial, .ref q_lowering, .ref q_counts, .ref q_expansion, .ref q_setUp, .ref q_tapes])), (q_now, .inr (6, [.ref q_now_ground, .ref q_now_notes, .ref q_now_seen, .ref q_now_events, .ref q_now_book])), (q_now_ground, .inr (2, [.int f_now_ground_a, .int f_now_ground_b, .int f_now_ground_x, .int f_now_ground_y])), (q_now_notes, .inr (4, [.int f_now_notes_limit, .ref q_now_notes_cells, .int f_now_notes_used])), (q_now_notes_cells, .inl (cy 0, n_now_notes_cells, .inl f_now_notes_cells)), (q_now_seen, .inr (4, [.int f_now_seen_limit, .ref q_now_seen_cells, .int f_now_seen_used])), (q_now_seen_cells, .inl (cy 0, n_now_seen_cells, .inl f_now_seen_cells)), (q_now_events, .inr (4, [.int f_now_events_limit, .ref q_now_events_cells, .int f_now_events_used])), (q_now_events_cells, .inl (cy 0, n_now_events_cells, .inl f_now_events_cells)), (q_now_book, .inr (4, [.int f_now_book_limit, .ref q_now_book_cells, .int f_now_book_used])), (q_now_book_cells, .inl (cy 0, n_now_book_cells, .inl f_now_book_cells)), (q_saved, .inr (6, [.ref q_saved_ground, .ref q_saved_notes, .ref q_saved_seen, .ref q_saved_events, .ref q_saved_book])), (q_saved_ground, .inr (2, [.int f_saved_ground_a, .int f_saved_ground_b, .int f_saved_ground_x, .int f_saved_ground_y])), (q_saved_notes, .inr (4, [.int f_saved_notes_limit, .ref q_saved_notes_cells, .int f_saved_notes_used])), (q_saved_notes_cells, .inl (cy 0, n_saved_notes_cells, .inl f_saved_notes_cells)), (q_saved_seen, .inr (4, [.int f_saved_seen_limit, .ref q_saved_seen_cells, .int f_saved_seen_used])), (q_saved_seen_cells, .inl (cy 0, n_saved_seen_cells, .inl f_saved_seen_cells)), (q_saved_events, .inr (4, [.int f_saved_events_limit, .ref q_saved_events_cells, .int f_saved_events_used])), (q_saved_events_cells, .inl (cy 0, n_saved_events_cells, .inl f_saved_events_cells)), (q_saved_book, .inr (4, [.int f_saved_book_limit, .ref q_saved_book_cells, .int f_saved_book_used])), (q_saved_book_cells, .inl (cy 0, n_saved_book_cells, .inl f_saved_book_cells))] sz)) (va_Qi (fun r (_ : Unit) => r = o.1) (fun _ => Wq G cy (va_A [(q_this, .inr (8, [.ref q_now, .ref q_saved, .int f_imaged, .ref q_trial, .ref q_lowering, .ref q_counts, .ref q_expansion, .ref q_setUp, .ref q_tapes])), (q_now, .inr (6, [.ref q_now_ground, .ref q_now_notes, .ref q_now_seen, .ref q_now_events, .ref q_now_book])), (q_now_ground, .inr (2, [.int f_now_ground_a, .int f_now_ground_b, .int f_now_ground_x, .int f_now_ground_y])), (q_now_notes, .inr (4, [.int f_now_notes_limit, .ref q_now_notes_cells, .int f_now_notes_used])), (q_now_notes_cells, .inl (cy 0, n_now_notes_cells, .inl f_now_notes_cells)), (q_now_seen, .inr (4, [.int f_now_seen_limit, .ref q_now_seen_cells, .int f_now_seen_used])), (q_now_seen_cells, .inl (cy 0, n_now_seen_cells, .inl f_now_seen_cells)), (q_now_events, .inr (4, [.int f_now_events_limit, .ref q_now_events_cells, .int f_now_events_used])), (q_now_events_cells, .inl (cy 0, n_now_events_cells, .inl f_now_events_cells)), (q_now_book, .inr (4, [.int f_now_book_limit, .ref q_now_book_cells, .int f_now_book_used])), (q_now_book_cells, .inl (cy 0, n_now_book_cells, .inl f_now_book_cells)), (q_saved, .inr (6, [.ref q_saved_ground, .ref q_saved_notes, .ref q_saved_seen, .ref q_saved_events, .ref q_saved_book])), (q_saved_ground, .inr (2, [.int f_saved_ground_a, .int f_saved_ground_b, .int f_saved_ground_x, .int f_saved_ground_y])), (q_saved_notes, .inr (4, [.int f_saved_notes_limit, .ref q_saved_notes_cells, .int f_saved_notes_used])), (q_saved_notes_cells, .inl (cy 0, n_saved_notes_cells, .inl f_saved_notes_cells)), (q_saved_seen, .inr (4, [.int f_saved_seen_limit, .ref q_saved_seen_cells, .int f_saved_seen_used])), (q_saved_seen_cells, .inl (cy 0, n_saved_seen_cells, .inl f_saved_seen_cells)), (q_saved_events, .inr (4, [.int f_saved_events_limit, .ref q_saved_events_cells, .int f_saved_events_used])), (q_saved_events_cells, .inl (cy 0, n_saved_events_cells, .inl f_saved_events_cells)), (q_saved_book, .inr (4, [.int f_saved_book_limit, .ref q_saved_book_cells, .int f_saved_book_used])), (q_saved_book_cells, .inl (cy 0, n_saved_book_cells, .inl f_saved_book_cells))] sz) [(q_this, .inr (8, [.ref q_now, .ref q_saved, .int f_imaged, .ref q_trial, .ref q_lowering, .ref q_counts, .ref q_expansion, .ref q_setUp, .ref q_tapes])), (q_now, .inr (6, [.ref q_now_ground, .ref q_now_notes, .ref q_now_seen, .ref q_now_events, .ref q_now_book])), (q_now_ground, .inr (2, [.int o.2.1, .int o.2.2.1, .int o.2.2.2.1, .int o.2.2.2.2.1])), (q_now_notes, .inr (4, [.int f_now_notes_limit, .ref q_now_notes_cells, .int o.2.2.2.2.2.1])), (q_now_notes_cells, .inl (cy 0, n_now_notes_cells, .inl o.2.2.2.2.2.2.1)), (q_now_seen, .inr (4, [.int f_now_seen_limit, .ref q_now_seen_cells, .int o.2.2.2.2.2.2.2.1])), (q_now_seen_cells, .inl (cy 0, n_now_seen_cells, .inl o.2.2.2.2.2.2.2.2.1)), (q_now_events, .inr (4, [.int f_now_events_limit, .ref q_now_events_cells, .int o.2.2.2.2.2.2.2.2.2.1])), (q_now_events_cells, .inl (cy 0, n_now_events_cells, .inl o.2.2.2.2.2.2.2.2.2.2.1)), (q_now_book, .inr (4, [.int f_now_book_limit, .ref q_now_book_cells, .int o.2.2.2.2.2.2.2.2.2.2.2.1])), (q_now_book_cells, .inl (cy 0, n_now_book_cells, .inl o.2.2.2.2.2.2.2.2.2.2.2.2)), (q_saved, .inr (6, [.ref q_saved_ground, .ref q_saved_notes, .ref q_saved_seen, .ref q_saved_events, .ref q_saved_book])), (q_saved_ground, .inr (2, [.int f_saved_ground_a, .int f_saved_ground_b, .int f_saved_ground_x, .int f_saved_ground_y])), (q_saved_notes, .inr (4, [.int f_saved_notes_limit, .ref q_saved_notes_cells, .int f_saved_notes_used])), (q_saved_notes_cells, .inl (cy 0, n_saved_notes_cells, .inl f_saved_notes_cells)), (q_saved_seen, .inr (4, [.int f_saved_seen_limit, .ref q_saved_seen_cells, .int f_saved_seen_used])), (q_saved_seen_cells, .inl (cy 0, n_saved_seen_cells, .inl f_saved_seen_cells)), (q_saved_events, .inr (4, [.int f_saved_events_limit, .ref q_saved_events_cells, .int f_saved_events_used])), (q_saved_events_cells, .inl (cy 0, n_saved_events_cells, .inl f_saved_events_cells)), (q_saved_book, .inr (4, [.int f_saved_book_limit, .ref q_saved_book_cells, .int f_saved_book_used])), (q_saved_book_cells, .inl (cy 0, n_saved_book_cells, .inl f_saved_book_cells))]) (va_A [(q_this, .inr (8, [.ref q_now, .ref q_saved, .int f_imaged, .ref q_trial, .ref q_lowering, .ref q_counts, .ref q_expansion, .ref q_setUp, .ref q_tapes])), (q_now, .inr (6, [.ref q_now_ground, .ref q_now_notes, .ref q_now_seen, .ref q_now_events, .ref q_now_book])), (q_now_ground, .inr (2, [.int f_now_ground_a, .int f_now_ground_b, .int f_now_ground_x, .int f_now_ground_y])), (q_now_notes, .inr (4, [.int f_now_notes_limit, .ref q_now_notes_cells, .int f_now_notes_used])), (q_now_notes_cells, .inl (cy 0, n_now_notes_cells, .inl f_now_notes_cells)), (q_now_seen, .inr (4, [.int f_now_seen_limit, .ref q_now_seen_cells, .int f_now_seen_used])), (q_now_seen_cells, .inl (cy 0, n_now_seen_cells, .inl f_now_seen_cells)), (q_now_events, .inr (4, [.int f_now_events_limit, .ref q_now_events_cells, .int f_now_events_used])), (q_now_events_cells, .inl (cy 0, n_now_events_cells, .inl f_now_events_cells)), (q_now_book, .inr (4, [.int f_now_book_limit, .ref q_now_book_cells, .int f_now_book_used])), (q_now_book_cells, .inl (cy 0, n_now_book_cells, .inl f_now_book_cells)), (q_saved, .inr (6, [.ref q_saved_ground, .ref q_saved_notes, .ref q_saved_seen, .ref q_saved_events, .ref q_saved_book])), (q_saved_ground, .inr (2, [.int f_saved_ground_a, .int f_saved_ground_b, .int f_saved_ground_x, .int f_saved_ground_y])), (q_saved_notes, .inr (4, [.int f_saved_notes_limit, .ref q_saved_notes_cells, .int f_saved_notes_used])), (q_saved_notes_cells, .inl (cy 0, n_saved_notes_cells, .inl f_saved_notes_cells)), (q_saved_seen, .inr (4, [.int f_saved_seen_limit, .ref q_saved_seen_cells, .int f_saved_seen_used])), (q_saved_seen_cells, .inl (cy 0, n_saved_seen_cells, .inl f_saved_seen_cells)), (q_saved_events, .inr (4, [.int f_saved_events_limit, .ref q_saved_events_cells, .int f_saved_events_used])), (q_saved_events_cells, .inl (cy 0, n_saved_events_cells, .inl f_saved_events_cells)), (q_saved_book, .inr (4, [.int f_saved_book_limit, .ref q_saved_book_cells, .int f_saved_book_used])), (q_saved_book_cells, .inl (cy 0, n_saved_book_cells, .inl f_saved_book_cells))] sz)) 0 0 (va_A [(q_this, .inr (8, [.ref q_now, .ref q_saved, .int f_imaged, .ref q_trial, .ref q_lowering, .ref q_counts, .ref q_expansion, .ref q_setUp, .ref q_tapes])), (q_now, .inr (6, [.ref q_now_ground, .ref q_now_notes, .ref q_now_seen, .ref q_now_events, .ref q_now_book])), (q_now_ground, .inr (2, [.int f_now_ground_a, .int f_now_ground_b, .int f_now_ground_x, .int f_now_ground_y])), (q_now_notes, .inr (4, [.int f_now_notes_limit, .ref q_now_notes_cells, .int f_now_notes_used])), (q_now_notes_cells, .inl (cy 0, n_now_notes_cells, .inl f_now_notes_cells)), (q_now_seen, .inr (4, [.int f_now_seen_limit, .ref q_now_seen_cells, .int f_now_seen_used])), (q_now_seen_cells, .inl (cy 0, n_now_seen_cells, .inl f_now_seen_cells)), (q_now_events, .inr (4, [.int f_now_events_limit, .ref q_now_events_cells, .int f_now_events_used])), (q_now_events_cells, .inl (cy 0, n_now_events_cells, .inl f_now_events_cells)), (q_now_book, .inr (4, [.int f_now_book_limit, .ref q_now_book_cells, .int f_now_book_used])), (q_now_book_cells, .inl (cy 0, n_now_book_cells, .inl f_now_book_cells)), (q_saved, .inr (6, [.ref q_saved_ground, .ref q_saved_notes, .ref q_saved_seen, .ref q_saved_events, .ref q_saved_book])), (q_saved_ground, .inr (2, [.int f_saved_ground_a, .int f_saved_ground_b, .int f_saved_ground_x, .int f_saved_ground_y])), (q_saved_notes, .inr (4, [.int f_saved_notes_limit, .ref q_saved_notes_cells, .int f_saved_notes_used])), (q_saved_notes_cells, .inl (cy 0, n_saved_notes_cells, .inl f_saved_notes_cells)), (q_saved_seen, .inr (4, [.int f_saved_seen_limit, .ref q_saved_seen_cells, .int f_saved_seen_used])), (q_saved_seen_cells, .inl (cy 0, n_saved_seen_cells, .inl f_saved_seen_cells)), (q_saved_events, .inr (4, [.int f_saved_events_limit, .ref q_saved_events_cells, .int f_saved_events_used])), (q_saved_events_cells, .inl (cy 0, n_saved_events_cells, .inl f_saved_events_cells)), (q_saved_book, .inr (4, [.int f_saved_book_limit, .ref q_saved_book_cells, .int f_saved_book_used])), (q_saved_book_cells, .inl (cy 0, n_saved_book_cells, .inl f_saved_book_cells))] sz) := by
  refine Met.ofW (cc := cX8_undo) (maxL := 1) (ret := (some .int)) (by decide) rfl ?_
  intro p e s m args below meth c s₁ B hml hv
  obtain ⟨rfl, hsz, hP, hK, hD0, hN⟩ := hv
  have hx := B.exec
  have hb := B.bytes
  have hr := B.returns
  have htA : ∀ w ∈ AW, w.before _ s = true := fun w h => atoms_spec (ws := Cond.code yX8_undo cX8_undo 1 (some .int) :: AW) B.pre w (List.mem_cons_of_mem _ h)
  have hown : s.vm.findClass RX8 = some m.cls := findClass_of_methodNamed B.named
  have hlocks := B.notSynchronized
  subst hsz
  have hD := hD0.self (sz := s.heap.size)
  generalize hAe : va_A [(q_this, .inr (8, [.ref q_now, .ref q_saved, .int f_imaged, .ref q_trial, .ref q_lowering, .ref q_counts, .ref q_expansion, .ref q_setUp, .ref q_tapes])), (q_now, .inr (6, [.ref q_now_ground, .ref q_now_notes, .ref q_now_seen, .ref q_now_events, .ref q_now_book])), (q_now_ground, .inr (2, [.int f_now_ground_a, .int f_now_ground_b, .int f_now_ground_x, .int f_now_ground_y])), (q_now_notes, .inr (4, [.int f_now_notes_limit, .ref q_now_notes_cells, .int f_now_notes_used])), (q_now_notes_cells, .inl (cy 0, n_now_notes_cells, .inl f_now_notes_cells)), (q_now_seen, .inr (4, [.int f_now_seen_limit, .ref q_now_seen_cells, .int f_now_seen_used])), (q_now_seen_cells, .inl (cy 0, n_now_seen_cells, .inl f_now_seen_cells)), (q_now_events, .inr (4, [.int f_now_events_limit, .ref q_now_events_cells, .int f_now_events_used])), (q_now_events_cells, .inl (cy 0, n_now_events_cells, .inl f_now_events_cells)), (q_now_book, .inr (4, [.int f_now_book_limit, .ref q_now_book_cells, .int f_now_book_used])), (q_now_book_cells, .inl (cy 0, n_now_book_cells, .inl f_now_book_cells)), (q_saved, .inr (6, [.ref q_saved_ground, .ref q_saved_notes, .ref q_saved_seen, .ref q_saved_events, .ref q_saved_book])), (q_saved_ground, .inr (2, [.int f_saved_ground_a, .int f_saved_ground_b, .int f_saved_ground_x, .int f_saved_ground_y])), (q_saved_notes, .inr (4, [.int f_saved_notes_limit, .ref q_saved_notes_cells, .int f_saved_notes_used])), (q_saved_notes_cells, .inl (cy 0, n_saved_notes_cells, .inl f_saved_notes_cells)), (q_saved_seen, .inr (4, [.int f_saved_seen_limit, .ref q_saved_seen_cells, .int f_saved_seen_used])), (q_saved_seen_cells, .inl (cy 0, n_saved_seen_cells, .inl f_saved_seen_cells)), (q_saved_events, .inr (4, [.int f_saved_events_limit, .ref q_saved_events_cells, .int f_saved_events_used])), (q_saved_events_cells, .inl (cy 0, n_saved_events_cells, .inl f_saved_events_cells)), (q_saved_book, .inr (4, [.int f_saved_book_limit, .ref q_saved_book_cells, .int f_saved_book_used])), (q_saved_book_cells, .inl (cy 0, n_saved_book_cells, .inl f_saved_book_cells))] s.heap.size = A at hD ⊢
  have hA : ∀ q : Nat, s.heap.size ≤ q → A q := fun q h => by rw [← hAe]; exact Or.inr h
  have hS : va_S A s.heap s.heap [] := va_S.rf
  have hl := lv_entry ([.ref q_this]) (n := 1) (Nat.le_of_ble_eq_true rfl)
  rw [lg_entry_eq]
  generalize (lg_sl ([.ref q_this]) ++ List.replicate (1 - (lg_sl ([.ref q_this])).length) Slot.unset).toArray = ls at hl ⊢
  have hl : lv_has ls 1 [(0, .ref q_this)] := hl
  have hP : va_P G vwCl [(q_this, .inr (8, [.ref q_now, .ref q_saved, .int f_imaged, .ref q_trial, .ref q_lowering, .ref q_counts, .ref q_expansion, .ref q_setUp, .ref q_tapes])), (q_now, .inr (6, [.ref q_now_ground, .ref q_now_notes, .ref q_now_seen, .ref q_now_events, .ref q_now_book])), (q_now_ground, .inr (2, [.int f_now_ground_a, .int f_now_ground_b, .int f_now_ground_x, .int f_now_ground_y])), (q_now_notes, .inr (4, [.int f_now_notes_limit, .ref q_now_notes_cells, .int f_now_notes_used])), (q_now_notes_cells, .inl (cy 0, n_now_notes_cells, .inl f_now_notes_cells)), (q_now_seen, .inr (4, [.int f_now_seen_limit, .ref q_now_seen_cells, .int f_now_seen_used])), (q_now_seen_cells, .inl (cy 0, n_now_seen_cells, .inl f_now_seen_cells)), (q_now_events, .inr (4, [.int f_now_events_limit, .ref q_now_events_cells, .int f_now_events_used])), (q_now_events_cells, .inl (cy 0, n_now_events_cells, .inl f_now_events_cells)), (q_now_book, .inr (4, [.int f_now_book_limit, .ref q_now_book_cells, .int f_now_book_used])), (q_now_book_cells, .inl (cy 0, n_now_book_cells, .inl f_now_book_cells)), (q_saved, .inr (6, [.ref q_saved_ground, .ref q_saved_notes, .ref q_saved_seen, .ref q_saved_events, .ref q_saved_book])), (q_saved_ground, .inr (2, [.int f_saved_ground_a, .int f_saved_ground_b, .int f_saved_ground_x, .int f_saved_ground_y])), (q_saved_notes, .inr (4, [.int f_saved_notes_limit, .ref q_saved_notes_cells, .int f_saved_notes_used])), (q_saved_notes_cells, .inl (cy 0, n_saved_notes_cells, .inl f_saved_notes_cells)), (q_saved_seen, .inr (4, [.int f_saved_seen_limit, .ref q_saved_seen_cells, .int f_saved_seen_used])), (q_saved_seen_cells, .inl (cy 0, n_saved_seen_cells, .inl f_saved_seen_cells)), (q_saved_events, .inr (4, [.int f_saved_events_limit, .ref q_saved_events_cells, .int f_saved_events_used])), (q_saved_events_cells, .inl (cy 0, n_saved_events_cells, .inl f_saved_events_cells)), (q_saved_book, .inr (4, [.int f_saved_book_limit, .ref q_saved_book_cells, .int f_saved_book_used])), (q_saved_book_cells, .inl (cy 0, n_saved_book_cells, .inl f_saved_book_cells))] s.heap := hP
  have hf : ((if f_imaged = 0 then some ((-3), f_now_ground_a, f_now_ground_b, f_now_ground_x, f_now_ground_y, f_now_notes_used, f_now_notes_cells, f_now_seen_used, f_now_seen_cells, f_now_events_used, f_now_events_cells, f_now_book_used, f_now_book_cells) else (fX6_copyFrom n n_now_notes_cells n_now_seen_cells n_now_events_cells n_now_book_cells n_saved_notes_cells n_saved_seen_cells n_saved_events_cells n_saved_book_cells f_now_ground_a f_now_ground_b f_now_ground_x f_now_ground_y f_now_notes_limit f_now_notes_used f_now_notes_cells f_now_seen_limit f_now_seen_used f_now_seen_cells f_now_events_limit f_now_events_used f_now_events_cells f_now_book_limit f_now_book_used f_now_book_cells f_saved_ground_a f_saved_ground_b f_saved_ground_x f_saved_ground_y f_saved_notes_used f_saved_notes_cells f_saved_seen_used f_saved_seen_cells f_saved_events_used f_saved_events_cells f_saved_book_used f_saved_book_cells).bind fun q18 => ((fX8_tableNumber q18.1 q18.2.1).bind fun q22 => (some (q22, q18.1, q18.2.1, q18.2.2.1, q18.2.2.2.1, q18.2.2.2.2.1, q18.2.2.2.2.2.1, q18.2.2.2.2.2.2.1, q18.2.2.2.2.2.2.2.1, q18.2.2.2.2.2.2.2.2.1, q18.2.2.2.2.2.2.2.2.2.1, q18.2.2.2.2.2.2.2.2.2.2.1, q18.2.2.2.2.2.2.2.2.2.2.2)))) : Option (Int32 × Int32 × Int32 × Int32 × Int32 × Int32 × (Nat → Int32) × Int32 × (Nat → Int32) × Int32 × (Nat → Int32) × Int32 × (Nat → Int32))) = some o := hf
  refine lv_aload_n hx hb dX8_undo_0 rfl (lv_at hl 0 rfl) ?_
  refine va_get (D := G) (ci := 8) (v := .int f_imaged) (C := RX8) (T := TX8) (N := 9) hx hb htA lyX8 hown hK hP 0 rfl rfl 2 (by decide) (htA _ a_fl_X8_21) (fun _ h9 => h9) rfl dX8_undo_1 ?_
  refine lv_if_ne (tgt := 10) hx hb dX8_undo_4 (by decide) (fun c_13 => ?_) (fun c_13 => ?_)
  · have hf := ite_f c_13 hf
    refine lv_aload_n hx hb dX8_undo_10 rfl (lv_at hl 0 rfl) ?_
    refine va_get (D := G) (ci := 8) (v := .ref q_now) (C := RX8) (T := TX8) (N := 9) hx hb htA lyX8 hown hK hP 0 rfl rfl 0 (by decide) (htA _ a_fl_X8_14) (fun _ h9 => h9) rfl dX8_undo_11 ?_
    refine lv_aload_n hx hb dX8_undo_14 rfl (lv_at hl 0 rfl) ?_
    refine va_get (D := G) (ci := 8) (v := .ref q_saved) (C := RX8) (T := TX8) (N := 9) hx hb htA lyX8 hown hK hP 0 rfl rfl 1 (by decide) (htA _ a_fl_X8_18) (fun _ h9 => h9) rfl dX8_undo_15 ?_
    obtain ⟨q18, h18_14, hf⟩ := bd_s hf
    refine u_callv [(q_this, .inr (8, [.ref q_now, .ref q_saved, .int f_imaged, .ref q_trial, .ref q_lowering, .ref q_counts, .ref q_expansion, .ref q_setUp, .ref q_tapes])), (q_now, .inr (6, [.ref q_now_ground, .ref q_now_notes, .ref q_now_seen, .ref q_now_events, .ref q_now_book])), (q_now_ground, .inr (2, [.int q18.1, .int q18.2.1, .int q18.2.2.1, .int q18.2.2.2.1])), (q_now_notes, .inr (4, [.int f_now_notes_limit, .ref q_now_notes_cells, .int q18.2.2.2.2.1])), (q_now_notes_cells, .inl (cy 0, n_now_notes_cells, .inl q18.2.2.2.2.2.1)), (q_now_seen, .inr (4, [.int f_now_seen_limit, .ref q_now_seen_cells, .int q18.2.2.2.2.2.2.1])), (q_now_seen_cells, .inl (cy 0, n_now_seen_cells, .inl q18.2.2.2.2.2.2.2.1)), (q_now_events, .inr (4, [.int f_now_events_limit, .ref q_now_events_cells, .int q18.2.2.2.2.2.2.2.2.1])), (q_now_events_cells, .inl (cy 0, n_now_events_cells, .inl q18.2.2.2.2.2.2.2.2.2.1)), (q_now_book, .inr (4, [.int f_now_book_limit, .ref q_now_book_cells, .int q18.2.2.2.2.2.2.2.2.2.2.1])), (q_now_book_cells, .inl (cy 0, n_now_book_cells, .inl q18.2.2.2.2.2.2.2.2.2.2.2)), (q_saved, .inr (6, [.ref q_saved_ground, .ref q_saved_notes, .ref q_saved_seen, .ref q_saved_events, .ref q_saved_book])), (q_saved_ground, .inr (2, [.int f_saved_ground_a, .int f_saved_ground_b, .int f_saved_ground_x, .int f_saved_ground_y])), (q_saved_notes, .inr (4, [.int f_saved_notes_limit, .ref q_saved_notes_cells, .int f_saved_notes_used])), (q_saved_notes_cells, .inl (cy 0, n_saved_notes_cells, .inl f_saved_notes_cells)), (q_saved_seen, .inr (4, [.int f_saved_seen_limit, .ref q_saved_seen_cells, .int f_saved_seen_used])), (q_saved_seen_cells, .inl (cy 0, n_saved_seen_cells, .inl f_saved_seen_cells)), (q_saved_events, .inr (4, [.int f_saved_events_limit, .ref q_saved_events_cells, .int f_saved_events_used])), (q_saved_events_cells, .inl (cy 0, n_saved_events_cells, .inl f_saved_events_cells)), (q_saved_book, .inr (4, [.int f_saved_book_limit, .ref q_saved_book_cells, .int f_saved_book_used])), (q_saved_book_cells, .inl (cy 0, n_saved_book_cells, .inl f_saved_book_cells))] (va_runV (As := [.ref q_saved]) (rest := []) ⟨hx, hb, hml, hown, htA⟩ (kX6_copyFrom l G cy q_now q_now_ground q_now_notes q_now_seen q_now_events q_now_book q_now_notes_cells q_now_seen_cells q_now_events_cells q_now_book_cells q_saved q_saved_ground q_saved_notes q_saved_seen q_saved_events q_saved_book q_saved_notes_cells q_saved_seen_cells q_saved_events_cells q_saved_book_cells s.heap.size n_now_notes_cells n_now_seen_cells n_now_events_cells n_now_book_cells n_saved_notes_cells n_saved_seen_cells n_saved_events_cells n_saved_book_cells f_now_ground_a f_now_ground_b f_now_ground_x f_now_ground_y f_now_notes_limit f_now_notes_used f_now_notes_cells f_now_seen_limit f_now_seen_used f_now_seen_cells f_now_events_limit f_now_events_used f_now_events_cells f_now_book_limit f_now_book_used f_now_book_cells f_saved_ground_a f_saved_ground_b f_saved_ground_x f_saved_ground_y f_saved_notes_limit f_saved_notes_used f_saved_notes_cells f_saved_seen_limit f_saved_seen_used f_saved_seen_cells f_saved_events_limit f_saved_events_used f_saved_events_cells f_saved_book_limit f_saved_book_used f_saved_book_cells n h18_14) (u_cwV htA a_ml_X8_274 pk_X6_copyFrom ⟨Nat.le_of_ble_eq_true rfl, Nat.le_of_ble_eq_true rfl⟩) (u_preV hK hN hP hD [1, 2, 3, 4, 5, 6, 7, 8, 9, 10, 11, 12, 13, 14, 15, 16, 17, 18, 19, 20] rfl (by decide) 1 rfl rfl) rfl rfl hl.1 rfl (lv_room (Nat.le_of_ble_eq_true rfl)) dX8_undo_18 ⟨Nat.zero_le _, Nat.zero_le _⟩) hP hD hS hA [1, 2, 3, 4, 5, 6, 7, 8, 9, 10, 11, 12, 13, 14, 15, 16, 17, 18, 19, 20] rfl [0] 21 rfl rfl rfl (by decide) rfl (fun H locs hP hD hS => ?_)
    refine lv_aload_n hx hb dX8_undo_21 rfl (lv_at hl 0 rfl) ?_
    obtain ⟨q22, h22_15, hf⟩ := bd_s hf
    refine u_calliR (va_runV (As := []) (rest := []) ⟨hx, hb, hml, hown, htA⟩ (kX8_tableNumber l G cy q_this q_now q_saved q_trial q_lowering q_counts q_expansion q_setUp q_tapes q_now_ground q_now_notes q_now_seen q_now_events q_now_book H.size f_imaged q18.1 q18.2.1 q18.2.2.1 q18.2.2.2.1 h22_15) (u_cwV htA a_ml_X8_73 pk_X8_tableNumber ⟨Nat.le_of_ble_eq_true rfl, Nat.le_of_ble_eq_true rfl⟩) (u_preV hK hN hP hD [0, 1, 2] rfl (by decide) 0 rfl rfl) rfl rfl hl.1 rfl (lv_room (Nat.le_of_ble_eq_true rfl)) dX8_undo_22 ⟨Nat.zero_le _, Nat.zero_le _⟩) hP hD hS hA [0, 1, 2] rfl (fun H locs hP hS => ?_)
    have ho := Option.some.inj hf
    subst ho
    exact W.iret (v := q22) hx hb hr (fun t ht hW => ⟨⟨_, (), rfl, rfl, by rw [ht]; exact hP, va_K.moved hW.alike hK, hD⟩, hS.F ht⟩) hS.2.2 dX8_undo_25
  · have hf := ite_t c_13 hf
    refine lv_bipush (v := (-3)) hx hb dX8_undo_7 (by decide) ?_
    have ho := Option.some.inj hf
    subst ho
    exact W.iret (v := (-3)) hx hb hr (fun t ht hW => ⟨⟨_, (), rfl, rfl, by rw [ht]; exact hP, va_K.moved hW.alike hK, hD⟩, hS.F ht⟩) hS.2.2 dX8_undo_9
set_option maxRecDepth 100000 in
set_option maxHeartbeats 4000000 in
theorem kX8_count (l : Launch) (G : va_G) (cy : Nat → ClassId) (q_this : Nat) (q_now : Nat) (q_saved : Nat) (q_trial : Nat) (q_lowering : Nat) (q_counts : Nat) (q_expansion : Nat) (q_setUp : Nat) (q_tapes : Nat) (q_now_ground : Nat) (q_now_notes : Nat) (q_now_seen : Nat) (q_now_events : Nat) (q_now_book : Nat) (q_now_seen_cells : Nat) (q_now_events_cells : Nat) (q_now_book_cells : Nat) (q_setUp_text : Nat) (q_setUp_kinds : Nat) (q_setUp_firsts : Nat) (q_setUp_seconds : Nat) (sz : Nat) (f_imaged : Int32) (f_now_seen_limit : Int32) (f_now_seen_used : Int32) (f_now_events_limit : Int32) (f_now_events_used : Int32) (f_now_book_limit : Int32) (f_now_book_used : Int32) (f_setUp_length : Int32) (f_setUp_clauses : Int32) (f_setUp_spot : Int32) (f_setUp_value : Int32) (p1 : Int32) {o : Int32} (hf : fX8_count p1 f_now_seen_used f_now_events_used f_now_book_used f_setUp_length = some o) : Met l yX8_count (Cond.code yX8_count cX8_count 2 (some .int) :: AW) ({ frames := 1, cells := 0, slots := 0, locals := 20 } : Room) (va_Pc [.ref q_this, .int p1] (Wp G cy [(q_this, .inr (8, [.ref q_now, .ref q_saved, .int f_imaged, .ref q_trial, .ref q_lowering, .ref q_counts, .ref q_expansion, .ref q_setUp, .ref q_tapes])), (q_now, .inr (6, [.ref q_now_ground, .ref q_now_notes, .ref q_now_seen, .ref q_now_events, .ref q_now_book])), (q_now_seen, .inr (4, [.int f_now_seen_limit, .ref q_now_seen_cells, .int f_now_seen_used])), (q_now_events, .inr (4, [.int f_now_events_limit, .ref q_now_events_cells, .int f_now_events_used])), (q_now_book, .inr (4, [.int f_now_book_limit, .ref q_now_book_cells, .int f_now_book_used])), (q_setUp, .inr (5, [.ref q_setUp_text, .int f_setUp_length, .ref q_setUp_kinds, .ref q_setUp_firsts, .ref q_setUp_seconds, .int f_setUp_clauses, .int f_setUp_spot, .int f_setUp_value]))] sz)) (va_Qi (fun r (_ : Unit) => r = o) (fun _ => Wq G cy (va_A [(q_this, .inr (8, [.ref q_now, .ref q_saved, .int f_imaged, .ref q_trial, .ref q_lowering, .ref q_counts, .ref q_expansion, .ref q_setUp, .ref q_tapes])), (q_now, .inr (6, [.ref q_now_ground, .ref q_now_notes, .ref q_now_seen, .ref q_now_events, .ref q_now_book])), (q_now_seen, .inr (4, [.int f_now_seen_limit, .ref q_now_seen_cells, .int f_now_seen_used])), (q_now_events, .inr (4, [.int f_now_events_limit, .ref q_now_events_cells, .int f_now_events_used])), (q_now_book, .inr (4, [.int f_now_book_limit, .ref q_now_book_cells, .int f_now_book_used])), (q_setUp, .inr (5, [.ref q_setUp_text, .int f_setUp_length, .ref q_setUp_kinds, .ref q_setUp_firsts, .ref q_setUp_seconds, .int f_setUp_clauses, .int f_setUp_spot, .int f_setUp_value]))] sz) [(q_this, .inr (8, [.ref q_now, .ref q_saved, .int f_imaged, .ref q_trial, .ref q_lowering, .ref q_counts, .ref q_expansion, .ref q_setUp, .ref q_tapes])), (q_now, .inr (6, [.ref q_now_ground, .ref q_now_notes, .ref q_now_seen, .ref q_now_events, .ref q_now_book])), (q_now_seen, .inr (4, [.int f_now_seen_limit, .ref q_now_seen_cells, .int f_now_seen_used])), (q_now_events, .inr (4, [.int f_now_events_limit, .ref q_now_events_cells, .int f_now_events_used])), (q_now_book, .inr (4, [.int f_now_book_limit, .ref q_now_book_cells, .int f_now_book_used])), (q_setUp, .inr (5, [.ref q_setUp_text, .int f_setUp_length, .ref q_setUp_kinds, .ref q_setUp_firsts, .ref q_setUp_seconds, .int f_setUp_clauses, .int f_setUp_spot, .int f_setUp_value]))]) (va_A [(q_this, .inr (8, [.ref q_now, .ref q_saved, .int f_imaged, .ref q_trial, .ref q_lowering, .ref q_counts, .ref q_expansion, .ref q_setUp, .ref q_tapes])), (q_now, .inr (6, [.ref q_now_ground, .ref q_now_notes, .ref q_now_seen, .ref q_now_events, .ref q_now_book])), (q_now_seen, .inr (4, [.int f_now_seen_limit, .ref q_now_seen_cells, .int f_now_seen_used])), (q_now_events, .inr (4, [.int f_now_events_limit, .ref q_now_events_cells, .int f_now_events_used])), (q_now_book, .inr (4, [.int f_now_book_limit, .ref q_now_book_cells, .int f_now_book_used])), (q_setUp, .inr (5, [.ref q_setUp_text, .int f_setUp_length, .ref q_setUp_kinds, .ref q_setUp_firsts, .ref q_setUp_seconds, .int f_setUp_clauses, .int f_setUp_spot, .int f_setUp_value]))] sz)) 0 0 (va_A [(q_this, .inr (8, [.ref q_now, .ref q_saved, .int f_imaged, .ref q_trial, .ref q_lowering, .ref q_counts, .ref q_expansion, .ref q_setUp, .ref q_tapes])), (q_now, .inr (6, [.ref q_now_ground, .ref q_now_notes, .ref q_now_seen, .ref q_now_events, .ref q_now_book])), (q_now_seen, .inr (4, [.int f_now_seen_limit, .ref q_now_seen_cells, .int f_now_seen_used])), (q_now_events, .inr (4, [.int f_now_events_limit, .ref q_now_events_cells, .int f_now_events_used])), (q_now_book, .inr (4, [.int f_now_book_limit, .ref q_now_book_cells, .int f_now_book_used])), (q_setUp, .inr (5, [.ref q_setUp_text, .int f_setUp_length, .ref q_setUp_kinds, .ref q_setUp_firsts, .ref q_setUp_seconds, .int f_setUp_clauses, .int f_setUp_spot, .int f_setUp_value]))] sz) := by
  refine Met.ofW (cc := cX8_count) (maxL := 2) (ret := (some .int)) (by decide) rfl ?_
  intro p e s m args below meth c s₁ B hml hv
  obtain ⟨rfl, hsz, hP, hK, hD0, hN⟩ := hv
  have hx := B.exec
  have hb := B.bytes
  have hr := B.returns
  have htA : ∀ w ∈ AW, w.before _ s = true := fun w h => atoms_spec (ws := Cond.code yX8_count cX8_count 2 (some .int) :: AW) B.pre w (List.mem_cons_of_mem _ h)
  have hown : s.vm.findClass RX8 = some m.cls := findClass_of_methodNamed B.named
  have hlocks := B.notSynchronized
  subst hsz
  have hD := hD0.self (sz := s.heap.size)
  generalize hAe : va_A [(q_this, .inr (8, [.ref q_now, .ref q_saved, .int f_imaged, .ref q_trial, .ref q_lowering, .ref q_counts, .ref q_expansion, .ref q_setUp, .ref q_tapes])), (q_now, .inr (6, [.ref q_now_ground, .ref q_now_notes, .ref q_now_seen, .ref q_now_events, .ref q_now_book])), (q_now_seen, .inr (4, [.int f_now_seen_limit, .ref q_now_seen_cells, .int f_now_seen_used])), (q_now_events, .inr (4, [.int f_now_events_limit, .ref q_now_events_cells, .int f_now_events_used])), (q_now_book, .inr (4, [.int f_now_book_limit, .ref q_now_book_cells, .int f_now_book_used])), (q_setUp, .inr (5, [.ref q_setUp_text, .int f_setUp_length, .ref q_setUp_kinds, .ref q_setUp_firsts, .ref q_setUp_seconds, .int f_setUp_clauses, .int f_setUp_spot, .int f_setUp_value]))] s.heap.size = A at hD ⊢
  have hA : ∀ q : Nat, s.heap.size ≤ q → A q := fun q h => by rw [← hAe]; exact Or.inr h
  have hS : va_S A s.heap s.heap [] := va_S.rf
  have hl := lv_entry ([.ref q_this, .int p1]) (n := 2) (Nat.le_of_ble_eq_true rfl)
  rw [lg_entry_eq]
  generalize (lg_sl ([.ref q_this, .int p1]) ++ List.replicate (2 - (lg_sl ([.ref q_this, .int p1])).length) Slot.unset).toArray = ls at hl ⊢
  have hl : lv_has ls 2 [(0, .ref q_this), (1, .int p1)] := hl
  have hP : va_P G vwCl [(q_this, .inr (8, [.ref q_now, .ref q_saved, .int f_imaged, .ref q_trial, .ref q_lowering, .ref q_counts, .ref q_expansion, .ref q_setUp, .ref q_tapes])), (q_now, .inr (6, [.ref q_now_ground, .ref q_now_notes, .ref q_now_seen, .ref q_now_events, .ref q_now_book])), (q_now_seen, .inr (4, [.int f_now_seen_limit, .ref q_now_seen_cells, .int f_now_seen_used])), (q_now_events, .inr (4, [.int f_now_events_limit, .ref q_now_events_cells, .int f_now_events_used])), (q_now_book, .inr (4, [.int f_now_book_limit, .ref q_now_book_cells, .int f_now_book_used])), (q_setUp, .inr (5, [.ref q_setUp_text, .int f_setUp_length, .ref q_setUp_kinds, .ref q_setUp_firsts, .ref q_setUp_seconds, .int f_setUp_clauses, .int f_setUp_spot, .int f_setUp_value]))] s.heap := hP
  have hf : ((if p1 = 0 then (fX4_size f_now_seen_used).bind fun q39 => (some (q39)) else if p1 = 1 then (fX4_size f_now_events_used).bind fun q50 => (some (q50)) else if p1 = 2 then (fX4_size f_now_book_used).bind fun q61 => (some (q61)) else if p1 = 3 then (fX5_bytes f_setUp_length).bind fun q69 => (some (q69)) else some ((-2))) : Option (Int32)) = some o := hf
  refine lv_iload_n hx hb dX8_count_0 rfl (lv_at hl 1 rfl) ?_
  by_cases c_33 : p1 = 0
  · have hf := ite_t c_33 hf
    refine lv_tableIn (off := 31) (tgt := 32) hx hb dX8_count_1 (by rw [c_33]; decide) (by rw [c_33]; decide) (by rw [c_33]; rfl) (by decide) ?_
    refine lv_aload_n hx hb dX8_count_32 rfl (lv_at hl 0 rfl) ?_
    refine va_get (D := G) (ci := 8) (v := .ref q_now) (C := RX8) (T := TX8) (N := 9) hx hb htA lyX8 hown hK hP 0 rfl rfl 0 (by decide) (htA _ a_fl_X8_14) (fun _ h9 => h9) rfl dX8_count_33 ?_
    refine va_getN (D := G) (ci := 6) (v := .ref q_now_seen) (C := RX6) (T := TX6) (N := 5) hx hb htA lyX6 hown hK hP 1 rfl rfl 2 (by decide) (u_link hN (List.mem_of_getElem? (i := 8) rfl)) (fun _ h9 => h9) rfl dX8_count_36 ?_
    obtain ⟨q39, h39_34, hf⟩ := bd_s hf
    refine u_calliR (va_runV (As := []) (rest := []) ⟨hx, hb, hml, hown, htA⟩ (kX4_size l G cy q_now_seen q_now_seen_cells s.heap.size f_now_seen_limit f_now_seen_used h39_34) (u_cwV htA a_ml_X8_109 pk_X4_size ⟨Nat.le_of_ble_eq_true rfl, Nat.le_of_ble_eq_true rfl⟩) (u_preV hK hN hP hD [2] rfl (by decide) 2 rfl rfl) rfl rfl hl.1 rfl (lv_room (Nat.le_of_ble_eq_true rfl)) dX8_count_39 ⟨Nat.zero_le _, Nat.zero_le _⟩) hP hD hS hA [2] rfl (fun H locs hP hS => ?_)
    have ho := Option.some.inj hf
    subst ho
    exact W.iret (v := q39) hx hb hr (fun t ht hW => ⟨⟨_, (), rfl, rfl, by rw [ht]; exact hP, va_K.moved hW.alike hK, hD⟩, hS.F ht⟩) hS.2.2 dX8_count_42
  · have hf := ite_f c_33 hf
    by_cases c_35 : p1 = 1
    · have hf := ite_t c_35 hf
      refine lv_tableIn (off := 42) (tgt := 43) hx hb dX8_count_1 (by rw [c_35]; decide) (by rw [c_35]; decide) (by rw [c_35]; rfl) (by decide) ?_
      refine lv_aload_n hx hb dX8_count_43 rfl (lv_at hl 0 rfl) ?_
      refine va_get (D := G) (ci := 8) (v := .ref q_now) (C := RX8) (T := TX8) (N := 9) hx hb htA lyX8 hown hK hP 0 rfl rfl 0 (by decide) (htA _ a_fl_X8_14) (fun _ h9 => h9) rfl dX8_count_44 ?_
      refine va_getN (D := G) (ci := 6) (v := .ref q_now_events) (C := RX6) (T := TX6) (N := 5) hx hb htA lyX6 hown hK hP 1 rfl rfl 3 (by decide) (u_link hN (List.mem_of_getElem? (i := 9) rfl)) (fun _ h9 => h9) rfl dX8_count_47 ?_
      obtain ⟨q50, h50_36, hf⟩ := bd_s hf
      refine u_calliR (va_runV (As := []) (rest := []) ⟨hx, hb, hml, hown, htA⟩ (kX4_size l G cy q_now_events q_now_events_cells s.heap.size f_now_events_limit f_now_events_used h50_36) (u_cwV htA a_ml_X8_109 pk_X4_size ⟨Nat.le_of_ble_eq_true rfl, Nat.le_of_ble_eq_true rfl⟩) (u_preV hK hN hP hD [3] rfl (by decide) 3 rfl rfl) rfl rfl hl.1 rfl (lv_room (Nat.le_of_ble_eq_true rfl)) dX8_count_50 ⟨Nat.zero_le _, Nat.zero_le _⟩) hP hD hS hA [3] rfl (fun H locs hP hS => ?_)
      have ho := Option.some.inj hf
      subst ho
      exact W.iret (v := q50) hx hb hr (fun t ht hW => ⟨⟨_, (), rfl, rfl, by rw [ht]; exact hP, va_K.moved hW.alike hK, hD⟩, hS.F ht⟩) hS.2.2 dX8_count_53
    · have hf := ite_f c_35 hf
      by_cases c_37 : p1 = 2
      · have hf := ite_t c_37 hf
        refine lv_tableIn (off := 53) (tgt := 54) hx hb dX8_count_1 (by rw [c_37]; decide) (by rw [c_37]; decide) (by rw [c_37]; rfl) (by decide) ?_
        refine lv_aload_n hx hb dX8_count_54 rfl (lv_at hl 0 rfl) ?_
        refine va_get (D := G) (ci := 8) (v := .ref q_now) (C := RX8) (T := TX8) (N := 9) hx hb htA lyX8 hown hK hP 0 rfl rfl 0 (by decide) (htA _ a_fl_X8_14) (fun _ h9 => h9) rfl dX8_count_55 ?_
        refine va_getN (D := G) (ci := 6) (v := .ref q_now_book) (C := RX6) (T := TX6) (N := 5) hx hb htA lyX6 hown hK hP 1 rfl rfl 4 (by decide) (u_link hN (List.mem_of_getElem? (i := 10) rfl)) (fun _ h9 => h9) rfl dX8_count_58 ?_
        obtain ⟨q61, h61_38, hf⟩ := bd_s hf
        refine u_calliR (va_runV (As := []) (rest := []) ⟨hx, hb, hml, hown, htA⟩ (kX4_size l G cy q_now_book q_now_book_cells s.heap.size f_now_book_limit f_now_book_used h61_38) (u_cwV htA a_ml_X8_109 pk_X4_size ⟨Nat.le_of_ble_eq_true rfl, Nat.le_of_ble_eq_true rfl⟩) (u_preV hK hN hP hD [4] rfl (by decide) 4 rfl rfl) rfl rfl hl.1 rfl (lv_room (Nat.le_of_ble_eq_true rfl)) dX8_count_61 ⟨Nat.zero_le _, Nat.zero_le _⟩) hP hD hS hA [4] rfl (fun H locs hP hS => ?_)
        have ho := Option.some.inj hf
        subst ho
        exact W.iret (v := q61) hx hb hr (fun t ht hW => ⟨⟨_, (), rfl, rfl, by rw [ht]; exact hP, va_K.moved hW.alike hK, hD⟩, hS.F ht⟩) hS.2.2 dX8_count_64
      · have hf := ite_f c_37 hf
        by_cases c_39 : p1 = 3
        · have hf := ite_t c_39 hf
          refine lv_tableIn (off := 64) (tgt := 65) hx hb dX8_count_1 (by rw [c_39]; decide) (by rw [c_39]; decide) (by rw [c_39]; rfl) (by decide) ?_
          refine lv_aload_n hx hb dX8_count_65 rfl (lv_at hl 0 rfl) ?_
          refine va_get (D := G) (ci := 8) (v := .ref q_setUp) (C := RX8) (T := TX8) (N := 9) hx hb htA lyX8 hown hK hP 0 rfl rfl 7 (by decide) (htA _ a_fl_X8_58) (fun _ h9 => h9) rfl dX8_count_66 ?_
          obtain ⟨q69, h69_40, hf⟩ := bd_s hf
          refine u_calliR (va_runV (As := []) (rest := []) ⟨hx, hb, hml, hown, htA⟩ (kX5_bytes l G cy q_setUp q_setUp_text q_setUp_kinds q_setUp_firsts q_setUp_seconds s.heap.size f_setUp_length f_setUp_clauses f_setUp_spot f_setUp_value h69_40) (u_cwV htA a_ml_X8_277 pk_X5_bytes ⟨Nat.le_of_ble_eq_true rfl, Nat.le_of_ble_eq_true rfl⟩) (u_preV hK hN hP hD [5] rfl (by decide) 5 rfl rfl) rfl rfl hl.1 rfl (lv_room (Nat.le_of_ble_eq_true rfl)) dX8_count_69 ⟨Nat.zero_le _, Nat.zero_le _⟩) hP hD hS hA [5] rfl (fun H locs hP hS => ?_)
          have ho := Option.some.inj hf
          subst ho
          exact W.iret (v := q69) hx hb hr (fun t ht hW => ⟨⟨_, (), rfl, rfl, by rw [ht]; exact hP, va_K.moved hW.alike hK, hD⟩, hS.F ht⟩) hS.2.2 dX8_count_72
        · have hf := ite_f c_39 hf
          have c_33n := sw_no (a := 0) c_33 (by decide)
          have c_35n := sw_no (a := 1) c_35 (by decide)
          have c_37n := sw_no (a := 2) c_37 (by decide)
          have c_39n := sw_no (a := 3) c_39 (by decide)
          refine lv_tableOut (tgt := 73) hx hb dX8_count_1 (by omega) (by decide) ?_
          refine lv_bipush (v := (-2)) hx hb dX8_count_73 (by decide) ?_
          have ho := Option.some.inj hf
          subst ho
          exact W.iret (v := (-2)) hx hb hr (fun t ht hW => ⟨⟨_, (), rfl, rfl, by rw [ht]; exact hP, va_K.moved hW.alike hK, hD⟩, hS.F ht⟩) hS.2.2 dX8_count_75
set_option maxRecDepth 100000 in
set_option maxHeartbeats 4000000 in
theorem kX8_tape (l : Launch) (G : va_G) (cy : Nat → ClassId) (q_this : Nat) (q_now : Nat) (q_saved : Nat) (q_trial : Nat) (q_lowering : Nat) (q_counts : Nat) (q_expansion : Nat) (q_setUp : Nat) (q_tapes : Nat) (q_tapes_sorts : Nat) (q_tapes_lengths : Nat) (q_tapes_items : Nat) (sz : Nat) (f_imaged : Int32) (f_tapes_sorts : Nat → Int32) (f_tapes_lengths : Nat → Int32) (f_tapes_items : Nat → Int64) (p1 : Int32) (p2 : Int32) (p3 : Int32) (n : Nat) {o : Int32 × (Nat → Int32) × (Nat → Int32) × (Nat → Int64)} (hf : fX8_tape n p1 p2 p3 f_tapes_sorts f_tapes_lengths f_tapes_items = some o) : Met l yX8_tape (Cond.code yX8_tape cX8_tape 4 (some .int) :: AW) ({ frames := 3, cells := 0, slots := 0, locals := 67 } : Room) (va_Pc [.ref q_this, .int p1, .int p2, .int p3] (Wp G cy [(q_this, .inr (8, [.ref q_now, .ref q_saved, .int f_imaged, .ref q_trial, .ref q_lowering, .ref q_counts, .ref q_expansion, .ref q_setUp, .ref q_tapes])), (q_tapes, .inr (7, [.ref q_tapes_sorts, .ref q_tapes_lengths, .ref q_tapes_items])), (q_tapes_sorts, .inl (cy 0, 6, .inl f_tapes_sorts)), (q_tapes_lengths, .inl (cy 0, 6, .inl f_tapes_lengths)), (q_tapes_items, .inl (cy 1, 360, .inr (.inl f_tapes_items)))] sz)) (va_Qi (fun r (_ : Unit) => r = o.1) (fun _ => Wq G cy (va_A [(q_this, .inr (8, [.ref q_now, .ref q_saved, .int f_imaged, .ref q_trial, .ref q_lowering, .ref q_counts, .ref q_expansion, .ref q_setUp, .ref q_tapes])), (q_tapes, .inr (7, [.ref q_tapes_sorts, .ref q_tapes_lengths, .ref q_tapes_items])), (q_tapes_sorts, .inl (cy 0, 6, .inl f_tapes_sorts)), (q_tapes_lengths, .inl (cy 0, 6, .inl f_tapes_lengths)), (q_tapes_items, .inl (cy 1, 360, .inr (.inl f_tapes_items)))] sz) [(q_this, .inr (8, [.ref q_now, .ref q_saved, .int f_imaged, .ref q_trial, .ref q_lowering, .ref q_counts, .ref q_expansion, .ref q_setUp, .ref q_tapes])), (q_tapes, .inr (7, [.ref q_tapes_sorts, .ref q_tapes_lengths, .ref q_tapes_items])), (q_tapes_sorts, .inl (cy 0, 6, .inl o.2.1)), (q_tapes_lengths, .inl (cy 0, 6, .inl o.2.2.1)), (q_tapes_items, .inl (cy 1, 360, .inr (.inl o.2.2.2)))]) (va_A [(q_this, .inr (8, [.ref q_now, .ref q_saved, .int f_imaged, .ref q_trial, .ref q_lowering, .ref q_counts, .ref q_expansion, .ref q_setUp, .ref q_tapes])), (q_tapes, .inr (7, [.ref q_tapes_sorts, .ref q_tapes_lengths, .ref q_tapes_items])), (q_tapes_sorts, .inl (cy 0, 6, .inl f_tapes_sorts)), (q_tapes_lengths, .inl (cy 0, 6, .inl f_tapes_lengths)), (q_tapes_items, .inl (cy 1, 360, .inr (.inl f_tapes_items)))] sz)) 0 0 (va_A [(q_this, .inr (8, [.ref q_now, .ref q_saved, .int f_imaged, .ref q_trial, .ref q_lowering, .ref q_counts, .ref q_expansion, .ref q_setUp, .ref q_tapes])), (q_tapes, .inr (7, [.ref q_tapes_sorts, .ref q_tapes_lengths, .ref q_tapes_items])), (q_tapes_sorts, .inl (cy 0, 6, .inl f_tapes_sorts)), (q_tapes_lengths, .inl (cy 0, 6, .inl f_tapes_lengths)), (q_tapes_items, .inl (cy 1, 360, .inr (.inl f_tapes_items)))] sz) := by
  refine Met.ofW (cc := cX8_tape) (maxL := 4) (ret := (some .int)) (by decide) rfl ?_
  intro p e s m args below meth c s₁ B hml hv
  obtain ⟨rfl, hsz, hP, hK, hD0, hN⟩ := hv
  have hx := B.exec
  have hb := B.bytes
  have hr := B.returns
  have htA : ∀ w ∈ AW, w.before _ s = true := fun w h => atoms_spec (ws := Cond.code yX8_tape cX8_tape 4 (some .int) :: AW) B.pre w (List.mem_cons_of_mem _ h)
  have hown : s.vm.findClass RX8 = some m.cls := findClass_of_methodNamed B.named
  have hlocks := B.notSynchronized
  subst hsz
  have hD := hD0.self (sz := s.heap.size)
  generalize hAe : va_A [(q_this, .inr (8, [.ref q_now, .ref q_saved, .int f_imaged, .ref q_trial, .ref q_lowering, .ref q_counts, .ref q_expansion, .ref q_setUp, .ref q_tapes])), (q_tapes, .inr (7, [.ref q_tapes_sorts, .ref q_tapes_lengths, .ref q_tapes_items])), (q_tapes_sorts, .inl (cy 0, 6, .inl f_tapes_sorts)), (q_tapes_lengths, .inl (cy 0, 6, .inl f_tapes_lengths)), (q_tapes_items, .inl (cy 1, 360, .inr (.inl f_tapes_items)))] s.heap.size = A at hD ⊢
  have hA : ∀ q : Nat, s.heap.size ≤ q → A q := fun q h => by rw [← hAe]; exact Or.inr h
  have hS : va_S A s.heap s.heap [] := va_S.rf
  have hl := lv_entry ([.ref q_this, .int p1, .int p2, .int p3]) (n := 4) (Nat.le_of_ble_eq_true rfl)
  rw [lg_entry_eq]
  generalize (lg_sl ([.ref q_this, .int p1, .int p2, .int p3]) ++ List.replicate (4 - (lg_sl ([.ref q_this, .int p1, .int p2, .int p3])).length) Slot.unset).toArray = ls at hl ⊢
  have hl : lv_has ls 4 [(0, .ref q_this), (1, .int p1), (2, .int p2), (3, .int p3)] := hl
  have hP : va_P G vwCl [(q_this, .inr (8, [.ref q_now, .ref q_saved, .int f_imaged, .ref q_trial, .ref q_lowering, .ref q_counts, .ref q_expansion, .ref q_setUp, .ref q_tapes])), (q_tapes, .inr (7, [.ref q_tapes_sorts, .ref q_tapes_lengths, .ref q_tapes_items])), (q_tapes_sorts, .inl (cy 0, 6, .inl f_tapes_sorts)), (q_tapes_lengths, .inl (cy 0, 6, .inl f_tapes_lengths)), (q_tapes_items, .inl (cy 1, 360, .inr (.inl f_tapes_items)))] s.heap := hP
  have hf : ((fX7_isTape p1).bind fun q5 => ((if q5 = 0 then some ((-1), f_tapes_sorts, f_tapes_lengths, f_tapes_items) else (if p2 = (-1) then (fX7_drop p1 f_tapes_sorts f_tapes_lengths).bind fun q23 => (some (1, q23.1, q23.2, f_tapes_items)) else (fX8_isIn p2 0 4).bind fun q31 => ((if q31 = 0 then some ((-2), f_tapes_sorts, f_tapes_lengths, f_tapes_items) else (if p3 ≤ 60 then (if 0 ≤ p3 then (fX7_become n p1 p2 p3 f_tapes_sorts f_tapes_lengths f_tapes_items).bind fun q60 => (some (1, q60.1, q60.2.1, q60.2.2)) else some ((-14), f_tapes_sorts, f_tapes_lengths, f_tapes_items)) else some ((-2), f_tapes_sorts, f_tapes_lengths, f_tapes_items))))))) : Option (Int32 × (Nat → Int32) × (Nat → Int32) × (Nat → Int64))) = some o := hf
  refine lv_aload_n hx hb dX8_tape_0 rfl (lv_at hl 0 rfl) ?_
  refine va_get (D := G) (ci := 8) (v := .ref q_tapes) (C := RX8) (T := TX8) (N := 9) hx hb htA lyX8 hown hK hP 0 rfl rfl 8 (by decide) (htA _ a_fl_X8_65) (fun _ h9 => h9) rfl dX8_tape_1 ?_
  refine lv_iload_n hx hb dX8_tape_4 rfl (lv_at hl 1 rfl) ?_
  obtain ⟨q5, h5_37, hf⟩ := bd_s hf
  refine u_calliR (va_runV (As := [.int p1]) (rest := []) ⟨hx, hb, hml, hown, htA⟩ (kX7_isTape l G cy q_tapes q_tapes_sorts q_tapes_lengths q_tapes_items s.heap.size p1 h5_37) (u_cwV htA a_ml_X8_259 pk_X7_isTape ⟨Nat.le_of_ble_eq_true rfl, Nat.le_of_ble_eq_true rfl⟩) (u_preV hK hN hP hD [1] rfl (by decide) 1 rfl rfl) rfl rfl hl.1 rfl (lv_room (Nat.le_of_ble_eq_true rfl)) dX8_tape_5 ⟨Nat.zero_le _, Nat.zero_le _⟩) hP hD hS hA [1] rfl (fun H locs hP hS => ?_)
  refine lv_if_ne (tgt := 13) hx hb dX8_tape_8 (by decide) (fun c_38 => ?_) (fun c_38 => ?_)
  · have hf := ite_f c_38 hf
    refine lv_iload_n hx hb dX8_tape_13 rfl (lv_at hl 2 rfl) ?_
    refine lv_iconst (v := (-1)) hx hb dX8_tape_14 (by decide) ?_
    refine lv_icmp_ne (tgt := 28) hx hb dX8_tape_15 (by decide) (fun c_39 => ?_) (fun c_39 => ?_)
    · have hf := ite_f c_39 hf
      refine lv_iload_n hx hb dX8_tape_28 rfl (lv_at hl 2 rfl) ?_
      refine lv_iconst (v := 0) hx hb dX8_tape_29 (by decide) ?_
      refine lv_iconst (v := 4) hx hb dX8_tape_30 (by decide) ?_
      obtain ⟨q31, h31_40, hf⟩ := bd_s hf
      refine u_calliR (va_runS (As := [.int p2, .int 0, .int 4]) (rest := []) ⟨hx, hb, hml, hown, htA⟩ (kX8_isIn l G cy H.size p2 0 4 h31_40) (u_cwS htA a_ml_X8_69 pk_X8_isIn ⟨Nat.le_of_ble_eq_true rfl, Nat.le_of_ble_eq_true rfl⟩) (u_preS hK hN hP hD [] rfl (by decide)) rfl rfl hl.1 rfl (lv_room (Nat.le_of_ble_eq_true rfl)) dX8_tape_31 ⟨Nat.zero_le _, Nat.zero_le _⟩) hP hD hS hA [] rfl (fun H locs hP hS => ?_)
      refine lv_if_eq (tgt := 43) hx hb dX8_tape_34 (by decide) (fun c_41 => ?_) (fun c_41 => ?_)
      · have hf := ite_t c_41 hf
        refine lv_bipush (v := (-2)) hx hb dX8_tape_43 (by decide) ?_
        have ho := Option.some.inj hf
        subst ho
        exact W.iret (v := (-2)) hx hb hr (fun t ht hW => ⟨⟨_, (), rfl, rfl, by rw [ht]; exact hP, va_K.moved hW.alike hK, hD⟩, hS.F ht⟩) hS.2.2 dX8_tape_45
      · have hf := ite_f c_41 hf
        refine lv_iload_n hx hb dX8_tape_37 rfl (lv_at hl 3 rfl) ?_
        refine lv_bipush (v := 60) hx hb dX8_tape_38 (by decide) ?_
        refine lv_icmp_le (tgt := 46) hx hb dX8_tape_40 (by decide) (fun c_42 => ?_) (fun c_42 => ?_)
        · have hf := ite_t c_42 hf
          refine lv_iload_n hx hb dX8_tape_46 rfl (lv_at hl 3 rfl) ?_
          refine lv_if_ge (tgt := 53) hx hb dX8_tape_47 (by decide) (fun c_43 => ?_) (fun c_43 => ?_)
          · have hf := ite_t c_43 hf
            refine lv_aload_n hx hb dX8_tape_53 rfl (lv_at hl 0 rfl) ?_
            refine va_get (D := G) (ci := 8) (v := .ref q_tapes) (C := RX8) (T := TX8) (N := 9) hx hb htA lyX8 hown hK hP 0 rfl rfl 8 (by decide) (htA _ a_fl_X8_65) (fun _ h9 => h9) rfl dX8_tape_54 ?_
            refine lv_iload_n hx hb dX8_tape_57 rfl (lv_at hl 1 rfl) ?_
            refine lv_iload_n hx hb dX8_tape_58 rfl (lv_at hl 2 rfl) ?_
            refine lv_iload_n hx hb dX8_tape_59 rfl (lv_at hl 3 rfl) ?_
            obtain ⟨q60, h60_44, hf⟩ := bd_s hf
            refine u_callv [(q_this, .inr (8, [.ref q_now, .ref q_saved, .int f_imaged, .ref q_trial, .ref q_lowering, .ref q_counts, .ref q_expansion, .ref q_setUp, .ref q_tapes])), (q_tapes, .inr (7, [.ref q_tapes_sorts, .ref q_tapes_lengths, .ref q_tapes_items])), (q_tapes_sorts, .inl (cy 0, 6, .inl q60.1)), (q_tapes_lengths, .inl (cy 0, 6, .inl q60.2.1)), (q_tapes_items, .inl (cy 1, 360, .inr (.inl q60.2.2)))] (va_runV (As := [.int p1, .int p2, .int p3]) (rest := []) ⟨hx, hb, hml, hown, htA⟩ (kX7_become l G cy q_tapes q_tapes_sorts q_tapes_lengths q_tapes_items H.size f_tapes_sorts f_tapes_lengths f_tapes_items p1 p2 p3 n h60_44) (u_cwV htA a_ml_X8_284 pk_X7_become ⟨Nat.le_of_ble_eq_true rfl, Nat.le_of_ble_eq_true rfl⟩) (u_preV hK hN hP hD [1, 2, 3, 4] rfl (by decide) 1 rfl rfl) rfl rfl hl.1 rfl (lv_room (Nat.le_of_ble_eq_true rfl)) dX8_tape_60 ⟨Nat.zero_le _, Nat.zero_le _⟩) hP hD hS hA [1, 2, 3, 4] rfl [0] 5 rfl rfl rfl (by decide) rfl (fun H locs hP hD hS => ?_)
            refine lv_iconst (v := 1) hx hb dX8_tape_63 (by decide) ?_
            have ho := Option.some.inj hf
            subst ho
            exact W.iret (v := 1) hx hb hr (fun t ht hW => ⟨⟨_, (), rfl, rfl, by rw [ht]; exact hP, va_K.moved hW.alike hK, hD⟩, hS.F ht⟩) hS.2.2 dX8_tape_64
          · have hf := ite_f c_43 hf
            refine lv_bipush (v := (-14)) hx hb dX8_tape_50 (by decide) ?_
            have ho := Option.some.inj hf
            subst ho
            exact W.iret (v := (-14)) hx hb hr (fun t ht hW => ⟨⟨_, (), rfl, rfl, by rw [ht]; exact hP, va_K.moved hW.alike hK, hD⟩, hS.F ht⟩) hS.2.2 dX8_tape_52
        · have hf := ite_f c_42 hf
          refine lv_bipush (v := (-2)) hx hb dX8_tape_43 (by decide) ?_
          have ho := Option.some.inj hf
          subst ho
          exact W.iret (v := (-2)) hx hb hr (fun t ht hW => ⟨⟨_, (), rfl, rfl, by rw [ht]; exact hP, va_K.moved hW.alike hK, hD⟩, hS.F ht⟩) hS.2.2 dX8_tape_45
    · have hf := ite_t c_39 hf
      refine lv_aload_n hx hb dX8_tape_18 rfl (lv_at hl 0 rfl) ?_
      refine va_get (D := G) (ci := 8) (v := .ref q_tapes) (C := RX8) (T := TX8) (N := 9) hx hb htA lyX8 hown hK hP 0 rfl rfl 8 (by decide) (htA _ a_fl_X8_65) (fun _ h9 => h9) rfl dX8_tape_19 ?_
      refine lv_iload_n hx hb dX8_tape_22 rfl (lv_at hl 1 rfl) ?_
      obtain ⟨q23, h23_45, hf⟩ := bd_s hf
      refine u_callv [(q_this, .inr (8, [.ref q_now, .ref q_saved, .int f_imaged, .ref q_trial, .ref q_lowering, .ref q_counts, .ref q_expansion, .ref q_setUp, .ref q_tapes])), (q_tapes, .inr (7, [.ref q_tapes_sorts, .ref q_tapes_lengths, .ref q_tapes_items])), (q_tapes_sorts, .inl (cy 0, 6, .inl q23.1)), (q_tapes_lengths, .inl (cy 0, 6, .inl q23.2)), (q_tapes_items, .inl (cy 1, 360, .inr (.inl f_tapes_items)))] (va_runV (As := [.int p1]) (rest := []) ⟨hx, hb, hml, hown, htA⟩ (kX7_drop l G cy q_tapes q_tapes_sorts q_tapes_lengths q_tapes_items H.size f_tapes_sorts f_tapes_lengths p1 h23_45) (u_cwV htA a_ml_X8_280 pk_X7_drop ⟨Nat.le_of_ble_eq_true rfl, Nat.le_of_ble_eq_true rfl⟩) (u_preV hK hN hP hD [1, 2, 3] rfl (by decide) 1 rfl rfl) rfl rfl hl.1 rfl (lv_room (Nat.le_of_ble_eq_true rfl)) dX8_tape_23 ⟨Nat.zero_le _, Nat.zero_le _⟩) hP hD hS hA [1, 2, 3] rfl [0, 4] 5 rfl rfl rfl (by decide) rfl (fun H locs hP hD hS => ?_)
      refine lv_iconst (v := 1) hx hb dX8_tape_26 (by decide) ?_
      have ho := Option.some.inj hf
      subst ho
      exact W.iret (v := 1) hx hb hr (fun t ht hW => ⟨⟨_, (), rfl, rfl, by rw [ht]; exact hP, va_K.moved hW.alike hK, hD⟩, hS.F ht⟩) hS.2.2 dX8_tape_27
  · have hf := ite_t c_38 hf
    refine lv_iconst (v := (-1)) hx hb dX8_tape_11 (by decide) ?_
    have ho := Option.some.inj hf
    subst ho
    exact W.iret (v := (-1)) hx hb hr (fun t ht hW => ⟨⟨_, (), rfl, rfl, by rw [ht]; exact hP, va_K.moved hW.alike hK, hD⟩, hS.F ht⟩) hS.2.2 dX8_tape_12
set_option maxRecDepth 100000 in
set_option maxHeartbeats 4000000 in
theorem kX8_item (l : Launch) (G : va_G) (cy : Nat → ClassId) (q_this : Nat) (q_now : Nat) (q_saved : Nat) (q_trial : Nat) (q_lowering : Nat) (q_counts : Nat) (q_expansion : Nat) (q_setUp : Nat) (q_tapes : Nat) (q_tapes_sorts : Nat) (q_tapes_lengths : Nat) (q_tapes_items : Nat) (sz : Nat) (f_imaged : Int32) (f_tapes_sorts : Nat → Int32) (f_tapes_lengths : Nat → Int32) (f_tapes_items : Nat → Int64) (p1 : Int32) (p2 : Int32) (p3 : Int64) {o : Int32 × (Nat → Int64)} (hf : fX8_item p1 p2 p3 f_tapes_sorts f_tapes_lengths f_tapes_items = some o) : Met l yX8_item (Cond.code yX8_item cX8_item 5 (some .int) :: AW) ({ frames := 4, cells := 0, slots := 0, locals := 90 } : Room) (va_Pc [.ref q_this, .int p1, .int p2, .long p3] (Wp G cy [(q_this, .inr (8, [.ref q_now, .ref q_saved, .int f_imaged, .ref q_trial, .ref q_lowering, .ref q_counts, .ref q_expansion, .ref q_setUp, .ref q_tapes])), (q_tapes, .inr (7, [.ref q_tapes_sorts, .ref q_tapes_lengths, .ref q_tapes_items])), (q_tapes_sorts, .inl (cy 0, 6, .inl f_tapes_sorts)), (q_tapes_lengths, .inl (cy 0, 6, .inl f_tapes_lengths)), (q_tapes_items, .inl (cy 1, 360, .inr (.inl f_tapes_items)))] sz)) (va_Qi (fun r (_ : Unit) => r = o.1) (fun _ => Wq G cy (va_A [(q_this, .inr (8, [.ref q_now, .ref q_saved, .int f_imaged, .ref q_trial, .ref q_lowering, .ref q_counts, .ref q_expansion, .ref q_setUp, .ref q_tapes])), (q_tapes, .inr (7, [.ref q_tapes_sorts, .ref q_tapes_lengths, .ref q_tapes_items])), (q_tapes_sorts, .inl (cy 0, 6, .inl f_tapes_sorts)), (q_tapes_lengths, .inl (cy 0, 6, .inl f_tapes_lengths)), (q_tapes_items, .inl (cy 1, 360, .inr (.inl f_tapes_items)))] sz) [(q_this, .inr (8, [.ref q_now, .ref q_saved, .int f_imaged, .ref q_trial, .ref q_lowering, .ref q_counts, .ref q_expansion, .ref q_setUp, .ref q_tapes])), (q_tapes, .inr (7, [.ref q_tapes_sorts, .ref q_tapes_lengths, .ref q_tapes_items])), (q_tapes_sorts, .inl (cy 0, 6, .inl f_tapes_sorts)), (q_tapes_lengths, .inl (cy 0, 6, .inl f_tapes_lengths)), (q_tapes_items, .inl (cy 1, 360, .inr (.inl o.2)))]) (va_A [(q_this, .inr (8, [.ref q_now, .ref q_saved, .int f_imaged, .ref q_trial, .ref q_lowering, .ref q_counts, .ref q_expansion, .ref q_setUp, .ref q_tapes])), (q_tapes, .inr (7, [.ref q_tapes_sorts, .ref q_tapes_lengths, .ref q_tapes_items])), (q_tapes_sorts, .inl (cy 0, 6, .inl f_tapes_sorts)), (q_tapes_lengths, .inl (cy 0, 6, .inl f_tapes_lengths)), (q_tapes_items, .inl (cy 1, 360, .inr (.inl f_tapes_items)))] sz)) 0 0 (va_A [(q_this, .inr (8, [.ref q_now, .ref q_saved, .int f_imaged, .ref q_trial, .ref q_lowering, .ref q_counts, .ref q_expansion, .ref q_setUp, .ref q_tapes])), (q_tapes, .inr (7, [.ref q_tapes_sorts, .ref q_tapes_lengths, .ref q_tapes_items])), (q_tapes_sorts, .inl (cy 0, 6, .inl f_tapes_sorts)), (q_tapes_lengths, .inl (cy 0, 6, .inl f_tapes_lengths)), (q_tapes_items, .inl (cy 1, 360, .inr (.inl f_tapes_items)))] sz) := by
  refine Met.ofW (cc := cX8_item) (maxL := 5) (ret := (some .int)) (by decide) rfl ?_
  intro p e s m args below meth c s₁ B hml hv
  obtain ⟨rfl, hsz, hP, hK, hD0, hN⟩ := hv
  have hx := B.exec
  have hb := B.bytes
  have hr := B.returns
  have htA : ∀ w ∈ AW, w.before _ s = true := fun w h => atoms_spec (ws := Cond.code yX8_item cX8_item 5 (some .int) :: AW) B.pre w (List.mem_cons_of_mem _ h)
  have hown : s.vm.findClass RX8 = some m.cls := findClass_of_methodNamed B.named
  have hlocks := B.notSynchronized
  subst hsz
  have hD := hD0.self (sz := s.heap.size)
  generalize hAe : va_A [(q_this, .inr (8, [.ref q_now, .ref q_saved, .int f_imaged, .ref q_trial, .ref q_lowering, .ref q_counts, .ref q_expansion, .ref q_setUp, .ref q_tapes])), (q_tapes, .inr (7, [.ref q_tapes_sorts, .ref q_tapes_lengths, .ref q_tapes_items])), (q_tapes_sorts, .inl (cy 0, 6, .inl f_tapes_sorts)), (q_tapes_lengths, .inl (cy 0, 6, .inl f_tapes_lengths)), (q_tapes_items, .inl (cy 1, 360, .inr (.inl f_tapes_items)))] s.heap.size = A at hD ⊢
  have hA : ∀ q : Nat, s.heap.size ≤ q → A q := fun q h => by rw [← hAe]; exact Or.inr h
  have hS : va_S A s.heap s.heap [] := va_S.rf
  have hl := lv_entry ([.ref q_this, .int p1, .int p2, .long p3]) (n := 5) (Nat.le_of_ble_eq_true rfl)
  rw [lg_entry_eq]
  generalize (lg_sl ([.ref q_this, .int p1, .int p2, .long p3]) ++ List.replicate (5 - (lg_sl ([.ref q_this, .int p1, .int p2, .long p3])).length) Slot.unset).toArray = ls at hl ⊢
  have hl : lv_has ls 5 [(0, .ref q_this), (1, .int p1), (2, .int p2), (3, .long p3)] := hl
  have hP : va_P G vwCl [(q_this, .inr (8, [.ref q_now, .ref q_saved, .int f_imaged, .ref q_trial, .ref q_lowering, .ref q_counts, .ref q_expansion, .ref q_setUp, .ref q_tapes])), (q_tapes, .inr (7, [.ref q_tapes_sorts, .ref q_tapes_lengths, .ref q_tapes_items])), (q_tapes_sorts, .inl (cy 0, 6, .inl f_tapes_sorts)), (q_tapes_lengths, .inl (cy 0, 6, .inl f_tapes_lengths)), (q_tapes_items, .inl (cy 1, 360, .inr (.inl f_tapes_items)))] s.heap := hP
  have hf : ((fX7_isTape p1).bind fun q5 => ((if q5 = 0 then some ((-1), f_tapes_items) else (fX7_holds p1 f_tapes_sorts).bind fun q18 => ((if q18 = 0 then some ((-11), f_tapes_items) else (fX7_hasRun p1 p2 1 f_tapes_lengths).bind fun q34 => ((if q34 = 0 then some ((-13), f_tapes_items) else (fX7_setItem p1 p2 p3 f_tapes_sorts f_tapes_lengths f_tapes_items).bind fun q50 => (some (1, q50)))))))) : Option (Int32 × (Nat → Int64))) = some o := hf
  refine lv_aload_n hx hb dX8_item_0 rfl (lv_at hl 0 rfl) ?_
  refine va_get (D := G) (ci := 8) (v := .ref q_tapes) (C := RX8) (T := TX8) (N := 9) hx hb htA lyX8 hown hK hP 0 rfl rfl 8 (by decide) (htA _ a_fl_X8_65) (fun _ h9 => h9) rfl dX8_item_1 ?_
  refine lv_iload_n hx hb dX8_item_4 rfl (lv_at hl 1 rfl) ?_
  obtain ⟨q5, h5_29, hf⟩ := bd_s hf
  refine u_calliR (va_runV (As := [.int p1]) (rest := []) ⟨hx, hb, hml, hown, htA⟩ (kX7_isTape l G cy q_tapes q_tapes_sorts q_tapes_lengths q_tapes_items s.heap.size p1 h5_29) (u_cwV htA a_ml_X8_259 pk_X7_isTape ⟨Nat.le_of_ble_eq_true rfl, Nat.le_of_ble_eq_true rfl⟩) (u_preV hK hN hP hD [1] rfl (by decide) 1 rfl rfl) rfl rfl hl.1 rfl (lv_room (Nat.le_of_ble_eq_true rfl)) dX8_item_5 ⟨Nat.zero_le _, Nat.zero_le _⟩) hP hD hS hA [1] rfl (fun H locs hP hS => ?_)
  refine lv_if_ne (tgt := 13) hx hb dX8_item_8 (by decide) (fun c_30 => ?_) (fun c_30 => ?_)
  · have hf := ite_f c_30 hf
    refine lv_aload_n hx hb dX8_item_13 rfl (lv_at hl 0 rfl) ?_
    refine va_get (D := G) (ci := 8) (v := .ref q_tapes) (C := RX8) (T := TX8) (N := 9) hx hb htA lyX8 hown hK hP 0 rfl rfl 8 (by decide) (htA _ a_fl_X8_65) (fun _ h9 => h9) rfl dX8_item_14 ?_
    refine lv_iload_n hx hb dX8_item_17 rfl (lv_at hl 1 rfl) ?_
    obtain ⟨q18, h18_31, hf⟩ := bd_s hf
    refine u_calliR (va_runV (As := [.int p1]) (rest := []) ⟨hx, hb, hml, hown, htA⟩ (kX7_holds l G cy q_tapes q_tapes_sorts q_tapes_lengths q_tapes_items H.size f_tapes_sorts p1 h18_31) (u_cwV htA a_ml_X8_262 pk_X7_holds ⟨Nat.le_of_ble_eq_true rfl, Nat.le_of_ble_eq_true rfl⟩) (u_preV hK hN hP hD [1, 2] rfl (by decide) 1 rfl rfl) rfl rfl hl.1 rfl (lv_room (Nat.le_of_ble_eq_true rfl)) dX8_item_18 ⟨Nat.zero_le _, Nat.zero_le _⟩) hP hD hS hA [1, 2] rfl (fun H locs hP hS => ?_)
    refine lv_if_ne (tgt := 27) hx hb dX8_item_21 (by decide) (fun c_32 => ?_) (fun c_32 => ?_)
    · have hf := ite_f c_32 hf
      refine lv_aload_n hx hb dX8_item_27 rfl (lv_at hl 0 rfl) ?_
      refine va_get (D := G) (ci := 8) (v := .ref q_tapes) (C := RX8) (T := TX8) (N := 9) hx hb htA lyX8 hown hK hP 0 rfl rfl 8 (by decide) (htA _ a_fl_X8_65) (fun _ h9 => h9) rfl dX8_item_28 ?_
      refine lv_iload_n hx hb dX8_item_31 rfl (lv_at hl 1 rfl) ?_
      refine lv_iload_n hx hb dX8_item_32 rfl (lv_at hl 2 rfl) ?_
      refine lv_iconst (v := 1) hx hb dX8_item_33 (by decide) ?_
      obtain ⟨q34, h34_33, hf⟩ := bd_s hf
      refine u_calliR (va_runV (As := [.int p1, .int p2, .int 1]) (rest := []) ⟨hx, hb, hml, hown, htA⟩ (kX7_hasRun l G cy q_tapes q_tapes_sorts q_tapes_lengths q_tapes_items H.size f_tapes_lengths p1 p2 1 h34_33) (u_cwV htA a_ml_X8_268 pk_X7_hasRun ⟨Nat.le_of_ble_eq_true rfl, Nat.le_of_ble_eq_true rfl⟩) (u_preV hK hN hP hD [1, 3] rfl (by decide) 1 rfl rfl) rfl rfl hl.1 rfl (lv_room (Nat.le_of_ble_eq_true rfl)) dX8_item_34 ⟨Nat.zero_le _, Nat.zero_le _⟩) hP hD hS hA [1, 3] rfl (fun H locs hP hS => ?_)
      refine lv_if_ne (tgt := 43) hx hb dX8_item_37 (by decide) (fun c_34 => ?_) (fun c_34 => ?_)
      · have hf := ite_f c_34 hf
        refine lv_aload_n hx hb dX8_item_43 rfl (lv_at hl 0 rfl) ?_
        refine va_get (D := G) (ci := 8) (v := .ref q_tapes) (C := RX8) (T := TX8) (N := 9) hx hb htA lyX8 hown hK hP 0 rfl rfl 8 (by decide) (htA _ a_fl_X8_65) (fun _ h9 => h9) rfl dX8_item_44 ?_
        refine lv_iload_n hx hb dX8_item_47 rfl (lv_at hl 1 rfl) ?_
        refine lv_iload_n hx hb dX8_item_48 rfl (lv_at hl 2 rfl) ?_
        refine lv_lload_n hx hb dX8_item_49 rfl (lv_at hl 3 rfl) ?_
        obtain ⟨q50, h50_35, hf⟩ := bd_s hf
        refine u_callv [(q_this, .inr (8, [.ref q_now, .ref q_saved, .int f_imaged, .ref q_trial, .ref q_lowering, .ref q_counts, .ref q_expansion, .ref q_setUp, .ref q_tapes])), (q_tapes, .inr (7, [.ref q_tapes_sorts, .ref q_tapes_lengths, .ref q_tapes_items])), (q_tapes_sorts, .inl (cy 0, 6, .inl f_tapes_sorts)), (q_tapes_lengths, .inl (cy 0, 6, .inl f_tapes_lengths)), (q_tapes_items, .inl (cy 1, 360, .inr (.inl q50)))] (va_runV (As := [.int p1, .int p2, .long p3]) (rest := []) ⟨hx, hb, hml, hown, htA⟩ (kX7_setItem l G cy q_tapes q_tapes_sorts q_tapes_lengths q_tapes_items H.size f_tapes_sorts f_tapes_lengths f_tapes_items p1 p2 p3 h50_35) (u_cwV htA a_ml_X8_288 pk_X7_setItem ⟨Nat.le_of_ble_eq_true rfl, Nat.le_of_ble_eq_true rfl⟩) (u_preV hK hN hP hD [1, 2, 3, 4] rfl (by decide) 1 rfl rfl) rfl rfl hl.1 rfl (lv_room (Nat.le_of_ble_eq_true rfl)) dX8_item_50 ⟨Nat.zero_le _, Nat.zero_le _⟩) hP hD hS hA [1, 2, 3, 4] rfl [0] 5 rfl rfl rfl (by decide) rfl (fun H locs hP hD hS => ?_)
        refine lv_iconst (v := 1) hx hb dX8_item_53 (by decide) ?_
        have ho := Option.some.inj hf
        subst ho
        exact W.iret (v := 1) hx hb hr (fun t ht hW => ⟨⟨_, (), rfl, rfl, by rw [ht]; exact hP, va_K.moved hW.alike hK, hD⟩, hS.F ht⟩) hS.2.2 dX8_item_54
      · have hf := ite_t c_34 hf
        refine lv_bipush (v := (-13)) hx hb dX8_item_40 (by decide) ?_
        have ho := Option.some.inj hf
        subst ho
        exact W.iret (v := (-13)) hx hb hr (fun t ht hW => ⟨⟨_, (), rfl, rfl, by rw [ht]; exact hP, va_K.moved hW.alike hK, hD⟩, hS.F ht⟩) hS.2.2 dX8_item_42
    · have hf := ite_t c_32 hf
      refine lv_bipush (v := (-11)) hx hb dX8_item_24 (by decide) ?_
      have ho := Option.some.inj hf
      subst ho
      exact W.iret (v := (-11)) hx hb hr (fun t ht hW => ⟨⟨_, (), rfl, rfl, by rw [ht]; exact hP, va_K.moved hW.alike hK, hD⟩, hS.F ht⟩) hS.2.2 dX8_item_26
  · have hf := ite_t c_30 hf
    refine lv_iconst (v := (-1)) hx hb dX8_item_11 (by decide) ?_
    have ho := Option.some.inj hf
    subst ho
    exact W.iret (v := (-1)) hx hb hr (fun t ht hW => ⟨⟨_, (), rfl, rfl, by rw [ht]; exact hP, va_K.moved hW.alike hK, hD⟩, hS.F ht⟩) hS.2.2 dX8_item_12
set_option maxRecDepth 100000 in
set_option maxHeartbeats 4000000 in
theorem kX8_peek (l : Launch) (G : va_G) (cy : Nat → ClassId) (q_this : Nat) (q_now : Nat) (q_saved : Nat) (q_trial : Nat) (q_lowering : Nat) (q_counts : Nat) (q_expansion : Nat) (q_setUp : Nat) (q_tapes : Nat) (q_tapes_sorts : Nat) (q_tapes_lengths : Nat) (q_tapes_items : Nat) (sz : Nat) (f_imaged : Int32) (f_tapes_lengths : Nat → Int32) (f_tapes_items : Nat → Int64) (p1 : Int32) (p2 : Int32) {o : Int64} (hf : fX8_peek p1 p2 f_tapes_lengths f_tapes_items = some o) : Met l yX8_peek (Cond.code yX8_peek cX8_peek 3 (some .long) :: AW) ({ frames := 4, cells := 0, slots := 0, locals := 88 } : Room) (va_Pc [.ref q_this, .int p1, .int p2] (Wp G cy [(q_this, .inr (8, [.ref q_now, .ref q_saved, .int f_imaged, .ref q_trial, .ref q_lowering, .ref q_counts, .ref q_expansion, .ref q_setUp, .ref q_tapes])), (q_tapes, .inr (7, [.ref q_tapes_sorts, .ref q_tapes_lengths, .ref q_tapes_items])), (q_tapes_lengths, .inl (cy 0, 6, .inl f_tapes_lengths)), (q_tapes_items, .inl (cy 1, 360, .inr (.inl f_tapes_items)))] sz)) (va_Ql (fun r (_ : Unit) => r = o) (fun _ => Wq G cy (va_A [(q_this, .inr (8, [.ref q_now, .ref q_saved, .int f_imaged, .ref q_trial, .ref q_lowering, .ref q_counts, .ref q_expansion, .ref q_setUp, .ref q_tapes])), (q_tapes, .inr (7, [.ref q_tapes_sorts, .ref q_tapes_lengths, .ref q_tapes_items])), (q_tapes_lengths, .inl (cy 0, 6, .inl f_tapes_lengths)), (q_tapes_items, .inl (cy 1, 360, .inr (.inl f_tapes_items)))] sz) [(q_this, .inr (8, [.ref q_now, .ref q_saved, .int f_imaged, .ref q_trial, .ref q_lowering, .ref q_counts, .ref q_expansion, .ref q_setUp, .ref q_tapes])), (q_tapes, .inr (7, [.ref q_tapes_sorts, .ref q_tapes_lengths, .ref q_tapes_items])), (q_tapes_lengths, .inl (cy 0, 6, .inl f_tapes_lengths)), (q_tapes_items, .inl (cy 1, 360, .inr (.inl f_tapes_items)))]) (va_A [(q_this, .inr (8, [.ref q_now, .ref q_saved, .int f_imaged, .ref q_trial, .ref q_lowering, .ref q_counts, .ref q_expansion, .ref q_setUp, .ref q_tapes])), (q_tapes, .inr (7, [.ref q_tapes_sorts, .ref q_tapes_lengths, .ref q_tapes_items])), (q_tapes_lengths, .inl (cy 0, 6, .inl f_tapes_lengths)), (q_tapes_items, .inl (cy 1, 360, .inr (.inl f_tapes_items)))] sz)) 0 0 (va_A [(q_this, .inr (8, [.ref q_now, .ref q_saved, .int f_imaged, .ref q_trial, .ref q_lowering, .ref q_counts, .ref q_expansion, .ref q_setUp, .ref q_tapes])), (q_tapes, .inr (7, [.ref q_tapes_sorts, .ref q_tapes_lengths, .ref q_tapes_items])), (q_tapes_lengths, .inl (cy 0, 6, .inl f_tapes_lengths)), (q_tapes_items, .inl (cy 1, 360, .inr (.inl f_tapes_items)))] sz) := by
  refine Met.ofW (cc := cX8_peek) (maxL := 3) (ret := (some .long)) (by decide) rfl ?_
  intro p e s m args below meth c s₁ B hml hv
  obtain ⟨rfl, hsz, hP, hK, hD0, hN⟩ := hv
  have hx := B.exec
  have hb := B.bytes
  have hr := B.returns
  have htA : ∀ w ∈ AW, w.before _ s = true := fun w h => atoms_spec (ws := Cond.code yX8_peek cX8_peek 3 (some .long) :: AW) B.pre w (List.mem_cons_of_mem _ h)
  have hown : s.vm.findClass RX8 = some m.cls := findClass_of_methodNamed B.named
  have hlocks := B.notSynchronized
  subst hsz
  have hD := hD0.self (sz := s.heap.size)
  generalize hAe : va_A [(q_this, .inr (8, [.ref q_now, .ref q_saved, .int f_imaged, .ref q_trial, .ref q_lowering, .ref q_counts, .ref q_expansion, .ref q_setUp, .ref q_tapes])), (q_tapes, .inr (7, [.ref q_tapes_sorts, .ref q_tapes_lengths, .ref q_tapes_items])), (q_tapes_lengths, .inl (cy 0, 6, .inl f_tapes_lengths)), (q_tapes_items, .inl (cy 1, 360, .inr (.inl f_tapes_items)))] s.heap.size = A at hD ⊢
  have hA : ∀ q : Nat, s.heap.size ≤ q → A q := fun q h => by rw [← hAe]; exact Or.inr h
  have hS : va_S A s.heap s.heap [] := va_S.rf
  have hl := lv_entry ([.ref q_this, .int p1, .int p2]) (n := 3) (Nat.le_of_ble_eq_true rfl)
  rw [lg_entry_eq]
  generalize (lg_sl ([.ref q_this, .int p1, .int p2]) ++ List.replicate (3 - (lg_sl ([.ref q_this, .int p1, .int p2])).length) Slot.unset).toArray = ls at hl ⊢
  have hl : lv_has ls 3 [(0, .ref q_this), (1, .int p1), (2, .int p2)] := hl
  have hP : va_P G vwCl [(q_this, .inr (8, [.ref q_now, .ref q_saved, .int f_imaged, .ref q_trial, .ref q_lowering, .ref q_counts, .ref q_expansion, .ref q_setUp, .ref q_tapes])), (q_tapes, .inr (7, [.ref q_tapes_sorts, .ref q_tapes_lengths, .ref q_tapes_items])), (q_tapes_lengths, .inl (cy 0, 6, .inl f_tapes_lengths)), (q_tapes_items, .inl (cy 1, 360, .inr (.inl f_tapes_items)))] s.heap := hP
  have hf : ((fX7_isTape p1).bind fun q5 => ((if q5 = 0 then some ((-9223372036854775808)) else (fX7_hasRun p1 p2 1 f_tapes_lengths).bind fun q18 => ((if q18 = 0 then some ((-9223372036854775808)) else (fX7_itemAt p1 p2 f_tapes_lengths f_tapes_items).bind fun q34 => (some (q34)))))) : Option (Int64)) = some o := hf
  refine lv_aload_n hx hb dX8_peek_0 rfl (lv_at hl 0 rfl) ?_
  refine va_get (D := G) (ci := 8) (v := .ref q_tapes) (C := RX8) (T := TX8) (N := 9) hx hb htA lyX8 hown hK hP 0 rfl rfl 8 (by decide) (htA _ a_fl_X8_65) (fun _ h9 => h9) rfl dX8_peek_1 ?_
  refine lv_iload_n hx hb dX8_peek_4 rfl (lv_at hl 1 rfl) ?_
  obtain ⟨q5, h5_21, hf⟩ := bd_s hf
  refine u_calliR (va_runV (As := [.int p1]) (rest := []) ⟨hx, hb, hml, hown, htA⟩ (kX7_isTape l G cy q_tapes q_tapes_sorts q_tapes_lengths q_tapes_items s.heap.size p1 h5_21) (u_cwV htA a_ml_X8_259 pk_X7_isTape ⟨Nat.le_of_ble_eq_true rfl, Nat.le_of_ble_eq_true rfl⟩) (u_preV hK hN hP hD [1] rfl (by decide) 1 rfl rfl) rfl rfl hl.1 rfl (lv_room (Nat.le_of_ble_eq_true rfl)) dX8_peek_5 ⟨Nat.zero_le _, Nat.zero_le _⟩) hP hD hS hA [1] rfl (fun H locs hP hS => ?_)
  refine lv_if_eq (tgt := 24) hx hb dX8_peek_8 (by decide) (fun c_22 => ?_) (fun c_22 => ?_)
  · have hf := ite_t c_22 hf
    refine lv_ldc2 (v := (-9223372036854775808)) hx hb hown (htA _ a_cl_X8_170) dX8_peek_24 ?_
    have ho := Option.some.inj hf
    subst ho
    exact W.lret (v := (-9223372036854775808)) hx hb hr (fun t ht hW => ⟨⟨_, (), rfl, rfl, by rw [ht]; exact hP, va_K.moved hW.alike hK, hD⟩, hS.F ht⟩) hS.2.2 dX8_peek_27
  · have hf := ite_f c_22 hf
    refine lv_aload_n hx hb dX8_peek_11 rfl (lv_at hl 0 rfl) ?_
    refine va_get (D := G) (ci := 8) (v := .ref q_tapes) (C := RX8) (T := TX8) (N := 9) hx hb htA lyX8 hown hK hP 0 rfl rfl 8 (by decide) (htA _ a_fl_X8_65) (fun _ h9 => h9) rfl dX8_peek_12 ?_
    refine lv_iload_n hx hb dX8_peek_15 rfl (lv_at hl 1 rfl) ?_
    refine lv_iload_n hx hb dX8_peek_16 rfl (lv_at hl 2 rfl) ?_
    refine lv_iconst (v := 1) hx hb dX8_peek_17 (by decide) ?_
    obtain ⟨q18, h18_23, hf⟩ := bd_s hf
    refine u_calliR (va_runV (As := [.int p1, .int p2, .int 1]) (rest := []) ⟨hx, hb, hml, hown, htA⟩ (kX7_hasRun l G cy q_tapes q_tapes_sorts q_tapes_lengths q_tapes_items H.size f_tapes_lengths p1 p2 1 h18_23) (u_cwV htA a_ml_X8_268 pk_X7_hasRun ⟨Nat.le_of_ble_eq_true rfl, Nat.le_of_ble_eq_true rfl⟩) (u_preV hK hN hP hD [1, 2] rfl (by decide) 1 rfl rfl) rfl rfl hl.1 rfl (lv_room (Nat.le_of_ble_eq_true rfl)) dX8_peek_18 ⟨Nat.zero_le _, Nat.zero_le _⟩) hP hD hS hA [1, 2] rfl (fun H locs hP hS => ?_)
    refine lv_if_ne (tgt := 28) hx hb dX8_peek_21 (by decide) (fun c_24 => ?_) (fun c_24 => ?_)
    · have hf := ite_f c_24 hf
      refine lv_aload_n hx hb dX8_peek_28 rfl (lv_at hl 0 rfl) ?_
      refine va_get (D := G) (ci := 8) (v := .ref q_tapes) (C := RX8) (T := TX8) (N := 9) hx hb htA lyX8 hown hK hP 0 rfl rfl 8 (by decide) (htA _ a_fl_X8_65) (fun _ h9 => h9) rfl dX8_peek_29 ?_
      refine lv_iload_n hx hb dX8_peek_32 rfl (lv_at hl 1 rfl) ?_
      refine lv_iload_n hx hb dX8_peek_33 rfl (lv_at hl 2 rfl) ?_
      obtain ⟨q34, h34_25, hf⟩ := bd_s hf
      refine u_calllR (va_runV (As := [.int p1, .int p2]) (rest := []) ⟨hx, hb, hml, hown, htA⟩ (kX7_itemAt l G cy q_tapes q_tapes_sorts q_tapes_lengths q_tapes_items H.size f_tapes_lengths f_tapes_items p1 p2 h34_25) (u_cwV htA a_ml_X8_271 pk_X7_itemAt ⟨Nat.le_of_ble_eq_true rfl, Nat.le_of_ble_eq_true rfl⟩) (u_preV hK hN hP hD [1, 2, 3] rfl (by decide) 1 rfl rfl) rfl rfl hl.1 rfl (lv_room (Nat.le_of_ble_eq_true rfl)) dX8_peek_34 ⟨Nat.zero_le _, Nat.zero_le _⟩) hP hD hS hA [1, 2, 3] rfl (fun H locs hP hS => ?_)
      have ho := Option.some.inj hf
      subst ho
      exact W.lret (v := q34) hx hb hr (fun t ht hW => ⟨⟨_, (), rfl, rfl, by rw [ht]; exact hP, va_K.moved hW.alike hK, hD⟩, hS.F ht⟩) hS.2.2 dX8_peek_37
    · have hf := ite_t c_24 hf
      refine lv_ldc2 (v := (-9223372036854775808)) hx hb hown (htA _ a_cl_X8_170) dX8_peek_24 ?_
      have ho := Option.some.inj hf
      subst ho
      exact W.lret (v := (-9223372036854775808)) hx hb hr (fun t ht hW => ⟨⟨_, (), rfl, rfl, by rw [ht]; exact hP, va_K.moved hW.alike hK, hD⟩, hS.F ht⟩) hS.2.2 dX8_peek_27
set_option maxRecDepth 100000 in
set_option maxHeartbeats 4000000 in
theorem kX8_shift (l : Launch) (G : va_G) (cy : Nat → ClassId) (q_this : Nat) (q_now : Nat) (q_saved : Nat) (q_trial : Nat) (q_lowering : Nat) (q_counts : Nat) (q_expansion : Nat) (q_setUp : Nat) (q_tapes : Nat) (q_tapes_sorts : Nat) (q_tapes_lengths : Nat) (q_tapes_items : Nat) (sz : Nat) (f_imaged : Int32) (f_tapes_sorts : Nat → Int32) (f_tapes_lengths : Nat → Int32) (f_tapes_items : Nat → Int64) (p1 : Int32) (p2 : Int32) (p3 : Int32) (p4 : Int32) (p5 : Int32) {o : Int32 × (Nat → Int64)} (hf : fX8_shift p1 p2 p3 p4 p5 f_tapes_sorts f_tapes_lengths f_tapes_items = some o) : Met l yX8_shift (Cond.code yX8_shift cX8_shift 6 (some .int) :: AW) ({ frames := 4, cells := 0, slots := 0, locals := 91 } : Room) (va_Pc [.ref q_this, .int p1, .int p2, .int p3, .int p4, .int p5] (Wp G cy [(q_this, .inr (8, [.ref q_now, .ref q_saved, .int f_imaged, .ref q_trial, .ref q_lowering, .ref q_counts, .ref q_expansion, .ref q_setUp, .ref q_tapes])), (q_tapes, .inr (7, [.ref q_tapes_sorts, .ref q_tapes_lengths, .ref q_tapes_items])), (q_tapes_sorts, .inl (cy 0, 6, .inl f_tapes_sorts)), (q_tapes_lengths, .inl (cy 0, 6, .inl f_tapes_lengths)), (q_tapes_items, .inl (cy 1, 360, .inr (.inl f_tapes_items)))] sz)) (va_Qi (fun r (_ : Unit) => r = o.1) (fun _ => Wq G cy (va_A [(q_this, .inr (8, [.ref q_now, .ref q_saved, .int f_imaged, .ref q_trial, .ref q_lowering, .ref q_counts, .ref q_expansion, .ref q_setUp, .ref q_tapes])), (q_tapes, .inr (7, [.ref q_tapes_sorts, .ref q_tapes_lengths, .ref q_tapes_items])), (q_tapes_sorts, .inl (cy 0, 6, .inl f_tapes_sorts)), (q_tapes_lengths, .inl (cy 0, 6, .inl f_tapes_lengths)), (q_tapes_items, .inl (cy 1, 360, .inr (.inl f_tapes_items)))] sz) [(q_this, .inr (8, [.ref q_now, .ref q_saved, .int f_imaged, .ref q_trial, .ref q_lowering, .ref q_counts, .ref q_expansion, .ref q_setUp, .ref q_tapes])), (q_tapes, .inr (7, [.ref q_tapes_sorts, .ref q_tapes_lengths, .ref q_tapes_items])), (q_tapes_sorts, .inl (cy 0, 6, .inl f_tapes_sorts)), (q_tapes_lengths, .inl (cy 0, 6, .inl f_tapes_lengths)), (q_tapes_items, .inl (cy 1, 360, .inr (.inl o.2)))]) (va_A [(q_this, .inr (8, [.ref q_now, .ref q_saved, .int f_imaged, .ref q_trial, .ref q_lowering, .ref q_counts, .ref q_expansion, .ref q_setUp, .ref q_tapes])), (q_tapes, .inr (7, [.ref q_tapes_sorts, .ref q_tapes_lengths, .ref q_tapes_items])), (q_tapes_sorts, .inl (cy 0, 6, .inl f_tapes_sorts)), (q_tapes_lengths, .inl (cy 0, 6, .inl f_tapes_lengths)), (q_tapes_items, .inl (cy 1, 360, .inr (.inl f_tapes_items)))] sz)) 0 0 (va_A [(q_this, .inr (8, [.ref q_now, .ref q_saved, .int f_imaged, .ref q_trial, .ref q_lowering, .ref q_counts, .ref q_expansion, .ref q_setUp, .ref q_tapes])), (q_tapes, .inr (7, [.ref q_tapes_sorts, .ref q_tapes_lengths, .ref q_tapes_items])), (q_tapes_sorts, .inl (cy 0, 6, .inl f_tapes_sorts)), (q_tapes_lengths, .inl (cy 0, 6, .inl f_tapes_lengths)), (q_tapes_items, .inl (cy 1, 360, .inr (.inl f_tapes_items)))] sz) := by
  refine Met.ofW (cc := cX8_shift) (maxL := 6) (ret := (some .int)) (by decide) rfl ?_
  intro p e s m args below meth c s₁ B hml hv
  obtain ⟨rfl, hsz, hP, hK, hD0, hN⟩ := hv
  have hx := B.exec
  have hb := B.bytes
  have hr := B.returns
  have htA : ∀ w ∈ AW, w.before _ s = true := fun w h => atoms_spec (ws := Cond.code yX8_shift cX8_shift 6 (some .int) :: AW) B.pre w (List.mem_cons_of_mem _ h)
  have hown : s.vm.findClass RX8 = some m.cls := findClass_of_methodNamed B.named
  have hlocks := B.notSynchronized
  subst hsz
  have hD := hD0.self (sz := s.heap.size)
  generalize hAe : va_A [(q_this, .inr (8, [.ref q_now, .ref q_saved, .int f_imaged, .ref q_trial, .ref q_lowering, .ref q_counts, .ref q_expansion, .ref q_setUp, .ref q_tapes])), (q_tapes, .inr (7, [.ref q_tapes_sorts, .ref q_tapes_lengths, .ref q_tapes_items])), (q_tapes_sorts, .inl (cy 0, 6, .inl f_tapes_sorts)), (q_tapes_lengths, .inl (cy 0, 6, .inl f_tapes_lengths)), (q_tapes_items, .inl (cy 1, 360, .inr (.inl f_tapes_items)))] s.heap.size = A at hD ⊢
  have hA : ∀ q : Nat, s.heap.size ≤ q → A q := fun q h => by rw [← hAe]; exact Or.inr h
  have hS : va_S A s.heap s.heap [] := va_S.rf
  have hl := lv_entry ([.ref q_this, .int p1, .int p2, .int p3, .int p4, .int p5]) (n := 6) (Nat.le_of_ble_eq_true rfl)
  rw [lg_entry_eq]
  generalize (lg_sl ([.ref q_this, .int p1, .int p2, .int p3, .int p4, .int p5]) ++ List.replicate (6 - (lg_sl ([.ref q_this, .int p1, .int p2, .int p3, .int p4, .int p5])).length) Slot.unset).toArray = ls at hl ⊢
  have hl : lv_has ls 6 [(0, .ref q_this), (1, .int p1), (2, .int p2), (3, .int p3), (4, .int p4), (5, .int p5)] := hl
  have hP : va_P G vwCl [(q_this, .inr (8, [.ref q_now, .ref q_saved, .int f_imaged, .ref q_trial, .ref q_lowering, .ref q_counts, .ref q_expansion, .ref q_setUp, .ref q_tapes])), (q_tapes, .inr (7, [.ref q_tapes_sorts, .ref q_tapes_lengths, .ref q_tapes_items])), (q_tapes_sorts, .inl (cy 0, 6, .inl f_tapes_sorts)), (q_tapes_lengths, .inl (cy 0, 6, .inl f_tapes_lengths)), (q_tapes_items, .inl (cy 1, 360, .inr (.inl f_tapes_items)))] s.heap := hP
  have hf : ((fX7_isTape p1).bind fun q5 => ((if q5 = 0 then some ((-1), f_tapes_items) else (fX7_isTape p3).bind fun q16 => ((if q16 = 0 then some ((-1), f_tapes_items) else (fX7_holds p1 f_tapes_sorts).bind fun q29 => ((if q29 = 0 then some ((-11), f_tapes_items) else (fX7_holds p3 f_tapes_sorts).bind fun q40 => ((if q40 = 0 then some ((-11), f_tapes_items) else (fX7_sortAt p1 f_tapes_sorts).bind fun q54 => ((fX7_sortAt p3 f_tapes_sorts).bind fun q62 => ((if q54 = q62 then (fX7_hasRun p1 p2 p5 f_tapes_lengths).bind fun q79 => ((if q79 = 0 then some ((-13), f_tapes_items) else (fX7_hasRun p3 p4 p5 f_tapes_lengths).bind fun q94 => ((if q94 = 0 then some ((-13), f_tapes_items) else (fX7_copyRun p1 p2 p3 p4 p5 f_tapes_lengths f_tapes_items).bind fun q114 => (some (p5, q114)))))) else some ((-12), f_tapes_items)))))))))))) : Option (Int32 × (Nat → Int64))) = some o := hf
  refine lv_aload_n hx hb dX8_shift_0 rfl (lv_at hl 0 rfl) ?_
  refine va_get (D := G) (ci := 8) (v := .ref q_tapes) (C := RX8) (T := TX8) (N := 9) hx hb htA lyX8 hown hK hP 0 rfl rfl 8 (by decide) (htA _ a_fl_X8_65) (fun _ h9 => h9) rfl dX8_shift_1 ?_
  refine lv_iload_n hx hb dX8_shift_4 rfl (lv_at hl 1 rfl) ?_
  obtain ⟨q5, h5_65, hf⟩ := bd_s hf
  refine u_calliR (va_runV (As := [.int p1]) (rest := []) ⟨hx, hb, hml, hown, htA⟩ (kX7_isTape l G cy q_tapes q_tapes_sorts q_tapes_lengths q_tapes_items s.heap.size p1 h5_65) (u_cwV htA a_ml_X8_259 pk_X7_isTape ⟨Nat.le_of_ble_eq_true rfl, Nat.le_of_ble_eq_true rfl⟩) (u_preV hK hN hP hD [1] rfl (by decide) 1 rfl rfl) rfl rfl hl.1 rfl (lv_room (Nat.le_of_ble_eq_true rfl)) dX8_shift_5 ⟨Nat.zero_le _, Nat.zero_le _⟩) hP hD hS hA [1] rfl (fun H locs hP hS => ?_)
  refine lv_if_eq (tgt := 22) hx hb dX8_shift_8 (by decide) (fun c_66 => ?_) (fun c_66 => ?_)
  · have hf := ite_t c_66 hf
    refine lv_iconst (v := (-1)) hx hb dX8_shift_22 (by decide) ?_
    have ho := Option.some.inj hf
    subst ho
    exact W.iret (v := (-1)) hx hb hr (fun t ht hW => ⟨⟨_, (), rfl, rfl, by rw [ht]; exact hP, va_K.moved hW.alike hK, hD⟩, hS.F ht⟩) hS.2.2 dX8_shift_23
  · have hf := ite_f c_66 hf
    refine lv_aload_n hx hb dX8_shift_11 rfl (lv_at hl 0 rfl) ?_
    refine va_get (D := G) (ci := 8) (v := .ref q_tapes) (C := RX8) (T := TX8) (N := 9) hx hb htA lyX8 hown hK hP 0 rfl rfl 8 (by decide) (htA _ a_fl_X8_65) (fun _ h9 => h9) rfl dX8_shift_12 ?_
    refine lv_iload_n hx hb dX8_shift_15 rfl (lv_at hl 3 rfl) ?_
    obtain ⟨q16, h16_67, hf⟩ := bd_s hf
    refine u_calliR (va_runV (As := [.int p3]) (rest := []) ⟨hx, hb, hml, hown, htA⟩ (kX7_isTape l G cy q_tapes q_tapes_sorts q_tapes_lengths q_tapes_items H.size p3 h16_67) (u_cwV htA a_ml_X8_259 pk_X7_isTape ⟨Nat.le_of_ble_eq_true rfl, Nat.le_of_ble_eq_true rfl⟩) (u_preV hK hN hP hD [1] rfl (by decide) 1 rfl rfl) rfl rfl hl.1 rfl (lv_room (Nat.le_of_ble_eq_true rfl)) dX8_shift_16 ⟨Nat.zero_le _, Nat.zero_le _⟩) hP hD hS hA [1] rfl (fun H locs hP hS => ?_)
    refine lv_if_ne (tgt := 24) hx hb dX8_shift_19 (by decide) (fun c_68 => ?_) (fun c_68 => ?_)
    · have hf := ite_f c_68 hf
      refine lv_aload_n hx hb dX8_shift_24 rfl (lv_at hl 0 rfl) ?_
      refine va_get (D := G) (ci := 8) (v := .ref q_tapes) (C := RX8) (T := TX8) (N := 9) hx hb htA lyX8 hown hK hP 0 rfl rfl 8 (by decide) (htA _ a_fl_X8_65) (fun _ h9 => h9) rfl dX8_shift_25 ?_
      refine lv_iload_n hx hb dX8_shift_28 rfl (lv_at hl 1 rfl) ?_
      obtain ⟨q29, h29_69, hf⟩ := bd_s hf
      refine u_calliR (va_runV (As := [.int p1]) (rest := []) ⟨hx, hb, hml, hown, htA⟩ (kX7_holds l G cy q_tapes q_tapes_sorts q_tapes_lengths q_tapes_items H.size f_tapes_sorts p1 h29_69) (u_cwV htA a_ml_X8_262 pk_X7_holds ⟨Nat.le_of_ble_eq_true rfl, Nat.le_of_ble_eq_true rfl⟩) (u_preV hK hN hP hD [1, 2] rfl (by decide) 1 rfl rfl) rfl rfl hl.1 rfl (lv_room (Nat.le_of_ble_eq_true rfl)) dX8_shift_29 ⟨Nat.zero_le _, Nat.zero_le _⟩) hP hD hS hA [1, 2] rfl (fun H locs hP hS => ?_)
      refine lv_if_eq (tgt := 46) hx hb dX8_shift_32 (by decide) (fun c_70 => ?_) (fun c_70 => ?_)
      · have hf := ite_t c_70 hf
        refine lv_bipush (v := (-11)) hx hb dX8_shift_46 (by decide) ?_
        have ho := Option.some.inj hf
        subst ho
        exact W.iret (v := (-11)) hx hb hr (fun t ht hW => ⟨⟨_, (), rfl, rfl, by rw [ht]; exact hP, va_K.moved hW.alike hK, hD⟩, hS.F ht⟩) hS.2.2 dX8_shift_48
      · have hf := ite_f c_70 hf
        refine lv_aload_n hx hb dX8_shift_35 rfl (lv_at hl 0 rfl) ?_
        refine va_get (D := G) (ci := 8) (v := .ref q_tapes) (C := RX8) (T := TX8) (N := 9) hx hb htA lyX8 hown hK hP 0 rfl rfl 8 (by decide) (htA _ a_fl_X8_65) (fun _ h9 => h9) rfl dX8_shift_36 ?_
        refine lv_iload_n hx hb dX8_shift_39 rfl (lv_at hl 3 rfl) ?_
        obtain ⟨q40, h40_71, hf⟩ := bd_s hf
        refine u_calliR (va_runV (As := [.int p3]) (rest := []) ⟨hx, hb, hml, hown, htA⟩ (kX7_holds l G cy q_tapes q_tapes_sorts q_tapes_lengths q_tapes_items H.size f_tapes_sorts p3 h40_71) (u_cwV htA a_ml_X8_262 pk_X7_holds ⟨Nat.le_of_ble_eq_true rfl, Nat.le_of_ble_eq_true rfl⟩) (u_preV hK hN hP hD [1, 2] rfl (by decide) 1 rfl rfl) rfl rfl hl.1 rfl (lv_room (Nat.le_of_ble_eq_true rfl)) dX8_shift_40 ⟨Nat.zero_le _, Nat.zero_le _⟩) hP hD hS hA [1, 2] rfl (fun H locs hP hS => ?_)
        refine lv_if_ne (tgt := 49) hx hb dX8_shift_43 (by decide) (fun c_72 => ?_) (fun c_72 => ?_)
        · have hf := ite_f c_72 hf
          refine lv_aload_n hx hb dX8_shift_49 rfl (lv_at hl 0 rfl) ?_
          refine va_get (D := G) (ci := 8) (v := .ref q_tapes) (C := RX8) (T := TX8) (N := 9) hx hb htA lyX8 hown hK hP 0 rfl rfl 8 (by decide) (htA _ a_fl_X8_65) (fun _ h9 => h9) rfl dX8_shift_50 ?_
          refine lv_iload_n hx hb dX8_shift_53 rfl (lv_at hl 1 rfl) ?_
          obtain ⟨q54, h54_73, hf⟩ := bd_s hf
          refine u_calliR (va_runV (As := [.int p1]) (rest := []) ⟨hx, hb, hml, hown, htA⟩ (kX7_sortAt l G cy q_tapes q_tapes_sorts q_tapes_lengths q_tapes_items H.size f_tapes_sorts p1 h54_73) (u_cwV htA a_ml_X8_265 pk_X7_sortAt ⟨Nat.le_of_ble_eq_true rfl, Nat.le_of_ble_eq_true rfl⟩) (u_preV hK hN hP hD [1, 2] rfl (by decide) 1 rfl rfl) rfl rfl hl.1 rfl (lv_room (Nat.le_of_ble_eq_true rfl)) dX8_shift_54 ⟨Nat.zero_le _, Nat.zero_le _⟩) hP hD hS hA [1, 2] rfl (fun H locs hP hS => ?_)
          refine lv_aload_n hx hb dX8_shift_57 rfl (lv_at hl 0 rfl) ?_
          refine va_get (D := G) (ci := 8) (v := .ref q_tapes) (C := RX8) (T := TX8) (N := 9) hx hb htA lyX8 hown hK hP 0 rfl rfl 8 (by decide) (htA _ a_fl_X8_65) (fun _ h9 => h9) rfl dX8_shift_58 ?_
          refine lv_iload_n hx hb dX8_shift_61 rfl (lv_at hl 3 rfl) ?_
          obtain ⟨q62, h62_74, hf⟩ := bd_s hf
          refine u_calliR (va_runV (As := [.int p3]) (rest := [.int q54]) ⟨hx, hb, hml, hown, htA⟩ (kX7_sortAt l G cy q_tapes q_tapes_sorts q_tapes_lengths q_tapes_items H.size f_tapes_sorts p3 h62_74) (u_cwV htA a_ml_X8_265 pk_X7_sortAt ⟨Nat.le_of_ble_eq_true rfl, Nat.le_of_ble_eq_true rfl⟩) (u_preV hK hN hP hD [1, 2] rfl (by decide) 1 rfl rfl) rfl rfl hl.1 rfl (lv_room (Nat.le_of_ble_eq_true rfl)) dX8_shift_62 ⟨Nat.zero_le _, Nat.zero_le _⟩) hP hD hS hA [1, 2] rfl (fun H locs hP hS => ?_)
          refine lv_icmp_eq (tgt := 71) hx hb dX8_shift_65 (by decide) (fun c_75 => ?_) (fun c_75 => ?_)
          · have hf := ite_t c_75 hf
            refine lv_aload_n hx hb dX8_shift_71 rfl (lv_at hl 0 rfl) ?_
            refine va_get (D := G) (ci := 8) (v := .ref q_tapes) (C := RX8) (T := TX8) (N := 9) hx hb htA lyX8 hown hK hP 0 rfl rfl 8 (by decide) (htA _ a_fl_X8_65) (fun _ h9 => h9) rfl dX8_shift_72 ?_
            refine lv_iload_n hx hb dX8_shift_75 rfl (lv_at hl 1 rfl) ?_
            refine lv_iload_n hx hb dX8_shift_76 rfl (lv_at hl 2 rfl) ?_
            refine lv_iload hx hb dX8_shift_77 (lv_at hl 5 rfl) ?_
            obtain ⟨q79, h79_76, hf⟩ := bd_s hf
            refine u_calliR (va_runV (As := [.int p1, .int p2, .int p5]) (rest := []) ⟨hx, hb, hml, hown, htA⟩ (kX7_hasRun l G cy q_tapes q_tapes_sorts q_tapes_lengths q_tapes_items H.size f_tapes_lengths p1 p2 p5 h79_76) (u_cwV htA a_ml_X8_268 pk_X7_hasRun ⟨Nat.le_of_ble_eq_true rfl, Nat.le_of_ble_eq_true rfl⟩) (u_preV hK hN hP hD [1, 3] rfl (by decide) 1 rfl rfl) rfl rfl hl.1 rfl (lv_room (Nat.le_of_ble_eq_true rfl)) dX8_shift_79 ⟨Nat.zero_le _, Nat.zero_le _⟩) hP hD hS hA [1, 3] rfl (fun H locs hP hS => ?_)
            refine lv_if_eq (tgt := 100) hx hb dX8_shift_82 (by decide) (fun c_77 => ?_) (fun c_77 => ?_)
            · have hf := ite_t c_77 hf
              refine lv_bipush (v := (-13)) hx hb dX8_shift_100 (by decide) ?_
              have ho := Option.some.inj hf
              subst ho
              exact W.iret (v := (-13)) hx hb hr (fun t ht hW => ⟨⟨_, (), rfl, rfl, by rw [ht]; exact hP, va_K.moved hW.alike hK, hD⟩, hS.F ht⟩) hS.2.2 dX8_shift_102
            · have hf := ite_f c_77 hf
              refine lv_aload_n hx hb dX8_shift_85 rfl (lv_at hl 0 rfl) ?_
              refine va_get (D := G) (ci := 8) (v := .ref q_tapes) (C := RX8) (T := TX8) (N := 9) hx hb htA lyX8 hown hK hP 0 rfl rfl 8 (by decide) (htA _ a_fl_X8_65) (fun _ h9 => h9) rfl dX8_shift_86 ?_
              refine lv_iload_n hx hb dX8_shift_89 rfl (lv_at hl 3 rfl) ?_
              refine lv_iload hx hb dX8_shift_90 (lv_at hl 4 rfl) ?_
              refine lv_iload hx hb dX8_shift_92 (lv_at hl 5 rfl) ?_
              obtain ⟨q94, h94_78, hf⟩ := bd_s hf
              refine u_calliR (va_runV (As := [.int p3, .int p4, .int p5]) (rest := []) ⟨hx, hb, hml, hown, htA⟩ (kX7_hasRun l G cy q_tapes q_tapes_sorts q_tapes_lengths q_tapes_items H.size f_tapes_lengths p3 p4 p5 h94_78) (u_cwV htA a_ml_X8_268 pk_X7_hasRun ⟨Nat.le_of_ble_eq_true rfl, Nat.le_of_ble_eq_true rfl⟩) (u_preV hK hN hP hD [1, 3] rfl (by decide) 1 rfl rfl) rfl rfl hl.1 rfl (lv_room (Nat.le_of_ble_eq_true rfl)) dX8_shift_94 ⟨Nat.zero_le _, Nat.zero_le _⟩) hP hD hS hA [1, 3] rfl (fun H locs hP hS => ?_)
              refine lv_if_ne (tgt := 103) hx hb dX8_shift_97 (by decide) (fun c_79 => ?_) (fun c_79 => ?_)
              · have hf := ite_f c_79 hf
                refine lv_aload_n hx hb dX8_shift_103 rfl (lv_at hl 0 rfl) ?_
                refine va_get (D := G) (ci := 8) (v := .ref q_tapes) (C := RX8) (T := TX8) (N := 9) hx hb htA lyX8 hown hK hP 0 rfl rfl 8 (by decide) (htA _ a_fl_X8_65) (fun _ h9 => h9) rfl dX8_shift_104 ?_
                refine lv_iload_n hx hb dX8_shift_107 rfl (lv_at hl 1 rfl) ?_
                refine lv_iload_n hx hb dX8_shift_108 rfl (lv_at hl 2 rfl) ?_
                refine lv_iload_n hx hb dX8_shift_109 rfl (lv_at hl 3 rfl) ?_
                refine lv_iload hx hb dX8_shift_110 (lv_at hl 4 rfl) ?_
                refine lv_iload hx hb dX8_shift_112 (lv_at hl 5 rfl) ?_
                obtain ⟨q114, h114_80, hf⟩ := bd_s hf
                refine u_callv [(q_this, .inr (8, [.ref q_now, .ref q_saved, .int f_imaged, .ref q_trial, .ref q_lowering, .ref q_counts, .ref q_expansion, .ref q_setUp, .ref q_tapes])), (q_tapes, .inr (7, [.ref q_tapes_sorts, .ref q_tapes_lengths, .ref q_tapes_items])), (q_tapes_sorts, .inl (cy 0, 6, .inl f_tapes_sorts)), (q_tapes_lengths, .inl (cy 0, 6, .inl f_tapes_lengths)), (q_tapes_items, .inl (cy 1, 360, .inr (.inl q114)))] (va_runV (As := [.int p1, .int p2, .int p3, .int p4, .int p5]) (rest := []) ⟨hx, hb, hml, hown, htA⟩ (kX7_copyRun l G cy q_tapes q_tapes_sorts q_tapes_lengths q_tapes_items H.size f_tapes_lengths f_tapes_items p1 p2 p3 p4 p5 h114_80) (u_cwV htA a_ml_X8_292 pk_X7_copyRun ⟨Nat.le_of_ble_eq_true rfl, Nat.le_of_ble_eq_true rfl⟩) (u_preV hK hN hP hD [1, 3, 4] rfl (by decide) 1 rfl rfl) rfl rfl hl.1 rfl (lv_room (Nat.le_of_ble_eq_true rfl)) dX8_shift_114 ⟨Nat.zero_le _, Nat.zero_le _⟩) hP hD hS hA [1, 3, 4] rfl [0, 2] 5 rfl rfl rfl (by decide) rfl (fun H locs hP hD hS => ?_)
                refine lv_iload hx hb dX8_shift_117 (lv_at hl 5 rfl) ?_
                have ho := Option.some.inj hf
                subst ho
                exact W.iret (v := p5) hx hb hr (fun t ht hW => ⟨⟨_, (), rfl, rfl, by rw [ht]; exact hP, va_K.moved hW.alike hK, hD⟩, hS.F ht⟩) hS.2.2 dX8_shift_119
              · have hf := ite_t c_79 hf
                refine lv_bipush (v := (-13)) hx hb dX8_shift_100 (by decide) ?_
                have ho := Option.some.inj hf
                subst ho
                exact W.iret (v := (-13)) hx hb hr (fun t ht hW => ⟨⟨_, (), rfl, rfl, by rw [ht]; exact hP, va_K.moved hW.alike hK, hD⟩, hS.F ht⟩) hS.2.2 dX8_shift_102
          · have hf := ite_f c_75 hf
            refine lv_bipush (v := (-12)) hx hb dX8_shift_68 (by decide) ?_
            have ho := Option.some.inj hf
            subst ho
            exact W.iret (v := (-12)) hx hb hr (fun t ht hW => ⟨⟨_, (), rfl, rfl, by rw [ht]; exact hP, va_K.moved hW.alike hK, hD⟩, hS.F ht⟩) hS.2.2 dX8_shift_70
        · have hf := ite_t c_72 hf
          refine lv_bipush (v := (-11)) hx hb dX8_shift_46 (by decide) ?_
          have ho := Option.some.inj hf
          subst ho
          exact W.iret (v := (-11)) hx hb hr (fun t ht hW => ⟨⟨_, (), rfl, rfl, by rw [ht]; exact hP, va_K.moved hW.alike hK, hD⟩, hS.F ht⟩) hS.2.2 dX8_shift_48
    · have hf := ite_t c_68 hf
      refine lv_iconst (v := (-1)) hx hb dX8_shift_22 (by decide) ?_
      have ho := Option.some.inj hf
      subst ho
      exact W.iret (v := (-1)) hx hb hr (fun t ht hW => ⟨⟨_, (), rfl, rfl, by rw [ht]; exact hP, va_K.moved hW.alike hK, hD⟩, hS.F ht⟩) hS.2.2 dX8_shift_23
