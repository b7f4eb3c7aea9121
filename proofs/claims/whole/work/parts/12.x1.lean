set_option maxRecDepth 100000 in
set_option maxHeartbeats 4000000 in
theorem kX5_size (l : Launch) (G : va_G) (cy : Nat → ClassId) (q_this : Nat) (q_text : Nat) (q_kinds : Nat) (q_firsts : Nat) (q_seconds : Nat) (sz : Nat) (f_length : Int32) (f_clauses : Int32) (f_spot : Int32) (f_value : Int32) {o : Int32} (hf : fX5_size f_clauses = some o) : Met l yX5_size (Cond.code yX5_size cX5_size 1 (some .int) :: AW) ({ frames := 0, cells := 0, slots := 0, locals := 0 } : Room) (va_Pc [.ref q_this] (Wp G cy [(q_this, .inr (5, [.ref q_text, .int f_length, .ref q_kinds, .ref q_firsts, .ref q_seconds, .int f_clauses, .int f_spot, .int f_value]))] sz)) (va_Qi (fun r (_ : Unit) => r = o) (fun _ => Wq G cy (va_A [(q_this, .inr (5, [.ref q_text, .int f_length, .ref q_kinds, .ref q_firsts, .ref q_seconds, .int f_clauses, .int f_spot, .int f_value]))] sz) [(q_this, .inr (5, [.ref q_text, .int f_length, .ref q_kinds, .ref q_firsts, .ref q_seconds, .int f_clauses, .int f_spot, .int f_value]))]) (va_A [(q_this, .inr (5, [.ref q_text, .int f_length, .ref q_kinds, .ref q_firsts, .ref q_seconds, .int f_clauses, .int f_spot, .int f_value]))] sz)) 0 0 (va_A [(q_this, .inr (5, [.ref q_text, .int f_length, .ref q_kinds, .ref q_firsts, .ref q_seconds, .int f_clauses, .int f_spot, .int f_value]))] sz) := by
  refine Met.ofW (cc := cX5_size) (maxL := 1) (ret := (some .int)) (by decide) rfl ?_
  intro p e s m args below meth c s₁ B hml hv
  obtain ⟨rfl, hsz, hP, hK, hD0, hN⟩ := hv
  have hx := B.exec
  have hb := B.bytes
  have hr := B.returns
  have htA : ∀ w ∈ AW, w.before _ s = true := fun w h => atoms_spec (ws := Cond.code yX5_size cX5_size 1 (some .int) :: AW) B.pre w (List.mem_cons_of_mem _ h)
  have hown : s.vm.findClass RX5 = some m.cls := findClass_of_methodNamed B.named
  have hlocks := B.notSynchronized
  subst hsz
  have hD := hD0.self (sz := s.heap.size)
  generalize hAe : va_A [(q_this, .inr (5, [.ref q_text, .int f_length, .ref q_kinds, .ref q_firsts, .ref q_seconds, .int f_clauses, .int f_spot, .int f_value]))] s.heap.size = A at hD ⊢
  have hA : ∀ q : Nat, s.heap.size ≤ q → A q := fun q h => by rw [← hAe]; exact Or.inr h
  have hS : va_S A s.heap s.heap [] := va_S.rf
  have hl := lv_entry ([.ref q_this]) (n := 1) (Nat.le_of_ble_eq_true rfl)
  rw [lg_entry_eq]
  generalize (lg_sl ([.ref q_this]) ++ List.replicate (1 - (lg_sl ([.ref q_this])).length) Slot.unset).toArray = ls at hl ⊢
  have hl : lv_has ls 1 [(0, .ref q_this)] := hl
  have hP : va_P G vwCl [(q_this, .inr (5, [.ref q_text, .int f_length, .ref q_kinds, .ref q_firsts, .ref q_seconds, .int f_clauses, .int f_spot, .int f_value]))] s.heap := hP
  have hf : (some (f_clauses) : Option (Int32)) = some o := hf
  refine lv_aload_n hx hb dX5_size_0 rfl (lv_at hl 0 rfl) ?_
  refine va_get (D := G) (ci := 5) (v := .int f_clauses) (C := RX5) (T := TX5) (N := 8) hx hb htA lyX5 hown hK hP 0 rfl rfl 5 (by decide) (htA _ a_fl_X5_28) (fun _ h9 => h9) rfl dX5_size_1 ?_
  have ho := Option.some.inj hf
  subst ho
  exact W.iret (v := f_clauses) hx hb hr (fun t ht hW => ⟨⟨_, (), rfl, rfl, by rw [ht]; exact hP, va_K.moved hW.alike hK, hD⟩, hS.F ht⟩) hS.2.2 dX5_size_4
set_option maxRecDepth 100000 in
set_option maxHeartbeats 4000000 in
theorem kX5_kind (l : Launch) (G : va_G) (cy : Nat → ClassId) (q_this : Nat) (q_text : Nat) (q_kinds : Nat) (q_firsts : Nat) (q_seconds : Nat) (sz : Nat) (f_length : Int32) (f_clauses : Int32) (f_spot : Int32) (f_value : Int32) (f_kinds : Nat → Int32) (p1 : Int32) {o : Int32} (hf : fX5_kind p1 f_clauses f_kinds = some o) : Met l yX5_kind (Cond.code yX5_kind cX5_kind 2 (some .int) :: AW) ({ frames := 1, cells := 0, slots := 0, locals := 22 } : Room) (va_Pc [.ref q_this, .int p1] (Wp G cy [(q_this, .inr (5, [.ref q_text, .int f_length, .ref q_kinds, .ref q_firsts, .ref q_seconds, .int f_clauses, .int f_spot, .int f_value])), (q_kinds, .inl (cy 0, 12, .inl f_kinds))] sz)) (va_Qi (fun r (_ : Unit) => r = o) (fun _ => Wq G cy (va_A [(q_this, .inr (5, [.ref q_text, .int f_length, .ref q_kinds, .ref q_firsts, .ref q_seconds, .int f_clauses, .int f_spot, .int f_value])), (q_kinds, .inl (cy 0, 12, .inl f_kinds))] sz) [(q_this, .inr (5, [.ref q_text, .int f_length, .ref q_kinds, .ref q_firsts, .ref q_seconds, .int f_clauses, .int f_spot, .int f_value])), (q_kinds, .inl (cy 0, 12, .inl f_kinds))]) (va_A [(q_this, .inr (5, [.ref q_text, .int f_length, .ref q_kinds, .ref q_firsts, .ref q_seconds, .int f_clauses, .int f_spot, .int f_value])), (q_kinds, .inl (cy 0, 12, .inl f_kinds))] sz)) 0 0 (va_A [(q_this, .inr (5, [.ref q_text, .int f_length, .ref q_kinds, .ref q_firsts, .ref q_seconds, .int f_clauses, .int f_spot, .int f_value])), (q_kinds, .inl (cy 0, 12, .inl f_kinds))] sz) := by
  refine Met.ofW (cc := cX5_kind) (maxL := 2) (ret := (some .int)) (by decide) rfl ?_
  intro p e s m args below meth c s₁ B hml hv
  obtain ⟨rfl, hsz, hP, hK, hD0, hN⟩ := hv
  have hx := B.exec
  have hb := B.bytes
  have hr := B.returns
  have htA : ∀ w ∈ AW, w.before _ s = true := fun w h => atoms_spec (ws := Cond.code yX5_kind cX5_kind 2 (some .int) :: AW) B.pre w (List.mem_cons_of_mem _ h)
  have hown : s.vm.findClass RX5 = some m.cls := findClass_of_methodNamed B.named
  have hlocks := B.notSynchronized
  subst hsz
  have hD := hD0.self (sz := s.heap.size)
  generalize hAe : va_A [(q_this, .inr (5, [.ref q_text, .int f_length, .ref q_kinds, .ref q_firsts, .ref q_seconds, .int f_clauses, .int f_spot, .int f_value])), (q_kinds, .inl (cy 0, 12, .inl f_kinds))] s.heap.size = A at hD ⊢
  have hA : ∀ q : Nat, s.heap.size ≤ q → A q := fun q h => by rw [← hAe]; exact Or.inr h
  have hS : va_S A s.heap s.heap [] := va_S.rf
  have hl := lv_entry ([.ref q_this, .int p1]) (n := 2) (Nat.le_of_ble_eq_true rfl)
  rw [lg_entry_eq]
  generalize (lg_sl ([.ref q_this, .int p1]) ++ List.replicate (2 - (lg_sl ([.ref q_this, .int p1])).length) Slot.unset).toArray = ls at hl ⊢
  have hl : lv_has ls 2 [(0, .ref q_this), (1, .int p1)] := hl
  have hP : va_P G vwCl [(q_this, .inr (5, [.ref q_text, .int f_length, .ref q_kinds, .ref q_firsts, .ref q_seconds, .int f_clauses, .int f_spot, .int f_value])), (q_kinds, .inl (cy 0, 12, .inl f_kinds))] s.heap := hP
  have hf : ((fX8_isIn p1 0 (f_clauses - 1)).bind fun q8 => ((if q8 = 0 then some (5) else ck p1 12 (some ((f_kinds (Int32.toNatClampNeg p1)))))) : Option (Int32)) = some o := hf
  refine lv_iload_n hx hb dX5_kind_0 rfl (lv_at hl 1 rfl) ?_
  refine lv_iconst (v := 0) hx hb dX5_kind_1 (by decide) ?_
  refine lv_aload_n hx hb dX5_kind_2 rfl (lv_at hl 0 rfl) ?_
  refine va_get (D := G) (ci := 5) (v := .int f_clauses) (C := RX5) (T := TX5) (N := 8) hx hb htA lyX5 hown hK hP 0 rfl rfl 5 (by decide) (htA _ a_fl_X5_28) (fun _ h9 => h9) rfl dX5_kind_3 ?_
  refine lv_iconst (v := 1) hx hb dX5_kind_6 (by decide) ?_
  refine lv_isub hx hb dX5_kind_7 ?_
  obtain ⟨q8, h8_13, hf⟩ := bd_s hf
  refine u_calliR (va_runSN (As := [.int p1, .int 0, .int (f_clauses - 1)]) (rest := []) ⟨hx, hb, hml, hown, htA⟩ (kX8_isIn l G cy s.heap.size p1 0 (f_clauses - 1) h8_13) (u_cnS htA hN (List.mem_of_getElem? (i := 24) rfl) pk_X8_isIn ⟨Nat.le_of_ble_eq_true rfl, Nat.le_of_ble_eq_true rfl⟩) (u_preS hK hN hP hD [] rfl (by decide)) rfl rfl hl.1 rfl (lv_room (Nat.le_of_ble_eq_true rfl)) dX5_kind_8 ⟨Nat.zero_le _, Nat.zero_le _⟩) hP hD hS hA [] rfl (fun H locs hP hS => ?_)
  refine lv_if_eq (tgt := 23) hx hb dX5_kind_11 (by decide) (fun c_14 => ?_) (fun c_14 => ?_)
  · have hf := ite_t c_14 hf
    refine lv_iconst (v := 5) hx hb dX5_kind_23 (by decide) ?_
    have ho := Option.some.inj hf
    subst ho
    exact W.iret (v := 5) hx hb hr (fun t ht hW => ⟨⟨_, (), rfl, rfl, by rw [ht]; exact hP, va_K.moved hW.alike hK, hD⟩, hS.F ht⟩) hS.2.2 dX5_kind_24
  · have hf := ite_f c_14 hf
    refine lv_aload_n hx hb dX5_kind_14 rfl (lv_at hl 0 rfl) ?_
    refine va_get (D := G) (ci := 5) (v := .ref q_kinds) (C := RX5) (T := TX5) (N := 8) hx hb htA lyX5 hown hK hP 0 rfl rfl 2 (by decide) (htA _ a_fl_X5_19) (fun _ h9 => h9) rfl dX5_kind_15 ?_
    refine lv_iload_n hx hb dX5_kind_18 rfl (lv_at hl 1 rfl) ?_
    obtain ⟨i_15, hf⟩ := ck_s hf
    refine va_iald (D := G) hx hb hK hP 1 0 rfl rfl i_15 dX5_kind_19 ?_
    refine lv_goto (tgt := 24) hx hb dX5_kind_20 (by decide) ?_
    have ho := Option.some.inj hf
    subst ho
    exact W.iret (v := (f_kinds (Int32.toNatClampNeg p1))) hx hb hr (fun t ht hW => ⟨⟨_, (), rfl, rfl, by rw [ht]; exact hP, va_K.moved hW.alike hK, hD⟩, hS.F ht⟩) hS.2.2 dX5_kind_24
set_option maxRecDepth 100000 in
set_option maxHeartbeats 4000000 in
theorem kX5_first (l : Launch) (G : va_G) (cy : Nat → ClassId) (q_this : Nat) (q_text : Nat) (q_kinds : Nat) (q_firsts : Nat) (q_seconds : Nat) (sz : Nat) (f_length : Int32) (f_clauses : Int32) (f_spot : Int32) (f_value : Int32) (f_firsts : Nat → Int32) (p1 : Int32) {o : Int32} (hf : fX5_first p1 f_clauses f_firsts = some o) : Met l yX5_first (Cond.code yX5_first cX5_first 2 (some .int) :: AW) ({ frames := 1, cells := 0, slots := 0, locals := 22 } : Room) (va_Pc [.ref q_this, .int p1] (Wp G cy [(q_this, .inr (5, [.ref q_text, .int f_length, .ref q_kinds, .ref q_firsts, .ref q_seconds, .int f_clauses, .int f_spot, .int f_value])), (q_firsts, .inl (cy 0, 12, .inl f_firsts))] sz)) (va_Qi (fun r (_ : Unit) => r = o) (fun _ => Wq G cy (va_A [(q_this, .inr (5, [.ref q_text, .int f_length, .ref q_kinds, .ref q_firsts, .ref q_seconds, .int f_clauses, .int f_spot, .int f_value])), (q_firsts, .inl (cy 0, 12, .inl f_firsts))] sz) [(q_this, .inr (5, [.ref q_text, .int f_length, .ref q_kinds, .ref q_firsts, .ref q_seconds, .int f_clauses, .int f_spot, .int f_value])), (q_firsts, .inl (cy 0, 12, .inl f_firsts))]) (va_A [(q_this, .inr (5, [.ref q_text, .int f_length, .ref q_kinds, .ref q_firsts, .ref q_seconds, .int f_clauses, .int f_spot, .int f_value])), (q_firsts, .inl (cy 0, 12, .inl f_firsts))] sz)) 0 0 (va_A [(q_this, .inr (5, [.ref q_text, .int f_length, .ref q_kinds, .ref q_firsts, .ref q_seconds, .int f_clauses, .int f_spot, .int f_value])), (q_firsts, .inl (cy 0, 12, .inl f_firsts))] sz) := by
  refine Met.ofW (cc := cX5_first) (maxL := 2) (ret := (some .int)) (by decide) rfl ?_
  intro p e s m args below meth c s₁ B hml hv
  obtain ⟨rfl, hsz, hP, hK, hD0, hN⟩ := hv
  have hx := B.exec
  have hb := B.bytes
  have hr := B.returns
  have htA : ∀ w ∈ AW, w.before _ s = true := fun w h => atoms_spec (ws := Cond.code yX5_first cX5_first 2 (some .int) :: AW) B.pre w (List.mem_cons_of_mem _ h)
  have hown : s.vm.findClass RX5 = some m.cls := findClass_of_methodNamed B.named
  have hlocks := B.notSynchronized
  subst hsz
  have hD := hD0.self (sz := s.heap.size)
  generalize hAe : va_A [(q_this, .inr (5, [.ref q_text, .int f_length, .ref q_kinds, .ref q_firsts, .ref q_seconds, .int f_clauses, .int f_spot, .int f_value])), (q_firsts, .inl (cy 0, 12, .inl f_firsts))] s.heap.size = A at hD ⊢
  have hA : ∀ q : Nat, s.heap.size ≤ q → A q := fun q h => by rw [← hAe]; exact Or.inr h
  have hS : va_S A s.heap s.heap [] := va_S.rf
  have hl := lv_entry ([.ref q_this, .int p1]) (n := 2) (Nat.le_of_ble_eq_true rfl)
  rw [lg_entry_eq]
  generalize (lg_sl ([.ref q_this, .int p1]) ++ List.replicate (2 - (lg_sl ([.ref q_this, .int p1])).length) Slot.unset).toArray = ls at hl ⊢
  have hl : lv_has ls 2 [(0, .ref q_this), (1, .int p1)] := hl
  have hP : va_P G vwCl [(q_this, .inr (5, [.ref q_text, .int f_length, .ref q_kinds, .ref q_firsts, .ref q_seconds, .int f_clauses, .int f_spot, .int f_value])), (q_firsts, .inl (cy 0, 12, .inl f_firsts))] s.heap := hP
  have hf : ((fX8_isIn p1 0 (f_clauses - 1)).bind fun q8 => ((if q8 = 0 then some (0) else ck p1 12 (some ((f_firsts (Int32.toNatClampNeg p1)))))) : Option (Int32)) = some o := hf
  refine lv_iload_n hx hb dX5_first_0 rfl (lv_at hl 1 rfl) ?_
  refine lv_iconst (v := 0) hx hb dX5_first_1 (by decide) ?_
  refine lv_aload_n hx hb dX5_first_2 rfl (lv_at hl 0 rfl) ?_
  refine va_get (D := G) (ci := 5) (v := .int f_clauses) (C := RX5) (T := TX5) (N := 8) hx hb htA lyX5 hown hK hP 0 rfl rfl 5 (by decide) (htA _ a_fl_X5_28) (fun _ h9 => h9) rfl dX5_first_3 ?_
  refine lv_iconst (v := 1) hx hb dX5_first_6 (by decide) ?_
  refine lv_isub hx hb dX5_first_7 ?_
  obtain ⟨q8, h8_13, hf⟩ := bd_s hf
  refine u_calliR (va_runSN (As := [.int p1, .int 0, .int (f_clauses - 1)]) (rest := []) ⟨hx, hb, hml, hown, htA⟩ (kX8_isIn l G cy s.heap.size p1 0 (f_clauses - 1) h8_13) (u_cnS htA hN (List.mem_of_getElem? (i := 24) rfl) pk_X8_isIn ⟨Nat.le_of_ble_eq_true rfl, Nat.le_of_ble_eq_true rfl⟩) (u_preS hK hN hP hD [] rfl (by decide)) rfl rfl hl.1 rfl (lv_room (Nat.le_of_ble_eq_true rfl)) dX5_first_8 ⟨Nat.zero_le _, Nat.zero_le _⟩) hP hD hS hA [] rfl (fun H locs hP hS => ?_)
  refine lv_if_eq (tgt := 23) hx hb dX5_first_11 (by decide) (fun c_14 => ?_) (fun c_14 => ?_)
  · have hf := ite_t c_14 hf
    refine lv_iconst (v := 0) hx hb dX5_first_23 (by decide) ?_
    have ho := Option.some.inj hf
    subst ho
    exact W.iret (v := 0) hx hb hr (fun t ht hW => ⟨⟨_, (), rfl, rfl, by rw [ht]; exact hP, va_K.moved hW.alike hK, hD⟩, hS.F ht⟩) hS.2.2 dX5_first_24
  · have hf := ite_f c_14 hf
    refine lv_aload_n hx hb dX5_first_14 rfl (lv_at hl 0 rfl) ?_
    refine va_get (D := G) (ci := 5) (v := .ref q_firsts) (C := RX5) (T := TX5) (N := 8) hx hb htA lyX5 hown hK hP 0 rfl rfl 3 (by decide) (htA _ a_fl_X5_22) (fun _ h9 => h9) rfl dX5_first_15 ?_
    refine lv_iload_n hx hb dX5_first_18 rfl (lv_at hl 1 rfl) ?_
    obtain ⟨i_15, hf⟩ := ck_s hf
    refine va_iald (D := G) hx hb hK hP 1 0 rfl rfl i_15 dX5_first_19 ?_
    refine lv_goto (tgt := 24) hx hb dX5_first_20 (by decide) ?_
    have ho := Option.some.inj hf
    subst ho
    exact W.iret (v := (f_firsts (Int32.toNatClampNeg p1))) hx hb hr (fun t ht hW => ⟨⟨_, (), rfl, rfl, by rw [ht]; exact hP, va_K.moved hW.alike hK, hD⟩, hS.F ht⟩) hS.2.2 dX5_first_24
set_option maxRecDepth 100000 in
set_option maxHeartbeats 4000000 in
theorem kX5_second (l : Launch) (G : va_G) (cy : Nat → ClassId) (q_this : Nat) (q_text : Nat) (q_kinds : Nat) (q_firsts : Nat) (q_seconds : Nat) (sz : Nat) (f_length : Int32) (f_clauses : Int32) (f_spot : Int32) (f_value : Int32) (f_seconds : Nat → Int32) (p1 : Int32) {o : Int32} (hf : fX5_second p1 f_clauses f_seconds = some o) : Met l yX5_second (Cond.code yX5_second cX5_second 2 (some .int) :: AW) ({ frames := 1, cells := 0, slots := 0, locals := 22 } : Room) (va_Pc [.ref q_this, .int p1] (Wp G cy [(q_this, .inr (5, [.ref q_text, .int f_length, .ref q_kinds, .ref q_firsts, .ref q_seconds, .int f_clauses, .int f_spot, .int f_value])), (q_seconds, .inl (cy 0, 12, .inl f_seconds))] sz)) (va_Qi (fun r (_ : Unit) => r = o) (fun _ => Wq G cy (va_A [(q_this, .inr (5, [.ref q_text, .int f_length, .ref q_kinds, .ref q_firsts, .ref q_seconds, .int f_clauses, .int f_spot, .int f_value])), (q_seconds, .inl (cy 0, 12, .inl f_seconds))] sz) [(q_this, .inr (5, [.ref q_text, .int f_length, .ref q_kinds, .ref q_firsts, .ref q_seconds, .int f_clauses, .int f_spot, .int f_value])), (q_seconds, .inl (cy 0, 12, .inl f_seconds))]) (va_A [(q_this, .inr (5, [.ref q_text, .int f_length, .ref q_kinds, .ref q_firsts, .ref q_seconds, .int f_clauses, .int f_spot, .int f_value])), (q_seconds, .inl (cy 0, 12, .inl f_seconds))] sz)) 0 0 (va_A [(q_this, .inr (5, [.ref q_text, .int f_length, .ref q_kinds, .ref q_firsts, .ref q_seconds, .int f_clauses, .int f_spot, .int f_value])), (q_seconds, .inl (cy 0, 12, .inl f_seconds))] sz) := by
  refine Met.ofW (cc := cX5_second) (maxL := 2) (ret := (some .int)) (by decide) rfl ?_
  intro p e s m args below meth c s₁ B hml hv
  obtain ⟨rfl, hsz, hP, hK, hD0, hN⟩ := hv
  have hx := B.exec
  have hb := B.bytes
  have hr := B.returns
  have htA : ∀ w ∈ AW, w.before _ s = true := fun w h => atoms_spec (ws := Cond.code yX5_second cX5_second 2 (some .int) :: AW) B.pre w (List.mem_cons_of_mem _ h)
  have hown : s.vm.findClass RX5 = some m.cls := findClass_of_methodNamed B.named
  have hlocks := B.notSynchronized
  subst hsz
  have hD := hD0.self (sz := s.heap.size)
  generalize hAe : va_A [(q_this, .inr (5, [.ref q_text, .int f_length, .ref q_kinds, .ref q_firsts, .ref q_seconds, .int f_clauses, .int f_spot, .int f_value])), (q_seconds, .inl (cy 0, 12, .inl f_seconds))] s.heap.size = A at hD ⊢
  have hA : ∀ q : Nat, s.heap.size ≤ q → A q := fun q h => by rw [← hAe]; exact Or.inr h
  have hS : va_S A s.heap s.heap [] := va_S.rf
  have hl := lv_entry ([.ref q_this, .int p1]) (n := 2) (Nat.le_of_ble_eq_true rfl)
  rw [lg_entry_eq]
  generalize (lg_sl ([.ref q_this, .int p1]) ++ List.replicate (2 - (lg_sl ([.ref q_this, .int p1])).length) Slot.unset).toArray = ls at hl ⊢
  have hl : lv_has ls 2 [(0, .ref q_this), (1, .int p1)] := hl
  have hP : va_P G vwCl [(q_this, .inr (5, [.ref q_text, .int f_length, .ref q_kinds, .ref q_firsts, .ref q_seconds, .int f_clauses, .int f_spot, .int f_value])), (q_seconds, .inl (cy 0, 12, .inl f_seconds))] s.heap := hP
  have hf : ((fX8_isIn p1 0 (f_clauses - 1)).bind fun q8 => ((if q8 = 0 then some (0) else ck p1 12 (some ((f_seconds (Int32.toNatClampNeg p1)))))) : Option (Int32)) = some o := hf
  refine lv_iload_n hx hb dX5_second_0 rfl (lv_at hl 1 rfl) ?_
  refine lv_iconst (v := 0) hx hb dX5_second_1 (by decide) ?_
  refine lv_aload_n hx hb dX5_second_2 rfl (lv_at hl 0 rfl) ?_
  refine va_get (D := G) (ci := 5) (v := .int f_clauses) (C := RX5) (T := TX5) (N := 8) hx hb htA lyX5 hown hK hP 0 rfl rfl 5 (by decide) (htA _ a_fl_X5_28) (fun _ h9 => h9) rfl dX5_second_3 ?_
  refine lv_iconst (v := 1) hx hb dX5_second_6 (by decide) ?_
  refine lv_isub hx hb dX5_second_7 ?_
  obtain ⟨q8, h8_13, hf⟩ := bd_s hf
  refine u_calliR (va_runSN (As := [.int p1, .int 0, .int (f_clauses - 1)]) (rest := []) ⟨hx, hb, hml, hown, htA⟩ (kX8_isIn l G cy s.heap.size p1 0 (f_clauses - 1) h8_13) (u_cnS htA hN (List.mem_of_getElem? (i := 24) rfl) pk_X8_isIn ⟨Nat.le_of_ble_eq_true rfl, Nat.le_of_ble_eq_true rfl⟩) (u_preS hK hN hP hD [] rfl (by decide)) rfl rfl hl.1 rfl (lv_room (Nat.le_of_ble_eq_true rfl)) dX5_second_8 ⟨Nat.zero_le _, Nat.zero_le _⟩) hP hD hS hA [] rfl (fun H locs hP hS => ?_)
  refine lv_if_eq (tgt := 23) hx hb dX5_second_11 (by decide) (fun c_14 => ?_) (fun c_14 => ?_)
  · have hf := ite_t c_14 hf
    refine lv_iconst (v := 0) hx hb dX5_second_23 (by decide) ?_
    have ho := Option.some.inj hf
    subst ho
    exact W.iret (v := 0) hx hb hr (fun t ht hW => ⟨⟨_, (), rfl, rfl, by rw [ht]; exact hP, va_K.moved hW.alike hK, hD⟩, hS.F ht⟩) hS.2.2 dX5_second_24
  · have hf := ite_f c_14 hf
    refine lv_aload_n hx hb dX5_second_14 rfl (lv_at hl 0 rfl) ?_
    refine va_get (D := G) (ci := 5) (v := .ref q_seconds) (C := RX5) (T := TX5) (N := 8) hx hb htA lyX5 hown hK hP 0 rfl rfl 4 (by decide) (htA _ a_fl_X5_25) (fun _ h9 => h9) rfl dX5_second_15 ?_
    refine lv_iload_n hx hb dX5_second_18 rfl (lv_at hl 1 rfl) ?_
    obtain ⟨i_15, hf⟩ := ck_s hf
    refine va_iald (D := G) hx hb hK hP 1 0 rfl rfl i_15 dX5_second_19 ?_
    refine lv_goto (tgt := 24) hx hb dX5_second_20 (by decide) ?_
    have ho := Option.some.inj hf
    subst ho
    exact W.iret (v := (f_seconds (Int32.toNatClampNeg p1))) hx hb hr (fun t ht hW => ⟨⟨_, (), rfl, rfl, by rw [ht]; exact hP, va_K.moved hW.alike hK, hD⟩, hS.F ht⟩) hS.2.2 dX5_second_24
set_option maxRecDepth 100000 in
set_option maxHeartbeats 4000000 in
theorem kX5_takeByte (l : Launch) (G : va_G) (cy : Nat → ClassId) (q_this : Nat) (q_text : Nat) (q_kinds : Nat) (q_firsts : Nat) (q_seconds : Nat) (sz : Nat) (f_length : Int32) (f_clauses : Int32) (f_spot : Int32) (f_value : Int32) (f_text : Nat → Int32) (p1 : Int32) {o : Int32 × Int32} (hf : fX5_takeByte p1 f_length f_spot f_text = some o) : Met l yX5_takeByte (Cond.code yX5_takeByte cX5_takeByte 2 (some .boolean) :: AW) ({ frames := 1, cells := 0, slots := 0, locals := 21 } : Room) (va_Pc [.ref q_this, .int p1] (Wp G cy [(q_this, .inr (5, [.ref q_text, .int f_length, .ref q_kinds, .ref q_firsts, .ref q_seconds, .int f_clauses, .int f_spot, .int f_value])), (q_text, .inl (cy 0, 100, .inl f_text))] sz)) (va_Qi (fun r (_ : Unit) => r = o.1) (fun _ => Wq G cy (va_A [(q_this, .inr (5, [.ref q_text, .int f_length, .ref q_kinds, .ref q_firsts, .ref q_seconds, .int f_clauses, .int f_spot, .int f_value])), (q_text, .inl (cy 0, 100, .inl f_text))] sz) [(q_this, .inr (5, [.ref q_text, .int f_length, .ref q_kinds, .ref q_firsts, .ref q_seconds, .int f_clauses, .int o.2, .int f_value])), (q_text, .inl (cy 0, 100, .inl f_text))]) (va_A [(q_this, .inr (5, [.ref q_text, .int f_length, .ref q_kinds, .ref q_firsts, .ref q_seconds, .int f_clauses, .int f_spot, .int f_value])), (q_text, .inl (cy 0, 100, .inl f_text))] sz)) 0 0 (va_A [(q_this, .inr (5, [.ref q_text, .int f_length, .ref q_kinds, .ref q_firsts, .ref q_seconds, .int f_clauses, .int f_spot, .int f_value])), (q_text, .inl (cy 0, 100, .inl f_text))] sz) := by
  refine Met.ofW (cc := cX5_takeByte) (maxL := 2) (ret := (some .boolean)) (by decide) rfl ?_
  intro p e s m args below meth c s₁ B hml hv
  obtain ⟨rfl, hsz, hP, hK, hD0, hN⟩ := hv
  have hx := B.exec
  have hb := B.bytes
  have hr := B.returns
  have htA : ∀ w ∈ AW, w.before _ s = true := fun w h => atoms_spec (ws := Cond.code yX5_takeByte cX5_takeByte 2 (some .boolean) :: AW) B.pre w (List.mem_cons_of_mem _ h)
  have hown : s.vm.findClass RX5 = some m.cls := findClass_of_methodNamed B.named
  have hlocks := B.notSynchronized
  subst hsz
  have hD := hD0.self (sz := s.heap.size)
  generalize hAe : va_A [(q_this, .inr (5, [.ref q_text, .int f_length, .ref q_kinds, .ref q_firsts, .ref q_seconds, .int f_clauses, .int f_spot, .int f_value])), (q_text, .inl (cy 0, 100, .inl f_text))] s.heap.size = A at hD ⊢
  have hA : ∀ q : Nat, s.heap.size ≤ q → A q := fun q h => by rw [← hAe]; exact Or.inr h
  have hS : va_S A s.heap s.heap [] := va_S.rf
  have hl := lv_entry ([.ref q_this, .int p1]) (n := 2) (Nat.le_of_ble_eq_true rfl)
  rw [lg_entry_eq]
  generalize (lg_sl ([.ref q_this, .int p1]) ++ List.replicate (2 - (lg_sl ([.ref q_this, .int p1])).length) Slot.unset).toArray = ls at hl ⊢
  have hl : lv_has ls 2 [(0, .ref q_this), (1, .int p1)] := hl
  have hP : va_P G vwCl [(q_this, .inr (5, [.ref q_text, .int f_length, .ref q_kinds, .ref q_firsts, .ref q_seconds, .int f_clauses, .int f_spot, .int f_value])), (q_text, .inl (cy 0, 100, .inl f_text))] s.heap := hP
  have hf : ((fX5_byteAt f_spot f_length f_text).bind fun q5 => ((if q5 = p1 then some (1, (f_spot + 1)) else some (0, f_spot))) : Option (Int32 × Int32)) = some o := hf
  refine lv_aload_n hx hb dX5_takeByte_0 rfl (lv_at hl 0 rfl) ?_
  refine lv_aload_n hx hb dX5_takeByte_1 rfl (lv_at hl 0 rfl) ?_
  refine va_get (D := G) (ci := 5) (v := .int f_spot) (C := RX5) (T := TX5) (N := 8) hx hb htA lyX5 hown hK hP 0 rfl rfl 6 (by decide) (htA _ a_fl_X5_31) (fun _ h9 => h9) rfl dX5_takeByte_2 ?_
  obtain ⟨q5, h5_9, hf⟩ := bd_s hf
  refine u_calliR (va_runV (As := [.int f_spot]) (rest := []) ⟨hx, hb, hml, hown, htA⟩ (kX5_byteAt l G cy q_this q_text q_kinds q_firsts q_seconds s.heap.size f_length f_clauses f_spot f_value f_text f_spot h5_9) (u_cwV htA a_ml_X5_67 pk_X5_byteAt ⟨Nat.le_of_ble_eq_true rfl, Nat.le_of_ble_eq_true rfl⟩) (u_preV hK hN hP hD [0, 1] rfl (by decide) 0 rfl rfl) rfl rfl hl.1 rfl (lv_room (Nat.le_of_ble_eq_true rfl)) dX5_takeByte_5 ⟨Nat.zero_le _, Nat.zero_le _⟩) hP hD hS hA [0, 1] rfl (fun H locs hP hS => ?_)
  refine lv_iload_n hx hb dX5_takeByte_8 rfl (lv_at hl 1 rfl) ?_
  refine lv_icmp_eq (tgt := 14) hx hb dX5_takeByte_9 (by decide) (fun c_10 => ?_) (fun c_10 => ?_)
  · have hf := ite_t c_10 hf
    refine lv_aload_n hx hb dX5_takeByte_14 rfl (lv_at hl 0 rfl) ?_
    refine lv_dup hx hb dX5_takeByte_15 rfl ?_
    refine va_get (D := G) (ci := 5) (v := .int f_spot) (C := RX5) (T := TX5) (N := 8) hx hb htA lyX5 hown hK hP 0 rfl rfl 6 (by decide) (htA _ a_fl_X5_31) (fun _ h9 => h9) rfl dX5_takeByte_16 ?_
    refine lv_iconst (v := 1) hx hb dX5_takeByte_19 (by decide) ?_
    refine lv_iadd hx hb dX5_takeByte_20 ?_
    refine va_put (D := G) (ci := 5) (v := .int (f_spot + 1)) (ty := tyX5 6) (C := RX5) (T := TX5) (N := 8) hx hb htA lyX5 tyX5 tyX5_ok nmX5 hown hK hP hD hS 0 rfl rfl 6 (by decide) (htA _ a_fl_X5_31) (fun _ h9 => h9) rfl (tyX5_ok 6 (by decide)) rfl rfl (Nat.le_of_ble_eq_true rfl) dX5_takeByte_21 (fun H locs hP hD hS => ?_)
    have hP : va_P G vwCl [(q_this, .inr (5, [.ref q_text, .int f_length, .ref q_kinds, .ref q_firsts, .ref q_seconds, .int f_clauses, .int (f_spot + 1), .int f_value])), (q_text, .inl (cy 0, 100, .inl f_text))] H := hP
    have hD : va_D A [(q_this, .inr (5, [.ref q_text, .int f_length, .ref q_kinds, .ref q_firsts, .ref q_seconds, .int f_clauses, .int (f_spot + 1), .int f_value])), (q_text, .inl (cy 0, 100, .inl f_text))] := hD
    refine lv_iconst (v := 1) hx hb dX5_takeByte_24 (by decide) ?_
    have ho := Option.some.inj hf
    subst ho
    exact W.zret (v := 1) hx hb hr rfl (fun t ht hW => ⟨⟨_, (), rfl, rfl, by rw [ht]; exact hP, va_K.moved hW.alike hK, hD⟩, hS.F ht⟩) hS.2.2 dX5_takeByte_25
  · have hf := ite_f c_10 hf
    refine lv_iconst (v := 0) hx hb dX5_takeByte_12 (by decide) ?_
    have ho := Option.some.inj hf
    subst ho
    exact W.zret (v := 0) hx hb hr rfl (fun t ht hW => ⟨⟨_, (), rfl, rfl, by rw [ht]; exact hP, va_K.moved hW.alike hK, hD⟩, hS.F ht⟩) hS.2.2 dX5_takeByte_13
set_option maxRecDepth 100000 in
set_option maxHeartbeats 4000000 in
theorem wX5_takeNumber_92 {p : Program} {l : Launch} {e : Env} {s : State} {m : MethodId} {args : Array Value} {below : List Frame} {meth : Method} {c : Code} {G : va_G} {cy : Nat → ClassId} {A : Nat → Prop} {q_this : Nat} {q_text : Nat} {q_kinds : Nat} {q_firsts : Nat} {q_seconds : Nat} {f_length : Int32} {f_clauses : Int32} {f_text : Nat → Int32} {n : Nat} {o : Int32 × Int32 × Int32} (C : Cx p s m args meth c cX5_takeNumber 6 (some .boolean) RX5 G cy A) : ∀ (v3 : Int32) (v4 : Int32) (v5 : Int32) (f_spot : Int32) (f_value : Int32) (H : Heap) (locs : List Loc) (ls : Array Slot), va_P G vwCl [(q_this, .inr (5, [.ref q_text, .int f_length, .ref q_kinds, .ref q_firsts, .ref q_seconds, .int f_clauses, .int f_spot, .int f_value])), (q_text, .inl (cy 0, 100, .inl f_text))] H → va_D A [(q_this, .inr (5, [.ref q_text, .int f_length, .ref q_kinds, .ref q_firsts, .ref q_seconds, .int f_clauses, .int f_spot, .int f_value])), (q_text, .inl (cy 0, 100, .inl f_text))] → va_S A s.heap H locs → lv_has ls 6 [(0, .ref q_this), (3, .int v3), (4, .int v4), (5, .int v5)] → jX5_takeNumber_92 n v3 v4 v5 f_spot f_value = some o → W p l e (headSpec (Cond.code yX5_takeNumber cX5_takeNumber 6 (some .boolean) :: AW) ({ frames := 2, cells := 0, slots := 0, locals := 42 } : Room)).room s m args below meth c H locs 0 0 (MQ below (va_Qi (fun r (_ : Unit) => r = o.1) (fun _ => Wq G cy A [(q_this, .inr (5, [.ref q_text, .int f_length, .ref q_kinds, .ref q_firsts, .ref q_seconds, .int f_clauses, .int o.2.1, .int o.2.2])), (q_text, .inl (cy 0, 100, .inl f_text))]) A) args s 0 0 A) (F0 m 92 ls []) := by
  have C0 := C
  obtain ⟨hx, hb, hr, hml, htA, hown, hK, hN, hA, hlocks⟩ := C
  intro v3 v4 v5 f_spot f_value H locs ls hP hD hS hl hf
  have hf : ((if v3 = 0 then (if v5 ≤ 0 then some (0, f_spot, v4) else some (1, f_spot, v4)) else (if v5 ≤ 0 then some (0, f_spot, (-v4)) else some (1, f_spot, (-v4)))) : Option (Int32 × Int32 × Int32)) = some o := hf
  refine lv_aload_n hx hb dX5_takeNumber_92 rfl (lv_at hl 0 rfl) ?_
  refine lv_iload_n hx hb dX5_takeNumber_93 rfl (lv_at hl 1 rfl) ?_
  refine lv_if_eq (tgt := 103) hx hb dX5_takeNumber_94 (by decide) (fun c_49 => ?_) (fun c_49 => ?_)
  · have hf := ite_t c_49 hf
    refine lv_iload hx hb dX5_takeNumber_103 (lv_at hl 2 rfl) ?_
    refine va_put (D := G) (ci := 5) (v := .int v4) (ty := tyX5 7) (C := RX5) (T := TX5) (N := 8) hx hb htA lyX5 tyX5 tyX5_ok nmX5 hown hK hP hD hS 0 rfl rfl 7 (by decide) (htA _ a_fl_X5_34) (fun _ h9 => h9) rfl (tyX5_ok 7 (by decide)) rfl rfl (Nat.le_of_ble_eq_true rfl) dX5_takeNumber_105 (fun H locs hP hD hS => ?_)
    have hP : va_P G vwCl [(q_this, .inr (5, [.ref q_text, .int f_length, .ref q_kinds, .ref q_firsts, .ref q_seconds, .int f_clauses, .int f_spot, .int v4])), (q_text, .inl (cy 0, 100, .inl f_text))] H := hP
    have hD : va_D A [(q_this, .inr (5, [.ref q_text, .int f_length, .ref q_kinds, .ref q_firsts, .ref q_seconds, .int f_clauses, .int f_spot, .int v4])), (q_text, .inl (cy 0, 100, .inl f_text))] := hD
    refine lv_iload hx hb dX5_takeNumber_108 (lv_at hl 3 rfl) ?_
    refine lv_if_le (tgt := 117) hx hb dX5_takeNumber_110 (by decide) (fun c_50 => ?_) (fun c_50 => ?_)
    · have hf := ite_t c_50 hf
      refine lv_iconst (v := 0) hx hb dX5_takeNumber_117 (by decide) ?_
      have ho := Option.some.inj hf
      subst ho
      exact W.zret (v := 0) hx hb hr rfl (fun t ht hW => ⟨⟨_, (), rfl, rfl, by rw [ht]; exact hP, va_K.moved hW.alike hK, hD⟩, hS.F ht⟩) hS.2.2 dX5_takeNumber_118
    · have hf := ite_f c_50 hf
      refine lv_iconst (v := 1) hx hb dX5_takeNumber_113 (by decide) ?_
      refine lv_goto (tgt := 118) hx hb dX5_takeNumber_114 (by decide) ?_
      have ho := Option.some.inj hf
      subst ho
      exact W.zret (v := 1) hx hb hr rfl (fun t ht hW => ⟨⟨_, (), rfl, rfl, by rw [ht]; exact hP, va_K.moved hW.alike hK, hD⟩, hS.F ht⟩) hS.2.2 dX5_takeNumber_118
  · have hf := ite_f c_49 hf
    refine lv_iload hx hb dX5_takeNumber_97 (lv_at hl 2 rfl) ?_
    refine lv_ineg hx hb dX5_takeNumber_99 ?_
    refine lv_goto (tgt := 105) hx hb dX5_takeNumber_100 (by decide) ?_
    refine va_put (D := G) (ci := 5) (v := .int (-v4)) (ty := tyX5 7) (C := RX5) (T := TX5) (N := 8) hx hb htA lyX5 tyX5 tyX5_ok nmX5 hown hK hP hD hS 0 rfl rfl 7 (by decide) (htA _ a_fl_X5_34) (fun _ h9 => h9) rfl (tyX5_ok 7 (by decide)) rfl rfl (Nat.le_of_ble_eq_true rfl) dX5_takeNumber_105 (fun H locs hP hD hS => ?_)
    have hP : va_P G vwCl [(q_this, .inr (5, [.ref q_text, .int f_length, .ref q_kinds, .ref q_firsts, .ref q_seconds, .int f_clauses, .int f_spot, .int (-v4)])), (q_text, .inl (cy 0, 100, .inl f_text))] H := hP
    have hD : va_D A [(q_this, .inr (5, [.ref q_text, .int f_length, .ref q_kinds, .ref q_firsts, .ref q_seconds, .int f_clauses, .int f_spot, .int (-v4)])), (q_text, .inl (cy 0, 100, .inl f_text))] := hD
    refine lv_iload hx hb dX5_takeNumber_108 (lv_at hl 3 rfl) ?_
    refine lv_if_le (tgt := 117) hx hb dX5_takeNumber_110 (by decide) (fun c_51 => ?_) (fun c_51 => ?_)
    · have hf := ite_t c_51 hf
      refine lv_iconst (v := 0) hx hb dX5_takeNumber_117 (by decide) ?_
      have ho := Option.some.inj hf
      subst ho
      exact W.zret (v := 0) hx hb hr rfl (fun t ht hW => ⟨⟨_, (), rfl, rfl, by rw [ht]; exact hP, va_K.moved hW.alike hK, hD⟩, hS.F ht⟩) hS.2.2 dX5_takeNumber_118
    · have hf := ite_f c_51 hf
      refine lv_iconst (v := 1) hx hb dX5_takeNumber_113 (by decide) ?_
      refine lv_goto (tgt := 118) hx hb dX5_takeNumber_114 (by decide) ?_
      have ho := Option.some.inj hf
      subst ho
      exact W.zret (v := 1) hx hb hr rfl (fun t ht hW => ⟨⟨_, (), rfl, rfl, by rw [ht]; exact hP, va_K.moved hW.alike hK, hD⟩, hS.F ht⟩) hS.2.2 dX5_takeNumber_118
set_option maxRecDepth 100000 in
set_option maxHeartbeats 4000000 in
theorem wX5_takeNumber_25 {p : Program} {l : Launch} {e : Env} {s : State} {m : MethodId} {args : Array Value} {below : List Frame} {meth : Method} {c : Code} {G : va_G} {cy : Nat → ClassId} {A : Nat → Prop} {q_this : Nat} {q_text : Nat} {q_kinds : Nat} {q_firsts : Nat} {q_seconds : Nat} {f_length : Int32} {f_clauses : Int32} {f_text : Nat → Int32} {n : Nat} {o : Int32 × Int32 × Int32} (C : Cx p s m args meth c cX5_takeNumber 6 (some .boolean) RX5 G cy A) : ∀ k25 : Nat, ∀ (v1 : Int32) (v3 : Int32) (v4 : Int32) (v5 : Int32) (f_spot : Int32) (f_value : Int32) (H : Heap) (locs : List Loc) (ls : Array Slot), va_P G vwCl [(q_this, .inr (5, [.ref q_text, .int f_length, .ref q_kinds, .ref q_firsts, .ref q_seconds, .int f_clauses, .int f_spot, .int f_value])), (q_text, .inl (cy 0, 100, .inl f_text))] H → va_D A [(q_this, .inr (5, [.ref q_text, .int f_length, .ref q_kinds, .ref q_firsts, .ref q_seconds, .int f_clauses, .int f_spot, .int f_value])), (q_text, .inl (cy 0, 100, .inl f_text))] → va_S A s.heap H locs → lv_has ls 6 [(0, .ref q_this), (1, .int v1), (3, .int v3), (4, .int v4), (5, .int v5)] → lX5_takeNumber_25 n f_length f_text k25 v1 v3 v4 v5 f_spot f_value = some o → W p l e (headSpec (Cond.code yX5_takeNumber cX5_takeNumber 6 (some .boolean) :: AW) ({ frames := 2, cells := 0, slots := 0, locals := 42 } : Room)).room s m args below meth c H locs 0 0 (MQ below (va_Qi (fun r (_ : Unit) => r = o.1) (fun _ => Wq G cy A [(q_this, .inr (5, [.ref q_text, .int f_length, .ref q_kinds, .ref q_firsts, .ref q_seconds, .int f_clauses, .int o.2.1, .int o.2.2])), (q_text, .inl (cy 0, 100, .inl f_text))]) A) args s 0 0 A) (F0 m 25 ls []) := by
  have C0 := C
  obtain ⟨hx, hb, hr, hml, htA, hown, hK, hN, hA, hlocks⟩ := C
  intro k25
  induction k25 with
  | zero =>
    intro v1 v3 v4 v5 f_spot f_value H locs ls hP hD hS hl hf
    exact no_s hf
  | succ k25 ih25 =>
    intro v1 v3 v4 v5 f_spot f_value H locs ls hP hD hS hl hf
    have hf : ((if v1 ≤ v5 then jX5_takeNumber_92 n v3 v4 v5 f_spot f_value else (fX5_byteAt f_spot f_length f_text).bind fun q36 => ((if q36 < 48 then jX5_takeNumber_92 n v3 v4 v5 f_spot f_value else (fX5_byteAt f_spot f_length f_text).bind fun q49 => ((if 57 < q49 then jX5_takeNumber_92 n v3 v4 v5 f_spot f_value else (fX5_byteAt f_spot f_length f_text).bind fun q67 => (lX5_takeNumber_25 n f_length f_text k25 v1 v3 (((10 * v4) + q67) - 48) (v5 + 1) (f_spot + 1) f_value)))))) : Option (Int32 × Int32 × Int32)) = some o := hf
    refine lv_iload hx hb dX5_takeNumber_25 (lv_at hl 4 rfl) ?_
    refine lv_iload_n hx hb dX5_takeNumber_27 rfl (lv_at hl 1 rfl) ?_
    refine lv_icmp_ge (tgt := 92) hx hb dX5_takeNumber_28 (by decide) (fun c_52 => ?_) (fun c_52 => ?_)
    · have hf := ite_t c_52 hf
      exact wX5_takeNumber_92 C0 _ _ _ _ _ _ _ _ hP hD hS (lv_sub hl [0, 2, 3, 4] rfl) hf
    · have hf := ite_f c_52 hf
      refine lv_aload_n hx hb dX5_takeNumber_31 rfl (lv_at hl 0 rfl) ?_
      refine lv_aload_n hx hb dX5_takeNumber_32 rfl (lv_at hl 0 rfl) ?_
      refine va_get (D := G) (ci := 5) (v := .int f_spot) (C := RX5) (T := TX5) (N := 8) hx hb htA lyX5 hown hK hP 0 rfl rfl 6 (by decide) (htA _ a_fl_X5_31) (fun _ h9 => h9) rfl dX5_takeNumber_33 ?_
      obtain ⟨q36, h36_53, hf⟩ := bd_s hf
      refine u_calliR (va_runV (As := [.int f_spot]) (rest := []) ⟨hx, hb, hml, hown, htA⟩ (kX5_byteAt l G cy q_this q_text q_kinds q_firsts q_seconds H.size f_length f_clauses f_spot f_value f_text f_spot h36_53) (u_cwV htA a_ml_X5_67 pk_X5_byteAt ⟨Nat.le_of_ble_eq_true rfl, Nat.le_of_ble_eq_true rfl⟩) (u_preV hK hN hP hD [0, 1] rfl (by decide) 0 rfl rfl) rfl rfl hl.1 rfl (lv_room (Nat.le_of_ble_eq_true rfl)) dX5_takeNumber_36 ⟨Nat.zero_le _, Nat.zero_le _⟩) hP hD hS hA [0, 1] rfl (fun H locs hP hS => ?_)
      refine lv_bipush (v := 48) hx hb dX5_takeNumber_39 (by decide) ?_
      refine lv_icmp_lt (tgt := 92) hx hb dX5_takeNumber_41 (by decide) (fun c_54 => ?_) (fun c_54 => ?_)
      · have hf := ite_t c_54 hf
        exact wX5_takeNumber_92 C0 _ _ _ _ _ _ _ _ hP hD hS (lv_sub hl [0, 2, 3, 4] rfl) hf
      · have hf := ite_f c_54 hf
        refine lv_aload_n hx hb dX5_takeNumber_44 rfl (lv_at hl 0 rfl) ?_
        refine lv_aload_n hx hb dX5_takeNumber_45 rfl (lv_at hl 0 rfl) ?_
        refine va_get (D := G) (ci := 5) (v := .int f_spot) (C := RX5) (T := TX5) (N := 8) hx hb htA lyX5 hown hK hP 0 rfl rfl 6 (by decide) (htA _ a_fl_X5_31) (fun _ h9 => h9) rfl dX5_takeNumber_46 ?_
        obtain ⟨q49, h49_55, hf⟩ := bd_s hf
        refine u_calliR (va_runV (As := [.int f_spot]) (rest := []) ⟨hx, hb, hml, hown, htA⟩ (kX5_byteAt l G cy q_this q_text q_kinds q_firsts q_seconds H.size f_length f_clauses f_spot f_value f_text f_spot h49_55) (u_cwV htA a_ml_X5_67 pk_X5_byteAt ⟨Nat.le_of_ble_eq_true rfl, Nat.le_of_ble_eq_true rfl⟩) (u_preV hK hN hP hD [0, 1] rfl (by decide) 0 rfl rfl) rfl rfl hl.1 rfl (lv_room (Nat.le_of_ble_eq_true rfl)) dX5_takeNumber_49 ⟨Nat.zero_le _, Nat.zero_le _⟩) hP hD hS hA [0, 1] rfl (fun H locs hP hS => ?_)
        refine lv_bipush (v := 57) hx hb dX5_takeNumber_52 (by decide) ?_
        refine lv_icmp_gt (tgt := 92) hx hb dX5_takeNumber_54 (by decide) (fun c_56 => ?_) (fun c_56 => ?_)
        · have hf := ite_t c_56 hf
          exact wX5_takeNumber_92 C0 _ _ _ _ _ _ _ _ hP hD hS (lv_sub hl [0, 2, 3, 4] rfl) hf
        · have hf := ite_f c_56 hf
          refine lv_bipush (v := 10) hx hb dX5_takeNumber_57 (by decide) ?_
          refine lv_iload hx hb dX5_takeNumber_59 (lv_at hl 3 rfl) ?_
          refine lv_imul hx hb dX5_takeNumber_61 ?_
          refine lv_aload_n hx hb dX5_takeNumber_62 rfl (lv_at hl 0 rfl) ?_
          refine lv_aload_n hx hb dX5_takeNumber_63 rfl (lv_at hl 0 rfl) ?_
          refine va_get (D := G) (ci := 5) (v := .int f_spot) (C := RX5) (T := TX5) (N := 8) hx hb htA lyX5 hown hK hP 0 rfl rfl 6 (by decide) (htA _ a_fl_X5_31) (fun _ h9 => h9) rfl dX5_takeNumber_64 ?_
          obtain ⟨q67, h67_57, hf⟩ := bd_s hf
          refine u_calliR (va_runV (As := [.int f_spot]) (rest := [.int (10 * v4)]) ⟨hx, hb, hml, hown, htA⟩ (kX5_byteAt l G cy q_this q_text q_kinds q_firsts q_seconds H.size f_length f_clauses f_spot f_value f_text f_spot h67_57) (u_cwV htA a_ml_X5_67 pk_X5_byteAt ⟨Nat.le_of_ble_eq_true rfl, Nat.le_of_ble_eq_true rfl⟩) (u_preV hK hN hP hD [0, 1] rfl (by decide) 0 rfl rfl) rfl rfl hl.1 rfl (lv_room (Nat.le_of_ble_eq_true rfl)) dX5_takeNumber_67 ⟨Nat.zero_le _, Nat.zero_le _⟩) hP hD hS hA [0, 1] rfl (fun H locs hP hS => ?_)
          refine lv_iadd hx hb dX5_takeNumber_70 ?_
          refine lv_bipush (v := 48) hx hb dX5_takeNumber_71 (by decide) ?_
          refine lv_isub hx hb dX5_takeNumber_73 ?_
          refine lv_istore (lv' := [(4, .int (((10 * v4) + q67) - 48)), (0, .ref q_this), (1, .int v1), (3, .int v3), (5, .int v5)]) hx hb dX5_takeNumber_74 hl (by decide) rfl (fun ls hl => ?_)
          refine lv_aload_n hx hb dX5_takeNumber_76 rfl (lv_at hl 1 rfl) ?_
          refine lv_dup hx hb dX5_takeNumber_77 rfl ?_
          refine va_get (D := G) (ci := 5) (v := .int f_spot) (C := RX5) (T := TX5) (N := 8) hx hb htA lyX5 hown hK hP 0 rfl rfl 6 (by decide) (htA _ a_fl_X5_31) (fun _ h9 => h9) rfl dX5_takeNumber_78 ?_
          refine lv_iconst (v := 1) hx hb dX5_takeNumber_81 (by decide) ?_
          refine lv_iadd hx hb dX5_takeNumber_82 ?_
          refine va_put (D := G) (ci := 5) (v := .int (f_spot + 1)) (ty := tyX5 6) (C := RX5) (T := TX5) (N := 8) hx hb htA lyX5 tyX5 tyX5_ok nmX5 hown hK hP hD hS 0 rfl rfl 6 (by decide) (htA _ a_fl_X5_31) (fun _ h9 => h9) rfl (tyX5_ok 6 (by decide)) rfl rfl (Nat.le_of_ble_eq_true rfl) dX5_takeNumber_83 (fun H locs hP hD hS => ?_)
          have hP : va_P G vwCl [(q_this, .inr (5, [.ref q_text, .int f_length, .ref q_kinds, .ref q_firsts, .ref q_seconds, .int f_clauses, .int (f_spot + 1), .int f_value])), (q_text, .inl (cy 0, 100, .inl f_text))] H := hP
          have hD : va_D A [(q_this, .inr (5, [.ref q_text, .int f_length, .ref q_kinds, .ref q_firsts, .ref q_seconds, .int f_clauses, .int (f_spot + 1), .int f_value])), (q_text, .inl (cy 0, 100, .inl f_text))] := hD
          refine lv_iinc (v := (v5 + 1)) (lv' := [(5, .int (v5 + 1)), (4, .int (((10 * v4) + q67) - 48)), (0, .ref q_this), (1, .int v1), (3, .int v3)]) hx hb dX5_takeNumber_86 hl (k := 4) rfl rfl (by decide) rfl (fun ls hl => ?_)
          refine lv_goto (tgt := 25) hx hb dX5_takeNumber_89 (by decide) ?_
          exact ih25 _ _ _ _ _ _ _ _ _ hP hD hS (lv_sub hl [2, 3, 4, 1, 0] rfl) hf
set_option maxRecDepth 100000 in
set_option maxHeartbeats 4000000 in
theorem kX5_takeNumber (l : Launch) (G : va_G) (cy : Nat → ClassId) (q_this : Nat) (q_text : Nat) (q_kinds : Nat) (q_firsts : Nat) (q_seconds : Nat) (sz : Nat) (f_length : Int32) (f_clauses : Int32) (f_spot : Int32) (f_value : Int32) (f_text : Nat → Int32) (p1 : Int32) (p2 : Int32) (n : Nat) {o : Int32 × Int32 × Int32} (hf : fX5_takeNumber n p1 p2 f_length f_spot f_value f_text = some o) : Met l yX5_takeNumber (Cond.code yX5_takeNumber cX5_takeNumber 6 (some .boolean) :: AW) ({ frames := 2, cells := 0, slots := 0, locals := 42 } : Room) (va_Pc [.ref q_this, .int p1, .int p2] (Wp G cy [(q_this, .inr (5, [.ref q_text, .int f_length, .ref q_kinds, .ref q_firsts, .ref q_seconds, .int f_clauses, .int f_spot, .int f_value])), (q_text, .inl (cy 0, 100, .inl f_text))] sz)) (va_Qi (fun r (_ : Unit) => r = o.1) (fun _ => Wq G cy (va_A [(q_this, .inr (5, [.ref q_text, .int f_length, .ref q_kinds, .ref q_firsts, .ref q_seconds, .int f_clauses, .int f_spot, .int f_value])), (q_text, .inl (cy 0, 100, .inl f_text))] sz) [(q_this, .inr (5, [.ref q_text, .int f_length, .ref q_kinds, .ref q_firsts, .ref q_seconds, .int f_clauses, .int o.2.1, .int o.2.2])), (q_text, .inl (cy 0, 100, .inl f_text))]) (va_A [(q_this, .inr (5, [.ref q_text, .int f_length, .ref q_kinds, .ref q_firsts, .ref q_seconds, .int f_clauses, .int f_spot, .int f_value])), (q_text, .inl (cy 0, 100, .inl f_text))] sz)) 0 0 (va_A [(q_this, .inr (5, [.ref q_text, .int f_length, .ref q_kinds, .ref q_firsts, .ref q_seconds, .int f_clauses, .int f_spot, .int f_value])), (q_text, .inl (cy 0, 100, .inl f_text))] sz) := by
  refine Met.ofW (cc := cX5_takeNumber) (maxL := 6) (ret := (some .boolean)) (by decide) rfl ?_
  intro p e s m args below meth c s₁ B hml hv
  obtain ⟨rfl, hsz, hP, hK, hD0, hN⟩ := hv
  have hx := B.exec
  have hb := B.bytes
  have hr := B.returns
  have htA : ∀ w ∈ AW, w.before _ s = true := fun w h => atoms_spec (ws := Cond.code yX5_takeNumber cX5_takeNumber 6 (some .boolean) :: AW) B.pre w (List.mem_cons_of_mem _ h)
  have hown : s.vm.findClass RX5 = some m.cls := findClass_of_methodNamed B.named
  have hlocks := B.notSynchronized
  subst hsz
  have hD := hD0.self (sz := s.heap.size)
  generalize hAe : va_A [(q_this, .inr (5, [.ref q_text, .int f_length, .ref q_kinds, .ref q_firsts, .ref q_seconds, .int f_clauses, .int f_spot, .int f_value])), (q_text, .inl (cy 0, 100, .inl f_text))] s.heap.size = A at hD ⊢
  have hA : ∀ q : Nat, s.heap.size ≤ q → A q := fun q h => by rw [← hAe]; exact Or.inr h
  have hS : va_S A s.heap s.heap [] := va_S.rf
  have hl := lv_entry ([.ref q_this, .int p1, .int p2]) (n := 6) (Nat.le_of_ble_eq_true rfl)
  rw [lg_entry_eq]
  generalize (lg_sl ([.ref q_this, .int p1, .int p2]) ++ List.replicate (6 - (lg_sl ([.ref q_this, .int p1, .int p2])).length) Slot.unset).toArray = ls at hl ⊢
  have hl : lv_has ls 6 [(0, .ref q_this), (1, .int p1), (2, .int p2)] := hl
  have hP : va_P G vwCl [(q_this, .inr (5, [.ref q_text, .int f_length, .ref q_kinds, .ref q_firsts, .ref q_seconds, .int f_clauses, .int f_spot, .int f_value])), (q_text, .inl (cy 0, 100, .inl f_text))] s.heap := hP
  have C0 : Cx p s m _ meth c cX5_takeNumber 6 (some .boolean) RX5 G cy A := ⟨hx, hb, hr, hml, htA, hown, hK, hN, hA, hlocks⟩
  have hf : ((if p2 = 0 then lX5_takeNumber_25 n f_length f_text n p1 0 0 0 f_spot f_value else (fX5_takeByte 45 f_length f_spot f_text).bind fun q7 => ((if q7.1 = 0 then lX5_takeNumber_25 n f_length f_text n p1 0 0 0 q7.2 f_value else lX5_takeNumber_25 n f_length f_text n p1 1 0 0 q7.2 f_value))) : Option (Int32 × Int32 × Int32)) = some o := hf
  refine lv_iload_n hx hb dX5_takeNumber_0 rfl (lv_at hl 2 rfl) ?_
  refine lv_if_eq (tgt := 17) hx hb dX5_takeNumber_1 (by decide) (fun c_58 => ?_) (fun c_58 => ?_)
  · have hf := ite_t c_58 hf
    refine lv_iconst (v := 0) hx hb dX5_takeNumber_17 (by decide) ?_
    refine lv_istore_n (lv' := [(3, .int 0), (0, .ref q_this), (1, .int p1), (2, .int p2)]) hx hb dX5_takeNumber_18 rfl hl (by decide) rfl (fun ls hl => ?_)
    refine lv_iconst (v := 0) hx hb dX5_takeNumber_19 (by decide) ?_
    refine lv_istore (lv' := [(4, .int 0), (3, .int 0), (0, .ref q_this), (1, .int p1), (2, .int p2)]) hx hb dX5_takeNumber_20 hl (by decide) rfl (fun ls hl => ?_)
    refine lv_iconst (v := 0) hx hb dX5_takeNumber_22 (by decide) ?_
    refine lv_istore (lv' := [(5, .int 0), (4, .int 0), (3, .int 0), (0, .ref q_this), (1, .int p1), (2, .int p2)]) hx hb dX5_takeNumber_23 hl (by decide) rfl (fun ls hl => ?_)
    exact wX5_takeNumber_25 C0 n _ _ _ _ _ _ _ _ _ hP hD hS (lv_sub hl [3, 4, 2, 1, 0] rfl) hf
  · have hf := ite_f c_58 hf
    refine lv_aload_n hx hb dX5_takeNumber_4 rfl (lv_at hl 0 rfl) ?_
    refine lv_bipush (v := 45) hx hb dX5_takeNumber_5 (by decide) ?_
    obtain ⟨q7, h7_59, hf⟩ := bd_s hf
    refine u_calli [(q_this, .inr (5, [.ref q_text, .int f_length, .ref q_kinds, .ref q_firsts, .ref q_seconds, .int f_clauses, .int q7.2, .int f_value])), (q_text, .inl (cy 0, 100, .inl f_text))] (va_runV (As := [.int 45]) (rest := []) ⟨hx, hb, hml, hown, htA⟩ (kX5_takeByte l G cy q_this q_text q_kinds q_firsts q_seconds s.heap.size f_length f_clauses f_spot f_value f_text 45 h7_59) (u_cwV htA a_ml_X5_45 pk_X5_takeByte ⟨Nat.le_of_ble_eq_true rfl, Nat.le_of_ble_eq_true rfl⟩) (u_preV hK hN hP hD [0, 1] rfl (by decide) 0 rfl rfl) rfl rfl hl.1 rfl (lv_room (Nat.le_of_ble_eq_true rfl)) dX5_takeNumber_7 ⟨Nat.zero_le _, Nat.zero_le _⟩) hP hD hS hA [0, 1] rfl [] 2 rfl rfl rfl (by decide) rfl (fun H locs hP hD hS => ?_)
    refine lv_if_eq (tgt := 17) hx hb dX5_takeNumber_10 (by decide) (fun c_60 => ?_) (fun c_60 => ?_)
    · have hf := ite_t c_60 hf
      refine lv_iconst (v := 0) hx hb dX5_takeNumber_17 (by decide) ?_
      refine lv_istore_n (lv' := [(3, .int 0), (0, .ref q_this), (1, .int p1), (2, .int p2)]) hx hb dX5_takeNumber_18 rfl hl (by decide) rfl (fun ls hl => ?_)
      refine lv_iconst (v := 0) hx hb dX5_takeNumber_19 (by decide) ?_
      refine lv_istore (lv' := [(4, .int 0), (3, .int 0), (0, .ref q_this), (1, .int p1), (2, .int p2)]) hx hb dX5_takeNumber_20 hl (by decide) rfl (fun ls hl => ?_)
      refine lv_iconst (v := 0) hx hb dX5_takeNumber_22 (by decide) ?_
      refine lv_istore (lv' := [(5, .int 0), (4, .int 0), (3, .int 0), (0, .ref q_this), (1, .int p1), (2, .int p2)]) hx hb dX5_takeNumber_23 hl (by decide) rfl (fun ls hl => ?_)
      exact wX5_takeNumber_25 C0 n _ _ _ _ _ _ _ _ _ hP hD hS (lv_sub hl [3, 4, 2, 1, 0] rfl) hf
    · have hf := ite_f c_60 hf
      refine lv_iconst (v := 1) hx hb dX5_takeNumber_13 (by decide) ?_
      refine lv_goto (tgt := 18) hx hb dX5_takeNumber_14 (by decide) ?_
      refine lv_istore_n (lv' := [(3, .int 1), (0, .ref q_this), (1, .int p1), (2, .int p2)]) hx hb dX5_takeNumber_18 rfl hl (by decide) rfl (fun ls hl => ?_)
      refine lv_iconst (v := 0) hx hb dX5_takeNumber_19 (by decide) ?_
      refine lv_istore (lv' := [(4, .int 0), (3, .int 1), (0, .ref q_this), (1, .int p1), (2, .int p2)]) hx hb dX5_takeNumber_20 hl (by decide) rfl (fun ls hl => ?_)
      refine lv_iconst (v := 0) hx hb dX5_takeNumber_22 (by decide) ?_
      refine lv_istore (lv' := [(5, .int 0), (4, .int 0), (3, .int 1), (0, .ref q_this), (1, .int p1), (2, .int p2)]) hx hb dX5_takeNumber_23 hl (by decide) rfl (fun ls hl => ?_)
      exact wX5_takeNumber_25 C0 n _ _ _ _ _ _ _ _ _ hP hD hS (lv_sub hl [3, 4, 2, 1, 0] rfl) hf
set_option maxRecDepth 100000 in
set_option maxHeartbeats 4000000 in
theorem kX5_takeTwo (l : Launch) (G : va_G) (cy : Nat → ClassId) (q_this : Nat) (q_text : Nat) (q_kinds : Nat) (q_firsts : Nat) (q_seconds : Nat) (sz : Nat) (f_length : Int32) (f_clauses : Int32) (f_spot : Int32) (f_value : Int32) (f_text : Nat → Int32) (f_firsts : Nat → Int32) (f_seconds : Nat → Int32) (p1 : Int32) (p2 : Int32) (p3 : Int32) (n : Nat) {o : Int32 × Int32 × Int32 × (Nat → Int32) × (Nat → Int32)} (hf : fX5_takeTwo n p1 p2 p3 f_length f_spot f_value f_text f_firsts f_seconds = some o) : Met l yX5_takeTwo (Cond.code yX5_takeTwo cX5_takeTwo 4 (some .boolean) :: AW) ({ frames := 3, cells := 0, slots := 0, locals := 67 } : Room) (va_Pc [.ref q_this, .int p1, .int p2, .int p3] (Wp G cy [(q_this, .inr (5, [.ref q_text, .int f_length, .ref q_kinds, .ref q_firsts, .ref q_seconds, .int f_clauses, .int f_spot, .int f_value])), (q_text, .inl (cy 0, 100, .inl f_text)), (q_firsts, .inl (cy 0, 12, .inl f_firsts)), (q_seconds, .inl (cy 0, 12, .inl f_seconds))] sz)) (va_Qi (fun r (_ : Unit) => r = o.1) (fun _ => Wq G cy (va_A [(q_this, .inr (5, [.ref q_text, .int f_length, .ref q_kinds, .ref q_firsts, .ref q_seconds, .int f_clauses, .int f_spot, .int f_value])), (q_text, .inl (cy 0, 100, .inl f_text)), (q_firsts, .inl (cy 0, 12, .inl f_firsts)), (q_seconds, .inl (cy 0, 12, .inl f_seconds))] sz) [(q_this, .inr (5, [.ref q_text, .int f_length, .ref q_kinds, .ref q_firsts, .ref q_seconds, .int f_clauses, .int o.2.1, .int o.2.2.1])), (q_text, .inl (cy 0, 100, .inl f_text)), (q_firsts, .inl (cy 0, 12, .inl o.2.2.2.1)), (q_seconds, .inl (cy 0, 12, .inl o.2.2.2.2))]) (va_A [(q_this, .inr (5, [.ref q_text, .int f_length, .ref q_kinds, .ref q_firsts, .ref q_seconds, .int f_clauses, .int f_spot, .int f_value])), (q_text, .inl (cy 0, 100, .inl f_text)), (q_firsts, .inl (cy 0, 12, .inl f_firsts)), (q_seconds, .inl (cy 0, 12, .inl f_seconds))] sz)) 0 0 (va_A [(q_this, .inr (5, [.ref q_text, .int f_length, .ref q_kinds, .ref q_firsts, .ref q_seconds, .int f_clauses, .int f_spot, .int f_value])), (q_text, .inl (cy 0, 100, .inl f_text)), (q_firsts, .inl (cy 0, 12, .inl f_firsts)), (q_seconds, .inl (cy 0, 12, .inl f_seconds))] sz) := by
  refine Met.ofW (cc := cX5_takeTwo) (maxL := 4) (ret := (some .boolean)) (by decide) rfl ?_
  intro p e s m args below meth c s₁ B hml hv
  obtain ⟨rfl, hsz, hP, hK, hD0, hN⟩ := hv
  have hx := B.exec
  have hb := B.bytes
  have hr := B.returns
  have htA : ∀ w ∈ AW, w.before _ s = true := fun w h => atoms_spec (ws := Cond.code yX5_takeTwo cX5_takeTwo 4 (some .boolean) :: AW) B.pre w (List.mem_cons_of_mem _ h)
  have hown : s.vm.findClass RX5 = some m.cls := findClass_of_methodNamed B.named
  have hlocks := B.notSynchronized
  subst hsz
  have hD := hD0.self (sz := s.heap.size)
  generalize hAe : va_A [(q_this, .inr (5, [.ref q_text, .int f_length, .ref q_kinds, .ref q_firsts, .ref q_seconds, .int f_clauses, .int f_spot, .int f_value])), (q_text, .inl (cy 0, 100, .inl f_text)), (q_firsts, .inl (cy 0, 12, .inl f_firsts)), (q_seconds, .inl (cy 0, 12, .inl f_seconds))] s.heap.size = A at hD ⊢
  have hA : ∀ q : Nat, s.heap.size ≤ q → A q := fun q h => by rw [← hAe]; exact Or.inr h
  have hS : va_S A s.heap s.heap [] := va_S.rf
  have hl := lv_entry ([.ref q_this, .int p1, .int p2, .int p3]) (n := 4) (Nat.le_of_ble_eq_true rfl)
  rw [lg_entry_eq]
  generalize (lg_sl ([.ref q_this, .int p1, .int p2, .int p3]) ++ List.replicate (4 - (lg_sl ([.ref q_this, .int p1, .int p2, .int p3])).length) Slot.unset).toArray = ls at hl ⊢
  have hl : lv_has ls 4 [(0, .ref q_this), (1, .int p1), (2, .int p2), (3, .int p3)] := hl
  have hP : va_P G vwCl [(q_this, .inr (5, [.ref q_text, .int f_length, .ref q_kinds, .ref q_firsts, .ref q_seconds, .int f_clauses, .int f_spot, .int f_value])), (q_text, .inl (cy 0, 100, .inl f_text)), (q_firsts, .inl (cy 0, 12, .inl f_firsts)), (q_seconds, .inl (cy 0, 12, .inl f_seconds))] s.heap := hP
  have hf : ((fX5_takeByte 32 f_length f_spot f_text).bind fun q3 => ((if q3.1 = 0 then some (0, q3.2, f_value, f_firsts, f_seconds) else (fX5_takeNumber n p2 p3 f_length q3.2 f_value f_text).bind fun q12 => ((if q12.1 = 0 then some (0, q12.2.1, q12.2.2, f_firsts, f_seconds) else ck p1 12 ((fX5_takeByte 32 f_length q12.2.1 f_text).bind fun q33 => ((if q33.1 = 0 then some (0, q33.2, q12.2.2, (upd f_firsts (Int32.toNatClampNeg p1) q12.2.2), f_seconds) else (fX5_takeNumber n p2 p3 f_length q33.2 q12.2.2 f_text).bind fun q42 => ((if q42.1 = 0 then some (0, q42.2.1, q42.2.2, (upd f_firsts (Int32.toNatClampNeg p1) q12.2.2), f_seconds) else ck p1 12 (some (1, q42.2.1, q42.2.2, (upd f_firsts (Int32.toNatClampNeg p1) q12.2.2), (upd f_seconds (Int32.toNatClampNeg p1) q42.2.2)))))))))))) : Option (Int32 × Int32 × Int32 × (Nat → Int32) × (Nat → Int32))) = some o := hf
  refine lv_aload_n hx hb dX5_takeTwo_0 rfl (lv_at hl 0 rfl) ?_
  refine lv_bipush (v := 32) hx hb dX5_takeTwo_1 (by decide) ?_
  obtain ⟨q3, h3_41, hf⟩ := bd_s hf
  refine u_calli [(q_this, .inr (5, [.ref q_text, .int f_length, .ref q_kinds, .ref q_firsts, .ref q_seconds, .int f_clauses, .int q3.2, .int f_value])), (q_text, .inl (cy 0, 100, .inl f_text)), (q_firsts, .inl (cy 0, 12, .inl f_firsts)), (q_seconds, .inl (cy 0, 12, .inl f_seconds))] (va_runV (As := [.int 32]) (rest := []) ⟨hx, hb, hml, hown, htA⟩ (kX5_takeByte l G cy q_this q_text q_kinds q_firsts q_seconds s.heap.size f_length f_clauses f_spot f_value f_text 32 h3_41) (u_cwV htA a_ml_X5_45 pk_X5_takeByte ⟨Nat.le_of_ble_eq_true rfl, Nat.le_of_ble_eq_true rfl⟩) (u_preV hK hN hP hD [0, 1] rfl (by decide) 0 rfl rfl) rfl rfl hl.1 rfl (lv_room (Nat.le_of_ble_eq_true rfl)) dX5_takeTwo_3 ⟨Nat.zero_le _, Nat.zero_le _⟩) hP hD hS hA [0, 1] rfl [2, 3] 4 rfl rfl rfl (by decide) rfl (fun H locs hP hD hS => ?_)
  refine lv_if_eq (tgt := 18) hx hb dX5_takeTwo_6 (by decide) (fun c_42 => ?_) (fun c_42 => ?_)
  · have hf := ite_t c_42 hf
    refine lv_iconst (v := 0) hx hb dX5_takeTwo_18 (by decide) ?_
    have ho := Option.some.inj hf
    subst ho
    exact W.zret (v := 0) hx hb hr rfl (fun t ht hW => ⟨⟨_, (), rfl, rfl, by rw [ht]; exact hP, va_K.moved hW.alike hK, hD⟩, hS.F ht⟩) hS.2.2 dX5_takeTwo_19
  · have hf := ite_f c_42 hf
    refine lv_aload_n hx hb dX5_takeTwo_9 rfl (lv_at hl 0 rfl) ?_
    refine lv_iload_n hx hb dX5_takeTwo_10 rfl (lv_at hl 2 rfl) ?_
    refine lv_iload_n hx hb dX5_takeTwo_11 rfl (lv_at hl 3 rfl) ?_
    obtain ⟨q12, h12_43, hf⟩ := bd_s hf
    refine u_calli [(q_this, .inr (5, [.ref q_text, .int f_length, .ref q_kinds, .ref q_firsts, .ref q_seconds, .int f_clauses, .int q12.2.1, .int q12.2.2])), (q_text, .inl (cy 0, 100, .inl f_text)), (q_firsts, .inl (cy 0, 12, .inl f_firsts)), (q_seconds, .inl (cy 0, 12, .inl f_seconds))] (va_runV (As := [.int p2, .int p3]) (rest := []) ⟨hx, hb, hml, hown, htA⟩ (kX5_takeNumber l G cy q_this q_text q_kinds q_firsts q_seconds H.size f_length f_clauses q3.2 f_value f_text p2 p3 n h12_43) (u_cwV htA a_ml_X5_91 pk_X5_takeNumber ⟨Nat.le_of_ble_eq_true rfl, Nat.le_of_ble_eq_true rfl⟩) (u_preV hK hN hP hD [0, 1] rfl (by decide) 0 rfl rfl) rfl rfl hl.1 rfl (lv_room (Nat.le_of_ble_eq_true rfl)) dX5_takeTwo_12 ⟨Nat.zero_le _, Nat.zero_le _⟩) hP hD hS hA [0, 1] rfl [2, 3] 4 rfl rfl rfl (by decide) rfl (fun H locs hP hD hS => ?_)
    refine lv_if_ne (tgt := 20) hx hb dX5_takeTwo_15 (by decide) (fun c_44 => ?_) (fun c_44 => ?_)
    · have hf := ite_f c_44 hf
      refine lv_aload_n hx hb dX5_takeTwo_20 rfl (lv_at hl 0 rfl) ?_
      refine va_get (D := G) (ci := 5) (v := .ref q_firsts) (C := RX5) (T := TX5) (N := 8) hx hb htA lyX5 hown hK hP 0 rfl rfl 3 (by decide) (htA _ a_fl_X5_22) (fun _ h9 => h9) rfl dX5_takeTwo_21 ?_
      refine lv_iload_n hx hb dX5_takeTwo_24 rfl (lv_at hl 1 rfl) ?_
      refine lv_aload_n hx hb dX5_takeTwo_25 rfl (lv_at hl 0 rfl) ?_
      refine va_get (D := G) (ci := 5) (v := .int q12.2.2) (C := RX5) (T := TX5) (N := 8) hx hb htA lyX5 hown hK hP 0 rfl rfl 7 (by decide) (htA _ a_fl_X5_34) (fun _ h9 => h9) rfl dX5_takeTwo_26 ?_
      obtain ⟨i_45, hf⟩ := ck_s hf
      refine va_iast (D := G) hx hb hK hP hD hS 2 0 rfl rfl i_45 dX5_takeTwo_29 (fun H locs hP hD hS => ?_)
      have hP : va_P G vwCl [(q_this, .inr (5, [.ref q_text, .int f_length, .ref q_kinds, .ref q_firsts, .ref q_seconds, .int f_clauses, .int q12.2.1, .int q12.2.2])), (q_text, .inl (cy 0, 100, .inl f_text)), (q_firsts, .inl (cy 0, 12, .inl (upd f_firsts (Int32.toNatClampNeg p1) q12.2.2))), (q_seconds, .inl (cy 0, 12, .inl f_seconds))] H := hP
      have hD : va_D A [(q_this, .inr (5, [.ref q_text, .int f_length, .ref q_kinds, .ref q_firsts, .ref q_seconds, .int f_clauses, .int q12.2.1, .int q12.2.2])), (q_text, .inl (cy 0, 100, .inl f_text)), (q_firsts, .inl (cy 0, 12, .inl (upd f_firsts (Int32.toNatClampNeg p1) q12.2.2))), (q_seconds, .inl (cy 0, 12, .inl f_seconds))] := hD
      refine lv_aload_n hx hb dX5_takeTwo_30 rfl (lv_at hl 0 rfl) ?_
      refine lv_bipush (v := 32) hx hb dX5_takeTwo_31 (by decide) ?_
      obtain ⟨q33, h33_46, hf⟩ := bd_s hf
      refine u_calli [(q_this, .inr (5, [.ref q_text, .int f_length, .ref q_kinds, .ref q_firsts, .ref q_seconds, .int f_clauses, .int q33.2, .int q12.2.2])), (q_text, .inl (cy 0, 100, .inl f_text)), (q_firsts, .inl (cy 0, 12, .inl (upd f_firsts (Int32.toNatClampNeg p1) q12.2.2))), (q_seconds, .inl (cy 0, 12, .inl f_seconds))] (va_runV (As := [.int 32]) (rest := []) ⟨hx, hb, hml, hown, htA⟩ (kX5_takeByte l G cy q_this q_text q_kinds q_firsts q_seconds H.size f_length f_clauses q12.2.1 q12.2.2 f_text 32 h33_46) (u_cwV htA a_ml_X5_45 pk_X5_takeByte ⟨Nat.le_of_ble_eq_true rfl, Nat.le_of_ble_eq_true rfl⟩) (u_preV hK hN hP hD [0, 1] rfl (by decide) 0 rfl rfl) rfl rfl hl.1 rfl (lv_room (Nat.le_of_ble_eq_true rfl)) dX5_takeTwo_33 ⟨Nat.zero_le _, Nat.zero_le _⟩) hP hD hS hA [0, 1] rfl [2, 3] 4 rfl rfl rfl (by decide) rfl (fun H locs hP hD hS => ?_)
      refine lv_if_eq (tgt := 48) hx hb dX5_takeTwo_36 (by decide) (fun c_47 => ?_) (fun c_47 => ?_)
      · have hf := ite_t c_47 hf
        refine lv_iconst (v := 0) hx hb dX5_takeTwo_48 (by decide) ?_
        have ho := Option.some.inj hf
        subst ho
        exact W.zret (v := 0) hx hb hr rfl (fun t ht hW => ⟨⟨_, (), rfl, rfl, by rw [ht]; exact hP, va_K.moved hW.alike hK, hD⟩, hS.F ht⟩) hS.2.2 dX5_takeTwo_49
      · have hf := ite_f c_47 hf
        refine lv_aload_n hx hb dX5_takeTwo_39 rfl (lv_at hl 0 rfl) ?_
        refine lv_iload_n hx hb dX5_takeTwo_40 rfl (lv_at hl 2 rfl) ?_
        refine lv_iload_n hx hb dX5_takeTwo_41 rfl (lv_at hl 3 rfl) ?_
        obtain ⟨q42, h42_48, hf⟩ := bd_s hf
        refine u_calli [(q_this, .inr (5, [.ref q_text, .int f_length, .ref q_kinds, .ref q_firsts, .ref q_seconds, .int f_clauses, .int q42.2.1, .int q42.2.2])), (q_text, .inl (cy 0, 100, .inl f_text)), (q_firsts, .inl (cy 0, 12, .inl (upd f_firsts (Int32.toNatClampNeg p1) q12.2.2))), (q_seconds, .inl (cy 0, 12, .inl f_seconds))] (va_runV (As := [.int p2, .int p3]) (rest := []) ⟨hx, hb, hml, hown, htA⟩ (kX5_takeNumber l G cy q_this q_text q_kinds q_firsts q_seconds H.size f_length f_clauses q33.2 q12.2.2 f_text p2 p3 n h42_48) (u_cwV htA a_ml_X5_91 pk_X5_takeNumber ⟨Nat.le_of_ble_eq_true rfl, Nat.le_of_ble_eq_true rfl⟩) (u_preV hK hN hP hD [0, 1] rfl (by decide) 0 rfl rfl) rfl rfl hl.1 rfl (lv_room (Nat.le_of_ble_eq_true rfl)) dX5_takeTwo_42 ⟨Nat.zero_le _, Nat.zero_le _⟩) hP hD hS hA [0, 1] rfl [2, 3] 4 rfl rfl rfl (by decide) rfl (fun H locs hP hD hS => ?_)
        refine lv_if_ne (tgt := 50) hx hb dX5_takeTwo_45 (by decide) (fun c_49 => ?_) (fun c_49 => ?_)
        · have hf := ite_f c_49 hf
          refine lv_aload_n hx hb dX5_takeTwo_50 rfl (lv_at hl 0 rfl) ?_
          refine va_get (D := G) (ci := 5) (v := .ref q_seconds) (C := RX5) (T := TX5) (N := 8) hx hb htA lyX5 hown hK hP 0 rfl rfl 4 (by decide) (htA _ a_fl_X5_25) (fun _ h9 => h9) rfl dX5_takeTwo_51 ?_
          refine lv_iload_n hx hb dX5_takeTwo_54 rfl (lv_at hl 1 rfl) ?_
          refine lv_aload_n hx hb dX5_takeTwo_55 rfl (lv_at hl 0 rfl) ?_
          refine va_get (D := G) (ci := 5) (v := .int q42.2.2) (C := RX5) (T := TX5) (N := 8) hx hb htA lyX5 hown hK hP 0 rfl rfl 7 (by decide) (htA _ a_fl_X5_34) (fun _ h9 => h9) rfl dX5_takeTwo_56 ?_
          obtain ⟨i_50, hf⟩ := ck_s hf
          refine va_iast (D := G) hx hb hK hP hD hS 3 0 rfl rfl i_50 dX5_takeTwo_59 (fun H locs hP hD hS => ?_)
          have hP : va_P G vwCl [(q_this, .inr (5, [.ref q_text, .int f_length, .ref q_kinds, .ref q_firsts, .ref q_seconds, .int f_clauses, .int q42.2.1, .int q42.2.2])), (q_text, .inl (cy 0, 100, .inl f_text)), (q_firsts, .inl (cy 0, 12, .inl (upd f_firsts (Int32.toNatClampNeg p1) q12.2.2))), (q_seconds, .inl (cy 0, 12, .inl (upd f_seconds (Int32.toNatClampNeg p1) q42.2.2)))] H := hP
          have hD : va_D A [(q_this, .inr (5, [.ref q_text, .int f_length, .ref q_kinds, .ref q_firsts, .ref q_seconds, .int f_clauses, .int q42.2.1, .int q42.2.2])), (q_text, .inl (cy 0, 100, .inl f_text)), (q_firsts, .inl (cy 0, 12, .inl (upd f_firsts (Int32.toNatClampNeg p1) q12.2.2))), (q_seconds, .inl (cy 0, 12, .inl (upd f_seconds (Int32.toNatClampNeg p1) q42.2.2)))] := hD
          refine lv_iconst (v := 1) hx hb dX5_takeTwo_60 (by decide) ?_
          have ho := Option.some.inj hf
          subst ho
          exact W.zret (v := 1) hx hb hr rfl (fun t ht hW => ⟨⟨_, (), rfl, rfl, by rw [ht]; exact hP, va_K.moved hW.alike hK, hD⟩, hS.F ht⟩) hS.2.2 dX5_takeTwo_61
        · have hf := ite_t c_49 hf
          refine lv_iconst (v := 0) hx hb dX5_takeTwo_48 (by decide) ?_
          have ho := Option.some.inj hf
          subst ho
          exact W.zret (v := 0) hx hb hr rfl (fun t ht hW => ⟨⟨_, (), rfl, rfl, by rw [ht]; exact hP, va_K.moved hW.alike hK, hD⟩, hS.F ht⟩) hS.2.2 dX5_takeTwo_49
    · have hf := ite_t c_44 hf
      refine lv_iconst (v := 0) hx hb dX5_takeTwo_18 (by decide) ?_
      have ho := Option.some.inj hf
      subst ho
      exact W.zret (v := 0) hx hb hr rfl (fun t ht hW => ⟨⟨_, (), rfl, rfl, by rw [ht]; exact hP, va_K.moved hW.alike hK, hD⟩, hS.F ht⟩) hS.2.2 dX5_takeTwo_19
set_option maxRecDepth 100000 in
set_option maxHeartbeats 4000000 in
theorem wX5_takeSigns_53 {p : Program} {l : Launch} {e : Env} {s : State} {m : MethodId} {args : Array Value} {below : List Frame} {meth : Method} {c : Code} {G : va_G} {cy : Nat → ClassId} {A : Nat → Prop} {q_this : Nat} {q_text : Nat} {q_kinds : Nat} {q_firsts : Nat} {q_seconds : Nat} {f_length : Int32} {f_clauses : Int32} {f_value : Int32} {f_text : Nat → Int32} {n : Nat} {o : Int32 × Int32 × (Nat → Int32) × (Nat → Int32)} (C : Cx p s m args meth c cX5_takeSigns 3 (some .boolean) RX5 G cy A) : ∀ (v1 : Int32) (v2 : Int32) (f_spot : Int32) (f_firsts : Nat → Int32) (f_seconds : Nat → Int32) (H : Heap) (locs : List Loc) (ls : Array Slot), va_P G vwCl [(q_this, .inr (5, [.ref q_text, .int f_length, .ref q_kinds, .ref q_firsts, .ref q_seconds, .int f_clauses, .int f_spot, .int f_value])), (q_text, .inl (cy 0, 100, .inl f_text)), (q_firsts, .inl (cy 0, 12, .inl f_firsts)), (q_seconds, .inl (cy 0, 12, .inl f_seconds))] H → va_D A [(q_this, .inr (5, [.ref q_text, .int f_length, .ref q_kinds, .ref q_firsts, .ref q_seconds, .int f_clauses, .int f_spot, .int f_value])), (q_text, .inl (cy 0, 100, .inl f_text)), (q_firsts, .inl (cy 0, 12, .inl f_firsts)), (q_seconds, .inl (cy 0, 12, .inl f_seconds))] → va_S A s.heap H locs → lv_has ls 3 [(0, .ref q_this), (1, .int v1), (2, .int v2)] → jX5_takeSigns_53 n v1 v2 f_spot f_firsts f_seconds = some o → W p l e (headSpec (Cond.code yX5_takeSigns cX5_takeSigns 3 (some .boolean) :: AW) ({ frames := 2, cells := 0, slots := 0, locals := 42 } : Room)).room s m args below meth c H locs 0 0 (MQ below (va_Qi (fun r (_ : Unit) => r = o.1) (fun _ => Wq G cy A [(q_this, .inr (5, [.ref q_text, .int f_length, .ref q_kinds, .ref q_firsts, .ref q_seconds, .int f_clauses, .int o.2.1, .int f_value])), (q_text, .inl (cy 0, 100, .inl f_text)), (q_firsts, .inl (cy 0, 12, .inl o.2.2.1)), (q_seconds, .inl (cy 0, 12, .inl o.2.2.2))]) A) args s 0 0 A) (F0 m 53 ls []) := by
  have C0 := C
  obtain ⟨hx, hb, hr, hml, htA, hown, hK, hN, hA, hlocks⟩ := C
  intro v1 v2 f_spot f_firsts f_seconds H locs ls hP hD hS hl hf
  have hf : (ck v1 12 ((if v2 ≤ 0 then some (0, f_spot, f_firsts, (upd f_seconds (Int32.toNatClampNeg v1) v2)) else some (1, f_spot, f_firsts, (upd f_seconds (Int32.toNatClampNeg v1) v2)))) : Option (Int32 × Int32 × (Nat → Int32) × (Nat → Int32))) = some o := hf
  refine lv_aload_n hx hb dX5_takeSigns_53 rfl (lv_at hl 0 rfl) ?_
  refine va_get (D := G) (ci := 5) (v := .ref q_seconds) (C := RX5) (T := TX5) (N := 8) hx hb htA lyX5 hown hK hP 0 rfl rfl 4 (by decide) (htA _ a_fl_X5_25) (fun _ h9 => h9) rfl dX5_takeSigns_54 ?_
  refine lv_iload_n hx hb dX5_takeSigns_57 rfl (lv_at hl 1 rfl) ?_
  refine lv_iload_n hx hb dX5_takeSigns_58 rfl (lv_at hl 2 rfl) ?_
  obtain ⟨i_41, hf⟩ := ck_s hf
  refine va_iast (D := G) hx hb hK hP hD hS 3 0 rfl rfl i_41 dX5_takeSigns_59 (fun H locs hP hD hS => ?_)
  have hP : va_P G vwCl [(q_this, .inr (5, [.ref q_text, .int f_length, .ref q_kinds, .ref q_firsts, .ref q_seconds, .int f_clauses, .int f_spot, .int f_value])), (q_text, .inl (cy 0, 100, .inl f_text)), (q_firsts, .inl (cy 0, 12, .inl f_firsts)), (q_seconds, .inl (cy 0, 12, .inl (upd f_seconds (Int32.toNatClampNeg v1) v2)))] H := hP
  have hD : va_D A [(q_this, .inr (5, [.ref q_text, .int f_length, .ref q_kinds, .ref q_firsts, .ref q_seconds, .int f_clauses, .int f_spot, .int f_value])), (q_text, .inl (cy 0, 100, .inl f_text)), (q_firsts, .inl (cy 0, 12, .inl f_firsts)), (q_seconds, .inl (cy 0, 12, .inl (upd f_seconds (Int32.toNatClampNeg v1) v2)))] := hD
  refine lv_iload_n hx hb dX5_takeSigns_60 rfl (lv_at hl 2 rfl) ?_
  refine lv_if_le (tgt := 68) hx hb dX5_takeSigns_61 (by decide) (fun c_42 => ?_) (fun c_42 => ?_)
  · have hf := ite_t c_42 hf
    refine lv_iconst (v := 0) hx hb dX5_takeSigns_68 (by decide) ?_
    have ho := Option.some.inj hf
    subst ho
    exact W.zret (v := 0) hx hb hr rfl (fun t ht hW => ⟨⟨_, (), rfl, rfl, by rw [ht]; exact hP, va_K.moved hW.alike hK, hD⟩, hS.F ht⟩) hS.2.2 dX5_takeSigns_69
  · have hf := ite_f c_42 hf
    refine lv_iconst (v := 1) hx hb dX5_takeSigns_64 (by decide) ?_
    refine lv_goto (tgt := 69) hx hb dX5_takeSigns_65 (by decide) ?_
    have ho := Option.some.inj hf
    subst ho
    exact W.zret (v := 1) hx hb hr rfl (fun t ht hW => ⟨⟨_, (), rfl, rfl, by rw [ht]; exact hP, va_K.moved hW.alike hK, hD⟩, hS.F ht⟩) hS.2.2 dX5_takeSigns_69
set_option maxRecDepth 100000 in
set_option maxHeartbeats 4000000 in
theorem wX5_takeSigns_23 {p : Program} {l : Launch} {e : Env} {s : State} {m : MethodId} {args : Array Value} {below : List Frame} {meth : Method} {c : Code} {G : va_G} {cy : Nat → ClassId} {A : Nat → Prop} {q_this : Nat} {q_text : Nat} {q_kinds : Nat} {q_firsts : Nat} {q_seconds : Nat} {f_length : Int32} {f_clauses : Int32} {f_value : Int32} {f_text : Nat → Int32} {n : Nat} {o : Int32 × Int32 × (Nat → Int32) × (Nat → Int32)} (C : Cx p s m args meth c cX5_takeSigns 3 (some .boolean) RX5 G cy A) : ∀ k23 : Nat, ∀ (v1 : Int32) (v2 : Int32) (f_spot : Int32) (f_firsts : Nat → Int32) (f_seconds : Nat → Int32) (H : Heap) (locs : List Loc) (ls : Array Slot), va_P G vwCl [(q_this, .inr (5, [.ref q_text, .int f_length, .ref q_kinds, .ref q_firsts, .ref q_seconds, .int f_clauses, .int f_spot, .int f_value])), (q_text, .inl (cy 0, 100, .inl f_text)), (q_firsts, .inl (cy 0, 12, .inl f_firsts)), (q_seconds, .inl (cy 0, 12, .inl f_seconds))] H → va_D A [(q_this, .inr (5, [.ref q_text, .int f_length, .ref q_kinds, .ref q_firsts, .ref q_seconds, .int f_clauses, .int f_spot, .int f_value])), (q_text, .inl (cy 0, 100, .inl f_text)), (q_firsts, .inl (cy 0, 12, .inl f_firsts)), (q_seconds, .inl (cy 0, 12, .inl f_seconds))] → va_S A s.heap H locs → lv_has ls 3 [(0, .ref q_this), (1, .int v1), (2, .int v2)] → lX5_takeSigns_23 n f_length f_text k23 v1 v2 f_spot f_firsts f_seconds = some o → W p l e (headSpec (Cond.code yX5_takeSigns cX5_takeSigns 3 (some .boolean) :: AW) ({ frames := 2, cells := 0, slots := 0, locals := 42 } : Room)).room s m args below meth c H locs 0 0 (MQ below (va_Qi (fun r (_ : Unit) => r = o.1) (fun _ => Wq G cy A [(q_this, .inr (5, [.ref q_text, .int f_length, .ref q_kinds, .ref q_firsts, .ref q_seconds, .int f_clauses, .int o.2.1, .int f_value])), (q_text, .inl (cy 0, 100, .inl f_text)), (q_firsts, .inl (cy 0, 12, .inl o.2.2.1)), (q_seconds, .inl (cy 0, 12, .inl o.2.2.2))]) A) args s 0 0 A) (F0 m 23 ls []) := by
  have C0 := C
  obtain ⟨hx, hb, hr, hml, htA, hown, hK, hN, hA, hlocks⟩ := C
  intro k23
  induction k23 with
  | zero =>
    intro v1 v2 f_spot f_firsts f_seconds H locs ls hP hD hS hl hf
    exact no_s hf
  | succ k23 ih23 =>
    intro v1 v2 f_spot f_firsts f_seconds H locs ls hP hD hS hl hf
    have hf : ((if 20 ≤ v2 then jX5_takeSigns_53 n v1 v2 f_spot f_firsts f_seconds else (fX5_takeByte 48 f_length f_spot f_text).bind fun q32 => ((if q32.1 = 0 then (fX5_takeByte 49 f_length q32.2 f_text).bind fun q41 => ((if q41.1 = 0 then jX5_takeSigns_53 n v1 v2 q41.2 f_firsts f_seconds else lX5_takeSigns_23 n f_length f_text k23 v1 (v2 + 1) q41.2 f_firsts f_seconds)) else lX5_takeSigns_23 n f_length f_text k23 v1 (v2 + 1) q32.2 f_firsts f_seconds))) : Option (Int32 × Int32 × (Nat → Int32) × (Nat → Int32))) = some o := hf
    refine lv_iload_n hx hb dX5_takeSigns_23 rfl (lv_at hl 2 rfl) ?_
    refine lv_bipush (v := 20) hx hb dX5_takeSigns_24 (by decide) ?_
    refine lv_icmp_ge (tgt := 53) hx hb dX5_takeSigns_26 (by decide) (fun c_43 => ?_) (fun c_43 => ?_)
    · have hf := ite_t c_43 hf
      exact wX5_takeSigns_53 C0 _ _ _ _ _ _ _ _ hP hD hS (lv_sub hl [0, 1, 2] rfl) hf
    · have hf := ite_f c_43 hf
      refine lv_aload_n hx hb dX5_takeSigns_29 rfl (lv_at hl 0 rfl) ?_
      refine lv_bipush (v := 48) hx hb dX5_takeSigns_30 (by decide) ?_
      obtain ⟨q32, h32_44, hf⟩ := bd_s hf
      refine u_calli [(q_this, .inr (5, [.ref q_text, .int f_length, .ref q_kinds, .ref q_firsts, .ref q_seconds, .int f_clauses, .int q32.2, .int f_value])), (q_text, .inl (cy 0, 100, .inl f_text)), (q_firsts, .inl (cy 0, 12, .inl f_firsts)), (q_seconds, .inl (cy 0, 12, .inl f_seconds))] (va_runV (As := [.int 48]) (rest := []) ⟨hx, hb, hml, hown, htA⟩ (kX5_takeByte l G cy q_this q_text q_kinds q_firsts q_seconds H.size f_length f_clauses f_spot f_value f_text 48 h32_44) (u_cwV htA a_ml_X5_45 pk_X5_takeByte ⟨Nat.le_of_ble_eq_true rfl, Nat.le_of_ble_eq_true rfl⟩) (u_preV hK hN hP hD [0, 1] rfl (by decide) 0 rfl rfl) rfl rfl hl.1 rfl (lv_room (Nat.le_of_ble_eq_true rfl)) dX5_takeSigns_32 ⟨Nat.zero_le _, Nat.zero_le _⟩) hP hD hS hA [0, 1] rfl [2, 3] 4 rfl rfl rfl (by decide) rfl (fun H locs hP hD hS => ?_)
      refine lv_if_ne (tgt := 47) hx hb dX5_takeSigns_35 (by decide) (fun c_45 => ?_) (fun c_45 => ?_)
      · have hf := ite_f c_45 hf
        refine lv_iinc (v := (v2 + 1)) (lv' := [(2, .int (v2 + 1)), (0, .ref q_this), (1, .int v1)]) hx hb dX5_takeSigns_47 hl (k := 2) rfl rfl (by decide) rfl (fun ls hl => ?_)
        refine lv_goto (tgt := 23) hx hb dX5_takeSigns_50 (by decide) ?_
        exact ih23 _ _ _ _ _ _ _ _ hP hD hS (lv_sub hl [1, 2, 0] rfl) hf
      · have hf := ite_t c_45 hf
        refine lv_aload_n hx hb dX5_takeSigns_38 rfl (lv_at hl 0 rfl) ?_
        refine lv_bipush (v := 49) hx hb dX5_takeSigns_39 (by decide) ?_
        obtain ⟨q41, h41_46, hf⟩ := bd_s hf
        refine u_calli [(q_this, .inr (5, [.ref q_text, .int f_length, .ref q_kinds, .ref q_firsts, .ref q_seconds, .int f_clauses, .int q41.2, .int f_value])), (q_text, .inl (cy 0, 100, .inl f_text)), (q_firsts, .inl (cy 0, 12, .inl f_firsts)), (q_seconds, .inl (cy 0, 12, .inl f_seconds))] (va_runV (As := [.int 49]) (rest := []) ⟨hx, hb, hml, hown, htA⟩ (kX5_takeByte l G cy q_this q_text q_kinds q_firsts q_seconds H.size f_length f_clauses q32.2 f_value f_text 49 h41_46) (u_cwV htA a_ml_X5_45 pk_X5_takeByte ⟨Nat.le_of_ble_eq_true rfl, Nat.le_of_ble_eq_true rfl⟩) (u_preV hK hN hP hD [0, 1] rfl (by decide) 0 rfl rfl) rfl rfl hl.1 rfl (lv_room (Nat.le_of_ble_eq_true rfl)) dX5_takeSigns_41 ⟨Nat.zero_le _, Nat.zero_le _⟩) hP hD hS hA [0, 1] rfl [2, 3] 4 rfl rfl rfl (by decide) rfl (fun H locs hP hD hS => ?_)
        refine lv_if_eq (tgt := 53) hx hb dX5_takeSigns_44 (by decide) (fun c_47 => ?_) (fun c_47 => ?_)
        · have hf := ite_t c_47 hf
          exact wX5_takeSigns_53 C0 _ _ _ _ _ _ _ _ hP hD hS (lv_sub hl [0, 1, 2] rfl) hf
        · have hf := ite_f c_47 hf
          refine lv_iinc (v := (v2 + 1)) (lv' := [(2, .int (v2 + 1)), (0, .ref q_this), (1, .int v1)]) hx hb dX5_takeSigns_47 hl (k := 2) rfl rfl (by decide) rfl (fun ls hl => ?_)
          refine lv_goto (tgt := 23) hx hb dX5_takeSigns_50 (by decide) ?_
          exact ih23 _ _ _ _ _ _ _ _ hP hD hS (lv_sub hl [1, 2, 0] rfl) hf
set_option maxRecDepth 100000 in
set_option maxHeartbeats 4000000 in
theorem kX5_takeSigns (l : Launch) (G : va_G) (cy : Nat → ClassId) (q_this : Nat) (q_text : Nat) (q_kinds : Nat) (q_firsts : Nat) (q_seconds : Nat) (sz : Nat) (f_length : Int32) (f_clauses : Int32) (f_spot : Int32) (f_value : Int32) (f_text : Nat → Int32) (f_firsts : Nat → Int32) (f_seconds : Nat → Int32) (p1 : Int32) (n : Nat) {o : Int32 × Int32 × (Nat → Int32) × (Nat → Int32)} (hf : fX5_takeSigns n p1 f_length f_spot f_text f_firsts f_seconds = some o) : Met l yX5_takeSigns (Cond.code yX5_takeSigns cX5_takeSigns 3 (some .boolean) :: AW) ({ frames := 2, cells := 0, slots := 0, locals := 42 } : Room) (va_Pc [.ref q_this, .int p1] (Wp G cy [(q_this, .inr (5, [.ref q_text, .int f_length, .ref q_kinds, .ref q_firsts, .ref q_seconds, .int f_clauses, .int f_spot, .int f_value])), (q_text, .inl (cy 0, 100, .inl f_text)), (q_firsts, .inl (cy 0, 12, .inl f_firsts)), (q_seconds, .inl (cy 0, 12, .inl f_seconds))] sz)) (va_Qi (fun r (_ : Unit) => r = o.1) (fun _ => Wq G cy (va_A [(q_this, .inr (5, [.ref q_text, .int f_length, .ref q_kinds, .ref q_firsts, .ref q_seconds, .int f_clauses, .int f_spot, .int f_value])), (q_text, .inl (cy 0, 100, .inl f_text)), (q_firsts, .inl (cy 0, 12, .inl f_firsts)), (q_seconds, .inl (cy 0, 12, .inl f_seconds))] sz) [(q_this, .inr (5, [.ref q_text, .int f_length, .ref q_kinds, .ref q_firsts, .ref q_seconds, .int f_clauses, .int o.2.1, .int f_value])), (q_text, .inl (cy 0, 100, .inl f_text)), (q_firsts, .inl (cy 0, 12, .inl o.2.2.1)), (q_seconds, .inl (cy 0, 12, .inl o.2.2.2))]) (va_A [(q_this, .inr (5, [.ref q_text, .int f_length, .ref q_kinds, .ref q_firsts, .ref q_seconds, .int f_clauses, .int f_spot, .int f_value])), (q_text, .inl (cy 0, 100, .inl f_text)), (q_firsts, .inl (cy 0, 12, .inl f_firsts)), (q_seconds, .inl (cy 0, 12, .inl f_seconds))] sz)) 0 0 (va_A [(q_this, .inr (5, [.ref q_text, .int f_length, .ref q_kinds, .ref q_firsts, .ref q_seconds, .int f_clauses, .int f_spot, .int f_value])), (q_text, .inl (cy 0, 100, .inl f_text)), (q_firsts, .inl (cy 0, 12, .inl f_firsts)), (q_seconds, .inl (cy 0, 12, .inl f_seconds))] sz) := by
  refine Met.ofW (cc := cX5_takeSigns) (maxL := 3) (ret := (some .boolean)) (by decide) rfl ?_
  intro p e s m args below meth c s₁ B hml hv
  obtain ⟨rfl, hsz, hP, hK, hD0, hN⟩ := hv
  have hx := B.exec
  have hb := B.bytes
  have hr := B.returns
  have htA : ∀ w ∈ AW, w.before _ s = true := fun w h => atoms_spec (ws := Cond.code yX5_takeSigns cX5_takeSigns 3 (some .boolean) :: AW) B.pre w (List.mem_cons_of_mem _ h)
  have hown : s.vm.findClass RX5 = some m.cls := findClass_of_methodNamed B.named
  have hlocks := B.notSynchronized
  subst hsz
  have hD := hD0.self (sz := s.heap.size)
  generalize hAe : va_A [(q_this, .inr (5, [.ref q_text, .int f_length, .ref q_kinds, .ref q_firsts, .ref q_seconds, .int f_clauses, .int f_spot, .int f_value])), (q_text, .inl (cy 0, 100, .inl f_text)), (q_firsts, .inl (cy 0, 12, .inl f_firsts)), (q_seconds, .inl (cy 0, 12, .inl f_seconds))] s.heap.size = A at hD ⊢
  have hA : ∀ q : Nat, s.heap.size ≤ q → A q := fun q h => by rw [← hAe]; exact Or.inr h
  have hS : va_S A s.heap s.heap [] := va_S.rf
  have hl := lv_entry ([.ref q_this, .int p1]) (n := 3) (Nat.le_of_ble_eq_true rfl)
  rw [lg_entry_eq]
  generalize (lg_sl ([.ref q_this, .int p1]) ++ List.replicate (3 - (lg_sl ([.ref q_this, .int p1])).length) Slot.unset).toArray = ls at hl ⊢
  have hl : lv_has ls 3 [(0, .ref q_this), (1, .int p1)] := hl
  have hP : va_P G vwCl [(q_this, .inr (5, [.ref q_text, .int f_length, .ref q_kinds, .ref q_firsts, .ref q_seconds, .int f_clauses, .int f_spot, .int f_value])), (q_text, .inl (cy 0, 100, .inl f_text)), (q_firsts, .inl (cy 0, 12, .inl f_firsts)), (q_seconds, .inl (cy 0, 12, .inl f_seconds))] s.heap := hP
  have C0 : Cx p s m _ meth c cX5_takeSigns 3 (some .boolean) RX5 G cy A := ⟨hx, hb, hr, hml, htA, hown, hK, hN, hA, hlocks⟩
  have hf : ((fX5_takeByte 32 f_length f_spot f_text).bind fun q3 => ((if q3.1 = 0 then some (0, q3.2, f_firsts, f_seconds) else ck p1 12 (lX5_takeSigns_23 n f_length f_text n p1 0 q3.2 (upd f_firsts (Int32.toNatClampNeg p1) q3.2) f_seconds))) : Option (Int32 × Int32 × (Nat → Int32) × (Nat → Int32))) = some o := hf
  refine lv_aload_n hx hb dX5_takeSigns_0 rfl (lv_at hl 0 rfl) ?_
  refine lv_bipush (v := 32) hx hb dX5_takeSigns_1 (by decide) ?_
  obtain ⟨q3, h3_48, hf⟩ := bd_s hf
  refine u_calli [(q_this, .inr (5, [.ref q_text, .int f_length, .ref q_kinds, .ref q_firsts, .ref q_seconds, .int f_clauses, .int q3.2, .int f_value])), (q_text, .inl (cy 0, 100, .inl f_text)), (q_firsts, .inl (cy 0, 12, .inl f_firsts)), (q_seconds, .inl (cy 0, 12, .inl f_seconds))] (va_runV (As := [.int 32]) (rest := []) ⟨hx, hb, hml, hown, htA⟩ (kX5_takeByte l G cy q_this q_text q_kinds q_firsts q_seconds s.heap.size f_length f_clauses f_spot f_value f_text 32 h3_48) (u_cwV htA a_ml_X5_45 pk_X5_takeByte ⟨Nat.le_of_ble_eq_true rfl, Nat.le_of_ble_eq_true rfl⟩) (u_preV hK hN hP hD [0, 1] rfl (by decide) 0 rfl rfl) rfl rfl hl.1 rfl (lv_room (Nat.le_of_ble_eq_true rfl)) dX5_takeSigns_3 ⟨Nat.zero_le _, Nat.zero_le _⟩) hP hD hS hA [0, 1] rfl [2, 3] 4 rfl rfl rfl (by decide) rfl (fun H locs hP hD hS => ?_)
  refine lv_if_ne (tgt := 11) hx hb dX5_takeSigns_6 (by decide) (fun c_49 => ?_) (fun c_49 => ?_)
  · have hf := ite_f c_49 hf
    refine lv_aload_n hx hb dX5_takeSigns_11 rfl (lv_at hl 0 rfl) ?_
    refine va_get (D := G) (ci := 5) (v := .ref q_firsts) (C := RX5) (T := TX5) (N := 8) hx hb htA lyX5 hown hK hP 0 rfl rfl 3 (by decide) (htA _ a_fl_X5_22) (fun _ h9 => h9) rfl dX5_takeSigns_12 ?_
    refine lv_iload_n hx hb dX5_takeSigns_15 rfl (lv_at hl 1 rfl) ?_
    refine lv_aload_n hx hb dX5_takeSigns_16 rfl (lv_at hl 0 rfl) ?_
    refine va_get (D := G) (ci := 5) (v := .int q3.2) (C := RX5) (T := TX5) (N := 8) hx hb htA lyX5 hown hK hP 0 rfl rfl 6 (by decide) (htA _ a_fl_X5_31) (fun _ h9 => h9) rfl dX5_takeSigns_17 ?_
    obtain ⟨i_50, hf⟩ := ck_s hf
    refine va_iast (D := G) hx hb hK hP hD hS 2 0 rfl rfl i_50 dX5_takeSigns_20 (fun H locs hP hD hS => ?_)
    have hP : va_P G vwCl [(q_this, .inr (5, [.ref q_text, .int f_length, .ref q_kinds, .ref q_firsts, .ref q_seconds, .int f_clauses, .int q3.2, .int f_value])), (q_text, .inl (cy 0, 100, .inl f_text)), (q_firsts, .inl (cy 0, 12, .inl (upd f_firsts (Int32.toNatClampNeg p1) q3.2))), (q_seconds, .inl (cy 0, 12, .inl f_seconds))] H := hP
    have hD : va_D A [(q_this, .inr (5, [.ref q_text, .int f_length, .ref q_kinds, .ref q_firsts, .ref q_seconds, .int f_clauses, .int q3.2, .int f_value])), (q_text, .inl (cy 0, 100, .inl f_text)), (q_firsts, .inl (cy 0, 12, .inl (upd f_firsts (Int32.toNatClampNeg p1) q3.2))), (q_seconds, .inl (cy 0, 12, .inl f_seconds))] := hD
    refine lv_iconst (v := 0) hx hb dX5_takeSigns_21 (by decide) ?_
    refine lv_istore_n (lv' := [(2, .int 0), (0, .ref q_this), (1, .int p1)]) hx hb dX5_takeSigns_22 rfl hl (by decide) rfl (fun ls hl => ?_)
    exact wX5_takeSigns_23 C0 n _ _ _ _ _ _ _ _ hP hD hS (lv_sub hl [1, 2, 0] rfl) hf
  · have hf := ite_t c_49 hf
    refine lv_iconst (v := 0) hx hb dX5_takeSigns_9 (by decide) ?_
    have ho := Option.some.inj hf
    subst ho
    exact W.zret (v := 0) hx hb hr rfl (fun t ht hW => ⟨⟨_, (), rfl, rfl, by rw [ht]; exact hP, va_K.moved hW.alike hK, hD⟩, hS.F ht⟩) hS.2.2 dX5_takeSigns_10
set_option maxRecDepth 100000 in
set_option maxHeartbeats 4000000 in
theorem kX6_copyFrom (l : Launch) (G : va_G) (cy : Nat → ClassId) (q_this : Nat) (q_ground : Nat) (q_notes : Nat) (q_seen : Nat) (q_events : Nat) (q_book : Nat) (q_notes_cells : Nat) (q_seen_cells : Nat) (q_events_cells : Nat) (q_book_cells : Nat) (q_o : Nat) (q_o_ground : Nat) (q_o_notes : Nat) (q_o_seen : Nat) (q_o_events : Nat) (q_o_book : Nat) (q_o_notes_cells : Nat) (q_o_seen_cells : Nat) (q_o_events_cells : Nat) (q_o_book_cells : Nat) (sz : Nat) (n_notes_cells : Nat) (n_seen_cells : Nat) (n_events_cells : Nat) (n_book_cells : Nat) (n_o_notes_cells : Nat) (n_o_seen_cells : Nat) (n_o_events_cells : Nat) (n_o_book_cells : Nat) (f_ground_a : Int32) (f_ground_b : Int32) (f_ground_x : Int32) (f_ground_y : Int32) (f_notes_limit : Int32) (f_notes_used : Int32) (f_notes_cells : Nat → Int32) (f_seen_limit : Int32) (f_seen_used : Int32) (f_seen_cells : Nat → Int32) (f_events_limit : Int32) (f_events_used : Int32) (f_events_cells : Nat → Int32) (f_book_limit : Int32) (f_book_used : Int32) (f_book_cells : Nat → Int32) (f_o_ground_a : Int32) (f_o_ground_b : Int32) (f_o_ground_x : Int32) (f_o_ground_y : Int32) (f_o_notes_limit : Int32) (f_o_notes_used : Int32) (f_o_notes_cells : Nat → Int32) (f_o_seen_limit : Int32) (f_o_seen_used : Int32) (f_o_seen_cells : Nat → Int32) (f_o_events_limit : Int32) (f_o_events_used : Int32) (f_o_events_cells : Nat → Int32) (f_o_book_limit : Int32) (f_o_book_used : Int32) (f_o_book_cells : Nat → Int32) (n : Nat) {o : Int32 × Int32 × Int32 × Int32 × Int32 × (Nat → Int32) × Int32 × (Nat → Int32) × Int32 × (Nat → Int32) × Int32 × (Nat → Int32)} (hf : fX6_copyFrom n n_notes_cells n_seen_cells n_events_cells n_book_cells n_o_notes_cells n_o_seen_cells n_o_events_cells n_o_book_cells f_ground_a f_ground_b f_ground_x f_ground_y f_notes_limit f_notes_used f_notes_cells f_seen_limit f_seen_used f_seen_cells f_events_limit f_events_used f_events_cells f_book_limit f_book_used f_book_cells f_o_ground_a f_o_ground_b f_o_ground_x f_o_ground_y f_o_notes_used f_o_notes_cells f_o_seen_used f_o_seen_cells f_o_events_used f_o_events_cells f_o_book_used f_o_book_cells = some o) : Met l yX6_copyFrom (Cond.code yX6_copyFrom cX6_copyFrom 2 none :: AW) ({ frames := 3, cells := 0, slots := 0, locals := 66 } : Room) (va_Pc [.ref q_this, .ref q_o] (Wp G cy [(q_this, .inr (6, [.ref q_ground, .ref q_notes, .ref q_seen, .ref q_events, .ref q_book])), (q_ground, .inr (2, [.int f_ground_a, .int f_ground_b, .int f_ground_x, .int f_ground_y])), (q_notes, .inr (4, [.int f_notes_limit, .ref q_notes_cells, .int f_notes_used])), (q_notes_cells, .inl (cy 0, n_notes_cells, .inl f_notes_cells)), (q_seen, .inr (4, [.int f_seen_limit, .ref q_seen_cells, .int f_seen_used])), (q_seen_cells, .inl (cy 0, n_seen_cells, .inl f_seen_cells)), (q_events, .inr (4, [.int f_events_limit, .ref q_events_cells, .int f_events_used])), (q_events_cells, .inl (cy 0, n_events_cells, .inl f_events_cells)), (q_book, .inr (4, [.int f_book_limit, .ref q_book_cells, .int f_book_used])), (q_book_cells, .inl (cy 0, n_book_cells, .inl f_book_cells)), (q_o, .inr (6, [.ref q_o_ground, .ref q_o_notes, .ref q_o_seen, .ref q_o_events, .ref q_o_book])), (q_o_ground, .inr (2, [.int f_o_ground_a, .int f_o_ground_b, .int f_o_ground_x, .int f_o_ground_y])), (q_o_notes, .inr (4, [.int f_o_notes_limit, .ref q_o_notes_cells, .int f_o_notes_used])), (q_o_notes_cells, .inl (cy 0, n_o_notes_cells, .inl f_o_notes_cells)), (q_o_seen, .inr (4, [.int f_o_seen_limit, .ref q_o_seen_cells, .int f_o_seen_used])), (q_o_seen_cells, .inl (cy 0, n_o_seen_cells, .inl f_o_seen_cells)), (q_o_events, .inr (4, [.int f_o_events_limit, .ref q_o_events_cells, .int f_o_events_used])), (q_o_events_cells, .inl (cy 0, n_o_events_cells, .inl f_o_events_cells)), (q_o_book, .inr (4, [.int f_o_book_limit, .ref q_o_book_cells, .int f_o_book_used])), (q_o_book_cells, .inl (cy 0, n_o_book_cells, .inl f_o_book_cells))] sz)) (va_Qv (fun (_ : Unit) => True) (fun _ => Wq G cy (va_A [(q_this, .inr (6, [.ref q_ground, .ref q_notes, .ref q_seen, .ref q_events, .ref q_book])), (q_ground, .inr (2, [.int f_ground_a, .int f_ground_b, .int f_ground_x, .int f_ground_y])), (q_notes, .inr (4, [.int f_notes_limit, .ref q_notes_cells, .int f_notes_used])), (q_notes_cells, .inl (cy 0, n_notes_cells, .inl f_notes_cells)), (q_seen, .inr (4, [.int f_seen_limit, .ref q_seen_cells, .int f_seen_used])), (q_seen_cells, .inl (cy 0, n_seen_cells, .inl f_seen_cells)), (q_events, .inr (4, [.int f_events_limit, .ref q_events_cells, .int f_events_used])), (q_events_cells, .inl (cy 0, n_events_cells, .inl f_events_cells)), (q_book, .inr (4, [.int f_book_limit, .ref q_book_cells, .int f_book_used])), (q_book_cells, .inl (cy 0, n_book_cells, .inl f_book_cells)), (q_o, .inr (6, [.ref q_o_ground, .ref q_o_notes, .ref q_o_seen, .ref q_o_events, .ref q_o_book])), (q_o_ground, .inr (2, [.int f_o_ground_a, .int f_o_ground_b, .int f_o_ground_x, .int f_o_ground_y])), (q_o_notes, .inr (4, [.int f_o_notes_limit, .ref q_o_notes_cells, .int f_o_notes_used])), (q_o_notes_cells, .inl (cy 0, n_o_notes_cells, .inl f_o_notes_cells)), (q_o_seen, .inr (4, [.int f_o_seen_limit, .ref q_o_seen_cells, .int f_o_seen_used])), (q_o_seen_cells, .inl (cy 0, n_o_seen_cells, .inl f_o_seen_cells)), (q_o_events, .inr (4, [.int f_o_events_limit, .ref q_o_events_cells, .int f_o_events_used])), (q_o_events_cells, .inl (cy 0, n_o_events_cells, .inl f_o_events_cells)), (q_o_book, .inr (4, [.int f_o_book_limit, .ref q_o_book_cells, .int f_o_book_used])), (q_o_book_cells, .inl (cy 0, n_o_book_cells, .inl f_o_book_cells))] sz) [(q_this, .inr (6, [.ref q_ground, .ref q_notes, .ref q_seen, .ref q_events, .ref q_book])), (q_ground, .inr (2, [.int o.1, .int o.2.1, .int o.2.2.1, .int o.2.2.2.1])), (q_notes, .inr (4, [.int f_notes_limit, .ref q_notes_cells, .int o.2.2.2.2.1])), (q_notes_cells, .inl (cy 0, n_notes_cells, .inl o.2.2.2.2.2.1)), (q_seen, .inr (4, [.int f_seen_limit, .ref q_seen_cells, .int o.2.2.2.2.2.2.1])), (q_seen_cells, .inl (cy 0, n_seen_cells, .inl o.2.2.2.2.2.2.2.1)), (q_events, .inr (4, [.int f_events_limit, .ref q_events_cells, .int o.2.2.2.2.2.2.2.2.1])), (q_events_cells, .inl (cy 0, n_events_cells, .inl o.2.2.2.2.2.2.2.2.2.1)), (q_book, .inr (4, [.int f_book_limit, .ref q_book_cells, .int o.2.2.2.2.2.2.2.2.2.2.1])), (q_book_cells, .inl (cy 0, n_book_cells, .inl o.2.2.2.2.2.2.2.2.2.2.2)), (q_o, .inr (6, [.ref q_o_ground, .ref q_o_notes, .ref q_o_seen, .ref q_o_events, .ref q_o_book])), (q_o_ground, .inr (2, [.int f_o_ground_a, .int f_o_ground_b, .int f_o_ground_x, .int f_o_ground_y])), (q_o_notes, .inr (4, [.int f_o_notes_limit, .ref q_o_notes_cells, .int f_o_notes_used])), (q_o_notes_cells, .inl (cy 0, n_o_notes_cells, .inl f_o_notes_cells)), (q_o_seen, .inr (4, [.int f_o_seen_limit, .ref q_o_seen_cells, .int f_o_seen_used])), (q_o_seen_cells, .inl (cy 0, n_o_seen_cells, .inl f_o_seen_cells)), (q_o_events, .inr (4, [.int f_o_events_limit, .ref q_o_events_cells, .int f_o_events_used])), (q_o_events_cells, .inl (cy 0, n_o_events_cells, .inl f_o_events_cells)), (q_o_book, .inr (4, [.int f_o_book_limit, .ref q_o_book_cells, .int f_o_book_used])), (q_o_book_cells, .inl (cy 0, n_o_book_cells, .inl f_o_book_cells))]) (va_A [(q_this, .inr (6, [.ref q_ground, .ref q_notes, .ref q_seen, .ref q_events, .ref q_book])), (q_ground, .inr (2, [.int f_ground_a, .int f_ground_b, .int f_ground_x, .int f_ground_y])), (q_notes, .inr (4, [.int f_notes_limit, .ref q_notes_cells, .int f_notes_used])), (q_notes_cells, .inl (cy 0, n_notes_cells, .inl f_notes_cells)), (q_seen, .inr (4, [.int f_seen_limit, .ref q_seen_cells, .int f_seen_used])), (q_seen_cells, .inl (cy 0, n_seen_cells, .inl f_seen_cells)), (q_events, .inr (4, [.int f_events_limit, .ref q_events_cells, .int f_events_used])), (q_events_cells, .inl (cy 0, n_events_cells, .inl f_events_cells)), (q_book, .inr (4, [.int f_book_limit, .ref q_book_cells, .int f_book_used])), (q_book_cells, .inl (cy 0, n_book_cells, .inl f_book_cells)), (q_o, .inr (6, [.ref q_o_ground, .ref q_o_notes, .ref q_o_seen, .ref q_o_events, .ref q_o_book])), (q_o_ground, .inr (2, [.int f_o_ground_a, .int f_o_ground_b, .int f_o_ground_x, .int f_o_ground_y])), (q_o_notes, .inr (4, [.int f_o_notes_limit, .ref q_o_notes_cells, .int f_o_notes_used])), (q_o_notes_cells, .inl (cy 0, n_o_notes_cells, .inl f_o_notes_cells)), (q_o_seen, .inr (4, [.int f_o_seen_limit, .ref q_o_seen_cells, .int f_o_seen_used])), (q_o_seen_cells, .inl (cy 0, n_o_seen_cells, .inl f_o_seen_cells)), (q_o_events, .inr (4, [.int f_o_events_limit, .ref q_o_events_cells, .int f_o_events_used])), (q_o_events_cells, .inl (cy 0, n_o_events_cells, .inl f_o_events_cells)), (q_o_book, .inr (4, [.int f_o_book_limit, .ref q_o_book_cells, .int f_o_book_used])), (q_o_book_cells, .inl (cy 0, n_o_book_cells, .inl f_o_book_cells))] sz)) 0 0 (va_A [(q_this, .inr (6, [.ref q_ground, .ref q_notes, .ref q_seen, .ref q_events, .ref q_book])), (q_ground, .inr (2, [.int f_ground_a, .int f_ground_b, .int f_ground_x, .int f_ground_y])), (q_notes, .inr (4, [.int f_notes_limit, .ref q_notes_cells, .int f_notes_used])), (q_notes_cells, .inl (cy 0, n_notes_cells, .inl f_notes_cells)), (q_seen, .inr (4, [.int f_seen_limit, .ref q_seen_cells, .int f_seen_used])), (q_seen_cells, .inl (cy 0, n_seen_cells, .inl f_seen_cells)), (q_events, .inr (4, [.int f_events_limit, .ref q_events_cells, .int f_events_used])), (q_events_cells, .inl (cy 0, n_events_cells, .inl f_events_cells)), (q_book, .inr (4, [.int f_book_limit, .ref q_book_cells, .int f_book_used])), (q_book_cells, .inl (cy 0, n_book_cells, .inl f_book_cells)), (q_o, .inr (6, [.ref q_o_ground, .ref q_o_notes, .ref q_o_seen, .ref q_o_events, .ref q_o_book])), (q_o_ground, .inr (2, [.int f_o_ground_a, .int f_o_ground_b, .int f_o_ground_x, .int f_o_ground_y])), (q_o_notes, .inr (4, [.int f_o_notes_limit, .ref q_o_notes_cells, .int f_o_notes_used])), (q_o_notes_cells, .inl (cy 0, n_o_notes_cells, .inl f_o_notes_cells)), (q_o_seen, .inr (4, [.int f_o_seen_limit, .ref q_o_seen_cells, .int f_o_seen_used])), (q_o_seen_cells, .inl (cy 0, n_o_seen_cells, .inl f_o_seen_cells)), (q_o_events, .inr (4, [.int f_o_events_limit, .ref q_o_events_cells, .int f_o_events_used])), (q_o_events_cells, .inl (cy 0, n_o_events_cells, .inl f_o_events_cells)), (q_o_book, .inr (4, [.int f_o_book_limit, .ref q_o_book_cells, .int f_o_book_used])), (q_o_book_cells, .inl (cy 0, n_o_book_cells, .inl f_o_book_cells))] sz) := by
  refine Met.ofW (cc := cX6_copyFrom) (maxL := 2) (ret := none) (by decide) rfl ?_
  intro p e s m args below meth c s₁ B hml hv
  obtain ⟨rfl, hsz, hP, hK, hD0, hN⟩ := hv
  have hx := B.exec
  have hb := B.bytes
  have hr := B.returns
  have htA : ∀ w ∈ AW, w.before _ s = true := fun w h => atoms_spec (ws := Cond.code yX6_copyFrom cX6_copyFrom 2 none :: AW) B.pre w (List.mem_cons_of_mem _ h)
  have hown : s.vm.findClass RX6 = some m.cls := findClass_of_methodNamed B.named
  have hlocks := B.notSynchronized
  subst hsz
  have hD := hD0.self (sz := s.heap.size)
  generalize hAe : va_A [(q_this, .inr (6, [.ref q_ground, .ref q_notes, .ref q_seen, .ref q_events, .ref q_book])), (q_ground, .inr (2, [.int f_ground_a, .int f_ground_b, .int f_ground_x, .int f_ground_y])), (q_notes, .inr (4, [.int f_notes_limit, .ref q_notes_cells, .int f_notes_used])), (q_notes_cells, .inl (cy 0, n_notes_cells, .inl f_notes_cells)), (q_seen, .inr (4, [.int f_seen_limit, .ref q_seen_cells, .int f_seen_used])), (q_seen_cells, .inl (cy 0, n_seen_cells, .inl f_seen_cells)), (q_events, .inr (4, [.int f_events_limit, .ref q_events_cells, .int f_events_used])), (q_events_cells, .inl (cy 0, n_events_cells, .inl f_events_cells)), (q_book, .inr (4, [.int f_book_limit, .ref q_book_cells, .int f_book_used])), (q_book_cells, .inl (cy 0, n_book_cells, .inl f_book_cells)), (q_o, .inr (6, [.ref q_o_ground, .ref q_o_notes, .ref q_o_seen, .ref q_o_events, .ref q_o_book])), (q_o_ground, .inr (2, [.int f_o_ground_a, .int f_o_ground_b, .int f_o_ground_x, .int f_o_ground_y])), (q_o_notes, .inr (4, [.int f_o_notes_limit, .ref q_o_notes_cells, .int f_o_notes_used])), (q_o_notes_cells, .inl (cy 0, n_o_notes_cells, .inl f_o_notes_cells)), (q_o_seen, .inr (4, [.int f_o_seen_limit, .ref q_o_seen_cells, .int f_o_seen_used])), (q_o_seen_cells, .inl (cy 0, n_o_seen_cells, .inl f_o_seen_cells)), (q_o_events, .inr (4, [.int f_o_events_limit, .ref q_o_events_cells, .int f_o_events_used])), (q_o_events_cells, .inl (cy 0, n_o_events_cells, .inl f_o_events_cells)), (q_o_book, .inr (4, [.int f_o_book_limit, .ref q_o_book_cells, .int f_o_book_used])), (q_o_book_cells, .inl (cy 0, n_o_book_cells, .inl f_o_book_cells))] s.heap.size = A at hD ⊢
  have hA : ∀ q : Nat, s.heap.size ≤ q → A q := fun q h => by rw [← hAe]; exact Or.inr h
  have hS : va_S A s.heap s.heap [] := va_S.rf
  have hl := lv_entry ([.ref q_this, .ref q_o]) (n := 2) (Nat.le_of_ble_eq_true rfl)
  rw [lg_entry_eq]
  generalize (lg_sl ([.ref q_this, .ref q_o]) ++ List.replicate (2 - (lg_sl ([.ref q_this, .ref q_o])).length) Slot.unset).toArray = ls at hl ⊢
  have hl : lv_has ls 2 [(0, .ref q_this), (1, .ref q_o)] := hl
  have hP : va_P G vwCl [(q_this, .inr (6, [.ref q_ground, .ref q_notes, .ref q_seen, .ref q_events, .ref q_book])), (q_ground, .inr (2, [.int f_ground_a, .int f_ground_b, .int f_ground_x, .int f_ground_y])), (q_notes, .inr (4, [.int f_notes_limit, .ref q_notes_cells, .int f_notes_used])), (q_notes_cells, .inl (cy 0, n_notes_cells, .inl f_notes_cells)), (q_seen, .inr (4, [.int f_seen_limit, .ref q_seen_cells, .int f_seen_used])), (q_seen_cells, .inl (cy 0, n_seen_cells, .inl f_seen_cells)), (q_events, .inr (4, [.int f_events_limit, .ref q_events_cells, .int f_events_used])), (q_events_cells, .inl (cy 0, n_events_cells, .inl f_events_cells)), (q_book, .inr (4, [.int f_book_limit, .ref q_book_cells, .int f_book_used])), (q_book_cells, .inl (cy 0, n_book_cells, .inl f_book_cells)), (q_o, .inr (6, [.ref q_o_ground, .ref q_o_notes, .ref q_o_seen, .ref q_o_events, .ref q_o_book])), (q_o_ground, .inr (2, [.int f_o_ground_a, .int f_o_ground_b, .int f_o_ground_x, .int f_o_ground_y])), (q_o_notes, .inr (4, [.int f_o_notes_limit, .ref q_o_notes_cells, .int f_o_notes_used])), (q_o_notes_cells, .inl (cy 0, n_o_notes_cells, .inl f_o_notes_cells)), (q_o_seen, .inr (4, [.int f_o_seen_limit, .ref q_o_seen_cells, .int f_o_seen_used])), (q_o_seen_cells, .inl (cy 0, n_o_seen_cells, .inl f_o_seen_cells)), (q_o_events, .inr (4, [.int f_o_events_limit, .ref q_o_events_cells, .int f_o_events_used])), (q_o_events_cells, .inl (cy 0, n_o_events_cells, .inl f_o_events_cells)), (q_o_book, .inr (4, [.int f_o_book_limit, .ref q_o_book_cells, .int f_o_book_used])), (q_o_book_cells, .inl (cy 0, n_o_book_cells, .inl f_o_book_cells))] s.heap := hP
  have hf : ((fX2_copyFrom f_ground_a f_ground_b f_ground_x f_ground_y f_o_ground_a f_o_ground_b f_o_ground_x f_o_ground_y).bind fun q8 => ((fX4_copyFrom n n_notes_cells n_o_notes_cells f_notes_limit f_notes_used f_notes_cells f_o_notes_used f_o_notes_cells).bind fun q19 => ((fX4_copyFrom n n_seen_cells n_o_seen_cells f_seen_limit f_seen_used f_seen_cells f_o_seen_used f_o_seen_cells).bind fun q30 => ((fX4_copyFrom n n_events_cells n_o_events_cells f_events_limit f_events_used f_events_cells f_o_events_used f_o_events_cells).bind fun q41 => ((fX4_copyFrom n n_book_cells n_o_book_cells f_book_limit f_book_used f_book_cells f_o_book_used f_o_book_cells).bind fun q52 => (some (q8.1, q8.2.1, q8.2.2.1, q8.2.2.2, q19.1, q19.2, q30.1, q30.2, q41.1, q41.2, q52.1, q52.2)))))) : Option (Int32 × Int32 × Int32 × Int32 × Int32 × (Nat → Int32) × Int32 × (Nat → Int32) × Int32 × (Nat → Int32) × Int32 × (Nat → Int32))) = some o := hf
  refine lv_aload_n hx hb dX6_copyFrom_0 rfl (lv_at hl 0 rfl) ?_
  refine va_get (D := G) (ci := 6) (v := .ref q_ground) (C := RX6) (T := TX6) (N := 5) hx hb htA lyX6 hown hK hP 0 rfl rfl 0 (by decide) (htA _ a_fl_X6_10) (fun _ h9 => h9) rfl dX6_copyFrom_1 ?_
  refine lv_aload_n hx hb dX6_copyFrom_4 rfl (lv_at hl 1 rfl) ?_
  refine va_get (D := G) (ci := 6) (v := .ref q_o_ground) (C := RX6) (T := TX6) (N := 5) hx hb htA lyX6 hown hK hP 10 rfl rfl 0 (by decide) (htA _ a_fl_X6_10) (fun _ h9 => h9) rfl dX6_copyFrom_5 ?_
  obtain ⟨q8, h8_21, hf⟩ := bd_s hf
  refine u_callv [(q_this, .inr (6, [.ref q_ground, .ref q_notes, .ref q_seen, .ref q_events, .ref q_book])), (q_ground, .inr (2, [.int q8.1, .int q8.2.1, .int q8.2.2.1, .int q8.2.2.2])), (q_notes, .inr (4, [.int f_notes_limit, .ref q_notes_cells, .int f_notes_used])), (q_notes_cells, .inl (cy 0, n_notes_cells, .inl f_notes_cells)), (q_seen, .inr (4, [.int f_seen_limit, .ref q_seen_cells, .int f_seen_used])), (q_seen_cells, .inl (cy 0, n_seen_cells, .inl f_seen_cells)), (q_events, .inr (4, [.int f_events_limit, .ref q_events_cells, .int f_events_used])), (q_events_cells, .inl (cy 0, n_events_cells, .inl f_events_cells)), (q_book, .inr (4, [.int f_book_limit, .ref q_book_cells, .int f_book_used])), (q_book_cells, .inl (cy 0, n_book_cells, .inl f_book_cells)), (q_o, .inr (6, [.ref q_o_ground, .ref q_o_notes, .ref q_o_seen, .ref q_o_events, .ref q_o_book])), (q_o_ground, .inr (2, [.int f_o_ground_a, .int f_o_ground_b, .int f_o_ground_x, .int f_o_ground_y])), (q_o_notes, .inr (4, [.int f_o_notes_limit, .ref q_o_notes_cells, .int f_o_notes_used])), (q_o_notes_cells, .inl (cy 0, n_o_notes_cells, .inl f_o_notes_cells)), (q_o_seen, .inr (4, [.int f_o_seen_limit, .ref q_o_seen_cells, .int f_o_seen_used])), (q_o_seen_cells, .inl (cy 0, n_o_seen_cells, .inl f_o_seen_cells)), (q_o_events, .inr (4, [.int f_o_events_limit, .ref q_o_events_cells, .int f_o_events_used])), (q_o_events_cells, .inl (cy 0, n_o_events_cells, .inl f_o_events_cells)), (q_o_book, .inr (4, [.int f_o_book_limit, .ref q_o_book_cells, .int f_o_book_used])), (q_o_book_cells, .inl (cy 0, n_o_book_cells, .inl f_o_book_cells))] (va_runV (As := [.ref q_o_ground]) (rest := []) ⟨hx, hb, hml, hown, htA⟩ (kX2_copyFrom l G cy q_ground q_o_ground s.heap.size f_ground_a f_ground_b f_ground_x f_ground_y f_o_ground_a f_o_ground_b f_o_ground_x f_o_ground_y h8_21) (u_cwV htA a_ml_X6_34 pk_X2_copyFrom ⟨Nat.le_of_ble_eq_true rfl, Nat.le_of_ble_eq_true rfl⟩) (u_preV hK hN hP hD [1, 11] rfl (by decide) 1 rfl rfl) rfl rfl hl.1 rfl (lv_room (Nat.le_of_ble_eq_true rfl)) dX6_copyFrom_8 ⟨Nat.zero_le _, Nat.zero_le _⟩) hP hD hS hA [1, 11] rfl [0, 2, 3, 4, 5, 6, 7, 8, 9, 10, 12, 13, 14, 15, 16, 17, 18, 19] 20 rfl rfl rfl (by decide) rfl (fun H locs hP hD hS => ?_)
  refine lv_aload_n hx hb dX6_copyFrom_11 rfl (lv_at hl 0 rfl) ?_
  refine va_get (D := G) (ci := 6) (v := .ref q_notes) (C := RX6) (T := TX6) (N := 5) hx hb htA lyX6 hown hK hP 0 rfl rfl 1 (by decide) (htA _ a_fl_X6_21) (fun _ h9 => h9) rfl dX6_copyFrom_12 ?_
  refine lv_aload_n hx hb dX6_copyFrom_15 rfl (lv_at hl 1 rfl) ?_
  refine va_get (D := G) (ci := 6) (v := .ref q_o_notes) (C := RX6) (T := TX6) (N := 5) hx hb htA lyX6 hown hK hP 10 rfl rfl 1 (by decide) (htA _ a_fl_X6_21) (fun _ h9 => h9) rfl dX6_copyFrom_16 ?_
  obtain ⟨q19, h19_22, hf⟩ := bd_s hf
  refine u_callv [(q_this, .inr (6, [.ref q_ground, .ref q_notes, .ref q_seen, .ref q_events, .ref q_book])), (q_ground, .inr (2, [.int q8.1, .int q8.2.1, .int q8.2.2.1, .int q8.2.2.2])), (q_notes, .inr (4, [.int f_notes_limit, .ref q_notes_cells, .int q19.1])), (q_notes_cells, .inl (cy 0, n_notes_cells, .inl q19.2)), (q_seen, .inr (4, [.int f_seen_limit, .ref q_seen_cells, .int f_seen_used])), (q_seen_cells, .inl (cy 0, n_seen_cells, .inl f_seen_cells)), (q_events, .inr (4, [.int f_events_limit, .ref q_events_cells, .int f_events_used])), (q_events_cells, .inl (cy 0, n_events_cells, .inl f_events_cells)), (q_book, .inr (4, [.int f_book_limit, .ref q_book_cells, .int f_book_used])), (q_book_cells, .inl (cy 0, n_book_cells, .inl f_book_cells)), (q_o, .inr (6, [.ref q_o_ground, .ref q_o_notes, .ref q_o_seen, .ref q_o_events, .ref q_o_book])), (q_o_ground, .inr (2, [.int f_o_ground_a, .int f_o_ground_b, .int f_o_ground_x, .int f_o_ground_y])), (q_o_notes, .inr (4, [.int f_o_notes_limit, .ref q_o_notes_cells, .int f_o_notes_used])), (q_o_notes_cells, .inl (cy 0, n_o_notes_cells, .inl f_o_notes_cells)), (q_o_seen, .inr (4, [.int f_o_seen_limit, .ref q_o_seen_cells, .int f_o_seen_used])), (q_o_seen_cells, .inl (cy 0, n_o_seen_cells, .inl f_o_seen_cells)), (q_o_events, .inr (4, [.int f_o_events_limit, .ref q_o_events_cells, .int f_o_events_used])), (q_o_events_cells, .inl (cy 0, n_o_events_cells, .inl f_o_events_cells)), (q_o_book, .inr (4, [.int f_o_book_limit, .ref q_o_book_cells, .int f_o_book_used])), (q_o_book_cells, .inl (cy 0, n_o_book_cells, .inl f_o_book_cells))] (va_runV (As := [.ref q_o_notes]) (rest := []) ⟨hx, hb, hml, hown, htA⟩ (kX4_copyFrom l G cy q_notes q_notes_cells q_o_notes q_o_notes_cells H.size n_notes_cells n_o_notes_cells f_notes_limit f_notes_used f_notes_cells f_o_notes_limit f_o_notes_used f_o_notes_cells n h19_22) (u_cwV htA a_ml_X6_38 pk_X4_copyFrom ⟨Nat.le_of_ble_eq_true rfl, Nat.le_of_ble_eq_true rfl⟩) (u_preV hK hN hP hD [2, 3, 12, 13] rfl (by decide) 2 rfl rfl) rfl rfl hl.1 rfl (lv_room (Nat.le_of_ble_eq_true rfl)) dX6_copyFrom_19 ⟨Nat.zero_le _, Nat.zero_le _⟩) hP hD hS hA [2, 3, 12, 13] rfl [0, 1, 4, 5, 6, 7, 8, 9, 10, 11, 14, 15, 16, 17, 18, 19] 20 rfl rfl rfl (by decide) rfl (fun H locs hP hD hS => ?_)
  refine lv_aload_n hx hb dX6_copyFrom_22 rfl (lv_at hl 0 rfl) ?_
  refine va_get (D := G) (ci := 6) (v := .ref q_seen) (C := RX6) (T := TX6) (N := 5) hx hb htA lyX6 hown hK hP 0 rfl rfl 2 (by decide) (htA _ a_fl_X6_25) (fun _ h9 => h9) rfl dX6_copyFrom_23 ?_
  refine lv_aload_n hx hb dX6_copyFrom_26 rfl (lv_at hl 1 rfl) ?_
  refine va_get (D := G) (ci := 6) (v := .ref q_o_seen) (C := RX6) (T := TX6) (N := 5) hx hb htA lyX6 hown hK hP 10 rfl rfl 2 (by decide) (htA _ a_fl_X6_25) (fun _ h9 => h9) rfl dX6_copyFrom_27 ?_
  obtain ⟨q30, h30_23, hf⟩ := bd_s hf
  refine u_callv [(q_this, .inr (6, [.ref q_ground, .ref q_notes, .ref q_seen, .ref q_events, .ref q_book])), (q_ground, .inr (2, [.int q8.1, .int q8.2.1, .int q8.2.2.1, .int q8.2.2.2])), (q_notes, .inr (4, [.int f_notes_limit, .ref q_notes_cells, .int q19.1])), (q_notes_cells, .inl (cy 0, n_notes_cells, .inl q19.2)), (q_seen, .inr (4, [.int f_seen_limit, .ref q_seen_cells, .int q30.1])), (q_seen_cells, .inl (cy 0, n_seen_cells, .inl q30.2)), (q_events, .inr (4, [.int f_events_limit, .ref q_events_cells, .int f_events_used])), (q_events_cells, .inl (cy 0, n_events_cells, .inl f_events_cells)), (q_book, .inr (4, [.int f_book_limit, .ref q_book_cells, .int f_book_used])), (q_book_cells, .inl (cy 0, n_book_cells, .inl f_book_cells)), (q_o, .inr (6, [.ref q_o_ground, .ref q_o_notes, .ref q_o_seen, .ref q_o_events, .ref q_o_book])), (q_o_ground, .inr (2, [.int f_o_ground_a, .int f_o_ground_b, .int f_o_ground_x, .int f_o_ground_y])), (q_o_notes, .inr (4, [.int f_o_notes_limit, .ref q_o_notes_cells, .int f_o_notes_used])), (q_o_notes_cells, .inl (cy 0, n_o_notes_cells, .inl f_o_notes_cells)), (q_o_seen, .inr (4, [.int f_o_seen_limit, .ref q_o_seen_cells, .int f_o_seen_used])), (q_o_seen_cells, .inl (cy 0, n_o_seen_cells, .inl f_o_seen_cells)), (q_o_events, .inr (4, [.int f_o_events_limit, .ref q_o_events_cells, .int f_o_events_used])), (q_o_events_cells, .inl (cy 0, n_o_events_cells, .inl f_o_events_cells)), (q_o_book, .inr (4, [.int f_o_book_limit, .ref q_o_book_cells, .int f_o_book_used])), (q_o_book_cells, .inl (cy 0, n_o_book_cells, .inl f_o_book_cells))] (va_runV (As := [.ref q_o_seen]) (rest := []) ⟨hx, hb, hml, hown, htA⟩ (kX4_copyFrom l G cy q_seen q_seen_cells q_o_seen q_o_seen_cells H.size n_seen_cells n_o_seen_cells f_seen_limit f_seen_used f_seen_cells f_o_seen_limit f_o_seen_used f_o_seen_cells n h30_23) (u_cwV htA a_ml_X6_38 pk_X4_copyFrom ⟨Nat.le_of_ble_eq_true rfl, Nat.le_of_ble_eq_true rfl⟩) (u_preV hK hN hP hD [4, 5, 14, 15] rfl (by decide) 4 rfl rfl) rfl rfl hl.1 rfl (lv_room (Nat.le_of_ble_eq_true rfl)) dX6_copyFrom_30 ⟨Nat.zero_le _, Nat.zero_le _⟩) hP hD hS hA [4, 5, 14, 15] rfl [0, 1, 2, 3, 6, 7, 8, 9, 10, 11, 12, 13, 16, 17, 18, 19] 20 rfl rfl rfl (by decide) rfl (fun H locs hP hD hS => ?_)
  refine lv_aload_n hx hb dX6_copyFrom_33 rfl (lv_at hl 0 rfl) ?_
  refine va_get (D := G) (ci := 6) (v := .ref q_events) (C := RX6) (T := TX6) (N := 5) hx hb htA lyX6 hown hK hP 0 rfl rfl 3 (by decide) (htA _ a_fl_X6_28) (fun _ h9 => h9) rfl dX6_copyFrom_34 ?_
  refine lv_aload_n hx hb dX6_copyFrom_37 rfl (lv_at hl 1 rfl) ?_
  refine va_get (D := G) (ci := 6) (v := .ref q_o_events) (C := RX6) (T := TX6) (N := 5) hx hb htA lyX6 hown hK hP 10 rfl rfl 3 (by decide) (htA _ a_fl_X6_28) (fun _ h9 => h9) rfl dX6_copyFrom_38 ?_
  obtain ⟨q41, h41_24, hf⟩ := bd_s hf
  refine u_callv [(q_this, .inr (6, [.ref q_ground, .ref q_notes, .ref q_seen, .ref q_events, .ref q_book])), (q_ground, .inr (2, [.int q8.1, .int q8.2.1, .int q8.2.2.1, .int q8.2.2.2])), (q_notes, .inr (4, [.int f_notes_limit, .ref q_notes_cells, .int q19.1])), (q_notes_cells, .inl (cy 0, n_notes_cells, .inl q19.2)), (q_seen, .inr (4, [.int f_seen_limit, .ref q_seen_cells, .int q30.1])), (q_seen_cells, .inl (cy 0, n_seen_cells, .inl q30.2)), (q_events, .inr (4, [.int f_events_limit, .ref q_events_cells, .int q41.1])), (q_events_cells, .inl (cy 0, n_events_cells, .inl q41.2)), (q_book, .inr (4, [.int f_book_limit, .ref q_book_cells, .int f_book_used])), (q_book_cells, .inl (cy 0, n_book_cells, .inl f_book_cells)), (q_o, .inr (6, [.ref q_o_ground, .ref q_o_notes, .ref q_o_seen, .ref q_o_events, .ref q_o_book])), (q_o_ground, .inr (2, [.int f_o_ground_a, .int f_o_ground_b, .int f_o_ground_x, .int f_o_ground_y])), (q_o_notes, .inr (4, [.int f_o_notes_limit, .ref q_o_notes_cells, .int f_o_notes_used])), (q_o_notes_cells, .inl (cy 0, n_o_notes_cells, .inl f_o_notes_cells)), (q_o_seen, .inr (4, [.int f_o_seen_limit, .ref q_o_seen_cells, .int f_o_seen_used])), (q_o_seen_cells, .inl (cy 0, n_o_seen_cells, .inl f_o_seen_cells)), (q_o_events, .inr (4, [.int f_o_events_limit, .ref q_o_events_cells, .int f_o_events_used])), (q_o_events_cells, .inl (cy 0, n_o_events_cells, .inl f_o_events_cells)), (q_o_book, .inr (4, [.int f_o_book_limit, .ref q_o_book_cells, .int f_o_book_used])), (q_o_book_cells, .inl (cy 0, n_o_book_cells, .inl f_o_book_cells))] (va_runV (As := [.ref q_o_events]) (rest := []) ⟨hx, hb, hml, hown, htA⟩ (kX4_copyFrom l G cy q_events q_events_cells q_o_events q_o_events_cells H.size n_events_cells n_o_events_cells f_events_limit f_events_used f_events_cells f_o_events_limit f_o_events_used f_o_events_cells n h41_24) (u_cwV htA a_ml_X6_38 pk_X4_copyFrom ⟨Nat.le_of_ble_eq_true rfl, Nat.le_of_ble_eq_true rfl⟩) (u_preV hK hN hP hD [6, 7, 16, 17] rfl (by decide) 6 rfl rfl) rfl rfl hl.1 rfl (lv_room (Nat.le_of_ble_eq_true rfl)) dX6_copyFrom_41 ⟨Nat.zero_le _, Nat.zero_le _⟩) hP hD hS hA [6, 7, 16, 17] rfl [0, 1, 2, 3, 4, 5, 8, 9, 10, 11, 12, 13, 14, 15, 18, 19] 20 rfl rfl rfl (by decide) rfl (fun H locs hP hD hS => ?_)
  refine lv_aload_n hx hb dX6_copyFrom_44 rfl (lv_at hl 0 rfl) ?_
  refine va_get (D := G) (ci := 6) (v := .ref q_book) (C := RX6) (T := TX6) (N := 5) hx hb htA lyX6 hown hK hP 0 rfl rfl 4 (by decide) (htA _ a_fl_X6_31) (fun _ h9 => h9) rfl dX6_copyFrom_45 ?_
  refine lv_aload_n hx hb dX6_copyFrom_48 rfl (lv_at hl 1 rfl) ?_
  refine va_get (D := G) (ci := 6) (v := .ref q_o_book) (C := RX6) (T := TX6) (N := 5) hx hb htA lyX6 hown hK hP 10 rfl rfl 4 (by decide) (htA _ a_fl_X6_31) (fun _ h9 => h9) rfl dX6_copyFrom_49 ?_
  obtain ⟨q52, h52_25, hf⟩ := bd_s hf
  refine u_callv [(q_this, .inr (6, [.ref q_ground, .ref q_notes, .ref q_seen, .ref q_events, .ref q_book])), (q_ground, .inr (2, [.int q8.1, .int q8.2.1, .int q8.2.2.1, .int q8.2.2.2])), (q_notes, .inr (4, [.int f_notes_limit, .ref q_notes_cells, .int q19.1])), (q_notes_cells, .inl (cy 0, n_notes_cells, .inl q19.2)), (q_seen, .inr (4, [.int f_seen_limit, .ref q_seen_cells, .int q30.1])), (q_seen_cells, .inl (cy 0, n_seen_cells, .inl q30.2)), (q_events, .inr (4, [.int f_events_limit, .ref q_events_cells, .int q41.1])), (q_events_cells, .inl (cy 0, n_events_cells, .inl q41.2)), (q_book, .inr (4, [.int f_book_limit, .ref q_book_cells, .int q52.1])), (q_book_cells, .inl (cy 0, n_book_cells, .inl q52.2)), (q_o, .inr (6, [.ref q_o_ground, .ref q_o_notes, .ref q_o_seen, .ref q_o_events, .ref q_o_book])), (q_o_ground, .inr (2, [.int f_o_ground_a, .int f_o_ground_b, .int f_o_ground_x, .int f_o_ground_y])), (q_o_notes, .inr (4, [.int f_o_notes_limit, .ref q_o_notes_cells, .int f_o_notes_used])), (q_o_notes_cells, .inl (cy 0, n_o_notes_cells, .inl f_o_notes_cells)), (q_o_seen, .inr (4, [.int f_o_seen_limit, .ref q_o_seen_cells, .int f_o_seen_used])), (q_o_seen_cells, .inl (cy 0, n_o_seen_cells, .inl f_o_seen_cells)), (q_o_events, .inr (4, [.int f_o_events_limit, .ref q_o_events_cells, .int f_o_events_used])), (q_o_events_cells, .inl (cy 0, n_o_events_cells, .inl f_o_events_cells)), (q_o_book, .inr (4, [.int f_o_book_limit, .ref q_o_book_cells, .int f_o_book_used])), (q_o_book_cells, .inl (cy 0, n_o_book_cells, .inl f_o_book_cells))] (va_runV (As := [.ref q_o_book]) (rest := []) ⟨hx, hb, hml, hown, htA⟩ (kX4_copyFrom l G cy q_book q_book_cells q_o_book q_o_book_cells H.size n_book_cells n_o_book_cells f_book_limit f_book_used f_book_cells f_o_book_limit f_o_book_used f_o_book_cells n h52_25) (u_cwV htA a_ml_X6_38 pk_X4_copyFrom ⟨Nat.le_of_ble_eq_true rfl, Nat.le_of_ble_eq_true rfl⟩) (u_preV hK hN hP hD [8, 9, 18, 19] rfl (by decide) 8 rfl rfl) rfl rfl hl.1 rfl (lv_room (Nat.le_of_ble_eq_true rfl)) dX6_copyFrom_52 ⟨Nat.zero_le _, Nat.zero_le _⟩) hP hD hS hA [8, 9, 18, 19] rfl [0, 1, 2, 3, 4, 5, 6, 7, 10, 11, 12, 13, 14, 15, 16, 17] 20 rfl rfl rfl (by decide) rfl (fun H locs hP hD hS => ?_)
  have ho := Option.some.inj hf
  subst ho
  exact W.vret hx hb hr (fun t ht hW => ⟨⟨(), rfl, trivial, by rw [ht]; exact hP, va_K.moved hW.alike hK, hD⟩, hS.F ht⟩) hS.2.2 dX6_copyFrom_55
set_option maxRecDepth 100000 in
set_option maxHeartbeats 4000000 in
theorem kX7_isTape (l : Launch) (G : va_G) (cy : Nat → ClassId) (q_this : Nat) (q_sorts : Nat) (q_lengths : Nat) (q_items : Nat) (sz : Nat) (p1 : Int32) {o : Int32} (hf : fX7_isTape p1 = some o) : Met l yX7_isTape (Cond.code yX7_isTape cX7_isTape 2 (some .boolean) :: AW) ({ frames := 1, cells := 0, slots := 0, locals := 22 } : Room) (va_Pc [.ref q_this, .int p1] (Wp G cy [(q_this, .inr (7, [.ref q_sorts, .ref q_lengths, .ref q_items]))] sz)) (va_Qi (fun r (_ : Unit) => r = o) (fun _ => Wq G cy (va_A [(q_this, .inr (7, [.ref q_sorts, .ref q_lengths, .ref q_items]))] sz) [(q_this, .inr (7, [.ref q_sorts, .ref q_lengths, .ref q_items]))]) (va_A [(q_this, .inr (7, [.ref q_sorts, .ref q_lengths, .ref q_items]))] sz)) 0 0 (va_A [(q_this, .inr (7, [.ref q_sorts, .ref q_lengths, .ref q_items]))] sz) := by
  refine Met.ofW (cc := cX7_isTape) (maxL := 2) (ret := (some .boolean)) (by decide) rfl ?_
  intro p e s m args below meth c s₁ B hml hv
  obtain ⟨rfl, hsz, hP, hK, hD0, hN⟩ := hv
  have hx := B.exec
  have hb := B.bytes
  have hr := B.returns
  have htA : ∀ w ∈ AW, w.before _ s = true := fun w h => atoms_spec (ws := Cond.code yX7_isTape cX7_isTape 2 (some .boolean) :: AW) B.pre w (List.mem_cons_of_mem _ h)
  have hown : s.vm.findClass RX7 = some m.cls := findClass_of_methodNamed B.named
  have hlocks := B.notSynchronized
  subst hsz
  have hD := hD0.self (sz := s.heap.size)
  generalize hAe : va_A [(q_this, .inr (7, [.ref q_sorts, .ref q_lengths, .ref q_items]))] s.heap.size = A at hD ⊢
  have hA : ∀ q : Nat, s.heap.size ≤ q → A q := fun q h => by rw [← hAe]; exact Or.inr h
  have hS : va_S A s.heap s.heap [] := va_S.rf
  have hl := lv_entry ([.ref q_this, .int p1]) (n := 2) (Nat.le_of_ble_eq_true rfl)
  rw [lg_entry_eq]
  generalize (lg_sl ([.ref q_this, .int p1]) ++ List.replicate (2 - (lg_sl ([.ref q_this, .int p1])).length) Slot.unset).toArray = ls at hl ⊢
  have hl : lv_has ls 2 [(0, .ref q_this), (1, .int p1)] := hl
  have hP : va_P G vwCl [(q_this, .inr (7, [.ref q_sorts, .ref q_lengths, .ref q_items]))] s.heap := hP
  have hf : ((fX8_isIn p1 0 5).bind fun q3 => (zk q3 (some (q3))) : Option (Int32)) = some o := hf
  refine lv_iload_n hx hb dX7_isTape_0 rfl (lv_at hl 1 rfl) ?_
  refine lv_iconst (v := 0) hx hb dX7_isTape_1 (by decide) ?_
  refine lv_iconst (v := 5) hx hb dX7_isTape_2 (by decide) ?_
  obtain ⟨q3, h3_9, hf⟩ := bd_s hf
  refine u_calliR (va_runSN (As := [.int p1, .int 0, .int 5]) (rest := []) ⟨hx, hb, hml, hown, htA⟩ (kX8_isIn l G cy s.heap.size p1 0 5 h3_9) (u_cnS htA hN (List.mem_of_getElem? (i := 29) rfl) pk_X8_isIn ⟨Nat.le_of_ble_eq_true rfl, Nat.le_of_ble_eq_true rfl⟩) (u_preS hK hN hP hD [] rfl (by decide)) rfl rfl hl.1 rfl (lv_room (Nat.le_of_ble_eq_true rfl)) dX7_isTape_3 ⟨Nat.zero_le _, Nat.zero_le _⟩) hP hD hS hA [] rfl (fun H locs hP hS => ?_)
  obtain ⟨z_10, hf⟩ := zk_s hf
  have ho := Option.some.inj hf
  subst ho
  exact W.zret (v := q3) hx hb hr (zk_n z_10) (fun t ht hW => ⟨⟨_, (), rfl, rfl, by rw [ht]; exact hP, va_K.moved hW.alike hK, hD⟩, hS.F ht⟩) hS.2.2 dX7_isTape_6
set_option maxRecDepth 100000 in
set_option maxHeartbeats 4000000 in
theorem kX7_sortAt (l : Launch) (G : va_G) (cy : Nat → ClassId) (q_this : Nat) (q_sorts : Nat) (q_lengths : Nat) (q_items : Nat) (sz : Nat) (f_sorts : Nat → Int32) (p1 : Int32) {o : Int32} (hf : fX7_sortAt p1 f_sorts = some o) : Met l yX7_sortAt (Cond.code yX7_sortAt cX7_sortAt 2 (some .int) :: AW) ({ frames := 2, cells := 0, slots := 0, locals := 43 } : Room) (va_Pc [.ref q_this, .int p1] (Wp G cy [(q_this, .inr (7, [.ref q_sorts, .ref q_lengths, .ref q_items])), (q_sorts, .inl (cy 0, 6, .inl f_sorts))] sz)) (va_Qi (fun r (_ : Unit) => r = o) (fun _ => Wq G cy (va_A [(q_this, .inr (7, [.ref q_sorts, .ref q_lengths, .ref q_items])), (q_sorts, .inl (cy 0, 6, .inl f_sorts))] sz) [(q_this, .inr (7, [.ref q_sorts, .ref q_lengths, .ref q_items])), (q_sorts, .inl (cy 0, 6, .inl f_sorts))]) (va_A [(q_this, .inr (7, [.ref q_sorts, .ref q_lengths, .ref q_items])), (q_sorts, .inl (cy 0, 6, .inl f_sorts))] sz)) 0 0 (va_A [(q_this, .inr (7, [.ref q_sorts, .ref q_lengths, .ref q_items])), (q_sorts, .inl (cy 0, 6, .inl f_sorts))] sz) := by
  refine Met.ofW (cc := cX7_sortAt) (maxL := 2) (ret := (some .int)) (by decide) rfl ?_
  intro p e s m args below meth c s₁ B hml hv
  obtain ⟨rfl, hsz, hP, hK, hD0, hN⟩ := hv
  have hx := B.exec
  have hb := B.bytes
  have hr := B.returns
  have htA : ∀ w ∈ AW, w.before _ s = true := fun w h => atoms_spec (ws := Cond.code yX7_sortAt cX7_sortAt 2 (some .int) :: AW) B.pre w (List.mem_cons_of_mem _ h)
  have hown : s.vm.findClass RX7 = some m.cls := findClass_of_methodNamed B.named
  have hlocks := B.notSynchronized
  subst hsz
  have hD := hD0.self (sz := s.heap.size)
  generalize hAe : va_A [(q_this, .inr (7, [.ref q_sorts, .ref q_lengths, .ref q_items])), (q_sorts, .inl (cy 0, 6, .inl f_sorts))] s.heap.size = A at hD ⊢
  have hA : ∀ q : Nat, s.heap.size ≤ q → A q := fun q h => by rw [← hAe]; exact Or.inr h
  have hS : va_S A s.heap s.heap [] := va_S.rf
  have hl := lv_entry ([.ref q_this, .int p1]) (n := 2) (Nat.le_of_ble_eq_true rfl)
  rw [lg_entry_eq]
  generalize (lg_sl ([.ref q_this, .int p1]) ++ List.replicate (2 - (lg_sl ([.ref q_this, .int p1])).length) Slot.unset).toArray = ls at hl ⊢
  have hl : lv_has ls 2 [(0, .ref q_this), (1, .int p1)] := hl
  have hP : va_P G vwCl [(q_this, .inr (7, [.ref q_sorts, .ref q_lengths, .ref q_items])), (q_sorts, .inl (cy 0, 6, .inl f_sorts))] s.heap := hP
  have hf : ((fX7_isTape p1).bind fun q2 => ((if q2 = 0 then some ((-1)) else ck p1 6 (some ((f_sorts (Int32.toNatClampNeg p1)))))) : Option (Int32)) = some o := hf
  refine lv_aload_n hx hb dX7_sortAt_0 rfl (lv_at hl 0 rfl) ?_
  refine lv_iload_n hx hb dX7_sortAt_1 rfl (lv_at hl 1 rfl) ?_
  obtain ⟨q2, h2_13, hf⟩ := bd_s hf
  refine u_calliR (va_runV (As := [.int p1]) (rest := []) ⟨hx, hb, hml, hown, htA⟩ (kX7_isTape l G cy q_this q_sorts q_lengths q_items s.heap.size p1 h2_13) (u_cwV htA a_ml_X7_30 pk_X7_isTape ⟨Nat.le_of_ble_eq_true rfl, Nat.le_of_ble_eq_true rfl⟩) (u_preV hK hN hP hD [0] rfl (by decide) 0 rfl rfl) rfl rfl hl.1 rfl (lv_room (Nat.le_of_ble_eq_true rfl)) dX7_sortAt_2 ⟨Nat.zero_le _, Nat.zero_le _⟩) hP hD hS hA [0] rfl (fun H locs hP hS => ?_)
  refine lv_if_eq (tgt := 17) hx hb dX7_sortAt_5 (by decide) (fun c_14 => ?_) (fun c_14 => ?_)
  · have hf := ite_t c_14 hf
    refine lv_iconst (v := (-1)) hx hb dX7_sortAt_17 (by decide) ?_
    have ho := Option.some.inj hf
    subst ho
    exact W.iret (v := (-1)) hx hb hr (fun t ht hW => ⟨⟨_, (), rfl, rfl, by rw [ht]; exact hP, va_K.moved hW.alike hK, hD⟩, hS.F ht⟩) hS.2.2 dX7_sortAt_18
  · have hf := ite_f c_14 hf
    refine lv_aload_n hx hb dX7_sortAt_8 rfl (lv_at hl 0 rfl) ?_
    refine va_get (D := G) (ci := 7) (v := .ref q_sorts) (C := RX7) (T := TX7) (N := 3) hx hb htA lyX7 hown hK hP 0 rfl rfl 0 (by decide) (htA _ a_fl_X7_11) (fun _ h9 => h9) rfl dX7_sortAt_9 ?_
    refine lv_iload_n hx hb dX7_sortAt_12 rfl (lv_at hl 1 rfl) ?_
    obtain ⟨i_15, hf⟩ := ck_s hf
    refine va_iald (D := G) hx hb hK hP 1 0 rfl rfl i_15 dX7_sortAt_13 ?_
    refine lv_goto (tgt := 18) hx hb dX7_sortAt_14 (by decide) ?_
    have ho := Option.some.inj hf
    subst ho
    exact W.iret (v := (f_sorts (Int32.toNatClampNeg p1))) hx hb hr (fun t ht hW => ⟨⟨_, (), rfl, rfl, by rw [ht]; exact hP, va_K.moved hW.alike hK, hD⟩, hS.F ht⟩) hS.2.2 dX7_sortAt_18
set_option maxRecDepth 100000 in
set_option maxHeartbeats 4000000 in
theorem kX7_holds (l : Launch) (G : va_G) (cy : Nat → ClassId) (q_this : Nat) (q_sorts : Nat) (q_lengths : Nat) (q_items : Nat) (sz : Nat) (f_sorts : Nat → Int32) (p1 : Int32) {o : Int32} (hf : fX7_holds p1 f_sorts = some o) : Met l yX7_holds (Cond.code yX7_holds cX7_holds 2 (some .boolean) :: AW) ({ frames := 3, cells := 0, slots := 0, locals := 64 } : Room) (va_Pc [.ref q_this, .int p1] (Wp G cy [(q_this, .inr (7, [.ref q_sorts, .ref q_lengths, .ref q_items])), (q_sorts, .inl (cy 0, 6, .inl f_sorts))] sz)) (va_Qi (fun r (_ : Unit) => r = o) (fun _ => Wq G cy (va_A [(q_this, .inr (7, [.ref q_sorts, .ref q_lengths, .ref q_items])), (q_sorts, .inl (cy 0, 6, .inl f_sorts))] sz) [(q_this, .inr (7, [.ref q_sorts, .ref q_lengths, .ref q_items])), (q_sorts, .inl (cy 0, 6, .inl f_sorts))]) (va_A [(q_this, .inr (7, [.ref q_sorts, .ref q_lengths, .ref q_items])), (q_sorts, .inl (cy 0, 6, .inl f_sorts))] sz)) 0 0 (va_A [(q_this, .inr (7, [.ref q_sorts, .ref q_lengths, .ref q_items])), (q_sorts, .inl (cy 0, 6, .inl f_sorts))] sz) := by
  refine Met.ofW (cc := cX7_holds) (maxL := 2) (ret := (some .boolean)) (by decide) rfl ?_
  intro p e s m args below meth c s₁ B hml hv
  obtain ⟨rfl, hsz, hP, hK, hD0, hN⟩ := hv
  have hx := B.exec
  have hb := B.bytes
  have hr := B.returns
  have htA : ∀ w ∈ AW, w.before _ s = true := fun w h => atoms_spec (ws := Cond.code yX7_holds cX7_holds 2 (some .boolean) :: AW) B.pre w (List.mem_cons_of_mem _ h)
  have hown : s.vm.findClass RX7 = some m.cls := findClass_of_methodNamed B.named
  have hlocks := B.notSynchronized
  subst hsz
  have hD := hD0.self (sz := s.heap.size)
  generalize hAe : va_A [(q_this, .inr (7, [.ref q_sorts, .ref q_lengths, .ref q_items])), (q_sorts, .inl (cy 0, 6, .inl f_sorts))] s.heap.size = A at hD ⊢
  have hA : ∀ q : Nat, s.heap.size ≤ q → A q := fun q h => by rw [← hAe]; exact Or.inr h
  have hS : va_S A s.heap s.heap [] := va_S.rf
  have hl := lv_entry ([.ref q_this, .int p1]) (n := 2) (Nat.le_of_ble_eq_true rfl)
  rw [lg_entry_eq]
  generalize (lg_sl ([.ref q_this, .int p1]) ++ List.replicate (2 - (lg_sl ([.ref q_this, .int p1])).length) Slot.unset).toArray = ls at hl ⊢
  have hl : lv_has ls 2 [(0, .ref q_this), (1, .int p1)] := hl
  have hP : va_P G vwCl [(q_this, .inr (7, [.ref q_sorts, .ref q_lengths, .ref q_items])), (q_sorts, .inl (cy 0, 6, .inl f_sorts))] s.heap := hP
  have hf : ((fX7_sortAt p1 f_sorts).bind fun q2 => ((if q2 = (-1) then some (0) else some (1))) : Option (Int32)) = some o := hf
  refine lv_aload_n hx hb dX7_holds_0 rfl (lv_at hl 0 rfl) ?_
  refine lv_iload_n hx hb dX7_holds_1 rfl (lv_at hl 1 rfl) ?_
  obtain ⟨q2, h2_9, hf⟩ := bd_s hf
  refine u_calliR (va_runV (As := [.int p1]) (rest := []) ⟨hx, hb, hml, hown, htA⟩ (kX7_sortAt l G cy q_this q_sorts q_lengths q_items s.heap.size f_sorts p1 h2_9) (u_cwV htA a_ml_X7_26 pk_X7_sortAt ⟨Nat.le_of_ble_eq_true rfl, Nat.le_of_ble_eq_true rfl⟩) (u_preV hK hN hP hD [0, 1] rfl (by decide) 0 rfl rfl) rfl rfl hl.1 rfl (lv_room (Nat.le_of_ble_eq_true rfl)) dX7_holds_2 ⟨Nat.zero_le _, Nat.zero_le _⟩) hP hD hS hA [0, 1] rfl (fun H locs hP hS => ?_)
  refine lv_iconst (v := (-1)) hx hb dX7_holds_5 (by decide) ?_
  refine lv_icmp_eq (tgt := 13) hx hb dX7_holds_6 (by decide) (fun c_10 => ?_) (fun c_10 => ?_)
  · have hf := ite_t c_10 hf
    refine lv_iconst (v := 0) hx hb dX7_holds_13 (by decide) ?_
    have ho := Option.some.inj hf
    subst ho
    exact W.zret (v := 0) hx hb hr rfl (fun t ht hW => ⟨⟨_, (), rfl, rfl, by rw [ht]; exact hP, va_K.moved hW.alike hK, hD⟩, hS.F ht⟩) hS.2.2 dX7_holds_14
  · have hf := ite_f c_10 hf
    refine lv_iconst (v := 1) hx hb dX7_holds_9 (by decide) ?_
    refine lv_goto (tgt := 14) hx hb dX7_holds_10 (by decide) ?_
    have ho := Option.some.inj hf
    subst ho
    exact W.zret (v := 1) hx hb hr rfl (fun t ht hW => ⟨⟨_, (), rfl, rfl, by rw [ht]; exact hP, va_K.moved hW.alike hK, hD⟩, hS.F ht⟩) hS.2.2 dX7_holds_14
set_option maxRecDepth 100000 in
set_option maxHeartbeats 4000000 in
theorem kX7_drop (l : Launch) (G : va_G) (cy : Nat → ClassId) (q_this : Nat) (q_sorts : Nat) (q_lengths : Nat) (q_items : Nat) (sz : Nat) (f_sorts : Nat → Int32) (f_lengths : Nat → Int32) (p1 : Int32) {o : (Nat → Int32) × (Nat → Int32)} (hf : fX7_drop p1 f_sorts f_lengths = some o) : Met l yX7_drop (Cond.code yX7_drop cX7_drop 2 none :: AW) ({ frames := 2, cells := 0, slots := 0, locals := 43 } : Room) (va_Pc [.ref q_this, .int p1] (Wp G cy [(q_this, .inr (7, [.ref q_sorts, .ref q_lengths, .ref q_items])), (q_sorts, .inl (cy 0, 6, .inl f_sorts)), (q_lengths, .inl (cy 0, 6, .inl f_lengths))] sz)) (va_Qv (fun (_ : Unit) => True) (fun _ => Wq G cy (va_A [(q_this, .inr (7, [.ref q_sorts, .ref q_lengths, .ref q_items])), (q_sorts, .inl (cy 0, 6, .inl f_sorts)), (q_lengths, .inl (cy 0, 6, .inl f_lengths))] sz) [(q_this, .inr (7, [.ref q_sorts, .ref q_lengths, .ref q_items])), (q_sorts, .inl (cy 0, 6, .inl o.1)), (q_lengths, .inl (cy 0, 6, .inl o.2))]) (va_A [(q_this, .inr (7, [.ref q_sorts, .ref q_lengths, .ref q_items])), (q_sorts, .inl (cy 0, 6, .inl f_sorts)), (q_lengths, .inl (cy 0, 6, .inl f_lengths))] sz)) 0 0 (va_A [(q_this, .inr (7, [.ref q_sorts, .ref q_lengths, .ref q_items])), (q_sorts, .inl (cy 0, 6, .inl f_sorts)), (q_lengths, .inl (cy 0, 6, .inl f_lengths))] sz) := by
  refine Met.ofW (cc := cX7_drop) (maxL := 2) (ret := none) (by decide) rfl ?_
  intro p e s m args below meth c s₁ B hml hv
  obtain ⟨rfl, hsz, hP, hK, hD0, hN⟩ := hv
  have hx := B.exec
  have hb := B.bytes
  have hr := B.returns
  have htA : ∀ w ∈ AW, w.before _ s = true := fun w h => atoms_spec (ws := Cond.code yX7_drop cX7_drop 2 none :: AW) B.pre w (List.mem_cons_of_mem _ h)
  have hown : s.vm.findClass RX7 = some m.cls := findClass_of_methodNamed B.named
  have hlocks := B.notSynchronized
  subst hsz
  have hD := hD0.self (sz := s.heap.size)
  generalize hAe : va_A [(q_this, .inr (7, [.ref q_sorts, .ref q_lengths, .ref q_items])), (q_sorts, .inl (cy 0, 6, .inl f_sorts)), (q_lengths, .inl (cy 0, 6, .inl f_lengths))] s.heap.size = A at hD ⊢
  have hA : ∀ q : Nat, s.heap.size ≤ q → A q := fun q h => by rw [← hAe]; exact Or.inr h
  have hS : va_S A s.heap s.heap [] := va_S.rf
  have hl := lv_entry ([.ref q_this, .int p1]) (n := 2) (Nat.le_of_ble_eq_true rfl)
  rw [lg_entry_eq]
  generalize (lg_sl ([.ref q_this, .int p1]) ++ List.replicate (2 - (lg_sl ([.ref q_this, .int p1])).length) Slot.unset).toArray = ls at hl ⊢
  have hl : lv_has ls 2 [(0, .ref q_this), (1, .int p1)] := hl
  have hP : va_P G vwCl [(q_this, .inr (7, [.ref q_sorts, .ref q_lengths, .ref q_items])), (q_sorts, .inl (cy 0, 6, .inl f_sorts)), (q_lengths, .inl (cy 0, 6, .inl f_lengths))] s.heap := hP
  have hf : ((fX7_isTape p1).bind fun q2 => ((if q2 = 0 then some (f_sorts, f_lengths) else ck p1 6 (ck p1 6 (some ((upd f_sorts (Int32.toNatClampNeg p1) (-1)), (upd f_lengths (Int32.toNatClampNeg p1) 0)))))) : Option ((Nat → Int32) × (Nat → Int32))) = some o := hf
  refine lv_aload_n hx hb dX7_drop_0 rfl (lv_at hl 0 rfl) ?_
  refine lv_iload_n hx hb dX7_drop_1 rfl (lv_at hl 1 rfl) ?_
  obtain ⟨q2, h2_17, hf⟩ := bd_s hf
  refine u_calliR (va_runV (As := [.int p1]) (rest := []) ⟨hx, hb, hml, hown, htA⟩ (kX7_isTape l G cy q_this q_sorts q_lengths q_items s.heap.size p1 h2_17) (u_cwV htA a_ml_X7_30 pk_X7_isTape ⟨Nat.le_of_ble_eq_true rfl, Nat.le_of_ble_eq_true rfl⟩) (u_preV hK hN hP hD [0] rfl (by decide) 0 rfl rfl) rfl rfl hl.1 rfl (lv_room (Nat.le_of_ble_eq_true rfl)) dX7_drop_2 ⟨Nat.zero_le _, Nat.zero_le _⟩) hP hD hS hA [0] rfl (fun H locs hP hS => ?_)
  refine lv_if_eq (tgt := 22) hx hb dX7_drop_5 (by decide) (fun c_18 => ?_) (fun c_18 => ?_)
  · have hf := ite_t c_18 hf
    have ho := Option.some.inj hf
    subst ho
    exact W.vret hx hb hr (fun t ht hW => ⟨⟨(), rfl, trivial, by rw [ht]; exact hP, va_K.moved hW.alike hK, hD⟩, hS.F ht⟩) hS.2.2 dX7_drop_22
  · have hf := ite_f c_18 hf
    refine lv_aload_n hx hb dX7_drop_8 rfl (lv_at hl 0 rfl) ?_
    refine va_get (D := G) (ci := 7) (v := .ref q_sorts) (C := RX7) (T := TX7) (N := 3) hx hb htA lyX7 hown hK hP 0 rfl rfl 0 (by decide) (htA _ a_fl_X7_11) (fun _ h9 => h9) rfl dX7_drop_9 ?_
    refine lv_iload_n hx hb dX7_drop_12 rfl (lv_at hl 1 rfl) ?_
    refine lv_iconst (v := (-1)) hx hb dX7_drop_13 (by decide) ?_
    obtain ⟨i_19, hf⟩ := ck_s hf
    refine va_iast (D := G) hx hb hK hP hD hS 1 0 rfl rfl i_19 dX7_drop_14 (fun H locs hP hD hS => ?_)
    have hP : va_P G vwCl [(q_this, .inr (7, [.ref q_sorts, .ref q_lengths, .ref q_items])), (q_sorts, .inl (cy 0, 6, .inl (upd f_sorts (Int32.toNatClampNeg p1) (-1)))), (q_lengths, .inl (cy 0, 6, .inl f_lengths))] H := hP
    have hD : va_D A [(q_this, .inr (7, [.ref q_sorts, .ref q_lengths, .ref q_items])), (q_sorts, .inl (cy 0, 6, .inl (upd f_sorts (Int32.toNatClampNeg p1) (-1)))), (q_lengths, .inl (cy 0, 6, .inl f_lengths))] := hD
    refine lv_aload_n hx hb dX7_drop_15 rfl (lv_at hl 0 rfl) ?_
    refine va_get (D := G) (ci := 7) (v := .ref q_lengths) (C := RX7) (T := TX7) (N := 3) hx hb htA lyX7 hown hK hP 0 rfl rfl 1 (by decide) (htA _ a_fl_X7_15) (fun _ h9 => h9) rfl dX7_drop_16 ?_
    refine lv_iload_n hx hb dX7_drop_19 rfl (lv_at hl 1 rfl) ?_
    refine lv_iconst (v := 0) hx hb dX7_drop_20 (by decide) ?_
    obtain ⟨i_20, hf⟩ := ck_s hf
    refine va_iast (D := G) hx hb hK hP hD hS 2 0 rfl rfl i_20 dX7_drop_21 (fun H locs hP hD hS => ?_)
    have hP : va_P G vwCl [(q_this, .inr (7, [.ref q_sorts, .ref q_lengths, .ref q_items])), (q_sorts, .inl (cy 0, 6, .inl (upd f_sorts (Int32.toNatClampNeg p1) (-1)))), (q_lengths, .inl (cy 0, 6, .inl (upd f_lengths (Int32.toNatClampNeg p1) 0)))] H := hP
    have hD : va_D A [(q_this, .inr (7, [.ref q_sorts, .ref q_lengths, .ref q_items])), (q_sorts, .inl (cy 0, 6, .inl (upd f_sorts (Int32.toNatClampNeg p1) (-1)))), (q_lengths, .inl (cy 0, 6, .inl (upd f_lengths (Int32.toNatClampNeg p1) 0)))] := hD
    have ho := Option.some.inj hf
    subst ho
    exact W.vret hx hb hr (fun t ht hW => ⟨⟨(), rfl, trivial, by rw [ht]; exact hP, va_K.moved hW.alike hK, hD⟩, hS.F ht⟩) hS.2.2 dX7_drop_22
set_option maxRecDepth 100000 in
set_option maxHeartbeats 4000000 in
theorem wX7_become_36 {p : Program} {l : Launch} {e : Env} {s : State} {m : MethodId} {args : Array Value} {below : List Frame} {meth : Method} {c : Code} {G : va_G} {cy : Nat → ClassId} {A : Nat → Prop} {q_this : Nat} {q_sorts : Nat} {q_lengths : Nat} {q_items : Nat} {n : Nat} {o : (Nat → Int32) × (Nat → Int32) × (Nat → Int64)} (C : Cx p s m args meth c cX7_become 5 none RX7 G cy A) : ∀ k36 : Nat, ∀ (v1 : Int32) (v3 : Int32) (v4 : Int32) (f_sorts : Nat → Int32) (f_lengths : Nat → Int32) (f_items : Nat → Int64) (H : Heap) (locs : List Loc) (ls : Array Slot), va_P G vwCl [(q_this, .inr (7, [.ref q_sorts, .ref q_lengths, .ref q_items])), (q_sorts, .inl (cy 0, 6, .inl f_sorts)), (q_lengths, .inl (cy 0, 6, .inl f_lengths)), (q_items, .inl (cy 1, 360, .inr (.inl f_items)))] H → va_D A [(q_this, .inr (7, [.ref q_sorts, .ref q_lengths, .ref q_items])), (q_sorts, .inl (cy 0, 6, .inl f_sorts)), (q_lengths, .inl (cy 0, 6, .inl f_lengths)), (q_items, .inl (cy 1, 360, .inr (.inl f_items)))] → va_S A s.heap H locs → lv_has ls 5 [(0, .ref q_this), (1, .int v1), (3, .int v3), (4, .int v4)] → lX7_become_36 n k36 v1 v3 v4 f_sorts f_lengths f_items = some o → W p l e (headSpec (Cond.code yX7_become cX7_become 5 none :: AW) ({ frames := 2, cells := 0, slots := 0, locals := 43 } : Room)).room s m args below meth c H locs 0 0 (MQ below (va_Qv (fun (_ : Unit) => True) (fun _ => Wq G cy A [(q_this, .inr (7, [.ref q_sorts, .ref q_lengths, .ref q_items])), (q_sorts, .inl (cy 0, 6, .inl o.1)), (q_lengths, .inl (cy 0, 6, .inl o.2.1)), (q_items, .inl (cy 1, 360, .inr (.inl o.2.2)))]) A) args s 0 0 A) (F0 m 36 ls []) := by
  have C0 := C
  obtain ⟨hx, hb, hr, hml, htA, hown, hK, hN, hA, hlocks⟩ := C
  intro k36
  induction k36 with
  | zero =>
    intro v1 v3 v4 f_sorts f_lengths f_items H locs ls hP hD hS hl hf
    exact no_s hf
  | succ k36 ih36 =>
    intro v1 v3 v4 f_sorts f_lengths f_items H locs ls hP hD hS hl hf
    have hf : ((if v3 ≤ v4 then some (f_sorts, f_lengths, f_items) else ck ((60 * v1) + v4) 360 (lX7_become_36 n k36 v1 v3 (v4 + 1) f_sorts f_lengths (vp_updL f_items (Int32.toNatClampNeg ((60 * v1) + v4)) 0))) : Option ((Nat → Int32) × (Nat → Int32) × (Nat → Int64))) = some o := hf
    refine lv_iload hx hb dX7_become_36 (lv_at hl 3 rfl) ?_
    refine lv_iload_n hx hb dX7_become_38 rfl (lv_at hl 2 rfl) ?_
    refine lv_icmp_ge (tgt := 61) hx hb dX7_become_39 (by decide) (fun c_33 => ?_) (fun c_33 => ?_)
    · have hf := ite_t c_33 hf
      have ho := Option.some.inj hf
      subst ho
      exact W.vret hx hb hr (fun t ht hW => ⟨⟨(), rfl, trivial, by rw [ht]; exact hP, va_K.moved hW.alike hK, hD⟩, hS.F ht⟩) hS.2.2 dX7_become_61
    · have hf := ite_f c_33 hf
      refine lv_aload_n hx hb dX7_become_42 rfl (lv_at hl 0 rfl) ?_
      refine va_get (D := G) (ci := 7) (v := .ref q_items) (C := RX7) (T := TX7) (N := 3) hx hb htA lyX7 hown hK hP 0 rfl rfl 2 (by decide) (htA _ a_fl_X7_18) (fun _ h9 => h9) rfl dX7_become_43 ?_
      refine lv_bipush (v := 60) hx hb dX7_become_46 (by decide) ?_
      refine lv_iload_n hx hb dX7_become_48 rfl (lv_at hl 1 rfl) ?_
      refine lv_imul hx hb dX7_become_49 ?_
      refine lv_iload hx hb dX7_become_50 (lv_at hl 3 rfl) ?_
      refine lv_iadd hx hb dX7_become_52 ?_
      refine lv_lconst (v := 0) hx hb dX7_become_53 (by decide) ?_
      obtain ⟨i_34, hf⟩ := ck_s hf
      refine va_last (D := G) hx hb hK hP hD hS 3 1 rfl rfl i_34 dX7_become_54 (fun H locs hP hD hS => ?_)
      have hP : va_P G vwCl [(q_this, .inr (7, [.ref q_sorts, .ref q_lengths, .ref q_items])), (q_sorts, .inl (cy 0, 6, .inl f_sorts)), (q_lengths, .inl (cy 0, 6, .inl f_lengths)), (q_items, .inl (cy 1, 360, .inr (.inl (vp_updL f_items (Int32.toNatClampNeg ((60 * v1) + v4)) 0))))] H := hP
      have hD : va_D A [(q_this, .inr (7, [.ref q_sorts, .ref q_lengths, .ref q_items])), (q_sorts, .inl (cy 0, 6, .inl f_sorts)), (q_lengths, .inl (cy 0, 6, .inl f_lengths)), (q_items, .inl (cy 1, 360, .inr (.inl (vp_updL f_items (Int32.toNatClampNeg ((60 * v1) + v4)) 0))))] := hD
      refine lv_iinc (v := (v4 + 1)) (lv' := [(4, .int (v4 + 1)), (0, .ref q_this), (1, .int v1), (3, .int v3)]) hx hb dX7_become_55 hl (k := 3) rfl rfl (by decide) rfl (fun ls hl => ?_)
      refine lv_goto (tgt := 36) hx hb dX7_become_58 (by decide) ?_
      exact ih36 _ _ _ _ _ _ _ _ _ hP hD hS (lv_sub hl [1, 2, 3, 0] rfl) hf
set_option maxRecDepth 100000 in
set_option maxHeartbeats 4000000 in
theorem kX7_become (l : Launch) (G : va_G) (cy : Nat → ClassId) (q_this : Nat) (q_sorts : Nat) (q_lengths : Nat) (q_items : Nat) (sz : Nat) (f_sorts : Nat → Int32) (f_lengths : Nat → Int32) (f_items : Nat → Int64) (p1 : Int32) (p2 : Int32) (p3 : Int32) (n : Nat) {o : (Nat → Int32) × (Nat → Int32) × (Nat → Int64)} (hf : fX7_become n p1 p2 p3 f_sorts f_lengths f_items = some o) : Met l yX7_become (Cond.code yX7_become cX7_become 5 none :: AW) ({ frames := 2, cells := 0, slots := 0, locals := 43 } : Room) (va_Pc [.ref q_this, .int p1, .int p2, .int p3] (Wp G cy [(q_this, .inr (7, [.ref q_sorts, .ref q_lengths, .ref q_items])), (q_sorts, .inl (cy 0, 6, .inl f_sorts)), (q_lengths, .inl (cy 0, 6, .inl f_lengths)), (q_items, .inl (cy 1, 360, .inr (.inl f_items)))] sz)) (va_Qv (fun (_ : Unit) => True) (fun _ => Wq G cy (va_A [(q_this, .inr (7, [.ref q_sorts, .ref q_lengths, .ref q_items])), (q_sorts, .inl (cy 0, 6, .inl f_sorts)), (q_lengths, .inl (cy 0, 6, .inl f_lengths)), (q_items, .inl (cy 1, 360, .inr (.inl f_items)))] sz) [(q_this, .inr (7, [.ref q_sorts, .ref q_lengths, .ref q_items])), (q_sorts, .inl (cy 0, 6, .inl o.1)), (q_lengths, .inl (cy 0, 6, .inl o.2.1)), (q_items, .inl (cy 1, 360, .inr (.inl o.2.2)))]) (va_A [(q_this, .inr (7, [.ref q_sorts, .ref q_lengths, .ref q_items])), (q_sorts, .inl (cy 0, 6, .inl f_sorts)), (q_lengths, .inl (cy 0, 6, .inl f_lengths)), (q_items, .inl (cy 1, 360, .inr (.inl f_items)))] sz)) 0 0 (va_A [(q_this, .inr (7, [.ref q_sorts, .ref q_lengths, .ref q_items])), (q_sorts, .inl (cy 0, 6, .inl f_sorts)), (q_lengths, .inl (cy 0, 6, .inl f_lengths)), (q_items, .inl (cy 1, 360, .inr (.inl f_items)))] sz) := by
  refine Met.ofW (cc := cX7_become) (maxL := 5) (ret := none) (by decide) rfl ?_
  intro p e s m args below meth c s₁ B hml hv
  obtain ⟨rfl, hsz, hP, hK, hD0, hN⟩ := hv
  have hx := B.exec
  have hb := B.bytes
  have hr := B.returns
  have htA : ∀ w ∈ AW, w.before _ s = true := fun w h => atoms_spec (ws := Cond.code yX7_become cX7_become 5 none :: AW) B.pre w (List.mem_cons_of_mem _ h)
  have hown : s.vm.findClass RX7 = some m.cls := findClass_of_methodNamed B.named
  have hlocks := B.notSynchronized
  subst hsz
  have hD := hD0.self (sz := s.heap.size)
  generalize hAe : va_A [(q_this, .inr (7, [.ref q_sorts, .ref q_lengths, .ref q_items])), (q_sorts, .inl (cy 0, 6, .inl f_sorts)), (q_lengths, .inl (cy 0, 6, .inl f_lengths)), (q_items, .inl (cy 1, 360, .inr (.inl f_items)))] s.heap.size = A at hD ⊢
  have hA : ∀ q : Nat, s.heap.size ≤ q → A q := fun q h => by rw [← hAe]; exact Or.inr h
  have hS : va_S A s.heap s.heap [] := va_S.rf
  have hl := lv_entry ([.ref q_this, .int p1, .int p2, .int p3]) (n := 5) (Nat.le_of_ble_eq_true rfl)
  rw [lg_entry_eq]
  generalize (lg_sl ([.ref q_this, .int p1, .int p2, .int p3]) ++ List.replicate (5 - (lg_sl ([.ref q_this, .int p1, .int p2, .int p3])).length) Slot.unset).toArray = ls at hl ⊢
  have hl : lv_has ls 5 [(0, .ref q_this), (1, .int p1), (2, .int p2), (3, .int p3)] := hl
  have hP : va_P G vwCl [(q_this, .inr (7, [.ref q_sorts, .ref q_lengths, .ref q_items])), (q_sorts, .inl (cy 0, 6, .inl f_sorts)), (q_lengths, .inl (cy 0, 6, .inl f_lengths)), (q_items, .inl (cy 1, 360, .inr (.inl f_items)))] s.heap := hP
  have C0 : Cx p s m _ meth c cX7_become 5 none RX7 G cy A := ⟨hx, hb, hr, hml, htA, hown, hK, hN, hA, hlocks⟩
  have hf : ((fX7_isTape p1).bind fun q2 => ((if q2 = 0 then some (f_sorts, f_lengths, f_items) else (fX8_isIn p3 0 60).bind fun q12 => ((if q12 = 0 then some (f_sorts, f_lengths, f_items) else ck p1 6 (ck p1 6 (lX7_become_36 n n p1 p3 0 (upd f_sorts (Int32.toNatClampNeg p1) p2) (upd f_lengths (Int32.toNatClampNeg p1) p3) f_items)))))) : Option ((Nat → Int32) × (Nat → Int32) × (Nat → Int64))) = some o := hf
  refine lv_aload_n hx hb dX7_become_0 rfl (lv_at hl 0 rfl) ?_
  refine lv_iload_n hx hb dX7_become_1 rfl (lv_at hl 1 rfl) ?_
  obtain ⟨q2, h2_35, hf⟩ := bd_s hf
  refine u_calliR (va_runV (As := [.int p1]) (rest := []) ⟨hx, hb, hml, hown, htA⟩ (kX7_isTape l G cy q_this q_sorts q_lengths q_items s.heap.size p1 h2_35) (u_cwV htA a_ml_X7_30 pk_X7_isTape ⟨Nat.le_of_ble_eq_true rfl, Nat.le_of_ble_eq_true rfl⟩) (u_preV hK hN hP hD [0] rfl (by decide) 0 rfl rfl) rfl rfl hl.1 rfl (lv_room (Nat.le_of_ble_eq_true rfl)) dX7_become_2 ⟨Nat.zero_le _, Nat.zero_le _⟩) hP hD hS hA [0] rfl (fun H locs hP hS => ?_)
  refine lv_if_eq (tgt := 18) hx hb dX7_become_5 (by decide) (fun c_36 => ?_) (fun c_36 => ?_)
  · have hf := ite_t c_36 hf
    have ho := Option.some.inj hf
    subst ho
    exact W.vret hx hb hr (fun t ht hW => ⟨⟨(), rfl, trivial, by rw [ht]; exact hP, va_K.moved hW.alike hK, hD⟩, hS.F ht⟩) hS.2.2 dX7_become_18
  · have hf := ite_f c_36 hf
    refine lv_iload_n hx hb dX7_become_8 rfl (lv_at hl 3 rfl) ?_
    refine lv_iconst (v := 0) hx hb dX7_become_9 (by decide) ?_
    refine lv_bipush (v := 60) hx hb dX7_become_10 (by decide) ?_
    obtain ⟨q12, h12_37, hf⟩ := bd_s hf
    refine u_calliR (va_runSN (As := [.int p3, .int 0, .int 60]) (rest := []) ⟨hx, hb, hml, hown, htA⟩ (kX8_isIn l G cy H.size p3 0 60 h12_37) (u_cnS htA hN (List.mem_of_getElem? (i := 29) rfl) pk_X8_isIn ⟨Nat.le_of_ble_eq_true rfl, Nat.le_of_ble_eq_true rfl⟩) (u_preS hK hN hP hD [] rfl (by decide)) rfl rfl hl.1 rfl (lv_room (Nat.le_of_ble_eq_true rfl)) dX7_become_12 ⟨Nat.zero_le _, Nat.zero_le _⟩) hP hD hS hA [] rfl (fun H locs hP hS => ?_)
    refine lv_if_ne (tgt := 19) hx hb dX7_become_15 (by decide) (fun c_38 => ?_) (fun c_38 => ?_)
    · have hf := ite_f c_38 hf
      refine lv_aload_n hx hb dX7_become_19 rfl (lv_at hl 0 rfl) ?_
      refine va_get (D := G) (ci := 7) (v := .ref q_sorts) (C := RX7) (T := TX7) (N := 3) hx hb htA lyX7 hown hK hP 0 rfl rfl 0 (by decide) (htA _ a_fl_X7_11) (fun _ h9 => h9) rfl dX7_become_20 ?_
      refine lv_iload_n hx hb dX7_become_23 rfl (lv_at hl 1 rfl) ?_
      refine lv_iload_n hx hb dX7_become_24 rfl (lv_at hl 2 rfl) ?_
      obtain ⟨i_39, hf⟩ := ck_s hf
      refine va_iast (D := G) hx hb hK hP hD hS 1 0 rfl rfl i_39 dX7_become_25 (fun H locs hP hD hS => ?_)
      have hP : va_P G vwCl [(q_this, .inr (7, [.ref q_sorts, .ref q_lengths, .ref q_items])), (q_sorts, .inl (cy 0, 6, .inl (upd f_sorts (Int32.toNatClampNeg p1) p2))), (q_lengths, .inl (cy 0, 6, .inl f_lengths)), (q_items, .inl (cy 1, 360, .inr (.inl f_items)))] H := hP
      have hD : va_D A [(q_this, .inr (7, [.ref q_sorts, .ref q_lengths, .ref q_items])), (q_sorts, .inl (cy 0, 6, .inl (upd f_sorts (Int32.toNatClampNeg p1) p2))), (q_lengths, .inl (cy 0, 6, .inl f_lengths)), (q_items, .inl (cy 1, 360, .inr (.inl f_items)))] := hD
      refine lv_aload_n hx hb dX7_become_26 rfl (lv_at hl 0 rfl) ?_
      refine va_get (D := G) (ci := 7) (v := .ref q_lengths) (C := RX7) (T := TX7) (N := 3) hx hb htA lyX7 hown hK hP 0 rfl rfl 1 (by decide) (htA _ a_fl_X7_15) (fun _ h9 => h9) rfl dX7_become_27 ?_
      refine lv_iload_n hx hb dX7_become_30 rfl (lv_at hl 1 rfl) ?_
      refine lv_iload_n hx hb dX7_become_31 rfl (lv_at hl 3 rfl) ?_
      obtain ⟨i_40, hf⟩ := ck_s hf
      refine va_iast (D := G) hx hb hK hP hD hS 2 0 rfl rfl i_40 dX7_become_32 (fun H locs hP hD hS => ?_)
      have hP : va_P G vwCl [(q_this, .inr (7, [.ref q_sorts, .ref q_lengths, .ref q_items])), (q_sorts, .inl (cy 0, 6, .inl (upd f_sorts (Int32.toNatClampNeg p1) p2))), (q_lengths, .inl (cy 0, 6, .inl (upd f_lengths (Int32.toNatClampNeg p1) p3))), (q_items, .inl (cy 1, 360, .inr (.inl f_items)))] H := hP
      have hD : va_D A [(q_this, .inr (7, [.ref q_sorts, .ref q_lengths, .ref q_items])), (q_sorts, .inl (cy 0, 6, .inl (upd f_sorts (Int32.toNatClampNeg p1) p2))), (q_lengths, .inl (cy 0, 6, .inl (upd f_lengths (Int32.toNatClampNeg p1) p3))), (q_items, .inl (cy 1, 360, .inr (.inl f_items)))] := hD
      refine lv_iconst (v := 0) hx hb dX7_become_33 (by decide) ?_
      refine lv_istore (lv' := [(4, .int 0), (0, .ref q_this), (1, .int p1), (2, .int p2), (3, .int p3)]) hx hb dX7_become_34 hl (by decide) rfl (fun ls hl => ?_)
      exact wX7_become_36 C0 n _ _ _ _ _ _ _ _ _ hP hD hS (lv_sub hl [1, 2, 4, 0] rfl) hf
    · have hf := ite_t c_38 hf
      have ho := Option.some.inj hf
      subst ho
      exact W.vret hx hb hr (fun t ht hW => ⟨⟨(), rfl, trivial, by rw [ht]; exact hP, va_K.moved hW.alike hK, hD⟩, hS.F ht⟩) hS.2.2 dX7_become_18
set_option maxRecDepth 100000 in
set_option maxHeartbeats 4000000 in
theorem kX7_hasRun (l : Launch) (G : va_G) (cy : Nat → ClassId) (q_this : Nat) (q_sorts : Nat) (q_lengths : Nat) (q_items : Nat) (sz : Nat) (f_lengths : Nat → Int32) (p1 : Int32) (p2 : Int32) (p3 : Int32) {o : Int32} (hf : fX7_hasRun p1 p2 p3 f_lengths = some o) : Met l yX7_hasRun (Cond.code yX7_hasRun cX7_hasRun 4 (some .boolean) :: AW) ({ frames := 2, cells := 0, slots := 0, locals := 43 } : Room) (va_Pc [.ref q_this, .int p1, .int p2, .int p3] (Wp G cy [(q_this, .inr (7, [.ref q_sorts, .ref q_lengths, .ref q_items])), (q_lengths, .inl (cy 0, 6, .inl f_lengths))] sz)) (va_Qi (fun r (_ : Unit) => r = o) (fun _ => Wq G cy (va_A [(q_this, .inr (7, [.ref q_sorts, .ref q_lengths, .ref q_items])), (q_lengths, .inl (cy 0, 6, .inl f_lengths))] sz) [(q_this, .inr (7, [.ref q_sorts, .ref q_lengths, .ref q_items])), (q_lengths, .inl (cy 0, 6, .inl f_lengths))]) (va_A [(q_this, .inr (7, [.ref q_sorts, .ref q_lengths, .ref q_items])), (q_lengths, .inl (cy 0, 6, .inl f_lengths))] sz)) 0 0 (va_A [(q_this, .inr (7, [.ref q_sorts, .ref q_lengths, .ref q_items])), (q_lengths, .inl (cy 0, 6, .inl f_lengths))] sz) := by
  refine Met.ofW (cc := cX7_hasRun) (maxL := 4) (ret := (some .boolean)) (by decide) rfl ?_
  intro p e s m args below meth c s₁ B hml hv
  obtain ⟨rfl, hsz, hP, hK, hD0, hN⟩ := hv
  have hx := B.exec
  have hb := B.bytes
  have hr := B.returns
  have htA : ∀ w ∈ AW, w.before _ s = true := fun w h => atoms_spec (ws := Cond.code yX7_hasRun cX7_hasRun 4 (some .boolean) :: AW) B.pre w (List.mem_cons_of_mem _ h)
  have hown : s.vm.findClass RX7 = some m.cls := findClass_of_methodNamed B.named
  have hlocks := B.notSynchronized
  subst hsz
  have hD := hD0.self (sz := s.heap.size)
  generalize hAe : va_A [(q_this, .inr (7, [.ref q_sorts, .ref q_lengths, .ref q_items])), (q_lengths, .inl (cy 0, 6, .inl f_lengths))] s.heap.size = A at hD ⊢
  have hA : ∀ q : Nat, s.heap.size ≤ q → A q := fun q h => by rw [← hAe]; exact Or.inr h
  have hS : va_S A s.heap s.heap [] := va_S.rf
  have hl := lv_entry ([.ref q_this, .int p1, .int p2, .int p3]) (n := 4) (Nat.le_of_ble_eq_true rfl)
  rw [lg_entry_eq]
  generalize (lg_sl ([.ref q_this, .int p1, .int p2, .int p3]) ++ List.replicate (4 - (lg_sl ([.ref q_this, .int p1, .int p2, .int p3])).length) Slot.unset).toArray = ls at hl ⊢
  have hl : lv_has ls 4 [(0, .ref q_this), (1, .int p1), (2, .int p2), (3, .int p3)] := hl
  have hP : va_P G vwCl [(q_this, .inr (7, [.ref q_sorts, .ref q_lengths, .ref q_items])), (q_lengths, .inl (cy 0, 6, .inl f_lengths))] s.heap := hP
  have hf : ((fX7_isTape p1).bind fun q2 => ((if q2 = 0 then some (0) else (if p2 < 0 then some (0) else (if p3 < 0 then some (0) else ck p1 6 ((if 0 < (lg_cmp ((Int32.toInt64 p2) + (Int32.toInt64 p3)) (Int32.toInt64 (f_lengths (Int32.toNatClampNeg p1)))) then some (0) else some (1))))))) : Option (Int32)) = some o := hf
  refine lv_aload_n hx hb dX7_hasRun_0 rfl (lv_at hl 0 rfl) ?_
  refine lv_iload_n hx hb dX7_hasRun_1 rfl (lv_at hl 1 rfl) ?_
  obtain ⟨q2, h2_25, hf⟩ := bd_s hf
  refine u_calliR (va_runV (As := [.int p1]) (rest := []) ⟨hx, hb, hml, hown, htA⟩ (kX7_isTape l G cy q_this q_sorts q_lengths q_items s.heap.size p1 h2_25) (u_cwV htA a_ml_X7_30 pk_X7_isTape ⟨Nat.le_of_ble_eq_true rfl, Nat.le_of_ble_eq_true rfl⟩) (u_preV hK hN hP hD [0] rfl (by decide) 0 rfl rfl) rfl rfl hl.1 rfl (lv_room (Nat.le_of_ble_eq_true rfl)) dX7_hasRun_2 ⟨Nat.zero_le _, Nat.zero_le _⟩) hP hD hS hA [0] rfl (fun H locs hP hS => ?_)
  refine lv_if_eq (tgt := 36) hx hb dX7_hasRun_5 (by decide) (fun c_26 => ?_) (fun c_26 => ?_)
  · have hf := ite_t c_26 hf
    refine lv_iconst (v := 0) hx hb dX7_hasRun_36 (by decide) ?_
    have ho := Option.some.inj hf
    subst ho
    exact W.zret (v := 0) hx hb hr rfl (fun t ht hW => ⟨⟨_, (), rfl, rfl, by rw [ht]; exact hP, va_K.moved hW.alike hK, hD⟩, hS.F ht⟩) hS.2.2 dX7_hasRun_37
  · have hf := ite_f c_26 hf
    refine lv_iload_n hx hb dX7_hasRun_8 rfl (lv_at hl 2 rfl) ?_
    refine lv_if_lt (tgt := 36) hx hb dX7_hasRun_9 (by decide) (fun c_27 => ?_) (fun c_27 => ?_)
    · have hf := ite_t c_27 hf
      refine lv_iconst (v := 0) hx hb dX7_hasRun_36 (by decide) ?_
      have ho := Option.some.inj hf
      subst ho
      exact W.zret (v := 0) hx hb hr rfl (fun t ht hW => ⟨⟨_, (), rfl, rfl, by rw [ht]; exact hP, va_K.moved hW.alike hK, hD⟩, hS.F ht⟩) hS.2.2 dX7_hasRun_37
    · have hf := ite_f c_27 hf
      refine lv_iload_n hx hb dX7_hasRun_12 rfl (lv_at hl 3 rfl) ?_
      refine lv_if_lt (tgt := 36) hx hb dX7_hasRun_13 (by decide) (fun c_28 => ?_) (fun c_28 => ?_)
      · have hf := ite_t c_28 hf
        refine lv_iconst (v := 0) hx hb dX7_hasRun_36 (by decide) ?_
        have ho := Option.some.inj hf
        subst ho
        exact W.zret (v := 0) hx hb hr rfl (fun t ht hW => ⟨⟨_, (), rfl, rfl, by rw [ht]; exact hP, va_K.moved hW.alike hK, hD⟩, hS.F ht⟩) hS.2.2 dX7_hasRun_37
      · have hf := ite_f c_28 hf
        refine lv_iload_n hx hb dX7_hasRun_16 rfl (lv_at hl 2 rfl) ?_
        refine lv_i2l hx hb dX7_hasRun_17 rfl ?_
        refine lv_iload_n hx hb dX7_hasRun_18 rfl (lv_at hl 3 rfl) ?_
        refine lv_i2l hx hb dX7_hasRun_19 rfl ?_
        refine lv_ladd hx hb dX7_hasRun_20 ?_
        refine lv_aload_n hx hb dX7_hasRun_21 rfl (lv_at hl 0 rfl) ?_
        refine va_get (D := G) (ci := 7) (v := .ref q_lengths) (C := RX7) (T := TX7) (N := 3) hx hb htA lyX7 hown hK hP 0 rfl rfl 1 (by decide) (htA _ a_fl_X7_15) (fun _ h9 => h9) rfl dX7_hasRun_22 ?_
        refine lv_iload_n hx hb dX7_hasRun_25 rfl (lv_at hl 1 rfl) ?_
        obtain ⟨i_29, hf⟩ := ck_s hf
        refine va_iald (D := G) hx hb hK hP 1 0 rfl rfl i_29 dX7_hasRun_26 ?_
        refine lv_i2l hx hb dX7_hasRun_27 rfl ?_
        refine W.lcmp hx hb dX7_hasRun_28 ?_
        refine lv_if_gt (tgt := 36) hx hb dX7_hasRun_29 (by decide) (fun c_30 => ?_) (fun c_30 => ?_)
        · have hf := ite_t c_30 hf
          refine lv_iconst (v := 0) hx hb dX7_hasRun_36 (by decide) ?_
          have ho := Option.some.inj hf
          subst ho
          exact W.zret (v := 0) hx hb hr rfl (fun t ht hW => ⟨⟨_, (), rfl, rfl, by rw [ht]; exact hP, va_K.moved hW.alike hK, hD⟩, hS.F ht⟩) hS.2.2 dX7_hasRun_37
        · have hf := ite_f c_30 hf
          refine lv_iconst (v := 1) hx hb dX7_hasRun_32 (by decide) ?_
          refine lv_goto (tgt := 37) hx hb dX7_hasRun_33 (by decide) ?_
          have ho := Option.some.inj hf
          subst ho
          exact W.zret (v := 1) hx hb hr rfl (fun t ht hW => ⟨⟨_, (), rfl, rfl, by rw [ht]; exact hP, va_K.moved hW.alike hK, hD⟩, hS.F ht⟩) hS.2.2 dX7_hasRun_37
set_option maxRecDepth 100000 in
set_option maxHeartbeats 4000000 in
theorem kX7_itemAt (l : Launch) (G : va_G) (cy : Nat → ClassId) (q_this : Nat) (q_sorts : Nat) (q_lengths : Nat) (q_items : Nat) (sz : Nat) (f_lengths : Nat → Int32) (f_items : Nat → Int64) (p1 : Int32) (p2 : Int32) {o : Int64} (hf : fX7_itemAt p1 p2 f_lengths f_items = some o) : Met l yX7_itemAt (Cond.code yX7_itemAt cX7_itemAt 3 (some .long) :: AW) ({ frames := 3, cells := 0, slots := 0, locals := 66 } : Room) (va_Pc [.ref q_this, .int p1, .int p2] (Wp G cy [(q_this, .inr (7, [.ref q_sorts, .ref q_lengths, .ref q_items])), (q_lengths, .inl (cy 0, 6, .inl f_lengths)), (q_items, .inl (cy 1, 360, .inr (.inl f_items)))] sz)) (va_Ql (fun r (_ : Unit) => r = o) (fun _ => Wq G cy (va_A [(q_this, .inr (7, [.ref q_sorts, .ref q_lengths, .ref q_items])), (q_lengths, .inl (cy 0, 6, .inl f_lengths)), (q_items, .inl (cy 1, 360, .inr (.inl f_items)))] sz) [(q_this, .inr (7, [.ref q_sorts, .ref q_lengths, .ref q_items])), (q_lengths, .inl (cy 0, 6, .inl f_lengths)), (q_items, .inl (cy 1, 360, .inr (.inl f_items)))]) (va_A [(q_this, .inr (7, [.ref q_sorts, .ref q_lengths, .ref q_items])), (q_lengths, .inl (cy 0, 6, .inl f_lengths)), (q_items, .inl (cy 1, 360, .inr (.inl f_items)))] sz)) 0 0 (va_A [(q_this, .inr (7, [.ref q_sorts, .ref q_lengths, .ref q_items])), (q_lengths, .inl (cy 0, 6, .inl f_lengths)), (q_items, .inl (cy 1, 360, .inr (.inl f_items)))] sz) := by
  refine Met.ofW (cc := cX7_itemAt) (maxL := 3) (ret := (some .long)) (by decide) rfl ?_
  intro p e s m args below meth c s₁ B hml hv
  obtain ⟨rfl, hsz, hP, hK, hD0, hN⟩ := hv
  have hx := B.exec
  have hb := B.bytes
  have hr := B.returns
  have htA : ∀ w ∈ AW, w.before _ s = true := fun w h => atoms_spec (ws := Cond.code yX7_itemAt cX7_itemAt 3 (some .long) :: AW) B.pre w (List.mem_cons_of_mem _ h)
  have hown : s.vm.findClass RX7 = some m.cls := findClass_of_methodNamed B.named
  have hlocks := B.notSynchronized
  subst hsz
  have hD := hD0.self (sz := s.heap.size)
  generalize hAe : va_A [(q_this, .inr (7, [.ref q_sorts, .ref q_lengths, .ref q_items])), (q_lengths, .inl (cy 0, 6, .inl f_lengths)), (q_items, .inl (cy 1, 360, .inr (.inl f_items)))] s.heap.size = A at hD ⊢
  have hA : ∀ q : Nat, s.heap.size ≤ q → A q := fun q h => by rw [← hAe]; exact Or.inr h
  have hS : va_S A s.heap s.heap [] := va_S.rf
  have hl := lv_entry ([.ref q_this, .int p1, .int p2]) (n := 3) (Nat.le_of_ble_eq_true rfl)
  rw [lg_entry_eq]
  generalize (lg_sl ([.ref q_this, .int p1, .int p2]) ++ List.replicate (3 - (lg_sl ([.ref q_this, .int p1, .int p2])).length) Slot.unset).toArray = ls at hl ⊢
  have hl : lv_has ls 3 [(0, .ref q_this), (1, .int p1), (2, .int p2)] := hl
  have hP : va_P G vwCl [(q_this, .inr (7, [.ref q_sorts, .ref q_lengths, .ref q_items])), (q_lengths, .inl (cy 0, 6, .inl f_lengths)), (q_items, .inl (cy 1, 360, .inr (.inl f_items)))] s.heap := hP
  have hf : ((fX7_hasRun p1 p2 1 f_lengths).bind fun q4 => ((if q4 = 0 then some (0) else ck ((60 * p1) + p2) 360 (some ((f_items (Int32.toNatClampNeg ((60 * p1) + p2))))))) : Option (Int64)) = some o := hf
  refine lv_aload_n hx hb dX7_itemAt_0 rfl (lv_at hl 0 rfl) ?_
  refine lv_iload_n hx hb dX7_itemAt_1 rfl (lv_at hl 1 rfl) ?_
  refine lv_iload_n hx hb dX7_itemAt_2 rfl (lv_at hl 2 rfl) ?_
  refine lv_iconst (v := 1) hx hb dX7_itemAt_3 (by decide) ?_
  obtain ⟨q4, h4_13, hf⟩ := bd_s hf
  refine u_calliR (va_runV (As := [.int p1, .int p2, .int 1]) (rest := []) ⟨hx, hb, hml, hown, htA⟩ (kX7_hasRun l G cy q_this q_sorts q_lengths q_items s.heap.size f_lengths p1 p2 1 h4_13) (u_cwV htA a_ml_X7_34 pk_X7_hasRun ⟨Nat.le_of_ble_eq_true rfl, Nat.le_of_ble_eq_true rfl⟩) (u_preV hK hN hP hD [0, 1] rfl (by decide) 0 rfl rfl) rfl rfl hl.1 rfl (lv_room (Nat.le_of_ble_eq_true rfl)) dX7_itemAt_4 ⟨Nat.zero_le _, Nat.zero_le _⟩) hP hD hS hA [0, 1] rfl (fun H locs hP hS => ?_)
  refine lv_if_eq (tgt := 24) hx hb dX7_itemAt_7 (by decide) (fun c_14 => ?_) (fun c_14 => ?_)
  · have hf := ite_t c_14 hf
    refine lv_lconst (v := 0) hx hb dX7_itemAt_24 (by decide) ?_
    have ho := Option.some.inj hf
    subst ho
    exact W.lret (v := 0) hx hb hr (fun t ht hW => ⟨⟨_, (), rfl, rfl, by rw [ht]; exact hP, va_K.moved hW.alike hK, hD⟩, hS.F ht⟩) hS.2.2 dX7_itemAt_25
  · have hf := ite_f c_14 hf
    refine lv_aload_n hx hb dX7_itemAt_10 rfl (lv_at hl 0 rfl) ?_
    refine va_get (D := G) (ci := 7) (v := .ref q_items) (C := RX7) (T := TX7) (N := 3) hx hb htA lyX7 hown hK hP 0 rfl rfl 2 (by decide) (htA _ a_fl_X7_18) (fun _ h9 => h9) rfl dX7_itemAt_11 ?_
    refine lv_bipush (v := 60) hx hb dX7_itemAt_14 (by decide) ?_
    refine lv_iload_n hx hb dX7_itemAt_16 rfl (lv_at hl 1 rfl) ?_
    refine lv_imul hx hb dX7_itemAt_17 ?_
    refine lv_iload_n hx hb dX7_itemAt_18 rfl (lv_at hl 2 rfl) ?_
    refine lv_iadd hx hb dX7_itemAt_19 ?_
    obtain ⟨i_15, hf⟩ := ck_s hf
    refine va_lald (D := G) hx hb hK hP 2 1 rfl rfl i_15 dX7_itemAt_20 ?_
    refine lv_goto (tgt := 25) hx hb dX7_itemAt_21 (by decide) ?_
    have ho := Option.some.inj hf
    subst ho
    exact W.lret (v := (f_items (Int32.toNatClampNeg ((60 * p1) + p2)))) hx hb hr (fun t ht hW => ⟨⟨_, (), rfl, rfl, by rw [ht]; exact hP, va_K.moved hW.alike hK, hD⟩, hS.F ht⟩) hS.2.2 dX7_itemAt_25
set_option maxRecDepth 100000 in
set_option maxHeartbeats 4000000 in
theorem kX7_cutTo (l : Launch) (G : va_G) (cy : Nat → ClassId) (sz : Nat) (p0 : Int32) (p1 : Int64) {o : Int64} (hf : fX7_cutTo p0 p1 = some o) : Met l yX7_cutTo (Cond.code yX7_cutTo cX7_cutTo 3 (some .long) :: AW) ({ frames := 0, cells := 0, slots := 0, locals := 0 } : Room) (va_Pc [.int p0, .long p1] (Wp G cy [] sz)) (va_Ql (fun r (_ : Unit) => r = o) (fun _ => Wq G cy (va_A [] sz) []) (va_A [] sz)) 0 0 (va_A [] sz) := by
  refine Met.ofW (cc := cX7_cutTo) (maxL := 3) (ret := (some .long)) (by decide) rfl ?_
  intro p e s m args below meth c s₁ B hml hv
  obtain ⟨rfl, hsz, hP, hK, hD0, hN⟩ := hv
  have hx := B.exec
  have hb := B.bytes
  have hr := B.returns
  have htA : ∀ w ∈ AW, w.before _ s = true := fun w h => atoms_spec (ws := Cond.code yX7_cutTo cX7_cutTo 3 (some .long) :: AW) B.pre w (List.mem_cons_of_mem _ h)
  have hown : s.vm.findClass RX7 = some m.cls := findClass_of_methodNamed B.named
  have hlocks := B.notSynchronized
  subst hsz
  have hD := hD0.self (sz := s.heap.size)
  generalize hAe : va_A [] s.heap.size = A at hD ⊢
  have hA : ∀ q : Nat, s.heap.size ≤ q → A q := fun q h => by rw [← hAe]; exact Or.inr h
  have hS : va_S A s.heap s.heap [] := va_S.rf
  have hl := lv_entry ([.int p0, .long p1]) (n := 3) (Nat.le_of_ble_eq_true rfl)
  rw [lg_entry_eq]
  generalize (lg_sl ([.int p0, .long p1]) ++ List.replicate (3 - (lg_sl ([.int p0, .long p1])).length) Slot.unset).toArray = ls at hl ⊢
  have hl : lv_has ls 3 [(0, .int p0), (1, .long p1)] := hl
  have hP : va_P G vwCl [] s.heap := hP
  have hf : ((if p0 = 0 then some ((Int32.toInt64 (Int8.toInt32 (Int32.toInt8 (Int64.toInt32 p1))))) else if p0 = 1 then some ((Int32.toInt64 (Int16.toInt32 (Int32.toInt16 (Int64.toInt32 p1))))) else if p0 = 2 then some ((Int32.toInt64 (Int64.toInt32 p1))) else if p0 = 3 then some (p1) else (if (lg_cmp p1 0) = 0 then some (0) else some (1))) : Option (Int64)) = some o := hf
  refine lv_iload_n hx hb dX7_cutTo_0 rfl (lv_at hl 0 rfl) ?_
  by_cases c_21 : p0 = 0
  · have hf := ite_t c_21 hf
    refine lv_tableIn (off := 31) (tgt := 32) hx hb dX7_cutTo_1 (by rw [c_21]; decide) (by rw [c_21]; decide) (by rw [c_21]; rfl) (by decide) ?_
    refine lv_lload_n hx hb dX7_cutTo_32 rfl (lv_at hl 1 rfl) ?_
    refine lv_l2i hx hb dX7_cutTo_33 rfl ?_
    refine lv_i2b hx hb dX7_cutTo_34 rfl ?_
    refine lv_i2l hx hb dX7_cutTo_35 rfl ?_
    have ho := Option.some.inj hf
    subst ho
    exact W.lret (v := (Int32.toInt64 (Int8.toInt32 (Int32.toInt8 (Int64.toInt32 p1))))) hx hb hr (fun t ht hW => ⟨⟨_, (), rfl, rfl, by rw [ht]; exact hP, va_K.moved hW.alike hK, hD⟩, hS.F ht⟩) hS.2.2 dX7_cutTo_36
  · have hf := ite_f c_21 hf
    by_cases c_22 : p0 = 1
    · have hf := ite_t c_22 hf
      refine lv_tableIn (off := 36) (tgt := 37) hx hb dX7_cutTo_1 (by rw [c_22]; decide) (by rw [c_22]; decide) (by rw [c_22]; rfl) (by decide) ?_
      refine lv_lload_n hx hb dX7_cutTo_37 rfl (lv_at hl 1 rfl) ?_
      refine lv_l2i hx hb dX7_cutTo_38 rfl ?_
      refine lv_i2s hx hb dX7_cutTo_39 rfl ?_
      refine lv_i2l hx hb dX7_cutTo_40 rfl ?_
      have ho := Option.some.inj hf
      subst ho
      exact W.lret (v := (Int32.toInt64 (Int16.toInt32 (Int32.toInt16 (Int64.toInt32 p1))))) hx hb hr (fun t ht hW => ⟨⟨_, (), rfl, rfl, by rw [ht]; exact hP, va_K.moved hW.alike hK, hD⟩, hS.F ht⟩) hS.2.2 dX7_cutTo_41
    · have hf := ite_f c_22 hf
      by_cases c_23 : p0 = 2
      · have hf := ite_t c_23 hf
        refine lv_tableIn (off := 41) (tgt := 42) hx hb dX7_cutTo_1 (by rw [c_23]; decide) (by rw [c_23]; decide) (by rw [c_23]; rfl) (by decide) ?_
        refine lv_lload_n hx hb dX7_cutTo_42 rfl (lv_at hl 1 rfl) ?_
        refine lv_l2i hx hb dX7_cutTo_43 rfl ?_
        refine lv_i2l hx hb dX7_cutTo_44 rfl ?_
        have ho := Option.some.inj hf
        subst ho
        exact W.lret (v := (Int32.toInt64 (Int64.toInt32 p1))) hx hb hr (fun t ht hW => ⟨⟨_, (), rfl, rfl, by rw [ht]; exact hP, va_K.moved hW.alike hK, hD⟩, hS.F ht⟩) hS.2.2 dX7_cutTo_45
      · have hf := ite_f c_23 hf
        by_cases c_24 : p0 = 3
        · have hf := ite_t c_24 hf
          refine lv_tableIn (off := 45) (tgt := 46) hx hb dX7_cutTo_1 (by rw [c_24]; decide) (by rw [c_24]; decide) (by rw [c_24]; rfl) (by decide) ?_
          refine lv_lload_n hx hb dX7_cutTo_46 rfl (lv_at hl 1 rfl) ?_
          have ho := Option.some.inj hf
          subst ho
          exact W.lret (v := p1) hx hb hr (fun t ht hW => ⟨⟨_, (), rfl, rfl, by rw [ht]; exact hP, va_K.moved hW.alike hK, hD⟩, hS.F ht⟩) hS.2.2 dX7_cutTo_47
        · have hf := ite_f c_24 hf
          have c_21n := sw_no (a := 0) c_21 (by decide)
          have c_22n := sw_no (a := 1) c_22 (by decide)
          have c_23n := sw_no (a := 2) c_23 (by decide)
          have c_24n := sw_no (a := 3) c_24 (by decide)
          refine lv_tableOut (tgt := 48) hx hb dX7_cutTo_1 (by omega) (by decide) ?_
          refine lv_lload_n hx hb dX7_cutTo_48 rfl (lv_at hl 1 rfl) ?_
          refine lv_lconst (v := 0) hx hb dX7_cutTo_49 (by decide) ?_
          refine W.lcmp hx hb dX7_cutTo_50 ?_
          refine lv_if_eq (tgt := 58) hx hb dX7_cutTo_51 (by decide) (fun c_25 => ?_) (fun c_25 => ?_)
          · have hf := ite_t c_25 hf
            refine lv_lconst (v := 0) hx hb dX7_cutTo_58 (by decide) ?_
            have ho := Option.some.inj hf
            subst ho
            exact W.lret (v := 0) hx hb hr (fun t ht hW => ⟨⟨_, (), rfl, rfl, by rw [ht]; exact hP, va_K.moved hW.alike hK, hD⟩, hS.F ht⟩) hS.2.2 dX7_cutTo_59
          · have hf := ite_f c_25 hf
            refine lv_lconst (v := 1) hx hb dX7_cutTo_54 (by decide) ?_
            refine lv_goto (tgt := 59) hx hb dX7_cutTo_55 (by decide) ?_
            have ho := Option.some.inj hf
            subst ho
            exact W.lret (v := 1) hx hb hr (fun t ht hW => ⟨⟨_, (), rfl, rfl, by rw [ht]; exact hP, va_K.moved hW.alike hK, hD⟩, hS.F ht⟩) hS.2.2 dX7_cutTo_59
set_option maxRecDepth 100000 in
set_option maxHeartbeats 4000000 in
theorem kX7_setItem (l : Launch) (G : va_G) (cy : Nat → ClassId) (q_this : Nat) (q_sorts : Nat) (q_lengths : Nat) (q_items : Nat) (sz : Nat) (f_sorts : Nat → Int32) (f_lengths : Nat → Int32) (f_items : Nat → Int64) (p1 : Int32) (p2 : Int32) (p3 : Int64) {o : (Nat → Int64)} (hf : fX7_setItem p1 p2 p3 f_sorts f_lengths f_items = some o) : Met l yX7_setItem (Cond.code yX7_setItem cX7_setItem 5 none :: AW) ({ frames := 3, cells := 0, slots := 0, locals := 66 } : Room) (va_Pc [.ref q_this, .int p1, .int p2, .long p3] (Wp G cy [(q_this, .inr (7, [.ref q_sorts, .ref q_lengths, .ref q_items])), (q_sorts, .inl (cy 0, 6, .inl f_sorts)), (q_lengths, .inl (cy 0, 6, .inl f_lengths)), (q_items, .inl (cy 1, 360, .inr (.inl f_items)))] sz)) (va_Qv (fun (_ : Unit) => True) (fun _ => Wq G cy (va_A [(q_this, .inr (7, [.ref q_sorts, .ref q_lengths, .ref q_items])), (q_sorts, .inl (cy 0, 6, .inl f_sorts)), (q_lengths, .inl (cy 0, 6, .inl f_lengths)), (q_items, .inl (cy 1, 360, .inr (.inl f_items)))] sz) [(q_this, .inr (7, [.ref q_sorts, .ref q_lengths, .ref q_items])), (q_sorts, .inl (cy 0, 6, .inl f_sorts)), (q_lengths, .inl (cy 0, 6, .inl f_lengths)), (q_items, .inl (cy 1, 360, .inr (.inl o)))]) (va_A [(q_this, .inr (7, [.ref q_sorts, .ref q_lengths, .ref q_items])), (q_sorts, .inl (cy 0, 6, .inl f_sorts)), (q_lengths, .inl (cy 0, 6, .inl f_lengths)), (q_items, .inl (cy 1, 360, .inr (.inl f_items)))] sz)) 0 0 (va_A [(q_this, .inr (7, [.ref q_sorts, .ref q_lengths, .ref q_items])), (q_sorts, .inl (cy 0, 6, .inl f_sorts)), (q_lengths, .inl (cy 0, 6, .inl f_lengths)), (q_items, .inl (cy 1, 360, .inr (.inl f_items)))] sz) := by
  refine Met.ofW (cc := cX7_setItem) (maxL := 5) (ret := none) (by decide) rfl ?_
  intro p e s m args below meth c s₁ B hml hv
  obtain ⟨rfl, hsz, hP, hK, hD0, hN⟩ := hv
  have hx := B.exec
  have hb := B.bytes
  have hr := B.returns
  have htA : ∀ w ∈ AW, w.before _ s = true := fun w h => atoms_spec (ws := Cond.code yX7_setItem cX7_setItem 5 none :: AW) B.pre w (List.mem_cons_of_mem _ h)
  have hown : s.vm.findClass RX7 = some m.cls := findClass_of_methodNamed B.named
  have hlocks := B.notSynchronized
  subst hsz
  have hD := hD0.self (sz := s.heap.size)
  generalize hAe : va_A [(q_this, .inr (7, [.ref q_sorts, .ref q_lengths, .ref q_items])), (q_sorts, .inl (cy 0, 6, .inl f_sorts)), (q_lengths, .inl (cy 0, 6, .inl f_lengths)), (q_items, .inl (cy 1, 360, .inr (.inl f_items)))] s.heap.size = A at hD ⊢
  have hA : ∀ q : Nat, s.heap.size ≤ q → A q := fun q h => by rw [← hAe]; exact Or.inr h
  have hS : va_S A s.heap s.heap [] := va_S.rf
  have hl := lv_entry ([.ref q_this, .int p1, .int p2, .long p3]) (n := 5) (Nat.le_of_ble_eq_true rfl)
  rw [lg_entry_eq]
  generalize (lg_sl ([.ref q_this, .int p1, .int p2, .long p3]) ++ List.replicate (5 - (lg_sl ([.ref q_this, .int p1, .int p2, .long p3])).length) Slot.unset).toArray = ls at hl ⊢
  have hl : lv_has ls 5 [(0, .ref q_this), (1, .int p1), (2, .int p2), (3, .long p3)] := hl
  have hP : va_P G vwCl [(q_this, .inr (7, [.ref q_sorts, .ref q_lengths, .ref q_items])), (q_sorts, .inl (cy 0, 6, .inl f_sorts)), (q_lengths, .inl (cy 0, 6, .inl f_lengths)), (q_items, .inl (cy 1, 360, .inr (.inl f_items)))] s.heap := hP
  have hf : ((fX7_hasRun p1 p2 1 f_lengths).bind fun q4 => ((if q4 = 0 then some (f_items) else ck p1 6 ((fX7_cutTo (f_sorts (Int32.toNatClampNeg p1)) p3).bind fun q27 => (ck ((60 * p1) + p2) 360 (some ((vp_updL f_items (Int32.toNatClampNeg ((60 * p1) + p2)) q27))))))) : Option ((Nat → Int64))) = some o := hf
  refine lv_aload_n hx hb dX7_setItem_0 rfl (lv_at hl 0 rfl) ?_
  refine lv_iload_n hx hb dX7_setItem_1 rfl (lv_at hl 1 rfl) ?_
  refine lv_iload_n hx hb dX7_setItem_2 rfl (lv_at hl 2 rfl) ?_
  refine lv_iconst (v := 1) hx hb dX7_setItem_3 (by decide) ?_
  obtain ⟨q4, h4_21, hf⟩ := bd_s hf
  refine u_calliR (va_runV (As := [.int p1, .int p2, .int 1]) (rest := []) ⟨hx, hb, hml, hown, htA⟩ (kX7_hasRun l G cy q_this q_sorts q_lengths q_items s.heap.size f_lengths p1 p2 1 h4_21) (u_cwV htA a_ml_X7_34 pk_X7_hasRun ⟨Nat.le_of_ble_eq_true rfl, Nat.le_of_ble_eq_true rfl⟩) (u_preV hK hN hP hD [0, 2] rfl (by decide) 0 rfl rfl) rfl rfl hl.1 rfl (lv_room (Nat.le_of_ble_eq_true rfl)) dX7_setItem_4 ⟨Nat.zero_le _, Nat.zero_le _⟩) hP hD hS hA [0, 2] rfl (fun H locs hP hS => ?_)
  refine lv_if_eq (tgt := 31) hx hb dX7_setItem_7 (by decide) (fun c_22 => ?_) (fun c_22 => ?_)
  · have hf := ite_t c_22 hf
    have ho := Option.some.inj hf
    subst ho
    exact W.vret hx hb hr (fun t ht hW => ⟨⟨(), rfl, trivial, by rw [ht]; exact hP, va_K.moved hW.alike hK, hD⟩, hS.F ht⟩) hS.2.2 dX7_setItem_31
  · have hf := ite_f c_22 hf
    refine lv_aload_n hx hb dX7_setItem_10 rfl (lv_at hl 0 rfl) ?_
    refine va_get (D := G) (ci := 7) (v := .ref q_items) (C := RX7) (T := TX7) (N := 3) hx hb htA lyX7 hown hK hP 0 rfl rfl 2 (by decide) (htA _ a_fl_X7_18) (fun _ h9 => h9) rfl dX7_setItem_11 ?_
    refine lv_bipush (v := 60) hx hb dX7_setItem_14 (by decide) ?_
    refine lv_iload_n hx hb dX7_setItem_16 rfl (lv_at hl 1 rfl) ?_
    refine lv_imul hx hb dX7_setItem_17 ?_
    refine lv_iload_n hx hb dX7_setItem_18 rfl (lv_at hl 2 rfl) ?_
    refine lv_iadd hx hb dX7_setItem_19 ?_
    refine lv_aload_n hx hb dX7_setItem_20 rfl (lv_at hl 0 rfl) ?_
    refine va_get (D := G) (ci := 7) (v := .ref q_sorts) (C := RX7) (T := TX7) (N := 3) hx hb htA lyX7 hown hK hP 0 rfl rfl 0 (by decide) (htA _ a_fl_X7_11) (fun _ h9 => h9) rfl dX7_setItem_21 ?_
    refine lv_iload_n hx hb dX7_setItem_24 rfl (lv_at hl 1 rfl) ?_
    obtain ⟨i_23, hf⟩ := ck_s hf
    refine va_iald (D := G) hx hb hK hP 1 0 rfl rfl i_23 dX7_setItem_25 ?_
    refine lv_lload_n hx hb dX7_setItem_26 rfl (lv_at hl 3 rfl) ?_
    obtain ⟨q27, h27_24, hf⟩ := bd_s hf
    refine u_calllR (va_runS (As := [.int (f_sorts (Int32.toNatClampNeg p1)), .long p3]) (rest := [.int ((60 * p1) + p2), .ref q_items]) ⟨hx, hb, hml, hown, htA⟩ (kX7_cutTo l G cy H.size (f_sorts (Int32.toNatClampNeg p1)) p3 h27_24) (u_cwS htA a_ml_X7_37 pk_X7_cutTo ⟨Nat.le_of_ble_eq_true rfl, Nat.le_of_ble_eq_true rfl⟩) (u_preS hK hN hP hD [] rfl (by decide)) rfl rfl hl.1 rfl (lv_room (Nat.le_of_ble_eq_true rfl)) dX7_setItem_27 ⟨Nat.zero_le _, Nat.zero_le _⟩) hP hD hS hA [] rfl (fun H locs hP hS => ?_)
    obtain ⟨i_25, hf⟩ := ck_s hf
    refine va_last (D := G) hx hb hK hP hD hS 3 1 rfl rfl i_25 dX7_setItem_30 (fun H locs hP hD hS => ?_)
    have hP : va_P G vwCl [(q_this, .inr (7, [.ref q_sorts, .ref q_lengths, .ref q_items])), (q_sorts, .inl (cy 0, 6, .inl f_sorts)), (q_lengths, .inl (cy 0, 6, .inl f_lengths)), (q_items, .inl (cy 1, 360, .inr (.inl (vp_updL f_items (Int32.toNatClampNeg ((60 * p1) + p2)) q27))))] H := hP
    have hD : va_D A [(q_this, .inr (7, [.ref q_sorts, .ref q_lengths, .ref q_items])), (q_sorts, .inl (cy 0, 6, .inl f_sorts)), (q_lengths, .inl (cy 0, 6, .inl f_lengths)), (q_items, .inl (cy 1, 360, .inr (.inl (vp_updL f_items (Int32.toNatClampNeg ((60 * p1) + p2)) q27))))] := hD
    have ho := Option.some.inj hf
    subst ho
    exact W.vret hx hb hr (fun t ht hW => ⟨⟨(), rfl, trivial, by rw [ht]; exact hP, va_K.moved hW.alike hK, hD⟩, hS.F ht⟩) hS.2.2 dX7_setItem_31
set_option maxRecDepth 100000 in
set_option maxHeartbeats 4000000 in
theorem kX7_copyRun (l : Launch) (G : va_G) (cy : Nat → ClassId) (q_this : Nat) (q_sorts : Nat) (q_lengths : Nat) (q_items : Nat) (sz : Nat) (f_lengths : Nat → Int32) (f_items : Nat → Int64) (p1 : Int32) (p2 : Int32) (p3 : Int32) (p4 : Int32) (p5 : Int32) {o : (Nat → Int64)} (hf : fX7_copyRun p1 p2 p3 p4 p5 f_lengths f_items = some o) : Met l yX7_copyRun (Cond.code yX7_copyRun cX7_copyRun 6 none :: AW) ({ frames := 3, cells := 0, slots := 0, locals := 66 } : Room) (va_Pc [.ref q_this, .int p1, .int p2, .int p3, .int p4, .int p5] (Wp G cy [(q_this, .inr (7, [.ref q_sorts, .ref q_lengths, .ref q_items])), (q_lengths, .inl (cy 0, 6, .inl f_lengths)), (q_items, .inl (cy 1, 360, .inr (.inl f_items)))] sz)) (va_Qv (fun (_ : Unit) => True) (fun _ => Wq G cy (va_A [(q_this, .inr (7, [.ref q_sorts, .ref q_lengths, .ref q_items])), (q_lengths, .inl (cy 0, 6, .inl f_lengths)), (q_items, .inl (cy 1, 360, .inr (.inl f_items)))] sz) [(q_this, .inr (7, [.ref q_sorts, .ref q_lengths, .ref q_items])), (q_lengths, .inl (cy 0, 6, .inl f_lengths)), (q_items, .inl (cy 1, 360, .inr (.inl o)))]) (va_A [(q_this, .inr (7, [.ref q_sorts, .ref q_lengths, .ref q_items])), (q_lengths, .inl (cy 0, 6, .inl f_lengths)), (q_items, .inl (cy 1, 360, .inr (.inl f_items)))] sz)) 0 0 (va_A [(q_this, .inr (7, [.ref q_sorts, .ref q_lengths, .ref q_items])), (q_lengths, .inl (cy 0, 6, .inl f_lengths)), (q_items, .inl (cy 1, 360, .inr (.inl f_items)))] sz) := by
  refine Met.ofW (cc := cX7_copyRun) (maxL := 6) (ret := none) (by decide) rfl ?_
  intro p e s m args below meth c s₁ B hml hv
  obtain ⟨rfl, hsz, hP, hK, hD0, hN⟩ := hv
  have hx := B.exec
  have hb := B.bytes
  have hr := B.returns
  have htA : ∀ w ∈ AW, w.before _ s = true := fun w h => atoms_spec (ws := Cond.code yX7_copyRun cX7_copyRun 6 none :: AW) B.pre w (List.mem_cons_of_mem _ h)
  have hown : s.vm.findClass RX7 = some m.cls := findClass_of_methodNamed B.named
  have hlocks := B.notSynchronized
  subst hsz
  have hD := hD0.self (sz := s.heap.size)
  generalize hAe : va_A [(q_this, .inr (7, [.ref q_sorts, .ref q_lengths, .ref q_items])), (q_lengths, .inl (cy 0, 6, .inl f_lengths)), (q_items, .inl (cy 1, 360, .inr (.inl f_items)))] s.heap.size = A at hD ⊢
  have hA : ∀ q : Nat, s.heap.size ≤ q → A q := fun q h => by rw [← hAe]; exact Or.inr h
  have hS : va_S A s.heap s.heap [] := va_S.rf
  have hl := lv_entry ([.ref q_this, .int p1, .int p2, .int p3, .int p4, .int p5]) (n := 6) (Nat.le_of_ble_eq_true rfl)
  rw [lg_entry_eq]
  generalize (lg_sl ([.ref q_this, .int p1, .int p2, .int p3, .int p4, .int p5]) ++ List.replicate (6 - (lg_sl ([.ref q_this, .int p1, .int p2, .int p3, .int p4, .int p5])).length) Slot.unset).toArray = ls at hl ⊢
  have hl : lv_has ls 6 [(0, .ref q_this), (1, .int p1), (2, .int p2), (3, .int p3), (4, .int p4), (5, .int p5)] := hl
  have hP : va_P G vwCl [(q_this, .inr (7, [.ref q_sorts, .ref q_lengths, .ref q_items])), (q_lengths, .inl (cy 0, 6, .inl f_lengths)), (q_items, .inl (cy 1, 360, .inr (.inl f_items)))] s.heap := hP
  have hf : ((fX7_hasRun p1 p2 p5 f_lengths).bind fun q5 => ((if q5 = 0 then some (f_items) else (fX7_hasRun p3 p4 p5 f_lengths).bind fun q17 => ((if q17 = 0 then some (f_items) else cpk ((60 * p1) + p2) ((60 * p3) + p4) p5 360 360 (some ((va_cpy f_items f_items (Int32.toNatClampNeg ((60 * p1) + p2)) (Int32.toNatClampNeg ((60 * p3) + p4)) (Int32.toNatClampNeg p5)))))))) : Option ((Nat → Int64))) = some o := hf
  refine lv_aload_n hx hb dX7_copyRun_0 rfl (lv_at hl 0 rfl) ?_
  refine lv_iload_n hx hb dX7_copyRun_1 rfl (lv_at hl 1 rfl) ?_
  refine lv_iload_n hx hb dX7_copyRun_2 rfl (lv_at hl 2 rfl) ?_
  refine lv_iload hx hb dX7_copyRun_3 (lv_at hl 5 rfl) ?_
  obtain ⟨q5, h5_21, hf⟩ := bd_s hf
  refine u_calliR (va_runV (As := [.int p1, .int p2, .int p5]) (rest := []) ⟨hx, hb, hml, hown, htA⟩ (kX7_hasRun l G cy q_this q_sorts q_lengths q_items s.heap.size f_lengths p1 p2 p5 h5_21) (u_cwV htA a_ml_X7_34 pk_X7_hasRun ⟨Nat.le_of_ble_eq_true rfl, Nat.le_of_ble_eq_true rfl⟩) (u_preV hK hN hP hD [0, 1] rfl (by decide) 0 rfl rfl) rfl rfl hl.1 rfl (lv_room (Nat.le_of_ble_eq_true rfl)) dX7_copyRun_5 ⟨Nat.zero_le _, Nat.zero_le _⟩) hP hD hS hA [0, 1] rfl (fun H locs hP hS => ?_)
  refine lv_if_eq (tgt := 49) hx hb dX7_copyRun_8 (by decide) (fun c_22 => ?_) (fun c_22 => ?_)
  · have hf := ite_t c_22 hf
    have ho := Option.some.inj hf
    subst ho
    exact W.vret hx hb hr (fun t ht hW => ⟨⟨(), rfl, trivial, by rw [ht]; exact hP, va_K.moved hW.alike hK, hD⟩, hS.F ht⟩) hS.2.2 dX7_copyRun_49
  · have hf := ite_f c_22 hf
    refine lv_aload_n hx hb dX7_copyRun_11 rfl (lv_at hl 0 rfl) ?_
    refine lv_iload_n hx hb dX7_copyRun_12 rfl (lv_at hl 3 rfl) ?_
    refine lv_iload hx hb dX7_copyRun_13 (lv_at hl 4 rfl) ?_
    refine lv_iload hx hb dX7_copyRun_15 (lv_at hl 5 rfl) ?_
    obtain ⟨q17, h17_23, hf⟩ := bd_s hf
    refine u_calliR (va_runV (As := [.int p3, .int p4, .int p5]) (rest := []) ⟨hx, hb, hml, hown, htA⟩ (kX7_hasRun l G cy q_this q_sorts q_lengths q_items H.size f_lengths p3 p4 p5 h17_23) (u_cwV htA a_ml_X7_34 pk_X7_hasRun ⟨Nat.le_of_ble_eq_true rfl, Nat.le_of_ble_eq_true rfl⟩) (u_preV hK hN hP hD [0, 1] rfl (by decide) 0 rfl rfl) rfl rfl hl.1 rfl (lv_room (Nat.le_of_ble_eq_true rfl)) dX7_copyRun_17 ⟨Nat.zero_le _, Nat.zero_le _⟩) hP hD hS hA [0, 1] rfl (fun H locs hP hS => ?_)
    refine lv_if_eq (tgt := 49) hx hb dX7_copyRun_20 (by decide) (fun c_24 => ?_) (fun c_24 => ?_)
    · have hf := ite_t c_24 hf
      have ho := Option.some.inj hf
      subst ho
      exact W.vret hx hb hr (fun t ht hW => ⟨⟨(), rfl, trivial, by rw [ht]; exact hP, va_K.moved hW.alike hK, hD⟩, hS.F ht⟩) hS.2.2 dX7_copyRun_49
    · have hf := ite_f c_24 hf
      refine lv_aload_n hx hb dX7_copyRun_23 rfl (lv_at hl 0 rfl) ?_
      refine va_get (D := G) (ci := 7) (v := .ref q_items) (C := RX7) (T := TX7) (N := 3) hx hb htA lyX7 hown hK hP 0 rfl rfl 2 (by decide) (htA _ a_fl_X7_18) (fun _ h9 => h9) rfl dX7_copyRun_24 ?_
      refine lv_bipush (v := 60) hx hb dX7_copyRun_27 (by decide) ?_
      refine lv_iload_n hx hb dX7_copyRun_29 rfl (lv_at hl 1 rfl) ?_
      refine lv_imul hx hb dX7_copyRun_30 ?_
      refine lv_iload_n hx hb dX7_copyRun_31 rfl (lv_at hl 2 rfl) ?_
      refine lv_iadd hx hb dX7_copyRun_32 ?_
      refine lv_aload_n hx hb dX7_copyRun_33 rfl (lv_at hl 0 rfl) ?_
      refine va_get (D := G) (ci := 7) (v := .ref q_items) (C := RX7) (T := TX7) (N := 3) hx hb htA lyX7 hown hK hP 0 rfl rfl 2 (by decide) (htA _ a_fl_X7_18) (fun _ h9 => h9) rfl dX7_copyRun_34 ?_
      refine lv_bipush (v := 60) hx hb dX7_copyRun_37 (by decide) ?_
      refine lv_iload_n hx hb dX7_copyRun_39 rfl (lv_at hl 3 rfl) ?_
      refine lv_imul hx hb dX7_copyRun_40 ?_
      refine lv_iload hx hb dX7_copyRun_41 (lv_at hl 4 rfl) ?_
      refine lv_iadd hx hb dX7_copyRun_43 ?_
      refine lv_iload hx hb dX7_copyRun_44 (lv_at hl 5 rfl) ?_
      obtain ⟨⟨y_251, y_252, y_253, y_254, y_255⟩, hf⟩ := cpk_s hf
      refine va_copyl (D := G) hx hb (by rw [hml]; exact hl.1.symm) hown (htA _ a_ml_X7_41) (htA _ a_na_arraycopyName) (htA _ a_st_arraycopyName) (htA _ a_in_J10) hK hP hD hS 2 2 1 1 rfl rfl rfl rfl rfl y_251 y_252 y_253 y_254 y_255 (fun _ _ => rfl) (Nat.le_of_ble_eq_true rfl) (Nat.le_of_ble_eq_true (by decide +kernel)) dX7_copyRun_46 (fun H locs hP hD hS => ?_)
      have hP : va_P G vwCl [(q_this, .inr (7, [.ref q_sorts, .ref q_lengths, .ref q_items])), (q_lengths, .inl (cy 0, 6, .inl f_lengths)), (q_items, .inl (cy 1, 360, .inr (.inl (va_cpy f_items f_items (Int32.toNatClampNeg ((60 * p1) + p2)) (Int32.toNatClampNeg ((60 * p3) + p4)) (Int32.toNatClampNeg p5)))))] H := hP
      have hD : va_D A [(q_this, .inr (7, [.ref q_sorts, .ref q_lengths, .ref q_items])), (q_lengths, .inl (cy 0, 6, .inl f_lengths)), (q_items, .inl (cy 1, 360, .inr (.inl (va_cpy f_items f_items (Int32.toNatClampNeg ((60 * p1) + p2)) (Int32.toNatClampNeg ((60 * p3) + p4)) (Int32.toNatClampNeg p5)))))] := hD
      have ho := Option.some.inj hf
      subst ho
      exact W.vret hx hb hr (fun t ht hW => ⟨⟨(), rfl, trivial, by rw [ht]; exact hP, va_K.moved hW.alike hK, hD⟩, hS.F ht⟩) hS.2.2 dX7_copyRun_49
set_option maxRecDepth 100000 in
set_option maxHeartbeats 4000000 in
theorem kX8_tableNumber (l : Launch) (G : va_G) (cy : Nat → ClassId) (q_this : Nat) (q_now : Nat) (q_saved : Nat) (q_trial : Nat) (q_lowering : Nat) (q_counts : Nat) (q_expansion : Nat) (q_setUp : Nat) (q_tapes : Nat) (q_now_ground : Nat) (q_now_notes : Nat) (q_now_seen : Nat) (q_now_events : Nat) (q_now_book : Nat) (sz : Nat) (f_imaged : Int32) (f_now_ground_a : Int32) (f_now_ground_b : Int32) (f_now_ground_x : Int32) (f_now_ground_y : Int32) {o : Int32} (hf : fX8_tableNumber f_now_ground_a f_now_ground_b = some o) : Met l yX8_tableNumber (Cond.code yX8_tableNumber cX8_tableNumber 1 (some .int) :: AW) ({ frames := 0, cells := 0, slots := 0, locals := 0 } : Room) (va_Pc [.ref q_this] (Wp G cy [(q_this, .inr (8, [.ref q_now, .ref q_saved, .int f_imaged, .ref q_trial, .ref q_lowering, .ref q_counts, .ref q_expansion, .ref q_setUp, .ref q_tapes])), (q_now, .inr (6, [.ref q_now_ground, .ref q_now_notes, .ref q_now_seen, .ref q_now_events, .ref q_now_book])), (q_now_ground, .inr (2, [.int f_now_ground_a, .int f_now_ground_b, .int f_now_ground_x, .int f_now_ground_y]))] sz)) (va_Qi (fun r (_ : Unit) => r = o) (fun _ => Wq G cy (va_A [(q_this, .inr (8, [.ref q_now, .ref q_saved, .int f_imaged, .ref q_trial, .ref q_lowering, .ref q_counts, .ref q_expansion, .ref q_setUp, .ref q_tapes])), (q_now, .inr (6, [.ref q_now_ground, .ref q_now_notes, .ref q_now_seen, .ref q_now_events, .ref q_now_book])), (q_now_ground, .inr (2, [.int f_now_ground_a, .int f_now_ground_b, .int f_now_ground_x, .int f_now_ground_y]))] sz) [(q_this, .inr (8, [.ref q_now, .ref q_saved, .int f_imaged, .ref q_trial, .ref q_lowering, .ref q_counts, .ref q_expansion, .ref q_setUp, .ref q_tapes])), (q_now, .inr (6, [.ref q_now_ground, .ref q_now_notes, .ref q_now_seen, .ref q_now_events, .ref q_now_book])), (q_now_ground, .inr (2, [.int f_now_ground_a, .int f_now_ground_b, .int f_now_ground_x, .int f_now_ground_y]))]) (va_A [(q_this, .inr (8, [.ref q_now, .ref q_saved, .int f_imaged, .ref q_trial, .ref q_lowering, .ref q_counts, .ref q_expansion, .ref q_setUp, .ref q_tapes])), (q_now, .inr (6, [.ref q_now_ground, .ref q_now_notes, .ref q_now_seen, .ref q_now_events, .ref q_now_book])), (q_now_ground, .inr (2, [.int f_now_ground_a, .int f_now_ground_b, .int f_now_ground_x, .int f_now_ground_y]))] sz)) 0 0 (va_A [(q_this, .inr (8, [.ref q_now, .ref q_saved, .int f_imaged, .ref q_trial, .ref q_lowering, .ref q_counts, .ref q_expansion, .ref q_setUp, .ref q_tapes])), (q_now, .inr (6, [.ref q_now_ground, .ref q_now_notes, .ref q_now_seen, .ref q_now_events, .ref q_now_book])), (q_now_ground, .inr (2, [.int f_now_ground_a, .int f_now_ground_b, .int f_now_ground_x, .int f_now_ground_y]))] sz) := by
  refine Met.ofW (cc := cX8_tableNumber) (maxL := 1) (ret := (some .int)) (by decide) rfl ?_
  intro p e s m args below meth c s₁ B hml hv
  obtain ⟨rfl, hsz, hP, hK, hD0, hN⟩ := hv
  have hx := B.exec
  have hb := B.bytes
  have hr := B.returns
  have htA : ∀ w ∈ AW, w.before _ s = true := fun w h => atoms_spec (ws := Cond.code yX8_tableNumber cX8_tableNumber 1 (some .int) :: AW) B.pre w (List.mem_cons_of_mem _ h)
  have hown : s.vm.findClass RX8 = some m.cls := findClass_of_methodNamed B.named
  have hlocks := B.notSynchronized
  subst hsz
  have hD := hD0.self (sz := s.heap.size)
  generalize hAe : va_A [(q_this, .inr (8, [.ref q_now, .ref q_saved, .int f_imaged, .ref q_trial, .ref q_lowering, .ref q_counts, .ref q_expansion, .ref q_setUp, .ref q_tapes])), (q_now, .inr (6, [.ref q_now_ground, .ref q_now_notes, .ref q_now_seen, .ref q_now_events, .ref q_now_book])), (q_now_ground, .inr (2, [.int f_now_ground_a, .int f_now_ground_b, .int f_now_ground_x, .int f_now_ground_y]))] s.heap.size = A at hD ⊢
  have hA : ∀ q : Nat, s.heap.size ≤ q → A q := fun q h => by rw [← hAe]; exact Or.inr h
  have hS : va_S A s.heap s.heap [] := va_S.rf
  have hl := lv_entry ([.ref q_this]) (n := 1) (Nat.le_of_ble_eq_true rfl)
  rw [lg_entry_eq]
  generalize (lg_sl ([.ref q_this]) ++ List.replicate (1 - (lg_sl ([.ref q_this])).length) Slot.unset).toArray = ls at hl ⊢
  have hl : lv_has ls 1 [(0, .ref q_this)] := hl
  have hP : va_P G vwCl [(q_this, .inr (8, [.ref q_now, .ref q_saved, .int f_imaged, .ref q_trial, .ref q_lowering, .ref q_counts, .ref q_expansion, .ref q_setUp, .ref q_tapes])), (q_now, .inr (6, [.ref q_now_ground, .ref q_now_notes, .ref q_now_seen, .ref q_now_events, .ref q_now_book])), (q_now_ground, .inr (2, [.int f_now_ground_a, .int f_now_ground_b, .int f_now_ground_x, .int f_now_ground_y]))] s.heap := hP
  have hf : (some (((10 * f_now_ground_a) + f_now_ground_b)) : Option (Int32)) = some o := hf
  refine lv_bipush (v := 10) hx hb dX8_tableNumber_0 (by decide) ?_
  refine lv_aload_n hx hb dX8_tableNumber_2 rfl (lv_at hl 0 rfl) ?_
  refine va_get (D := G) (ci := 8) (v := .ref q_now) (C := RX8) (T := TX8) (N := 9) hx hb htA lyX8 hown hK hP 0 rfl rfl 0 (by decide) (htA _ a_fl_X8_14) (fun _ h9 => h9) rfl dX8_tableNumber_3 ?_
  refine va_getN (D := G) (ci := 6) (v := .ref q_now_ground) (C := RX6) (T := TX6) (N := 5) hx hb htA lyX6 hown hK hP 1 rfl rfl 0 (by decide) (u_link hN (List.mem_of_getElem? (i := 6) rfl)) (fun _ h9 => h9) rfl dX8_tableNumber_6 ?_
  refine va_getN (D := G) (ci := 2) (v := .int f_now_ground_a) (C := RX2) (T := TX2) (N := 4) hx hb htA lyX2 hown hK hP 2 rfl rfl 0 (by decide) (u_link hN (List.mem_of_getElem? (i := 2) rfl)) (fun _ h9 => h9) rfl dX8_tableNumber_9 ?_
  refine lv_imul hx hb dX8_tableNumber_12 ?_
  refine lv_aload_n hx hb dX8_tableNumber_13 rfl (lv_at hl 0 rfl) ?_
  refine va_get (D := G) (ci := 8) (v := .ref q_now) (C := RX8) (T := TX8) (N := 9) hx hb htA lyX8 hown hK hP 0 rfl rfl 0 (by decide) (htA _ a_fl_X8_14) (fun _ h9 => h9) rfl dX8_tableNumber_14 ?_
  refine va_getN (D := G) (ci := 6) (v := .ref q_now_ground) (C := RX6) (T := TX6) (N := 5) hx hb htA lyX6 hown hK hP 1 rfl rfl 0 (by decide) (u_link hN (List.mem_of_getElem? (i := 6) rfl)) (fun _ h9 => h9) rfl dX8_tableNumber_17 ?_
  refine va_getN (D := G) (ci := 2) (v := .int f_now_ground_b) (C := RX2) (T := TX2) (N := 4) hx hb htA lyX2 hown hK hP 2 rfl rfl 1 (by decide) (u_link hN (List.mem_of_getElem? (i := 3) rfl)) (fun _ h9 => h9) rfl dX8_tableNumber_20 ?_
  refine lv_iadd hx hb dX8_tableNumber_23 ?_
  have ho := Option.some.inj hf
  subst ho
  exact W.iret (v := ((10 * f_now_ground_a) + f_now_ground_b)) hx hb hr (fun t ht hW => ⟨⟨_, (), rfl, rfl, by rw [ht]; exact hP, va_K.moved hW.alike hK, hD⟩, hS.F ht⟩) hS.2.2 dX8_tableNumber_24
set_option maxRecDepth 100000 in
set_option maxHeartbeats 4000000 in
theorem kX8_table (l : Launch) (G : va_G) (cy : Nat → ClassId) (q_this : Nat) (q_now : Nat) (q_saved : Nat) (q_trial : Nat) (q_lowering : Nat) (q_counts : Nat) (q_expansion : Nat) (q_setUp : Nat) (q_tapes : Nat) (q_now_ground : Nat) (q_now_notes : Nat) (q_now_seen : Nat) (q_now_events : Nat) (q_now_book : Nat) (sz : Nat) (f_imaged : Int32) (f_now_ground_a : Int32) (f_now_ground_b : Int32) (f_now_ground_x : Int32) (f_now_ground_y : Int32) (p1 : Int32) (p2 : Int32) {o : Int32 × Int32 × Int32} (hf : fX8_table p1 p2 f_now_ground_a f_now_ground_b = some o) : Met l yX8_table (Cond.code yX8_table cX8_table 4 (some .int) :: AW) ({ frames := 1, cells := 0, slots := 0, locals := 22 } : Room) (va_Pc [.ref q_this, .int p1, .int p2] (Wp G cy [(q_this, .inr (8, [.ref q_now, .ref q_saved, .int f_imaged, .ref q_trial, .ref q_lowering, .ref q_counts, .ref q_expansion, .ref q_setUp, .ref q_tapes])), (q_now, .inr (6, [.ref q_now_ground, .ref q_now_notes, .ref q_now_seen, .ref q_now_events, .ref q_now_book])), (q_now_ground, .inr (2, [.int f_now_ground_a, .int f_now_ground_b, .int f_now_ground_x, .int f_now_ground_y]))] sz)) (va_Qi (fun r (_ : Unit) => r = o.1) (fun _ => Wq G cy (va_A [(q_this, .inr (8, [.ref q_now, .ref q_saved, .int f_imaged, .ref q_trial, .ref q_lowering, .ref q_counts, .ref q_expansion, .ref q_setUp, .ref q_tapes])), (q_now, .inr (6, [.ref q_now_ground, .ref q_now_notes, .ref q_now_seen, .ref q_now_events, .ref q_now_book])), (q_now_ground, .inr (2, [.int f_now_ground_a, .int f_now_ground_b, .int f_now_ground_x, .int f_now_ground_y]))] sz) [(q_this, .inr (8, [.ref q_now, .ref q_saved, .int f_imaged, .ref q_trial, .ref q_lowering, .ref q_counts, .ref q_expansion, .ref q_setUp, .ref q_tapes])), (q_now, .inr (6, [.ref q_now_ground, .ref q_now_notes, .ref q_now_seen, .ref q_now_events, .ref q_now_book])), (q_now_ground, .inr (2, [.int o.2.1, .int o.2.2, .int f_now_ground_x, .int f_now_ground_y]))]) (va_A [(q_this, .inr (8, [.ref q_now, .ref q_saved, .int f_imaged, .ref q_trial, .ref q_lowering, .ref q_counts, .ref q_expansion, .ref q_setUp, .ref q_tapes])), (q_now, .inr (6, [.ref q_now_ground, .ref q_now_notes, .ref q_now_seen, .ref q_now_events, .ref q_now_book])), (q_now_ground, .inr (2, [.int f_now_ground_a, .int f_now_ground_b, .int f_now_ground_x, .int f_now_ground_y]))] sz)) 0 0 (va_A [(q_this, .inr (8, [.ref q_now, .ref q_saved, .int f_imaged, .ref q_trial, .ref q_lowering, .ref q_counts, .ref q_expansion, .ref q_setUp, .ref q_tapes])), (q_now, .inr (6, [.ref q_now_ground, .ref q_now_notes, .ref q_now_seen, .ref q_now_events, .ref q_now_book])), (q_now_ground, .inr (2, [.int f_now_ground_a, .int f_now_ground_b, .int f_now_ground_x, .int f_now_ground_y]))] sz) := by
  refine Met.ofW (cc := cX8_table) (maxL := 4) (ret := (some .int)) (by decide) rfl ?_
  intro p e s m args below meth c s₁ B hml hv
  obtain ⟨rfl, hsz, hP, hK, hD0, hN⟩ := hv
  have hx := B.exec
  have hb := B.bytes
  have hr := B.returns
  have htA : ∀ w ∈ AW, w.before _ s = true := fun w h => atoms_spec (ws := Cond.code yX8_table cX8_table 4 (some .int) :: AW) B.pre w (List.mem_cons_of_mem _ h)
  have hown : s.vm.findClass RX8 = some m.cls := findClass_of_methodNamed B.named
  have hlocks := B.notSynchronized
  subst hsz
  have hD := hD0.self (sz := s.heap.size)
  generalize hAe : va_A [(q_this, .inr (8, [.ref q_now, .ref q_saved, .int f_imaged, .ref q_trial, .ref q_lowering, .ref q_counts, .ref q_expansion, .ref q_setUp, .ref q_tapes])), (q_now, .inr (6, [.ref q_now_ground, .ref q_now_notes, .ref q_now_seen, .ref q_now_events, .ref q_now_book])), (q_now_ground, .inr (2, [.int f_now_ground_a, .int f_now_ground_b, .int f_now_ground_x, .int f_now_ground_y]))] s.heap.size = A at hD ⊢
  have hA : ∀ q : Nat, s.heap.size ≤ q → A q := fun q h => by rw [← hAe]; exact Or.inr h
  have hS : va_S A s.heap s.heap [] := va_S.rf
  have hl := lv_entry ([.ref q_this, .int p1, .int p2]) (n := 4) (Nat.le_of_ble_eq_true rfl)
  rw [lg_entry_eq]
  generalize (lg_sl ([.ref q_this, .int p1, .int p2]) ++ List.replicate (4 - (lg_sl ([.ref q_this, .int p1, .int p2])).length) Slot.unset).toArray = ls at hl ⊢
  have hl : lv_has ls 4 [(0, .ref q_this), (1, .int p1), (2, .int p2)] := hl
  have hP : va_P G vwCl [(q_this, .inr (8, [.ref q_now, .ref q_saved, .int f_imaged, .ref q_trial, .ref q_lowering, .ref q_counts, .ref q_expansion, .ref q_setUp, .ref q_tapes])), (q_now, .inr (6, [.ref q_now_ground, .ref q_now_notes, .ref q_now_seen, .ref q_now_events, .ref q_now_book])), (q_now_ground, .inr (2, [.int f_now_ground_a, .int f_now_ground_b, .int f_now_ground_x, .int f_now_ground_y]))] s.heap := hP
  have hf : ((fX8_isIn p1 1 6).bind fun q4 => ((if q4 = 0 then some ((-2), f_now_ground_a, f_now_ground_b) else (fX8_isIn p2 1 6).bind fun q14 => ((if q14 = 0 then some ((-2), f_now_ground_a, f_now_ground_b) else (fX8_tableNumber f_now_ground_a f_now_ground_b).bind fun q24 => (some (q24, p1, p2)))))) : Option (Int32 × Int32 × Int32)) = some o := hf
  refine lv_iload_n hx hb dX8_table_0 rfl (lv_at hl 1 rfl) ?_
  refine lv_iconst (v := 1) hx hb dX8_table_1 (by decide) ?_
  refine lv_bipush (v := 6) hx hb dX8_table_2 (by decide) ?_
  obtain ⟨q4, h4_21, hf⟩ := bd_s hf
  refine u_calliR (va_runS (As := [.int p1, .int 1, .int 6]) (rest := []) ⟨hx, hb, hml, hown, htA⟩ (kX8_isIn l G cy s.heap.size p1 1 6 h4_21) (u_cwS htA a_ml_X8_69 pk_X8_isIn ⟨Nat.le_of_ble_eq_true rfl, Nat.le_of_ble_eq_true rfl⟩) (u_preS hK hN hP hD [] rfl (by decide)) rfl rfl hl.1 rfl (lv_room (Nat.le_of_ble_eq_true rfl)) dX8_table_4 ⟨Nat.zero_le _, Nat.zero_le _⟩) hP hD hS hA [] rfl (fun H locs hP hS => ?_)
  refine lv_if_eq (tgt := 20) hx hb dX8_table_7 (by decide) (fun c_22 => ?_) (fun c_22 => ?_)
  · have hf := ite_t c_22 hf
    refine lv_bipush (v := (-2)) hx hb dX8_table_20 (by decide) ?_
    have ho := Option.some.inj hf
    subst ho
    exact W.iret (v := (-2)) hx hb hr (fun t ht hW => ⟨⟨_, (), rfl, rfl, by rw [ht]; exact hP, va_K.moved hW.alike hK, hD⟩, hS.F ht⟩) hS.2.2 dX8_table_22
  · have hf := ite_f c_22 hf
    refine lv_iload_n hx hb dX8_table_10 rfl (lv_at hl 2 rfl) ?_
    refine lv_iconst (v := 1) hx hb dX8_table_11 (by decide) ?_
    refine lv_bipush (v := 6) hx hb dX8_table_12 (by decide) ?_
    obtain ⟨q14, h14_23, hf⟩ := bd_s hf
    refine u_calliR (va_runS (As := [.int p2, .int 1, .int 6]) (rest := []) ⟨hx, hb, hml, hown, htA⟩ (kX8_isIn l G cy H.size p2 1 6 h14_23) (u_cwS htA a_ml_X8_69 pk_X8_isIn ⟨Nat.le_of_ble_eq_true rfl, Nat.le_of_ble_eq_true rfl⟩) (u_preS hK hN hP hD [] rfl (by decide)) rfl rfl hl.1 rfl (lv_room (Nat.le_of_ble_eq_true rfl)) dX8_table_14 ⟨Nat.zero_le _, Nat.zero_le _⟩) hP hD hS hA [] rfl (fun H locs hP hS => ?_)
    refine lv_if_ne (tgt := 23) hx hb dX8_table_17 (by decide) (fun c_24 => ?_) (fun c_24 => ?_)
    · have hf := ite_f c_24 hf
      refine lv_aload_n hx hb dX8_table_23 rfl (lv_at hl 0 rfl) ?_
      obtain ⟨q24, h24_25, hf⟩ := bd_s hf
      refine u_calliR (va_runV (As := []) (rest := []) ⟨hx, hb, hml, hown, htA⟩ (kX8_tableNumber l G cy q_this q_now q_saved q_trial q_lowering q_counts q_expansion q_setUp q_tapes q_now_ground q_now_notes q_now_seen q_now_events q_now_book H.size f_imaged f_now_ground_a f_now_ground_b f_now_ground_x f_now_ground_y h24_25) (u_cwV htA a_ml_X8_73 pk_X8_tableNumber ⟨Nat.le_of_ble_eq_true rfl, Nat.le_of_ble_eq_true rfl⟩) (u_preV hK hN hP hD [0, 1, 2] rfl (by decide) 0 rfl rfl) rfl rfl hl.1 rfl (lv_room (Nat.le_of_ble_eq_true rfl)) dX8_table_24 ⟨Nat.zero_le _, Nat.zero_le _⟩) hP hD hS hA [0, 1, 2] rfl (fun H locs hP hS => ?_)
      refine lv_istore_n (lv' := [(3, .int q24), (0, .ref q_this), (1, .int p1), (2, .int p2)]) hx hb dX8_table_27 rfl hl (by decide) rfl (fun ls hl => ?_)
      refine lv_aload_n hx hb dX8_table_28 rfl (lv_at hl 1 rfl) ?_
      refine va_get (D := G) (ci := 8) (v := .ref q_now) (C := RX8) (T := TX8) (N := 9) hx hb htA lyX8 hown hK hP 0 rfl rfl 0 (by decide) (htA _ a_fl_X8_14) (fun _ h9 => h9) rfl dX8_table_29 ?_
      refine va_getN (D := G) (ci := 6) (v := .ref q_now_ground) (C := RX6) (T := TX6) (N := 5) hx hb htA lyX6 hown hK hP 1 rfl rfl 0 (by decide) (u_link hN (List.mem_of_getElem? (i := 6) rfl)) (fun _ h9 => h9) rfl dX8_table_32 ?_
      refine lv_iload_n hx hb dX8_table_35 rfl (lv_at hl 2 rfl) ?_
      refine va_putN (D := G) (ci := 2) (v := .int p1) (ty := tyX2 0) (C := RX2) (T := TX2) (N := 4) hx hb htA lyX2 tyX2 tyX2_ok nmX2 hown hK hP hD hS 2 rfl rfl 0 (by decide) (u_link hN (List.mem_of_getElem? (i := 2) rfl)) (fun _ h9 => h9) rfl (tyX2_ok 0 (by decide)) rfl rfl (Nat.le_of_ble_eq_true rfl) dX8_table_36 (fun H locs hP hD hS => ?_)
      have hP : va_P G vwCl [(q_this, .inr (8, [.ref q_now, .ref q_saved, .int f_imaged, .ref q_trial, .ref q_lowering, .ref q_counts, .ref q_expansion, .ref q_setUp, .ref q_tapes])), (q_now, .inr (6, [.ref q_now_ground, .ref q_now_notes, .ref q_now_seen, .ref q_now_events, .ref q_now_book])), (q_now_ground, .inr (2, [.int p1, .int f_now_ground_b, .int f_now_ground_x, .int f_now_ground_y]))] H := hP
      have hD : va_D A [(q_this, .inr (8, [.ref q_now, .ref q_saved, .int f_imaged, .ref q_trial, .ref q_lowering, .ref q_counts, .ref q_expansion, .ref q_setUp, .ref q_tapes])), (q_now, .inr (6, [.ref q_now_ground, .ref q_now_notes, .ref q_now_seen, .ref q_now_events, .ref q_now_book])), (q_now_ground, .inr (2, [.int p1, .int f_now_ground_b, .int f_now_ground_x, .int f_now_ground_y]))] := hD
      refine lv_aload_n hx hb dX8_table_39 rfl (lv_at hl 1 rfl) ?_
      refine va_get (D := G) (ci := 8) (v := .ref q_now) (C := RX8) (T := TX8) (N := 9) hx hb htA lyX8 hown hK hP 0 rfl rfl 0 (by decide) (htA _ a_fl_X8_14) (fun _ h9 => h9) rfl dX8_table_40 ?_
      refine va_getN (D := G) (ci := 6) (v := .ref q_now_ground) (C := RX6) (T := TX6) (N := 5) hx hb htA lyX6 hown hK hP 1 rfl rfl 0 (by decide) (u_link hN (List.mem_of_getElem? (i := 6) rfl)) (fun _ h9 => h9) rfl dX8_table_43 ?_
      refine lv_iload_n hx hb dX8_table_46 rfl (lv_at hl 3 rfl) ?_
      refine va_putN (D := G) (ci := 2) (v := .int p2) (ty := tyX2 1) (C := RX2) (T := TX2) (N := 4) hx hb htA lyX2 tyX2 tyX2_ok nmX2 hown hK hP hD hS 2 rfl rfl 1 (by decide) (u_link hN (List.mem_of_getElem? (i := 3) rfl)) (fun _ h9 => h9) rfl (tyX2_ok 1 (by decide)) rfl rfl (Nat.le_of_ble_eq_true rfl) dX8_table_47 (fun H locs hP hD hS => ?_)
      have hP : va_P G vwCl [(q_this, .inr (8, [.ref q_now, .ref q_saved, .int f_imaged, .ref q_trial, .ref q_lowering, .ref q_counts, .ref q_expansion, .ref q_setUp, .ref q_tapes])), (q_now, .inr (6, [.ref q_now_ground, .ref q_now_notes, .ref q_now_seen, .ref q_now_events, .ref q_now_book])), (q_now_ground, .inr (2, [.int p1, .int p2, .int f_now_ground_x, .int f_now_ground_y]))] H := hP
      have hD : va_D A [(q_this, .inr (8, [.ref q_now, .ref q_saved, .int f_imaged, .ref q_trial, .ref q_lowering, .ref q_counts, .ref q_expansion, .ref q_setUp, .ref q_tapes])), (q_now, .inr (6, [.ref q_now_ground, .ref q_now_notes, .ref q_now_seen, .ref q_now_events, .ref q_now_book])), (q_now_ground, .inr (2, [.int p1, .int p2, .int f_now_ground_x, .int f_now_ground_y]))] := hD
      refine lv_iload_n hx hb dX8_table_50 rfl (lv_at hl 0 rfl) ?_
      have ho := Option.some.inj hf
      subst ho
      exact W.iret (v := q24) hx hb hr (fun t ht hW => ⟨⟨_, (), rfl, rfl, by rw [ht]; exact hP, va_K.moved hW.alike hK, hD⟩, hS.F ht⟩) hS.2.2 dX8_table_51
    · have hf := ite_t c_24 hf
      refine lv_bipush (v := (-2)) hx hb dX8_table_20 (by decide) ?_
      have ho := Option.some.inj hf
      subst ho
      exact W.iret (v := (-2)) hx hb hr (fun t ht hW => ⟨⟨_, (), rfl, rfl, by rw [ht]; exact hP, va_K.moved hW.alike hK, hD⟩, hS.F ht⟩) hS.2.2 dX8_table_22
set_option maxRecDepth 100000 in
set_option maxHeartbeats 4000000 in
theorem kX8_sortNow (l : Launch) (G : va_G) (cy : Nat → ClassId) (q_this : Nat) (q_now : Nat) (q_saved : Nat) (q_trial : Nat) (q_lowering : Nat) (q_counts : Nat) (q_expansion : Nat) (q_setUp : Nat) (q_tapes : Nat) (q_now_ground : Nat) (q_now_notes : Nat) (q_now_seen : Nat) (q_now_events : Nat) (q_now_book : Nat) (sz : Nat) (f_imaged : Int32) (f_now_ground_a : Int32) (f_now_ground_b : Int32) (f_now_ground_x : Int32) (f_now_ground_y : Int32) (f_lowering_x : Int32) (f_lowering_y : Int32) (f_lowering_steps : Int32) (f_lowering_metLetter : Int32) (p1 : Int32) (p2 : Int32) (n : Nat) {o : Int32 × Int32 × Int32 × Int32 × Int32} (hf : fX8_sortNow n p1 p2 f_now_ground_a f_now_ground_b f_lowering_x f_lowering_y f_lowering_steps f_lowering_metLetter = some o) : Met l yX8_sortNow (Cond.code yX8_sortNow cX8_sortNow 3 (some .int) :: AW) ({ frames := 3, cells := 0, slots := 0, locals := 70 } : Room) (va_Pc [.ref q_this, .int p1, .int p2] (Wp G cy [(q_this, .inr (8, [.ref q_now, .ref q_saved, .int f_imaged, .ref q_trial, .ref q_lowering, .ref q_counts, .ref q_expansion, .ref q_setUp, .ref q_tapes])), (q_now, .inr (6, [.ref q_now_ground, .ref q_now_notes, .ref q_now_seen, .ref q_now_events, .ref q_now_book])), (q_now_ground, .inr (2, [.int f_now_ground_a, .int f_now_ground_b, .int f_now_ground_x, .int f_now_ground_y])), (q_lowering, .inr (3, [.int f_lowering_x, .int f_lowering_y, .int f_lowering_steps, .int f_lowering_metLetter]))] sz)) (va_Qi (fun r (_ : Unit) => r = o.1) (fun _ => Wq G cy (va_A [(q_this, .inr (8, [.ref q_now, .ref q_saved, .int f_imaged, .ref q_trial, .ref q_lowering, .ref q_counts, .ref q_expansion, .ref q_setUp, .ref q_tapes])), (q_now, .inr (6, [.ref q_now_ground, .ref q_now_notes, .ref q_now_seen, .ref q_now_events, .ref q_now_book])), (q_now_ground, .inr (2, [.int f_now_ground_a, .int f_now_ground_b, .int f_now_ground_x, .int f_now_ground_y])), (q_lowering, .inr (3, [.int f_lowering_x, .int f_lowering_y, .int f_lowering_steps, .int f_lowering_metLetter]))] sz) [(q_this, .inr (8, [.ref q_now, .ref q_saved, .int f_imaged, .ref q_trial, .ref q_lowering, .ref q_counts, .ref q_expansion, .ref q_setUp, .ref q_tapes])), (q_now, .inr (6, [.ref q_now_ground, .ref q_now_notes, .ref q_now_seen, .ref q_now_events, .ref q_now_book])), (q_now_ground, .inr (2, [.int f_now_ground_a, .int f_now_ground_b, .int f_now_ground_x, .int f_now_ground_y])), (q_lowering, .inr (3, [.int o.2.1, .int o.2.2.1, .int o.2.2.2.1, .int o.2.2.2.2]))]) (va_A [(q_this, .inr (8, [.ref q_now, .ref q_saved, .int f_imaged, .ref q_trial, .ref q_lowering, .ref q_counts, .ref q_expansion, .ref q_setUp, .ref q_tapes])), (q_now, .inr (6, [.ref q_now_ground, .ref q_now_notes, .ref q_now_seen, .ref q_now_events, .ref q_now_book])), (q_now_ground, .inr (2, [.int f_now_ground_a, .int f_now_ground_b, .int f_now_ground_x, .int f_now_ground_y])), (q_lowering, .inr (3, [.int f_lowering_x, .int f_lowering_y, .int f_lowering_steps, .int f_lowering_metLetter]))] sz)) 0 0 (va_A [(q_this, .inr (8, [.ref q_now, .ref q_saved, .int f_imaged, .ref q_trial, .ref q_lowering, .ref q_counts, .ref q_expansion, .ref q_setUp, .ref q_tapes])), (q_now, .inr (6, [.ref q_now_ground, .ref q_now_notes, .ref q_now_seen, .ref q_now_events, .ref q_now_book])), (q_now_ground, .inr (2, [.int f_now_ground_a, .int f_now_ground_b, .int f_now_ground_x, .int f_now_ground_y])), (q_lowering, .inr (3, [.int f_lowering_x, .int f_lowering_y, .int f_lowering_steps, .int f_lowering_metLetter]))] sz) := by
  refine Met.ofW (cc := cX8_sortNow) (maxL := 3) (ret := (some .int)) (by decide) rfl ?_
  intro p e s m args below meth c s₁ B hml hv
  obtain ⟨rfl, hsz, hP, hK, hD0, hN⟩ := hv
  have hx := B.exec
  have hb := B.bytes
  have hr := B.returns
  have htA : ∀ w ∈ AW, w.before _ s = true := fun w h => atoms_spec (ws := Cond.code yX8_sortNow cX8_sortNow 3 (some .int) :: AW) B.pre w (List.mem_cons_of_mem _ h)
  have hown : s.vm.findClass RX8 = some m.cls := findClass_of_methodNamed B.named
  have hlocks := B.notSynchronized
  subst hsz
  have hD := hD0.self (sz := s.heap.size)
  generalize hAe : va_A [(q_this, .inr (8, [.ref q_now, .ref q_saved, .int f_imaged, .ref q_trial, .ref q_lowering, .ref q_counts, .ref q_expansion, .ref q_setUp, .ref q_tapes])), (q_now, .inr (6, [.ref q_now_ground, .ref q_now_notes, .ref q_now_seen, .ref q_now_events, .ref q_now_book])), (q_now_ground, .inr (2, [.int f_now_ground_a, .int f_now_ground_b, .int f_now_ground_x, .int f_now_ground_y])), (q_lowering, .inr (3, [.int f_lowering_x, .int f_lowering_y, .int f_lowering_steps, .int f_lowering_metLetter]))] s.heap.size = A at hD ⊢
  have hA : ∀ q : Nat, s.heap.size ≤ q → A q := fun q h => by rw [← hAe]; exact Or.inr h
  have hS : va_S A s.heap s.heap [] := va_S.rf
  have hl := lv_entry ([.ref q_this, .int p1, .int p2]) (n := 3) (Nat.le_of_ble_eq_true rfl)
  rw [lg_entry_eq]
  generalize (lg_sl ([.ref q_this, .int p1, .int p2]) ++ List.replicate (3 - (lg_sl ([.ref q_this, .int p1, .int p2])).length) Slot.unset).toArray = ls at hl ⊢
  have hl : lv_has ls 3 [(0, .ref q_this), (1, .int p1), (2, .int p2)] := hl
  have hP : va_P G vwCl [(q_this, .inr (8, [.ref q_now, .ref q_saved, .int f_imaged, .ref q_trial, .ref q_lowering, .ref q_counts, .ref q_expansion, .ref q_setUp, .ref q_tapes])), (q_now, .inr (6, [.ref q_now_ground, .ref q_now_notes, .ref q_now_seen, .ref q_now_events, .ref q_now_book])), (q_now_ground, .inr (2, [.int f_now_ground_a, .int f_now_ground_b, .int f_now_ground_x, .int f_now_ground_y])), (q_lowering, .inr (3, [.int f_lowering_x, .int f_lowering_y, .int f_lowering_steps, .int f_lowering_metLetter]))] s.heap := hP
  have hf : ((fX3_sortOf n f_now_ground_a f_now_ground_b p1 p2 f_lowering_x f_lowering_y f_lowering_steps f_lowering_metLetter).bind fun q26 => (some (q26.1, q26.2.1, q26.2.2.1, q26.2.2.2.1, q26.2.2.2.2)) : Option (Int32 × Int32 × Int32 × Int32 × Int32)) = some o := hf
  refine lv_aload_n hx hb dX8_sortNow_0 rfl (lv_at hl 0 rfl) ?_
  refine va_get (D := G) (ci := 8) (v := .ref q_lowering) (C := RX8) (T := TX8) (N := 9) hx hb htA lyX8 hown hK hP 0 rfl rfl 4 (by decide) (htA _ a_fl_X8_35) (fun _ h9 => h9) rfl dX8_sortNow_1 ?_
  refine lv_aload_n hx hb dX8_sortNow_4 rfl (lv_at hl 0 rfl) ?_
  refine va_get (D := G) (ci := 8) (v := .ref q_now) (C := RX8) (T := TX8) (N := 9) hx hb htA lyX8 hown hK hP 0 rfl rfl 0 (by decide) (htA _ a_fl_X8_14) (fun _ h9 => h9) rfl dX8_sortNow_5 ?_
  refine va_getN (D := G) (ci := 6) (v := .ref q_now_ground) (C := RX6) (T := TX6) (N := 5) hx hb htA lyX6 hown hK hP 1 rfl rfl 0 (by decide) (u_link hN (List.mem_of_getElem? (i := 6) rfl)) (fun _ h9 => h9) rfl dX8_sortNow_8 ?_
  refine va_getN (D := G) (ci := 2) (v := .int f_now_ground_a) (C := RX2) (T := TX2) (N := 4) hx hb htA lyX2 hown hK hP 2 rfl rfl 0 (by decide) (u_link hN (List.mem_of_getElem? (i := 2) rfl)) (fun _ h9 => h9) rfl dX8_sortNow_11 ?_
  refine lv_aload_n hx hb dX8_sortNow_14 rfl (lv_at hl 0 rfl) ?_
  refine va_get (D := G) (ci := 8) (v := .ref q_now) (C := RX8) (T := TX8) (N := 9) hx hb htA lyX8 hown hK hP 0 rfl rfl 0 (by decide) (htA _ a_fl_X8_14) (fun _ h9 => h9) rfl dX8_sortNow_15 ?_
  refine va_getN (D := G) (ci := 6) (v := .ref q_now_ground) (C := RX6) (T := TX6) (N := 5) hx hb htA lyX6 hown hK hP 1 rfl rfl 0 (by decide) (u_link hN (List.mem_of_getElem? (i := 6) rfl)) (fun _ h9 => h9) rfl dX8_sortNow_18 ?_
  refine va_getN (D := G) (ci := 2) (v := .int f_now_ground_b) (C := RX2) (T := TX2) (N := 4) hx hb htA lyX2 hown hK hP 2 rfl rfl 1 (by decide) (u_link hN (List.mem_of_getElem? (i := 3) rfl)) (fun _ h9 => h9) rfl dX8_sortNow_21 ?_
  refine lv_iload_n hx hb dX8_sortNow_24 rfl (lv_at hl 1 rfl) ?_
  refine lv_iload_n hx hb dX8_sortNow_25 rfl (lv_at hl 2 rfl) ?_
  obtain ⟨q26, h26_5, hf⟩ := bd_s hf
  refine u_calli [(q_this, .inr (8, [.ref q_now, .ref q_saved, .int f_imaged, .ref q_trial, .ref q_lowering, .ref q_counts, .ref q_expansion, .ref q_setUp, .ref q_tapes])), (q_now, .inr (6, [.ref q_now_ground, .ref q_now_notes, .ref q_now_seen, .ref q_now_events, .ref q_now_book])), (q_now_ground, .inr (2, [.int f_now_ground_a, .int f_now_ground_b, .int f_now_ground_x, .int f_now_ground_y])), (q_lowering, .inr (3, [.int q26.2.1, .int q26.2.2.1, .int q26.2.2.2.1, .int q26.2.2.2.2]))] (va_runV (As := [.int f_now_ground_a, .int f_now_ground_b, .int p1, .int p2]) (rest := []) ⟨hx, hb, hml, hown, htA⟩ (kX3_sortOf l G cy q_lowering s.heap.size f_lowering_x f_lowering_y f_lowering_steps f_lowering_metLetter f_now_ground_a f_now_ground_b p1 p2 n h26_5) (u_cwV htA a_ml_X8_244 pk_X3_sortOf ⟨Nat.le_of_ble_eq_true rfl, Nat.le_of_ble_eq_true rfl⟩) (u_preV hK hN hP hD [3] rfl (by decide) 3 rfl rfl) rfl rfl hl.1 rfl (lv_room (Nat.le_of_ble_eq_true rfl)) dX8_sortNow_26 ⟨Nat.zero_le _, Nat.zero_le _⟩) hP hD hS hA [3] rfl [0, 1, 2] 4 rfl rfl rfl (by decide) rfl (fun H locs hP hD hS => ?_)
  have ho := Option.some.inj hf
  subst ho
  exact W.iret (v := q26.1) hx hb hr (fun t ht hW => ⟨⟨_, (), rfl, rfl, by rw [ht]; exact hP, va_K.moved hW.alike hK, hD⟩, hS.F ht⟩) hS.2.2 dX8_sortNow_29
set_option maxRecDepth 100000 in
set_option maxHeartbeats 4000000 in
theorem kX8_place (l : Launch) (G : va_G) (cy : Nat → ClassId) (q_this : Nat) (q_now : Nat) (q_saved : Nat) (q_trial : Nat) (q_lowering : Nat) (q_counts : Nat) (q_expansion : Nat) (q_setUp : Nat) (q_tapes : Nat) (q_now_ground : Nat) (q_now_notes : Nat) (q_now_seen : Nat) (q_now_events : Nat) (q_now_book : Nat) (sz : Nat) (f_imaged : Int32) (f_now_ground_a : Int32) (f_now_ground_b : Int32) (f_now_ground_x : Int32) (f_now_ground_y : Int32) (f_lowering_x : Int32) (f_lowering_y : Int32) (f_lowering_steps : Int32) (f_lowering_metLetter : Int32) (p1 : Int32) (p2 : Int32) (n : Nat) {o : Int32 × Int32 × Int32 × Int32 × Int32 × Int32 × Int32} (hf : fX8_place n p1 p2 f_now_ground_a f_now_ground_b f_now_ground_x f_now_ground_y f_lowering_x f_lowering_y f_lowering_steps f_lowering_metLetter = some o) : Met l yX8_place (Cond.code yX8_place cX8_place 3 (some .int) :: AW) ({ frames := 4, cells := 0, slots := 0, locals := 92 } : Room) (va_Pc [.ref q_this, .int p1, .int p2] (Wp G cy [(q_this, .inr (8, [.ref q_now, .ref q_saved, .int f_imaged, .ref q_trial, .ref q_lowering, .ref q_counts, .ref q_expansion, .ref q_setUp, .ref q_tapes])), (q_now, .inr (6, [.ref q_now_ground, .ref q_now_notes, .ref q_now_seen, .ref q_now_events, .ref q_now_book])), (q_now_ground, .inr (2, [.int f_now_ground_a, .int f_now_ground_b, .int f_now_ground_x, .int f_now_ground_y])), (q_lowering, .inr (3, [.int f_lowering_x, .int f_lowering_y, .int f_lowering_steps, .int f_lowering_metLetter]))] sz)) (va_Qi (fun r (_ : Unit) => r = o.1) (fun _ => Wq G cy (va_A [(q_this, .inr (8, [.ref q_now, .ref q_saved, .int f_imaged, .ref q_trial, .ref q_lowering, .ref q_counts, .ref q_expansion, .ref q_setUp, .ref q_tapes])), (q_now, .inr (6, [.ref q_now_ground, .ref q_now_notes, .ref q_now_seen, .ref q_now_events, .ref q_now_book])), (q_now_ground, .inr (2, [.int f_now_ground_a, .int f_now_ground_b, .int f_now_ground_x, .int f_now_ground_y])), (q_lowering, .inr (3, [.int f_lowering_x, .int f_lowering_y, .int f_lowering_steps, .int f_lowering_metLetter]))] sz) [(q_this, .inr (8, [.ref q_now, .ref q_saved, .int f_imaged, .ref q_trial, .ref q_lowering, .ref q_counts, .ref q_expansion, .ref q_setUp, .ref q_tapes])), (q_now, .inr (6, [.ref q_now_ground, .ref q_now_notes, .ref q_now_seen, .ref q_now_events, .ref q_now_book])), (q_now_ground, .inr (2, [.int f_now_ground_a, .int f_now_ground_b, .int o.2.1, .int o.2.2.1])), (q_lowering, .inr (3, [.int o.2.2.2.1, .int o.2.2.2.2.1, .int o.2.2.2.2.2.1, .int o.2.2.2.2.2.2]))]) (va_A [(q_this, .inr (8, [.ref q_now, .ref q_saved, .int f_imaged, .ref q_trial, .ref q_lowering, .ref q_counts, .ref q_expansion, .ref q_setUp, .ref q_tapes])), (q_now, .inr (6, [.ref q_now_ground, .ref q_now_notes, .ref q_now_seen, .ref q_now_events, .ref q_now_book])), (q_now_ground, .inr (2, [.int f_now_ground_a, .int f_now_ground_b, .int f_now_ground_x, .int f_now_ground_y])), (q_lowering, .inr (3, [.int f_lowering_x, .int f_lowering_y, .int f_lowering_steps, .int f_lowering_metLetter]))] sz)) 0 0 (va_A [(q_this, .inr (8, [.ref q_now, .ref q_saved, .int f_imaged, .ref q_trial, .ref q_lowering, .ref q_counts, .ref q_expansion, .ref q_setUp, .ref q_tapes])), (q_now, .inr (6, [.ref q_now_ground, .ref q_now_notes, .ref q_now_seen, .ref q_now_events, .ref q_now_book])), (q_now_ground, .inr (2, [.int f_now_ground_a, .int f_now_ground_b, .int f_now_ground_x, .int f_now_ground_y])), (q_lowering, .inr (3, [.int f_lowering_x, .int f_lowering_y, .int f_lowering_steps, .int f_lowering_metLetter]))] sz) := by
  refine Met.ofW (cc := cX8_place) (maxL := 3) (ret := (some .int)) (by decide) rfl ?_
  intro p e s m args below meth c s₁ B hml hv
  obtain ⟨rfl, hsz, hP, hK, hD0, hN⟩ := hv
  have hx := B.exec
  have hb := B.bytes
  have hr := B.returns
  have htA : ∀ w ∈ AW, w.before _ s = true := fun w h => atoms_spec (ws := Cond.code yX8_place cX8_place 3 (some .int) :: AW) B.pre w (List.mem_cons_of_mem _ h)
  have hown : s.vm.findClass RX8 = some m.cls := findClass_of_methodNamed B.named
  have hlocks := B.notSynchronized
  subst hsz
  have hD := hD0.self (sz := s.heap.size)
  generalize hAe : va_A [(q_this, .inr (8, [.ref q_now, .ref q_saved, .int f_imaged, .ref q_trial, .ref q_lowering, .ref q_counts, .ref q_expansion, .ref q_setUp, .ref q_tapes])), (q_now, .inr (6, [.ref q_now_ground, .ref q_now_notes, .ref q_now_seen, .ref q_now_events, .ref q_now_book])), (q_now_ground, .inr (2, [.int f_now_ground_a, .int f_now_ground_b, .int f_now_ground_x, .int f_now_ground_y])), (q_lowering, .inr (3, [.int f_lowering_x, .int f_lowering_y, .int f_lowering_steps, .int f_lowering_metLetter]))] s.heap.size = A at hD ⊢
  have hA : ∀ q : Nat, s.heap.size ≤ q → A q := fun q h => by rw [← hAe]; exact Or.inr h
  have hS : va_S A s.heap s.heap [] := va_S.rf
  have hl := lv_entry ([.ref q_this, .int p1, .int p2]) (n := 3) (Nat.le_of_ble_eq_true rfl)
  rw [lg_entry_eq]
  generalize (lg_sl ([.ref q_this, .int p1, .int p2]) ++ List.replicate (3 - (lg_sl ([.ref q_this, .int p1, .int p2])).length) Slot.unset).toArray = ls at hl ⊢
  have hl : lv_has ls 3 [(0, .ref q_this), (1, .int p1), (2, .int p2)] := hl
  have hP : va_P G vwCl [(q_this, .inr (8, [.ref q_now, .ref q_saved, .int f_imaged, .ref q_trial, .ref q_lowering, .ref q_counts, .ref q_expansion, .ref q_setUp, .ref q_tapes])), (q_now, .inr (6, [.ref q_now_ground, .ref q_now_notes, .ref q_now_seen, .ref q_now_events, .ref q_now_book])), (q_now_ground, .inr (2, [.int f_now_ground_a, .int f_now_ground_b, .int f_now_ground_x, .int f_now_ground_y])), (q_lowering, .inr (3, [.int f_lowering_x, .int f_lowering_y, .int f_lowering_steps, .int f_lowering_metLetter]))] s.heap := hP
  have hf : ((fX8_isPlace p1 p2).bind fun q2 => ((if q2 = 0 then some ((-2), f_now_ground_x, f_now_ground_y, f_lowering_x, f_lowering_y, f_lowering_steps, f_lowering_metLetter) else (fX8_sortNow n p1 p2 f_now_ground_a f_now_ground_b f_lowering_x f_lowering_y f_lowering_steps f_lowering_metLetter).bind fun q36 => (some (q36.1, p1, p2, q36.2.1, q36.2.2.1, q36.2.2.2.1, q36.2.2.2.2)))) : Option (Int32 × Int32 × Int32 × Int32 × Int32 × Int32 × Int32)) = some o := hf
  refine lv_iload_n hx hb dX8_place_0 rfl (lv_at hl 1 rfl) ?_
  refine lv_iload_n hx hb dX8_place_1 rfl (lv_at hl 2 rfl) ?_
  obtain ⟨q2, h2_13, hf⟩ := bd_s hf
  refine u_calliR (va_runS (As := [.int p1, .int p2]) (rest := []) ⟨hx, hb, hml, hown, htA⟩ (kX8_isPlace l G cy s.heap.size p1 p2 h2_13) (u_cwS htA a_ml_X8_87 pk_X8_isPlace ⟨Nat.le_of_ble_eq_true rfl, Nat.le_of_ble_eq_true rfl⟩) (u_preS hK hN hP hD [] rfl (by decide)) rfl rfl hl.1 rfl (lv_room (Nat.le_of_ble_eq_true rfl)) dX8_place_2 ⟨Nat.zero_le _, Nat.zero_le _⟩) hP hD hS hA [] rfl (fun H locs hP hS => ?_)
  refine lv_if_ne (tgt := 11) hx hb dX8_place_5 (by decide) (fun c_14 => ?_) (fun c_14 => ?_)
  · have hf := ite_f c_14 hf
    refine lv_aload_n hx hb dX8_place_11 rfl (lv_at hl 0 rfl) ?_
    refine va_get (D := G) (ci := 8) (v := .ref q_now) (C := RX8) (T := TX8) (N := 9) hx hb htA lyX8 hown hK hP 0 rfl rfl 0 (by decide) (htA _ a_fl_X8_14) (fun _ h9 => h9) rfl dX8_place_12 ?_
    refine va_getN (D := G) (ci := 6) (v := .ref q_now_ground) (C := RX6) (T := TX6) (N := 5) hx hb htA lyX6 hown hK hP 1 rfl rfl 0 (by decide) (u_link hN (List.mem_of_getElem? (i := 6) rfl)) (fun _ h9 => h9) rfl dX8_place_15 ?_
    refine lv_iload_n hx hb dX8_place_18 rfl (lv_at hl 1 rfl) ?_
    refine va_putN (D := G) (ci := 2) (v := .int p1) (ty := tyX2 2) (C := RX2) (T := TX2) (N := 4) hx hb htA lyX2 tyX2 tyX2_ok nmX2 hown hK hP hD hS 2 rfl rfl 2 (by decide) (u_link hN (List.mem_of_getElem? (i := 4) rfl)) (fun _ h9 => h9) rfl (tyX2_ok 2 (by decide)) rfl rfl (Nat.le_of_ble_eq_true rfl) dX8_place_19 (fun H locs hP hD hS => ?_)
    have hP : va_P G vwCl [(q_this, .inr (8, [.ref q_now, .ref q_saved, .int f_imaged, .ref q_trial, .ref q_lowering, .ref q_counts, .ref q_expansion, .ref q_setUp, .ref q_tapes])), (q_now, .inr (6, [.ref q_now_ground, .ref q_now_notes, .ref q_now_seen, .ref q_now_events, .ref q_now_book])), (q_now_ground, .inr (2, [.int f_now_ground_a, .int f_now_ground_b, .int p1, .int f_now_ground_y])), (q_lowering, .inr (3, [.int f_lowering_x, .int f_lowering_y, .int f_lowering_steps, .int f_lowering_metLetter]))] H := hP
    have hD : va_D A [(q_this, .inr (8, [.ref q_now, .ref q_saved, .int f_imaged, .ref q_trial, .ref q_lowering, .ref q_counts, .ref q_expansion, .ref q_setUp, .ref q_tapes])), (q_now, .inr (6, [.ref q_now_ground, .ref q_now_notes, .ref q_now_seen, .ref q_now_events, .ref q_now_book])), (q_now_ground, .inr (2, [.int f_now_ground_a, .int f_now_ground_b, .int p1, .int f_now_ground_y])), (q_lowering, .inr (3, [.int f_lowering_x, .int f_lowering_y, .int f_lowering_steps, .int f_lowering_metLetter]))] := hD
    refine lv_aload_n hx hb dX8_place_22 rfl (lv_at hl 0 rfl) ?_
    refine va_get (D := G) (ci := 8) (v := .ref q_now) (C := RX8) (T := TX8) (N := 9) hx hb htA lyX8 hown hK hP 0 rfl rfl 0 (by decide) (htA _ a_fl_X8_14) (fun _ h9 => h9) rfl dX8_place_23 ?_
    refine va_getN (D := G) (ci := 6) (v := .ref q_now_ground) (C := RX6) (T := TX6) (N := 5) hx hb htA lyX6 hown hK hP 1 rfl rfl 0 (by decide) (u_link hN (List.mem_of_getElem? (i := 6) rfl)) (fun _ h9 => h9) rfl dX8_place_26 ?_
    refine lv_iload_n hx hb dX8_place_29 rfl (lv_at hl 2 rfl) ?_
    refine va_putN (D := G) (ci := 2) (v := .int p2) (ty := tyX2 3) (C := RX2) (T := TX2) (N := 4) hx hb htA lyX2 tyX2 tyX2_ok nmX2 hown hK hP hD hS 2 rfl rfl 3 (by decide) (u_link hN (List.mem_of_getElem? (i := 5) rfl)) (fun _ h9 => h9) rfl (tyX2_ok 3 (by decide)) rfl rfl (Nat.le_of_ble_eq_true rfl) dX8_place_30 (fun H locs hP hD hS => ?_)
    have hP : va_P G vwCl [(q_this, .inr (8, [.ref q_now, .ref q_saved, .int f_imaged, .ref q_trial, .ref q_lowering, .ref q_counts, .ref q_expansion, .ref q_setUp, .ref q_tapes])), (q_now, .inr (6, [.ref q_now_ground, .ref q_now_notes, .ref q_now_seen, .ref q_now_events, .ref q_now_book])), (q_now_ground, .inr (2, [.int f_now_ground_a, .int f_now_ground_b, .int p1, .int p2])), (q_lowering, .inr (3, [.int f_lowering_x, .int f_lowering_y, .int f_lowering_steps, .int f_lowering_metLetter]))] H := hP
    have hD : va_D A [(q_this, .inr (8, [.ref q_now, .ref q_saved, .int f_imaged, .ref q_trial, .ref q_lowering, .ref q_counts, .ref q_expansion, .ref q_setUp, .ref q_tapes])), (q_now, .inr (6, [.ref q_now_ground, .ref q_now_notes, .ref q_now_seen, .ref q_now_events, .ref q_now_book])), (q_now_ground, .inr (2, [.int f_now_ground_a, .int f_now_ground_b, .int p1, .int p2])), (q_lowering, .inr (3, [.int f_lowering_x, .int f_lowering_y, .int f_lowering_steps, .int f_lowering_metLetter]))] := hD
    refine lv_aload_n hx hb dX8_place_33 rfl (lv_at hl 0 rfl) ?_
    refine lv_iload_n hx hb dX8_place_34 rfl (lv_at hl 1 rfl) ?_
    refine lv_iload_n hx hb dX8_place_35 rfl (lv_at hl 2 rfl) ?_
    obtain ⟨q36, h36_15, hf⟩ := bd_s hf
    refine u_calli [(q_this, .inr (8, [.ref q_now, .ref q_saved, .int f_imaged, .ref q_trial, .ref q_lowering, .ref q_counts, .ref q_expansion, .ref q_setUp, .ref q_tapes])), (q_now, .inr (6, [.ref q_now_ground, .ref q_now_notes, .ref q_now_seen, .ref q_now_events, .ref q_now_book])), (q_now_ground, .inr (2, [.int f_now_ground_a, .int f_now_ground_b, .int p1, .int p2])), (q_lowering, .inr (3, [.int q36.2.1, .int q36.2.2.1, .int q36.2.2.2.1, .int q36.2.2.2.2]))] (va_runV (As := [.int p1, .int p2]) (rest := []) ⟨hx, hb, hml, hown, htA⟩ (kX8_sortNow l G cy q_this q_now q_saved q_trial q_lowering q_counts q_expansion q_setUp q_tapes q_now_ground q_now_notes q_now_seen q_now_events q_now_book H.size f_imaged f_now_ground_a f_now_ground_b p1 p2 f_lowering_x f_lowering_y f_lowering_steps f_lowering_metLetter p1 p2 n h36_15) (u_cwV htA a_ml_X8_97 pk_X8_sortNow ⟨Nat.le_of_ble_eq_true rfl, Nat.le_of_ble_eq_true rfl⟩) (u_preV hK hN hP hD [0, 1, 2, 3] rfl (by decide) 0 rfl rfl) rfl rfl hl.1 rfl (lv_room (Nat.le_of_ble_eq_true rfl)) dX8_place_36 ⟨Nat.zero_le _, Nat.zero_le _⟩) hP hD hS hA [0, 1, 2, 3] rfl [] 4 rfl rfl rfl (by decide) rfl (fun H locs hP hD hS => ?_)
    have ho := Option.some.inj hf
    subst ho
    exact W.iret (v := q36.1) hx hb hr (fun t ht hW => ⟨⟨_, (), rfl, rfl, by rw [ht]; exact hP, va_K.moved hW.alike hK, hD⟩, hS.F ht⟩) hS.2.2 dX8_place_39
  · have hf := ite_t c_14 hf
    refine lv_bipush (v := (-2)) hx hb dX8_place_8 (by decide) ?_
    have ho := Option.some.inj hf
    subst ho
    exact W.iret (v := (-2)) hx hb hr (fun t ht hW => ⟨⟨_, (), rfl, rfl, by rw [ht]; exact hP, va_K.moved hW.alike hK, hD⟩, hS.F ht⟩) hS.2.2 dX8_place_10
set_option maxRecDepth 100000 in
set_option maxHeartbeats 4000000 in
theorem kX8_carry (l : Launch) (G : va_G) (cy : Nat → ClassId) (q_this : Nat) (q_now : Nat) (q_saved : Nat) (q_trial : Nat) (q_lowering : Nat) (q_counts : Nat) (q_expansion : Nat) (q_setUp : Nat) (q_tapes : Nat) (q_now_ground : Nat) (q_now_notes : Nat) (q_now_seen : Nat) (q_now_events : Nat) (q_now_book : Nat) (sz : Nat) (f_imaged : Int32) (f_now_ground_a : Int32) (f_now_ground_b : Int32) (f_now_ground_x : Int32) (f_now_ground_y : Int32) (p1 : Int32) {o : Int32 × Int32 × Int32} (hf : fX8_carry p1 f_now_ground_a f_now_ground_b f_now_ground_x f_now_ground_y = some o) : Met l yX8_carry (Cond.code yX8_carry cX8_carry 2 (some .int) :: AW) ({ frames := 3, cells := 0, slots := 0, locals := 66 } : Room) (va_Pc [.ref q_this, .int p1] (Wp G cy [(q_this, .inr (8, [.ref q_now, .ref q_saved, .int f_imaged, .ref q_trial, .ref q_lowering, .ref q_counts, .ref q_expansion, .ref q_setUp, .ref q_tapes])), (q_now, .inr (6, [.ref q_now_ground, .ref q_now_notes, .ref q_now_seen, .ref q_now_events, .ref q_now_book])), (q_now_ground, .inr (2, [.int f_now_ground_a, .int f_now_ground_b, .int f_now_ground_x, .int f_now_ground_y]))] sz)) (va_Qi (fun r (_ : Unit) => r = o.1) (fun _ => Wq G cy (va_A [(q_this, .inr (8, [.ref q_now, .ref q_saved, .int f_imaged, .ref q_trial, .ref q_lowering, .ref q_counts, .ref q_expansion, .ref q_setUp, .ref q_tapes])), (q_now, .inr (6, [.ref q_now_ground, .ref q_now_notes, .ref q_now_seen, .ref q_now_events, .ref q_now_book])), (q_now_ground, .inr (2, [.int f_now_ground_a, .int f_now_ground_b, .int f_now_ground_x, .int f_now_ground_y]))] sz) [(q_this, .inr (8, [.ref q_now, .ref q_saved, .int f_imaged, .ref q_trial, .ref q_lowering, .ref q_counts, .ref q_expansion, .ref q_setUp, .ref q_tapes])), (q_now, .inr (6, [.ref q_now_ground, .ref q_now_notes, .ref q_now_seen, .ref q_now_events, .ref q_now_book])), (q_now_ground, .inr (2, [.int f_now_ground_a, .int f_now_ground_b, .int o.2.1, .int o.2.2]))]) (va_A [(q_this, .inr (8, [.ref q_now, .ref q_saved, .int f_imaged, .ref q_trial, .ref q_lowering, .ref q_counts, .ref q_expansion, .ref q_setUp, .ref q_tapes])), (q_now, .inr (6, [.ref q_now_ground, .ref q_now_notes, .ref q_now_seen, .ref q_now_events, .ref q_now_book])), (q_now_ground, .inr (2, [.int f_now_ground_a, .int f_now_ground_b, .int f_now_ground_x, .int f_now_ground_y]))] sz)) 0 0 (va_A [(q_this, .inr (8, [.ref q_now, .ref q_saved, .int f_imaged, .ref q_trial, .ref q_lowering, .ref q_counts, .ref q_expansion, .ref q_setUp, .ref q_tapes])), (q_now, .inr (6, [.ref q_now_ground, .ref q_now_notes, .ref q_now_seen, .ref q_now_events, .ref q_now_book])), (q_now_ground, .inr (2, [.int f_now_ground_a, .int f_now_ground_b, .int f_now_ground_x, .int f_now_ground_y]))] sz) := by
  refine Met.ofW (cc := cX8_carry) (maxL := 2) (ret := (some .int)) (by decide) rfl ?_
  intro p e s m args below meth c s₁ B hml hv
  obtain ⟨rfl, hsz, hP, hK, hD0, hN⟩ := hv
  have hx := B.exec
  have hb := B.bytes
  have hr := B.returns
  have htA : ∀ w ∈ AW, w.before _ s = true := fun w h => atoms_spec (ws := Cond.code yX8_carry cX8_carry 2 (some .int) :: AW) B.pre w (List.mem_cons_of_mem _ h)
  have hown : s.vm.findClass RX8 = some m.cls := findClass_of_methodNamed B.named
  have hlocks := B.notSynchronized
  subst hsz
  have hD := hD0.self (sz := s.heap.size)
  generalize hAe : va_A [(q_this, .inr (8, [.ref q_now, .ref q_saved, .int f_imaged, .ref q_trial, .ref q_lowering, .ref q_counts, .ref q_expansion, .ref q_setUp, .ref q_tapes])), (q_now, .inr (6, [.ref q_now_ground, .ref q_now_notes, .ref q_now_seen, .ref q_now_events, .ref q_now_book])), (q_now_ground, .inr (2, [.int f_now_ground_a, .int f_now_ground_b, .int f_now_ground_x, .int f_now_ground_y]))] s.heap.size = A at hD ⊢
  have hA : ∀ q : Nat, s.heap.size ≤ q → A q := fun q h => by rw [← hAe]; exact Or.inr h
  have hS : va_S A s.heap s.heap [] := va_S.rf
  have hl := lv_entry ([.ref q_this, .int p1]) (n := 2) (Nat.le_of_ble_eq_true rfl)
  rw [lg_entry_eq]
  generalize (lg_sl ([.ref q_this, .int p1]) ++ List.replicate (2 - (lg_sl ([.ref q_this, .int p1])).length) Slot.unset).toArray = ls at hl ⊢
  have hl : lv_has ls 2 [(0, .ref q_this), (1, .int p1)] := hl
  have hP : va_P G vwCl [(q_this, .inr (8, [.ref q_now, .ref q_saved, .int f_imaged, .ref q_trial, .ref q_lowering, .ref q_counts, .ref q_expansion, .ref q_setUp, .ref q_tapes])), (q_now, .inr (6, [.ref q_now_ground, .ref q_now_notes, .ref q_now_seen, .ref q_now_events, .ref q_now_book])), (q_now_ground, .inr (2, [.int f_now_ground_a, .int f_now_ground_b, .int f_now_ground_x, .int f_now_ground_y]))] s.heap := hP
  have hf : ((fX8_isIn p1 0 1).bind fun q3 => ((if q3 = 0 then some ((-1), f_now_ground_x, f_now_ground_y) else (fX2_carryBy p1 f_now_ground_a f_now_ground_b f_now_ground_x f_now_ground_y).bind fun q19 => ((if q19.1 = 0 then some ((-3), q19.2.1, q19.2.2) else some (((q19.2.1 + q19.2.2) + 5000), q19.2.1, q19.2.2))))) : Option (Int32 × Int32 × Int32)) = some o := hf
  refine lv_iload_n hx hb dX8_carry_0 rfl (lv_at hl 1 rfl) ?_
  refine lv_iconst (v := 0) hx hb dX8_carry_1 (by decide) ?_
  refine lv_iconst (v := 1) hx hb dX8_carry_2 (by decide) ?_
  obtain ⟨q3, h3_17, hf⟩ := bd_s hf
  refine u_calliR (va_runS (As := [.int p1, .int 0, .int 1]) (rest := []) ⟨hx, hb, hml, hown, htA⟩ (kX8_isIn l G cy s.heap.size p1 0 1 h3_17) (u_cwS htA a_ml_X8_69 pk_X8_isIn ⟨Nat.le_of_ble_eq_true rfl, Nat.le_of_ble_eq_true rfl⟩) (u_preS hK hN hP hD [] rfl (by decide)) rfl rfl hl.1 rfl (lv_room (Nat.le_of_ble_eq_true rfl)) dX8_carry_3 ⟨Nat.zero_le _, Nat.zero_le _⟩) hP hD hS hA [] rfl (fun H locs hP hS => ?_)
  refine lv_if_ne (tgt := 11) hx hb dX8_carry_6 (by decide) (fun c_18 => ?_) (fun c_18 => ?_)
  · have hf := ite_f c_18 hf
    refine lv_aload_n hx hb dX8_carry_11 rfl (lv_at hl 0 rfl) ?_
    refine va_get (D := G) (ci := 8) (v := .ref q_now) (C := RX8) (T := TX8) (N := 9) hx hb htA lyX8 hown hK hP 0 rfl rfl 0 (by decide) (htA _ a_fl_X8_14) (fun _ h9 => h9) rfl dX8_carry_12 ?_
    refine va_getN (D := G) (ci := 6) (v := .ref q_now_ground) (C := RX6) (T := TX6) (N := 5) hx hb htA lyX6 hown hK hP 1 rfl rfl 0 (by decide) (u_link hN (List.mem_of_getElem? (i := 6) rfl)) (fun _ h9 => h9) rfl dX8_carry_15 ?_
    refine lv_iload_n hx hb dX8_carry_18 rfl (lv_at hl 1 rfl) ?_
    obtain ⟨q19, h19_19, hf⟩ := bd_s hf
    refine u_calli [(q_this, .inr (8, [.ref q_now, .ref q_saved, .int f_imaged, .ref q_trial, .ref q_lowering, .ref q_counts, .ref q_expansion, .ref q_setUp, .ref q_tapes])), (q_now, .inr (6, [.ref q_now_ground, .ref q_now_notes, .ref q_now_seen, .ref q_now_events, .ref q_now_book])), (q_now_ground, .inr (2, [.int f_now_ground_a, .int f_now_ground_b, .int q19.2.1, .int q19.2.2]))] (va_runV (As := [.int p1]) (rest := []) ⟨hx, hb, hml, hown, htA⟩ (kX2_carryBy l G cy q_now_ground H.size f_now_ground_a f_now_ground_b f_now_ground_x f_now_ground_y p1 h19_19) (u_cwV htA a_ml_X8_101 pk_X2_carryBy ⟨Nat.le_of_ble_eq_true rfl, Nat.le_of_ble_eq_true rfl⟩) (u_preV hK hN hP hD [2] rfl (by decide) 2 rfl rfl) rfl rfl hl.1 rfl (lv_room (Nat.le_of_ble_eq_true rfl)) dX8_carry_19 ⟨Nat.zero_le _, Nat.zero_le _⟩) hP hD hS hA [2] rfl [0, 1] 3 rfl rfl rfl (by decide) rfl (fun H locs hP hD hS => ?_)
    refine lv_if_ne (tgt := 28) hx hb dX8_carry_22 (by decide) (fun c_20 => ?_) (fun c_20 => ?_)
    · have hf := ite_f c_20 hf
      refine lv_aload_n hx hb dX8_carry_28 rfl (lv_at hl 0 rfl) ?_
      refine va_get (D := G) (ci := 8) (v := .ref q_now) (C := RX8) (T := TX8) (N := 9) hx hb htA lyX8 hown hK hP 0 rfl rfl 0 (by decide) (htA _ a_fl_X8_14) (fun _ h9 => h9) rfl dX8_carry_29 ?_
      refine va_getN (D := G) (ci := 6) (v := .ref q_now_ground) (C := RX6) (T := TX6) (N := 5) hx hb htA lyX6 hown hK hP 1 rfl rfl 0 (by decide) (u_link hN (List.mem_of_getElem? (i := 6) rfl)) (fun _ h9 => h9) rfl dX8_carry_32 ?_
      refine va_getN (D := G) (ci := 2) (v := .int q19.2.1) (C := RX2) (T := TX2) (N := 4) hx hb htA lyX2 hown hK hP 2 rfl rfl 2 (by decide) (u_link hN (List.mem_of_getElem? (i := 4) rfl)) (fun _ h9 => h9) rfl dX8_carry_35 ?_
      refine lv_aload_n hx hb dX8_carry_38 rfl (lv_at hl 0 rfl) ?_
      refine va_get (D := G) (ci := 8) (v := .ref q_now) (C := RX8) (T := TX8) (N := 9) hx hb htA lyX8 hown hK hP 0 rfl rfl 0 (by decide) (htA _ a_fl_X8_14) (fun _ h9 => h9) rfl dX8_carry_39 ?_
      refine va_getN (D := G) (ci := 6) (v := .ref q_now_ground) (C := RX6) (T := TX6) (N := 5) hx hb htA lyX6 hown hK hP 1 rfl rfl 0 (by decide) (u_link hN (List.mem_of_getElem? (i := 6) rfl)) (fun _ h9 => h9) rfl dX8_carry_42 ?_
      refine va_getN (D := G) (ci := 2) (v := .int q19.2.2) (C := RX2) (T := TX2) (N := 4) hx hb htA lyX2 hown hK hP 2 rfl rfl 3 (by decide) (u_link hN (List.mem_of_getElem? (i := 5) rfl)) (fun _ h9 => h9) rfl dX8_carry_45 ?_
      refine lv_iadd hx hb dX8_carry_48 ?_
      refine lv_sipush (v := 5000) hx hb dX8_carry_49 (by decide) ?_
      refine lv_iadd hx hb dX8_carry_52 ?_
      have ho := Option.some.inj hf
      subst ho
      exact W.iret (v := ((q19.2.1 + q19.2.2) + 5000)) hx hb hr (fun t ht hW => ⟨⟨_, (), rfl, rfl, by rw [ht]; exact hP, va_K.moved hW.alike hK, hD⟩, hS.F ht⟩) hS.2.2 dX8_carry_53
    · have hf := ite_t c_20 hf
      refine lv_bipush (v := (-3)) hx hb dX8_carry_25 (by decide) ?_
      have ho := Option.some.inj hf
      subst ho
      exact W.iret (v := (-3)) hx hb hr (fun t ht hW => ⟨⟨_, (), rfl, rfl, by rw [ht]; exact hP, va_K.moved hW.alike hK, hD⟩, hS.F ht⟩) hS.2.2 dX8_carry_27
  · have hf := ite_t c_18 hf
    refine lv_iconst (v := (-1)) hx hb dX8_carry_9 (by decide) ?_
    have ho := Option.some.inj hf
    subst ho
    exact W.iret (v := (-1)) hx hb hr (fun t ht hW => ⟨⟨_, (), rfl, rfl, by rw [ht]; exact hP, va_K.moved hW.alike hK, hD⟩, hS.F ht⟩) hS.2.2 dX8_carry_10
set_option maxRecDepth 100000 in
set_option maxHeartbeats 4000000 in
theorem wX8_note_2 {p : Program} {l : Launch} {e : Env} {s : State} {m : MethodId} {args : Array Value} {below : List Frame} {meth : Method} {c : Code} {G : va_G} {cy : Nat → ClassId} {A : Nat → Prop} {q_this : Nat} {q_now : Nat} {q_saved : Nat} {q_trial : Nat} {q_lowering : Nat} {q_counts : Nat} {q_expansion : Nat} {q_setUp : Nat} {q_tapes : Nat} {q_now_ground : Nat} {q_now_notes : Nat} {q_now_seen : Nat} {q_now_events : Nat} {q_now_book : Nat} {q_now_notes_cells : Nat} {n_now_notes_cells : Nat} {f_imaged : Int32} {f_now_ground_a : Int32} {f_now_ground_b : Int32} {f_now_ground_x : Int32} {f_now_ground_y : Int32} {f_now_notes_limit : Int32} {n : Nat} {o : Int32 × Int32 × (Nat → Int32)} (C : Cx p s m args meth c cX8_note 2 (some .int) RX8 G cy A) : ∀ k2 : Nat, ∀ (v1 : Int32) (f_now_notes_used : Int32) (f_now_notes_cells : Nat → Int32) (H : Heap) (locs : List Loc) (ls : Array Slot), va_P G vwCl [(q_this, .inr (8, [.ref q_now, .ref q_saved, .int f_imaged, .ref q_trial, .ref q_lowering, .ref q_counts, .ref q_expansion, .ref q_setUp, .ref q_tapes])), (q_now, .inr (6, [.ref q_now_ground, .ref q_now_notes, .ref q_now_seen, .ref q_now_events, .ref q_now_book])), (q_now_ground, .inr (2, [.int f_now_ground_a, .int f_now_ground_b, .int f_now_ground_x, .int f_now_ground_y])), (q_now_notes, .inr (4, [.int f_now_notes_limit, .ref q_now_notes_cells, .int f_now_notes_used])), (q_now_notes_cells, .inl (cy 0, n_now_notes_cells, .inl f_now_notes_cells))] H → va_D A [(q_this, .inr (8, [.ref q_now, .ref q_saved, .int f_imaged, .ref q_trial, .ref q_lowering, .ref q_counts, .ref q_expansion, .ref q_setUp, .ref q_tapes])), (q_now, .inr (6, [.ref q_now_ground, .ref q_now_notes, .ref q_now_seen, .ref q_now_events, .ref q_now_book])), (q_now_ground, .inr (2, [.int f_now_ground_a, .int f_now_ground_b, .int f_now_ground_x, .int f_now_ground_y])), (q_now_notes, .inr (4, [.int f_now_notes_limit, .ref q_now_notes_cells, .int f_now_notes_used])), (q_now_notes_cells, .inl (cy 0, n_now_notes_cells, .inl f_now_notes_cells))] → va_S A s.heap H locs → lv_has ls 2 [(0, .ref q_this), (1, .int v1)] → lX8_note_2 n n_now_notes_cells f_now_ground_x f_now_ground_y f_now_notes_limit k2 v1 f_now_notes_used f_now_notes_cells = some o → W p l e (headSpec (Cond.code yX8_note cX8_note 2 (some .int) :: AW) ({ frames := 2, cells := 0, slots := 0, locals := 44 } : Room)).room s m args below meth c H locs 0 0 (MQ below (va_Qi (fun r (_ : Unit) => r = o.1) (fun _ => Wq G cy A [(q_this, .inr (8, [.ref q_now, .ref q_saved, .int f_imaged, .ref q_trial, .ref q_lowering, .ref q_counts, .ref q_expansion, .ref q_setUp, .ref q_tapes])), (q_now, .inr (6, [.ref q_now_ground, .ref q_now_notes, .ref q_now_seen, .ref q_now_events, .ref q_now_book])), (q_now_ground, .inr (2, [.int f_now_ground_a, .int f_now_ground_b, .int f_now_ground_x, .int f_now_ground_y])), (q_now_notes, .inr (4, [.int f_now_notes_limit, .ref q_now_notes_cells, .int o.2.1])), (q_now_notes_cells, .inl (cy 0, n_now_notes_cells, .inl o.2.2))]) A) args s 0 0 A) (F0 m 2 ls []) := by
  have C0 := C
  obtain ⟨hx, hb, hr, hml, htA, hown, hK, hN, hA, hlocks⟩ := C
  intro k2
  induction k2 with
  | zero =>
    intro v1 f_now_notes_used f_now_notes_cells H locs ls hP hD hS hl hf
    exact no_s hf
  | succ k2 ih2 =>
    intro v1 f_now_notes_used f_now_notes_cells H locs ls hP hD hS hl hf
    have hf : ((fX4_size f_now_notes_used).bind fun q10 => ((if q10 ≤ v1 then (fX4_put f_now_ground_x f_now_ground_y 0 n_now_notes_cells f_now_notes_limit f_now_notes_used f_now_notes_cells).bind fun q103 => (some (q103.1, q103.2.1, q103.2.2)) else (fX4_cell v1 0 n_now_notes_cells f_now_notes_used f_now_notes_cells).bind fun q25 => ((if q25 = f_now_ground_x then (fX4_cell v1 1 n_now_notes_cells f_now_notes_used f_now_notes_cells).bind fun q50 => ((if q50 = f_now_ground_y then some ((-3), f_now_notes_used, f_now_notes_cells) else lX8_note_2 n n_now_notes_cells f_now_ground_x f_now_ground_y f_now_notes_limit k2 (v1 + 1) f_now_notes_used f_now_notes_cells)) else lX8_note_2 n n_now_notes_cells f_now_ground_x f_now_ground_y f_now_notes_limit k2 (v1 + 1) f_now_notes_used f_now_notes_cells)))) : Option (Int32 × Int32 × (Nat → Int32))) = some o := hf
    refine lv_iload_n hx hb dX8_note_2 rfl (lv_at hl 1 rfl) ?_
    refine lv_aload_n hx hb dX8_note_3 rfl (lv_at hl 0 rfl) ?_
    refine va_get (D := G) (ci := 8) (v := .ref q_now) (C := RX8) (T := TX8) (N := 9) hx hb htA lyX8 hown hK hP 0 rfl rfl 0 (by decide) (htA _ a_fl_X8_14) (fun _ h9 => h9) rfl dX8_note_4 ?_
    refine va_getN (D := G) (ci := 6) (v := .ref q_now_notes) (C := RX6) (T := TX6) (N := 5) hx hb htA lyX6 hown hK hP 1 rfl rfl 1 (by decide) (u_link hN (List.mem_of_getElem? (i := 7) rfl)) (fun _ h9 => h9) rfl dX8_note_7 ?_
    obtain ⟨q10, h10_29, hf⟩ := bd_s hf
    refine u_calliR (va_runV (As := []) (rest := [.int v1]) ⟨hx, hb, hml, hown, htA⟩ (kX4_size l G cy q_now_notes q_now_notes_cells H.size f_now_notes_limit f_now_notes_used h10_29) (u_cwV htA a_ml_X8_109 pk_X4_size ⟨Nat.le_of_ble_eq_true rfl, Nat.le_of_ble_eq_true rfl⟩) (u_preV hK hN hP hD [3] rfl (by decide) 3 rfl rfl) rfl rfl hl.1 rfl (lv_room (Nat.le_of_ble_eq_true rfl)) dX8_note_10 ⟨Nat.zero_le _, Nat.zero_le _⟩) hP hD hS hA [3] rfl (fun H locs hP hS => ?_)
    refine lv_icmp_ge (tgt := 75) hx hb dX8_note_13 (by decide) (fun c_30 => ?_) (fun c_30 => ?_)
    · have hf := ite_t c_30 hf
      refine lv_aload_n hx hb dX8_note_75 rfl (lv_at hl 0 rfl) ?_
      refine va_get (D := G) (ci := 8) (v := .ref q_now) (C := RX8) (T := TX8) (N := 9) hx hb htA lyX8 hown hK hP 0 rfl rfl 0 (by decide) (htA _ a_fl_X8_14) (fun _ h9 => h9) rfl dX8_note_76 ?_
      refine va_getN (D := G) (ci := 6) (v := .ref q_now_notes) (C := RX6) (T := TX6) (N := 5) hx hb htA lyX6 hown hK hP 1 rfl rfl 1 (by decide) (u_link hN (List.mem_of_getElem? (i := 7) rfl)) (fun _ h9 => h9) rfl dX8_note_79 ?_
      refine lv_aload_n hx hb dX8_note_82 rfl (lv_at hl 0 rfl) ?_
      refine va_get (D := G) (ci := 8) (v := .ref q_now) (C := RX8) (T := TX8) (N := 9) hx hb htA lyX8 hown hK hP 0 rfl rfl 0 (by decide) (htA _ a_fl_X8_14) (fun _ h9 => h9) rfl dX8_note_83 ?_
      refine va_getN (D := G) (ci := 6) (v := .ref q_now_ground) (C := RX6) (T := TX6) (N := 5) hx hb htA lyX6 hown hK hP 1 rfl rfl 0 (by decide) (u_link hN (List.mem_of_getElem? (i := 6) rfl)) (fun _ h9 => h9) rfl dX8_note_86 ?_
      refine va_getN (D := G) (ci := 2) (v := .int f_now_ground_x) (C := RX2) (T := TX2) (N := 4) hx hb htA lyX2 hown hK hP 2 rfl rfl 2 (by decide) (u_link hN (List.mem_of_getElem? (i := 4) rfl)) (fun _ h9 => h9) rfl dX8_note_89 ?_
      refine lv_aload_n hx hb dX8_note_92 rfl (lv_at hl 0 rfl) ?_
      refine va_get (D := G) (ci := 8) (v := .ref q_now) (C := RX8) (T := TX8) (N := 9) hx hb htA lyX8 hown hK hP 0 rfl rfl 0 (by decide) (htA _ a_fl_X8_14) (fun _ h9 => h9) rfl dX8_note_93 ?_
      refine va_getN (D := G) (ci := 6) (v := .ref q_now_ground) (C := RX6) (T := TX6) (N := 5) hx hb htA lyX6 hown hK hP 1 rfl rfl 0 (by decide) (u_link hN (List.mem_of_getElem? (i := 6) rfl)) (fun _ h9 => h9) rfl dX8_note_96 ?_
      refine va_getN (D := G) (ci := 2) (v := .int f_now_ground_y) (C := RX2) (T := TX2) (N := 4) hx hb htA lyX2 hown hK hP 2 rfl rfl 3 (by decide) (u_link hN (List.mem_of_getElem? (i := 5) rfl)) (fun _ h9 => h9) rfl dX8_note_99 ?_
      refine lv_iconst (v := 0) hx hb dX8_note_102 (by decide) ?_
      obtain ⟨q103, h103_31, hf⟩ := bd_s hf
      refine u_calli [(q_this, .inr (8, [.ref q_now, .ref q_saved, .int f_imaged, .ref q_trial, .ref q_lowering, .ref q_counts, .ref q_expansion, .ref q_setUp, .ref q_tapes])), (q_now, .inr (6, [.ref q_now_ground, .ref q_now_notes, .ref q_now_seen, .ref q_now_events, .ref q_now_book])), (q_now_ground, .inr (2, [.int f_now_ground_a, .int f_now_ground_b, .int f_now_ground_x, .int f_now_ground_y])), (q_now_notes, .inr (4, [.int f_now_notes_limit, .ref q_now_notes_cells, .int q103.2.1])), (q_now_notes_cells, .inl (cy 0, n_now_notes_cells, .inl q103.2.2))] (va_runV (As := [.int f_now_ground_x, .int f_now_ground_y, .int 0]) (rest := []) ⟨hx, hb, hml, hown, htA⟩ (kX4_put l G cy q_now_notes q_now_notes_cells H.size n_now_notes_cells f_now_notes_limit f_now_notes_used f_now_notes_cells f_now_ground_x f_now_ground_y 0 h103_31) (u_cwV htA a_ml_X8_117 pk_X4_put ⟨Nat.le_of_ble_eq_true rfl, Nat.le_of_ble_eq_true rfl⟩) (u_preV hK hN hP hD [3, 4] rfl (by decide) 3 rfl rfl) rfl rfl hl.1 rfl (lv_room (Nat.le_of_ble_eq_true rfl)) dX8_note_103 ⟨Nat.zero_le _, Nat.zero_le _⟩) hP hD hS hA [3, 4] rfl [0, 1, 2] 5 rfl rfl rfl (by decide) rfl (fun H locs hP hD hS => ?_)
      have ho := Option.some.inj hf
      subst ho
      exact W.iret (v := q103.1) hx hb hr (fun t ht hW => ⟨⟨_, (), rfl, rfl, by rw [ht]; exact hP, va_K.moved hW.alike hK, hD⟩, hS.F ht⟩) hS.2.2 dX8_note_106
    · have hf := ite_f c_30 hf
      refine lv_aload_n hx hb dX8_note_16 rfl (lv_at hl 0 rfl) ?_
      refine va_get (D := G) (ci := 8) (v := .ref q_now) (C := RX8) (T := TX8) (N := 9) hx hb htA lyX8 hown hK hP 0 rfl rfl 0 (by decide) (htA _ a_fl_X8_14) (fun _ h9 => h9) rfl dX8_note_17 ?_
      refine va_getN (D := G) (ci := 6) (v := .ref q_now_notes) (C := RX6) (T := TX6) (N := 5) hx hb htA lyX6 hown hK hP 1 rfl rfl 1 (by decide) (u_link hN (List.mem_of_getElem? (i := 7) rfl)) (fun _ h9 => h9) rfl dX8_note_20 ?_
      refine lv_iload_n hx hb dX8_note_23 rfl (lv_at hl 1 rfl) ?_
      refine lv_iconst (v := 0) hx hb dX8_note_24 (by decide) ?_
      obtain ⟨q25, h25_32, hf⟩ := bd_s hf
      refine u_calliR (va_runV (As := [.int v1, .int 0]) (rest := []) ⟨hx, hb, hml, hown, htA⟩ (kX4_cell l G cy q_now_notes q_now_notes_cells H.size n_now_notes_cells f_now_notes_limit f_now_notes_used f_now_notes_cells v1 0 h25_32) (u_cwV htA a_ml_X8_114 pk_X4_cell ⟨Nat.le_of_ble_eq_true rfl, Nat.le_of_ble_eq_true rfl⟩) (u_preV hK hN hP hD [3, 4] rfl (by decide) 3 rfl rfl) rfl rfl hl.1 rfl (lv_room (Nat.le_of_ble_eq_true rfl)) dX8_note_25 ⟨Nat.zero_le _, Nat.zero_le _⟩) hP hD hS hA [3, 4] rfl (fun H locs hP hS => ?_)
      refine lv_aload_n hx hb dX8_note_28 rfl (lv_at hl 0 rfl) ?_
      refine va_get (D := G) (ci := 8) (v := .ref q_now) (C := RX8) (T := TX8) (N := 9) hx hb htA lyX8 hown hK hP 0 rfl rfl 0 (by decide) (htA _ a_fl_X8_14) (fun _ h9 => h9) rfl dX8_note_29 ?_
      refine va_getN (D := G) (ci := 6) (v := .ref q_now_ground) (C := RX6) (T := TX6) (N := 5) hx hb htA lyX6 hown hK hP 1 rfl rfl 0 (by decide) (u_link hN (List.mem_of_getElem? (i := 6) rfl)) (fun _ h9 => h9) rfl dX8_note_32 ?_
      refine va_getN (D := G) (ci := 2) (v := .int f_now_ground_x) (C := RX2) (T := TX2) (N := 4) hx hb htA lyX2 hown hK hP 2 rfl rfl 2 (by decide) (u_link hN (List.mem_of_getElem? (i := 4) rfl)) (fun _ h9 => h9) rfl dX8_note_35 ?_
      refine lv_icmp_ne (tgt := 69) hx hb dX8_note_38 (by decide) (fun c_33 => ?_) (fun c_33 => ?_)
      · have hf := ite_f c_33 hf
        refine lv_iinc (v := (v1 + 1)) (lv' := [(1, .int (v1 + 1)), (0, .ref q_this)]) hx hb dX8_note_69 hl (k := 1) rfl rfl (by decide) rfl (fun ls hl => ?_)
        refine lv_goto (tgt := 2) hx hb dX8_note_72 (by decide) ?_
        exact ih2 _ _ _ _ _ _ hP hD hS (lv_sub hl [1, 0] rfl) hf
      · have hf := ite_t c_33 hf
        refine lv_aload_n hx hb dX8_note_41 rfl (lv_at hl 0 rfl) ?_
        refine va_get (D := G) (ci := 8) (v := .ref q_now) (C := RX8) (T := TX8) (N := 9) hx hb htA lyX8 hown hK hP 0 rfl rfl 0 (by decide) (htA _ a_fl_X8_14) (fun _ h9 => h9) rfl dX8_note_42 ?_
        refine va_getN (D := G) (ci := 6) (v := .ref q_now_notes) (C := RX6) (T := TX6) (N := 5) hx hb htA lyX6 hown hK hP 1 rfl rfl 1 (by decide) (u_link hN (List.mem_of_getElem? (i := 7) rfl)) (fun _ h9 => h9) rfl dX8_note_45 ?_
        refine lv_iload_n hx hb dX8_note_48 rfl (lv_at hl 1 rfl) ?_
        refine lv_iconst (v := 1) hx hb dX8_note_49 (by decide) ?_
        obtain ⟨q50, h50_34, hf⟩ := bd_s hf
        refine u_calliR (va_runV (As := [.int v1, .int 1]) (rest := []) ⟨hx, hb, hml, hown, htA⟩ (kX4_cell l G cy q_now_notes q_now_notes_cells H.size n_now_notes_cells f_now_notes_limit f_now_notes_used f_now_notes_cells v1 1 h50_34) (u_cwV htA a_ml_X8_114 pk_X4_cell ⟨Nat.le_of_ble_eq_true rfl, Nat.le_of_ble_eq_true rfl⟩) (u_preV hK hN hP hD [3, 4] rfl (by decide) 3 rfl rfl) rfl rfl hl.1 rfl (lv_room (Nat.le_of_ble_eq_true rfl)) dX8_note_50 ⟨Nat.zero_le _, Nat.zero_le _⟩) hP hD hS hA [3, 4] rfl (fun H locs hP hS => ?_)
        refine lv_aload_n hx hb dX8_note_53 rfl (lv_at hl 0 rfl) ?_
        refine va_get (D := G) (ci := 8) (v := .ref q_now) (C := RX8) (T := TX8) (N := 9) hx hb htA lyX8 hown hK hP 0 rfl rfl 0 (by decide) (htA _ a_fl_X8_14) (fun _ h9 => h9) rfl dX8_note_54 ?_
        refine va_getN (D := G) (ci := 6) (v := .ref q_now_ground) (C := RX6) (T := TX6) (N := 5) hx hb htA lyX6 hown hK hP 1 rfl rfl 0 (by decide) (u_link hN (List.mem_of_getElem? (i := 6) rfl)) (fun _ h9 => h9) rfl dX8_note_57 ?_
        refine va_getN (D := G) (ci := 2) (v := .int f_now_ground_y) (C := RX2) (T := TX2) (N := 4) hx hb htA lyX2 hown hK hP 2 rfl rfl 3 (by decide) (u_link hN (List.mem_of_getElem? (i := 5) rfl)) (fun _ h9 => h9) rfl dX8_note_60 ?_
        refine lv_icmp_ne (tgt := 69) hx hb dX8_note_63 (by decide) (fun c_35 => ?_) (fun c_35 => ?_)
        · have hf := ite_f c_35 hf
          refine lv_iinc (v := (v1 + 1)) (lv' := [(1, .int (v1 + 1)), (0, .ref q_this)]) hx hb dX8_note_69 hl (k := 1) rfl rfl (by decide) rfl (fun ls hl => ?_)
          refine lv_goto (tgt := 2) hx hb dX8_note_72 (by decide) ?_
          exact ih2 _ _ _ _ _ _ hP hD hS (lv_sub hl [1, 0] rfl) hf
        · have hf := ite_t c_35 hf
          refine lv_bipush (v := (-3)) hx hb dX8_note_66 (by decide) ?_
          have ho := Option.some.inj hf
          subst ho
          exact W.iret (v := (-3)) hx hb hr (fun t ht hW => ⟨⟨_, (), rfl, rfl, by rw [ht]; exact hP, va_K.moved hW.alike hK, hD⟩, hS.F ht⟩) hS.2.2 dX8_note_68
set_option maxRecDepth 100000 in
set_option maxHeartbeats 4000000 in
theorem kX8_note (l : Launch) (G : va_G) (cy : Nat → ClassId) (q_this : Nat) (q_now : Nat) (q_saved : Nat) (q_trial : Nat) (q_lowering : Nat) (q_counts : Nat) (q_expansion : Nat) (q_setUp : Nat) (q_tapes : Nat) (q_now_ground : Nat) (q_now_notes : Nat) (q_now_seen : Nat) (q_now_events : Nat) (q_now_book : Nat) (q_now_notes_cells : Nat) (sz : Nat) (n_now_notes_cells : Nat) (f_imaged : Int32) (f_now_ground_a : Int32) (f_now_ground_b : Int32) (f_now_ground_x : Int32) (f_now_ground_y : Int32) (f_now_notes_limit : Int32) (f_now_notes_used : Int32) (f_now_notes_cells : Nat → Int32) (n : Nat) {o : Int32 × Int32 × (Nat → Int32)} (hf : fX8_note n n_now_notes_cells f_now_ground_x f_now_ground_y f_now_notes_limit f_now_notes_used f_now_notes_cells = some o) : Met l yX8_note (Cond.code yX8_note cX8_note 2 (some .int) :: AW) ({ frames := 2, cells := 0, slots := 0, locals := 44 } : Room) (va_Pc [.ref q_this] (Wp G cy [(q_this, .inr (8, [.ref q_now, .ref q_saved, .int f_imaged, .ref q_trial, .ref q_lowering, .ref q_counts, .ref q_expansion, .ref q_setUp, .ref q_tapes])), (q_now, .inr (6, [.ref q_now_ground, .ref q_now_notes, .ref q_now_seen, .ref q_now_events, .ref q_now_book])), (q_now_ground, .inr (2, [.int f_now_ground_a, .int f_now_ground_b, .int f_now_ground_x, .int f_now_ground_y])), (q_now_notes, .inr (4, [.int f_now_notes_limit, .ref q_now_notes_cells, .int f_now_notes_used])), (q_now_notes_cells, .inl (cy 0, n_now_notes_cells, .inl f_now_notes_cells))] sz)) (va_Qi (fun r (_ : Unit) => r = o.1) (fun _ => Wq G cy (va_A [(q_this, .inr (8, [.ref q_now, .ref q_saved, .int f_imaged, .ref q_trial, .ref q_lowering, .ref q_counts, .ref q_expansion, .ref q_setUp, .ref q_tapes])), (q_now, .inr (6, [.ref q_now_ground, .ref q_now_notes, .ref q_now_seen, .ref q_now_events, .ref q_now_book])), (q_now_ground, .inr (2, [.int f_now_ground_a, .int f_now_ground_b, .int f_now_ground_x, .int f_now_ground_y])), (q_now_notes, .inr (4, [.int f_now_notes_limit, .ref q_now_notes_cells, .int f_now_notes_used])), (q_now_notes_cells, .inl (cy 0, n_now_notes_cells, .inl f_now_notes_cells))] sz) [(q_this, .inr (8, [.ref q_now, .ref q_saved, .int f_imaged, .ref q_trial, .ref q_lowering, .ref q_counts, .ref q_expansion, .ref q_setUp, .ref q_tapes])), (q_now, .inr (6, [.ref q_now_ground, .ref q_now_notes, .ref q_now_seen, .ref q_now_events, .ref q_now_book])), (q_now_ground, .inr (2, [.int f_now_ground_a, .int f_now_ground_b, .int f_now_ground_x, .int f_now_ground_y])), (q_now_notes, .inr (4, [.int f_now_notes_limit, .ref q_now_notes_cells, .int o.2.1])), (q_now_notes_cells, .inl (cy 0, n_now_notes_cells, .inl o.2.2))]) (va_A [(q_this, .inr (8, [.ref q_now, .ref q_saved, .int f_imaged, .ref q_trial, .ref q_lowering, .ref q_counts, .ref q_expansion, .ref q_setUp, .ref q_tapes])), (q_now, .inr (6, [.ref q_now_ground, .ref q_now_notes, .ref q_now_seen, .ref q_now_events, .ref q_now_book])), (q_now_ground, .inr (2, [.int f_now_ground_a, .int f_now_ground_b, .int f_now_ground_x, .int f_now_ground_y])), (q_now_notes, .inr (4, [.int f_now_notes_limit, .ref q_now_notes_cells, .int f_now_notes_used])), (q_now_notes_cells, .inl (cy 0, n_now_notes_cells, .inl f_now_notes_cells))] sz)) 0 0 (va_A [(q_this, .inr (8, [.ref q_now, .ref q_saved, .int f_imaged, .ref q_trial, .ref q_lowering, .ref q_counts, .ref q_expansion, .ref q_setUp, .ref q_tapes])), (q_now, .inr (6, [.ref q_now_ground, .ref q_now_notes, .ref q_now_seen, .ref q_now_events, .ref q_now_book])), (q_now_ground, .inr (2, [.int f_now_ground_a, .int f_now_ground_b, .int f_now_ground_x, .int f_now_ground_y])), (q_now_notes, .inr (4, [.int f_now_notes_limit, .ref q_now_notes_cells, .int f_now_notes_used])), (q_now_notes_cells, .inl (cy 0, n_now_notes_cells, .inl f_now_notes_cells))] sz) := by
  refine Met.ofW (cc := cX8_note) (maxL := 2) (ret := (some .int)) (by decide) rfl ?_
  intro p e s m args below meth c s₁ B hml hv
  obtain ⟨rfl, hsz, hP, hK, hD0, hN⟩ := hv
  have hx := B.exec
  have hb := B.bytes
  have hr := B.returns
  have htA : ∀ w ∈ AW, w.before _ s = true := fun w h => atoms_spec (ws := Cond.code yX8_note cX8_note 2 (some .int) :: AW) B.pre w (List.mem_cons_of_mem _ h)
  have hown : s.vm.findClass RX8 = some m.cls := findClass_of_methodNamed B.named
  have hlocks := B.notSynchronized
  subst hsz
  have hD := hD0.self (sz := s.heap.size)
  generalize hAe : va_A [(q_this, .inr (8, [.ref q_now, .ref q_saved, .int f_imaged, .ref q_trial, .ref q_lowering, .ref q_counts, .ref q_expansion, .ref q_setUp, .ref q_tapes])), (q_now, .inr (6, [.ref q_now_ground, .ref q_now_notes, .ref q_now_seen, .ref q_now_events, .ref q_now_book])), (q_now_ground, .inr (2, [.int f_now_ground_a, .int f_now_ground_b, .int f_now_ground_x, .int f_now_ground_y])), (q_now_notes, .inr (4, [.int f_now_notes_limit, .ref q_now_notes_cells, .int f_now_notes_used])), (q_now_notes_cells, .inl (cy 0, n_now_notes_cells, .inl f_now_notes_cells))] s.heap.size = A at hD ⊢
  have hA : ∀ q : Nat, s.heap.size ≤ q → A q := fun q h => by rw [← hAe]; exact Or.inr h
  have hS : va_S A s.heap s.heap [] := va_S.rf
  have hl := lv_entry ([.ref q_this]) (n := 2) (Nat.le_of_ble_eq_true rfl)
  rw [lg_entry_eq]
  generalize (lg_sl ([.ref q_this]) ++ List.replicate (2 - (lg_sl ([.ref q_this])).length) Slot.unset).toArray = ls at hl ⊢
  have hl : lv_has ls 2 [(0, .ref q_this)] := hl
  have hP : va_P G vwCl [(q_this, .inr (8, [.ref q_now, .ref q_saved, .int f_imaged, .ref q_trial, .ref q_lowering, .ref q_counts, .ref q_expansion, .ref q_setUp, .ref q_tapes])), (q_now, .inr (6, [.ref q_now_ground, .ref q_now_notes, .ref q_now_seen, .ref q_now_events, .ref q_now_book])), (q_now_ground, .inr (2, [.int f_now_ground_a, .int f_now_ground_b, .int f_now_ground_x, .int f_now_ground_y])), (q_now_notes, .inr (4, [.int f_now_notes_limit, .ref q_now_notes_cells, .int f_now_notes_used])), (q_now_notes_cells, .inl (cy 0, n_now_notes_cells, .inl f_now_notes_cells))] s.heap := hP
  have C0 : Cx p s m _ meth c cX8_note 2 (some .int) RX8 G cy A := ⟨hx, hb, hr, hml, htA, hown, hK, hN, hA, hlocks⟩
  have hf : (lX8_note_2 n n_now_notes_cells f_now_ground_x f_now_ground_y f_now_notes_limit n 0 f_now_notes_used f_now_notes_cells : Option (Int32 × Int32 × (Nat → Int32))) = some o := hf
  refine lv_iconst (v := 0) hx hb dX8_note_0 (by decide) ?_
  refine lv_istore_n (lv' := [(1, .int 0), (0, .ref q_this)]) hx hb dX8_note_1 rfl hl (by decide) rfl (fun ls hl => ?_)
  exact wX8_note_2 C0 n _ _ _ _ _ _ hP hD hS (lv_sub hl [1, 0] rfl) hf
set_option maxRecDepth 100000 in
set_option maxHeartbeats 4000000 in
theorem kX8_wipe (l : Launch) (G : va_G) (cy : Nat → ClassId) (q_this : Nat) (q_now : Nat) (q_saved : Nat) (q_trial : Nat) (q_lowering : Nat) (q_counts : Nat) (q_expansion : Nat) (q_setUp : Nat) (q_tapes : Nat) (q_now_ground : Nat) (q_now_notes : Nat) (q_now_seen : Nat) (q_now_events : Nat) (q_now_book : Nat) (q_now_notes_cells : Nat) (sz : Nat) (f_imaged : Int32) (f_now_notes_limit : Int32) (f_now_notes_used : Int32) {o : Int32 × Int32} (hf : fX8_wipe f_now_notes_used = some o) : Met l yX8_wipe (Cond.code yX8_wipe cX8_wipe 2 (some .int) :: AW) ({ frames := 1, cells := 0, slots := 0, locals := 20 } : Room) (va_Pc [.ref q_this] (Wp G cy [(q_this, .inr (8, [.ref q_now, .ref q_saved, .int f_imaged, .ref q_trial, .ref q_lowering, .ref q_counts, .ref q_expansion, .ref q_setUp, .ref q_tapes])), (q_now, .inr (6, [.ref q_now_ground, .ref q_now_notes, .ref q_now_seen, .ref q_now_events, .ref q_now_book])), (q_now_notes, .inr (4, [.int f_now_notes_limit, .ref q_now_notes_cells, .int f_now_notes_used]))] sz)) (va_Qi (fun r (_ : Unit) => r = o.1) (fun _ => Wq G cy (va_A [(q_this, .inr (8, [.ref q_now, .ref q_saved, .int f_imaged, .ref q_trial, .ref q_lowering, .ref q_counts, .ref q_expansion, .ref q_setUp, .ref q_tapes])), (q_now, .inr (6, [.ref q_now_ground, .ref q_now_notes, .ref q_now_seen, .ref q_now_events, .ref q_now_book])), (q_now_notes, .inr (4, [.int f_now_notes_limit, .ref q_now_notes_cells, .int f_now_notes_used]))] sz) [(q_this, .inr (8, [.ref q_now, .ref q_saved, .int f_imaged, .ref q_trial, .ref q_lowering, .ref q_counts, .ref q_expansion, .ref q_setUp, .ref q_tapes])), (q_now, .inr (6, [.ref q_now_ground, .ref q_now_notes, .ref q_now_seen, .ref q_now_events, .ref q_now_book])), (q_now_notes, .inr (4, [.int f_now_notes_limit, .ref q_now_notes_cells, .int o.2]))]) (va_A [(q_this, .inr (8, [.ref q_now, .ref q_saved, .int f_imaged, .ref q_trial, .ref q_lowering, .ref q_counts, .ref q_expansion, .ref q_setUp, .ref q_tapes])), (q_now, .inr (6, [.ref q_now_ground, .ref q_now_notes, .ref q_now_seen, .ref q_now_events, .ref q_now_book])), (q_now_notes, .inr (4, [.int f_now_notes_limit, .ref q_now_notes_cells, .int f_now_notes_used]))] sz)) 0 0 (va_A [(q_this, .inr (8, [.ref q_now, .ref q_saved, .int f_imaged, .ref q_trial, .ref q_lowering, .ref q_counts, .ref q_expansion, .ref q_setUp, .ref q_tapes])), (q_now, .inr (6, [.ref q_now_ground, .ref q_now_notes, .ref q_now_seen, .ref q_now_events, .ref q_now_book])), (q_now_notes, .inr (4, [.int f_now_notes_limit, .ref q_now_notes_cells, .int f_now_notes_used]))] sz) := by
  refine Met.ofW (cc := cX8_wipe) (maxL := 2) (ret := (some .int)) (by decide) rfl ?_
  intro p e s m args below meth c s₁ B hml hv
  obtain ⟨rfl, hsz, hP, hK, hD0, hN⟩ := hv
  have hx := B.exec
  have hb := B.bytes
  have hr := B.returns
  have htA : ∀ w ∈ AW, w.before _ s = true := fun w h => atoms_spec (ws := Cond.code yX8_wipe cX8_wipe 2 (some .int) :: AW) B.pre w (List.mem_cons_of_mem _ h)
  have hown : s.vm.findClass RX8 = some m.cls := findClass_of_methodNamed B.named
  have hlocks := B.notSynchronized
  subst hsz
  have hD := hD0.self (sz := s.heap.size)
  generalize hAe : va_A [(q_this, .inr (8, [.ref q_now, .ref q_saved, .int f_imaged, .ref q_trial, .ref q_lowering, .ref q_counts, .ref q_expansion, .ref q_setUp, .ref q_tapes])), (q_now, .inr (6, [.ref q_now_ground, .ref q_now_notes, .ref q_now_seen, .ref q_now_events, .ref q_now_book])), (q_now_notes, .inr (4, [.int f_now_notes_limit, .ref q_now_notes_cells, .int f_now_notes_used]))] s.heap.size = A at hD ⊢
  have hA : ∀ q : Nat, s.heap.size ≤ q → A q := fun q h => by rw [← hAe]; exact Or.inr h
  have hS : va_S A s.heap s.heap [] := va_S.rf
  have hl := lv_entry ([.ref q_this]) (n := 2) (Nat.le_of_ble_eq_true rfl)
  rw [lg_entry_eq]
  generalize (lg_sl ([.ref q_this]) ++ List.replicate (2 - (lg_sl ([.ref q_this])).length) Slot.unset).toArray = ls at hl ⊢
  have hl : lv_has ls 2 [(0, .ref q_this)] := hl
  have hP : va_P G vwCl [(q_this, .inr (8, [.ref q_now, .ref q_saved, .int f_imaged, .ref q_trial, .ref q_lowering, .ref q_counts, .ref q_expansion, .ref q_setUp, .ref q_tapes])), (q_now, .inr (6, [.ref q_now_ground, .ref q_now_notes, .ref q_now_seen, .ref q_now_events, .ref q_now_book])), (q_now_notes, .inr (4, [.int f_now_notes_limit, .ref q_now_notes_cells, .int f_now_notes_used]))] s.heap := hP
  have hf : ((fX4_size f_now_notes_used).bind fun q7 => ((fX4_clear f_now_notes_used).bind fun q18 => (some (q7, q18))) : Option (Int32 × Int32)) = some o := hf
  refine lv_aload_n hx hb dX8_wipe_0 rfl (lv_at hl 0 rfl) ?_
  refine va_get (D := G) (ci := 8) (v := .ref q_now) (C := RX8) (T := TX8) (N := 9) hx hb htA lyX8 hown hK hP 0 rfl rfl 0 (by decide) (htA _ a_fl_X8_14) (fun _ h9 => h9) rfl dX8_wipe_1 ?_
  refine va_getN (D := G) (ci := 6) (v := .ref q_now_notes) (C := RX6) (T := TX6) (N := 5) hx hb htA lyX6 hown hK hP 1 rfl rfl 1 (by decide) (u_link hN (List.mem_of_getElem? (i := 7) rfl)) (fun _ h9 => h9) rfl dX8_wipe_4 ?_
  obtain ⟨q7, h7_9, hf⟩ := bd_s hf
  refine u_calliR (va_runV (As := []) (rest := []) ⟨hx, hb, hml, hown, htA⟩ (kX4_size l G cy q_now_notes q_now_notes_cells s.heap.size f_now_notes_limit f_now_notes_used h7_9) (u_cwV htA a_ml_X8_109 pk_X4_size ⟨Nat.le_of_ble_eq_true rfl, Nat.le_of_ble_eq_true rfl⟩) (u_preV hK hN hP hD [2] rfl (by decide) 2 rfl rfl) rfl rfl hl.1 rfl (lv_room (Nat.le_of_ble_eq_true rfl)) dX8_wipe_7 ⟨Nat.zero_le _, Nat.zero_le _⟩) hP hD hS hA [2] rfl (fun H locs hP hS => ?_)
  refine lv_istore_n (lv' := [(1, .int q7), (0, .ref q_this)]) hx hb dX8_wipe_10 rfl hl (by decide) rfl (fun ls hl => ?_)
  refine lv_aload_n hx hb dX8_wipe_11 rfl (lv_at hl 1 rfl) ?_
  refine va_get (D := G) (ci := 8) (v := .ref q_now) (C := RX8) (T := TX8) (N := 9) hx hb htA lyX8 hown hK hP 0 rfl rfl 0 (by decide) (htA _ a_fl_X8_14) (fun _ h9 => h9) rfl dX8_wipe_12 ?_
  refine va_getN (D := G) (ci := 6) (v := .ref q_now_notes) (C := RX6) (T := TX6) (N := 5) hx hb htA lyX6 hown hK hP 1 rfl rfl 1 (by decide) (u_link hN (List.mem_of_getElem? (i := 7) rfl)) (fun _ h9 => h9) rfl dX8_wipe_15 ?_
  obtain ⟨q18, h18_10, hf⟩ := bd_s hf
  refine u_callv [(q_this, .inr (8, [.ref q_now, .ref q_saved, .int f_imaged, .ref q_trial, .ref q_lowering, .ref q_counts, .ref q_expansion, .ref q_setUp, .ref q_tapes])), (q_now, .inr (6, [.ref q_now_ground, .ref q_now_notes, .ref q_now_seen, .ref q_now_events, .ref q_now_book])), (q_now_notes, .inr (4, [.int f_now_notes_limit, .ref q_now_notes_cells, .int q18]))] (va_runV (As := []) (rest := []) ⟨hx, hb, hml, hown, htA⟩ (kX4_clear l G cy q_now_notes q_now_notes_cells H.size f_now_notes_limit f_now_notes_used h18_10) (u_cwV htA a_ml_X8_121 pk_X4_clear ⟨Nat.le_of_ble_eq_true rfl, Nat.le_of_ble_eq_true rfl⟩) (u_preV hK hN hP hD [2] rfl (by decide) 2 rfl rfl) rfl rfl hl.1 rfl (lv_room (Nat.le_of_ble_eq_true rfl)) dX8_wipe_18 ⟨Nat.zero_le _, Nat.zero_le _⟩) hP hD hS hA [2] rfl [0, 1] 3 rfl rfl rfl (by decide) rfl (fun H locs hP hD hS => ?_)
  refine lv_iload_n hx hb dX8_wipe_21 rfl (lv_at hl 0 rfl) ?_
  have ho := Option.some.inj hf
  subst ho
  exact W.iret (v := q7) hx hb hr (fun t ht hW => ⟨⟨_, (), rfl, rfl, by rw [ht]; exact hP, va_K.moved hW.alike hK, hD⟩, hS.F ht⟩) hS.2.2 dX8_wipe_22
set_option maxRecDepth 100000 in
set_option maxHeartbeats 4000000 in
theorem kX8_feed (l : Launch) (G : va_G) (cy : Nat → ClassId) (q_this : Nat) (q_now : Nat) (q_saved : Nat) (q_trial : Nat) (q_lowering : Nat) (q_counts : Nat) (q_expansion : Nat) (q_setUp : Nat) (q_tapes : Nat) (q_setUp_text : Nat) (q_setUp_kinds : Nat) (q_setUp_firsts : Nat) (q_setUp_seconds : Nat) (sz : Nat) (f_imaged : Int32) (f_setUp_length : Int32) (f_setUp_clauses : Int32) (f_setUp_spot : Int32) (f_setUp_value : Int32) (f_setUp_text : Nat → Int32) (p1 : Int32) {o : Int32 × Int32 × (Nat → Int32)} (hf : fX8_feed p1 f_setUp_length f_setUp_text = some o) : Met l yX8_feed (Cond.code yX8_feed cX8_feed 2 (some .int) :: AW) ({ frames := 1, cells := 0, slots := 0, locals := 22 } : Room) (va_Pc [.ref q_this, .int p1] (Wp G cy [(q_this, .inr (8, [.ref q_now, .ref q_saved, .int f_imaged, .ref q_trial, .ref q_lowering, .ref q_counts, .ref q_expansion, .ref q_setUp, .ref q_tapes])), (q_setUp, .inr (5, [.ref q_setUp_text, .int f_setUp_length, .ref q_setUp_kinds, .ref q_setUp_firsts, .ref q_setUp_seconds, .int f_setUp_clauses, .int f_setUp_spot, .int f_setUp_value])), (q_setUp_text, .inl (cy 0, 100, .inl f_setUp_text))] sz)) (va_Qi (fun r (_ : Unit) => r = o.1) (fun _ => Wq G cy (va_A [(q_this, .inr (8, [.ref q_now, .ref q_saved, .int f_imaged, .ref q_trial, .ref q_lowering, .ref q_counts, .ref q_expansion, .ref q_setUp, .ref q_tapes])), (q_setUp, .inr (5, [.ref q_setUp_text, .int f_setUp_length, .ref q_setUp_kinds, .ref q_setUp_firsts, .ref q_setUp_seconds, .int f_setUp_clauses, .int f_setUp_spot, .int f_setUp_value])), (q_setUp_text, .inl (cy 0, 100, .inl f_setUp_text))] sz) [(q_this, .inr (8, [.ref q_now, .ref q_saved, .int f_imaged, .ref q_trial, .ref q_lowering, .ref q_counts, .ref q_expansion, .ref q_setUp, .ref q_tapes])), (q_setUp, .inr (5, [.ref q_setUp_text, .int o.2.1, .ref q_setUp_kinds, .ref q_setUp_firsts, .ref q_setUp_seconds, .int f_setUp_clauses, .int f_setUp_spot, .int f_setUp_value])), (q_setUp_text, .inl (cy 0, 100, .inl o.2.2))]) (va_A [(q_this, .inr (8, [.ref q_now, .ref q_saved, .int f_imaged, .ref q_trial, .ref q_lowering, .ref q_counts, .ref q_expansion, .ref q_setUp, .ref q_tapes])), (q_setUp, .inr (5, [.ref q_setUp_text, .int f_setUp_length, .ref q_setUp_kinds, .ref q_setUp_firsts, .ref q_setUp_seconds, .int f_setUp_clauses, .int f_setUp_spot, .int f_setUp_value])), (q_setUp_text, .inl (cy 0, 100, .inl f_setUp_text))] sz)) 0 0 (va_A [(q_this, .inr (8, [.ref q_now, .ref q_saved, .int f_imaged, .ref q_trial, .ref q_lowering, .ref q_counts, .ref q_expansion, .ref q_setUp, .ref q_tapes])), (q_setUp, .inr (5, [.ref q_setUp_text, .int f_setUp_length, .ref q_setUp_kinds, .ref q_setUp_firsts, .ref q_setUp_seconds, .int f_setUp_clauses, .int f_setUp_spot, .int f_setUp_value])), (q_setUp_text, .inl (cy 0, 100, .inl f_setUp_text))] sz) := by
  refine Met.ofW (cc := cX8_feed) (maxL := 2) (ret := (some .int)) (by decide) rfl ?_
  intro p e s m args below meth c s₁ B hml hv
  obtain ⟨rfl, hsz, hP, hK, hD0, hN⟩ := hv
  have hx := B.exec
  have hb := B.bytes
  have hr := B.returns
  have htA : ∀ w ∈ AW, w.before _ s = true := fun w h => atoms_spec (ws := Cond.code yX8_feed cX8_feed 2 (some .int) :: AW) B.pre w (List.mem_cons_of_mem _ h)
  have hown : s.vm.findClass RX8 = some m.cls := findClass_of_methodNamed B.named
  have hlocks := B.notSynchronized
  subst hsz
  have hD := hD0.self (sz := s.heap.size)
  generalize hAe : va_A [(q_this, .inr (8, [.ref q_now, .ref q_saved, .int f_imaged, .ref q_trial, .ref q_lowering, .ref q_counts, .ref q_expansion, .ref q_setUp, .ref q_tapes])), (q_setUp, .inr (5, [.ref q_setUp_text, .int f_setUp_length, .ref q_setUp_kinds, .ref q_setUp_firsts, .ref q_setUp_seconds, .int f_setUp_clauses, .int f_setUp_spot, .int f_setUp_value])), (q_setUp_text, .inl (cy 0, 100, .inl f_setUp_text))] s.heap.size = A at hD ⊢
  have hA : ∀ q : Nat, s.heap.size ≤ q → A q := fun q h => by rw [← hAe]; exact Or.inr h
  have hS : va_S A s.heap s.heap [] := va_S.rf
  have hl := lv_entry ([.ref q_this, .int p1]) (n := 2) (Nat.le_of_ble_eq_true rfl)
  rw [lg_entry_eq]
  generalize (lg_sl ([.ref q_this, .int p1]) ++ List.replicate (2 - (lg_sl ([.ref q_this, .int p1])).length) Slot.unset).toArray = ls at hl ⊢
  have hl : lv_has ls 2 [(0, .ref q_this), (1, .int p1)] := hl
  have hP : va_P G vwCl [(q_this, .inr (8, [.ref q_now, .ref q_saved, .int f_imaged, .ref q_trial, .ref q_lowering, .ref q_counts, .ref q_expansion, .ref q_setUp, .ref q_tapes])), (q_setUp, .inr (5, [.ref q_setUp_text, .int f_setUp_length, .ref q_setUp_kinds, .ref q_setUp_firsts, .ref q_setUp_seconds, .int f_setUp_clauses, .int f_setUp_spot, .int f_setUp_value])), (q_setUp_text, .inl (cy 0, 100, .inl f_setUp_text))] s.heap := hP
  have hf : ((fX8_isIn p1 0 127).bind fun q4 => ((if q4 = 0 then some ((-2), f_setUp_length, f_setUp_text) else (fX5_append p1 f_setUp_length f_setUp_text).bind fun q18 => (some (q18.1, q18.2.1, q18.2.2)))) : Option (Int32 × Int32 × (Nat → Int32))) = some o := hf
  refine lv_iload_n hx hb dX8_feed_0 rfl (lv_at hl 1 rfl) ?_
  refine lv_iconst (v := 0) hx hb dX8_feed_1 (by decide) ?_
  refine lv_bipush (v := 127) hx hb dX8_feed_2 (by decide) ?_
  obtain ⟨q4, h4_13, hf⟩ := bd_s hf
  refine u_calliR (va_runS (As := [.int p1, .int 0, .int 127]) (rest := []) ⟨hx, hb, hml, hown, htA⟩ (kX8_isIn l G cy s.heap.size p1 0 127 h4_13) (u_cwS htA a_ml_X8_69 pk_X8_isIn ⟨Nat.le_of_ble_eq_true rfl, Nat.le_of_ble_eq_true rfl⟩) (u_preS hK hN hP hD [] rfl (by decide)) rfl rfl hl.1 rfl (lv_room (Nat.le_of_ble_eq_true rfl)) dX8_feed_4 ⟨Nat.zero_le _, Nat.zero_le _⟩) hP hD hS hA [] rfl (fun H locs hP hS => ?_)
  refine lv_if_ne (tgt := 13) hx hb dX8_feed_7 (by decide) (fun c_14 => ?_) (fun c_14 => ?_)
  · have hf := ite_f c_14 hf
    refine lv_aload_n hx hb dX8_feed_13 rfl (lv_at hl 0 rfl) ?_
    refine va_get (D := G) (ci := 8) (v := .ref q_setUp) (C := RX8) (T := TX8) (N := 9) hx hb htA lyX8 hown hK hP 0 rfl rfl 7 (by decide) (htA _ a_fl_X8_58) (fun _ h9 => h9) rfl dX8_feed_14 ?_
    refine lv_iload_n hx hb dX8_feed_17 rfl (lv_at hl 1 rfl) ?_
    obtain ⟨q18, h18_15, hf⟩ := bd_s hf
    refine u_calli [(q_this, .inr (8, [.ref q_now, .ref q_saved, .int f_imaged, .ref q_trial, .ref q_lowering, .ref q_counts, .ref q_expansion, .ref q_setUp, .ref q_tapes])), (q_setUp, .inr (5, [.ref q_setUp_text, .int q18.2.1, .ref q_setUp_kinds, .ref q_setUp_firsts, .ref q_setUp_seconds, .int f_setUp_clauses, .int f_setUp_spot, .int f_setUp_value])), (q_setUp_text, .inl (cy 0, 100, .inl q18.2.2))] (va_runV (As := [.int p1]) (rest := []) ⟨hx, hb, hml, hown, htA⟩ (kX5_append l G cy q_setUp q_setUp_text q_setUp_kinds q_setUp_firsts q_setUp_seconds H.size f_setUp_length f_setUp_clauses f_setUp_spot f_setUp_value f_setUp_text p1 h18_15) (u_cwV htA a_ml_X8_124 pk_X5_append ⟨Nat.le_of_ble_eq_true rfl, Nat.le_of_ble_eq_true rfl⟩) (u_preV hK hN hP hD [1, 2] rfl (by decide) 1 rfl rfl) rfl rfl hl.1 rfl (lv_room (Nat.le_of_ble_eq_true rfl)) dX8_feed_18 ⟨Nat.zero_le _, Nat.zero_le _⟩) hP hD hS hA [1, 2] rfl [0] 3 rfl rfl rfl (by decide) rfl (fun H locs hP hD hS => ?_)
    have ho := Option.some.inj hf
    subst ho
    exact W.iret (v := q18.1) hx hb hr (fun t ht hW => ⟨⟨_, (), rfl, rfl, by rw [ht]; exact hP, va_K.moved hW.alike hK, hD⟩, hS.F ht⟩) hS.2.2 dX8_feed_21
  · have hf := ite_t c_14 hf
    refine lv_bipush (v := (-2)) hx hb dX8_feed_10 (by decide) ?_
    have ho := Option.some.inj hf
    subst ho
    exact W.iret (v := (-2)) hx hb hr (fun t ht hW => ⟨⟨_, (), rfl, rfl, by rw [ht]; exact hP, va_K.moved hW.alike hK, hD⟩, hS.F ht⟩) hS.2.2 dX8_feed_12
set_option maxRecDepth 100000 in
set_option maxHeartbeats 4000000 in
theorem wX8_carryByWord_16 {p : Program} {l : Launch} {e : Env} {s : State} {m : MethodId} {args : Array Value} {below : List Frame} {meth : Method} {c : Code} {G : va_G} {cy : Nat → ClassId} {A : Nat → Prop} {q_this : Nat} {q_now : Nat} {q_saved : Nat} {q_trial : Nat} {q_lowering : Nat} {q_counts : Nat} {q_expansion : Nat} {q_setUp : Nat} {q_tapes : Nat} {q_now_ground : Nat} {q_now_notes : Nat} {q_now_seen : Nat} {q_now_events : Nat} {q_now_book : Nat} {q_setUp_text : Nat} {q_setUp_kinds : Nat} {q_setUp_firsts : Nat} {q_setUp_seconds : Nat} {f_imaged : Int32} {f_setUp_length : Int32} {f_setUp_clauses : Int32} {f_setUp_spot : Int32} {f_setUp_value : Int32} {f_setUp_text : Nat → Int32} {n : Nat} {o : Int32 × Int32 × Int32 × Int32 × Int32 × Int32 × Int32 × Int32 × Int32} (C : Cx p s m args meth c cX8_carryByWord 4 (some .boolean) RX8 G cy A) : ∀ k16 : Nat, ∀ (v1 : Int32) (v2 : Int32) (v3 : Int32) (f_now_ground_a : Int32) (f_now_ground_b : Int32) (f_now_ground_x : Int32) (f_now_ground_y : Int32) (f_trial_a : Int32) (f_trial_b : Int32) (f_trial_x : Int32) (f_trial_y : Int32) (H : Heap) (locs : List Loc) (ls : Array Slot), va_P G vwCl [(q_this, .inr (8, [.ref q_now, .ref q_saved, .int f_imaged, .ref q_trial, .ref q_lowering, .ref q_counts, .ref q_expansion, .ref q_setUp, .ref q_tapes])), (q_now, .inr (6, [.ref q_now_ground, .ref q_now_notes, .ref q_now_seen, .ref q_now_events, .ref q_now_book])), (q_now_ground, .inr (2, [.int f_now_ground_a, .int f_now_ground_b, .int f_now_ground_x, .int f_now_ground_y])), (q_trial, .inr (2, [.int f_trial_a, .int f_trial_b, .int f_trial_x, .int f_trial_y])), (q_setUp, .inr (5, [.ref q_setUp_text, .int f_setUp_length, .ref q_setUp_kinds, .ref q_setUp_firsts, .ref q_setUp_seconds, .int f_setUp_clauses, .int f_setUp_spot, .int f_setUp_value])), (q_setUp_text, .inl (cy 0, 100, .inl f_setUp_text))] H → va_D A [(q_this, .inr (8, [.ref q_now, .ref q_saved, .int f_imaged, .ref q_trial, .ref q_lowering, .ref q_counts, .ref q_expansion, .ref q_setUp, .ref q_tapes])), (q_now, .inr (6, [.ref q_now_ground, .ref q_now_notes, .ref q_now_seen, .ref q_now_events, .ref q_now_book])), (q_now_ground, .inr (2, [.int f_now_ground_a, .int f_now_ground_b, .int f_now_ground_x, .int f_now_ground_y])), (q_trial, .inr (2, [.int f_trial_a, .int f_trial_b, .int f_trial_x, .int f_trial_y])), (q_setUp, .inr (5, [.ref q_setUp_text, .int f_setUp_length, .ref q_setUp_kinds, .ref q_setUp_firsts, .ref q_setUp_seconds, .int f_setUp_clauses, .int f_setUp_spot, .int f_setUp_value])), (q_setUp_text, .inl (cy 0, 100, .inl f_setUp_text))] → va_S A s.heap H locs → lv_has ls 4 [(0, .ref q_this), (1, .int v1), (2, .int v2), (3, .int v3)] → lX8_carryByWord_16 n f_setUp_length f_setUp_text k16 v1 v2 v3 f_now_ground_a f_now_ground_b f_now_ground_x f_now_ground_y f_trial_a f_trial_b f_trial_x f_trial_y = some o → W p l e (headSpec (Cond.code yX8_carryByWord cX8_carryByWord 4 (some .boolean) :: AW) ({ frames := 3, cells := 0, slots := 0, locals := 66 } : Room)).room s m args below meth c H locs 0 0 (MQ below (va_Qi (fun r (_ : Unit) => r = o.1) (fun _ => Wq G cy A [(q_this, .inr (8, [.ref q_now, .ref q_saved, .int f_imaged, .ref q_trial, .ref q_lowering, .ref q_counts, .ref q_expansion, .ref q_setUp, .ref q_tapes])), (q_now, .inr (6, [.ref q_now_ground, .ref q_now_notes, .ref q_now_seen, .ref q_now_events, .ref q_now_book])), (q_now_ground, .inr (2, [.int o.2.1, .int o.2.2.1, .int o.2.2.2.1, .int o.2.2.2.2.1])), (q_trial, .inr (2, [.int o.2.2.2.2.2.1, .int o.2.2.2.2.2.2.1, .int o.2.2.2.2.2.2.2.1, .int o.2.2.2.2.2.2.2.2])), (q_setUp, .inr (5, [.ref q_setUp_text, .int f_setUp_length, .ref q_setUp_kinds, .ref q_setUp_firsts, .ref q_setUp_seconds, .int f_setUp_clauses, .int f_setUp_spot, .int f_setUp_value])), (q_setUp_text, .inl (cy 0, 100, .inl f_setUp_text))]) A) args s 0 0 A) (F0 m 16 ls []) := by
  have C0 := C
  obtain ⟨hx, hb, hr, hml, htA, hown, hK, hN, hA, hlocks⟩ := C
  intro k16
  induction k16 with
  | zero =>
    intro v1 v2 v3 f_now_ground_a f_now_ground_b f_now_ground_x f_now_ground_y f_trial_a f_trial_b f_trial_x f_trial_y H locs ls hP hD hS hl hf
    exact no_s hf
  | succ k16 ih16 =>
    intro v1 v2 v3 f_now_ground_a f_now_ground_b f_now_ground_x f_now_ground_y f_trial_a f_trial_b f_trial_x f_trial_y H locs ls hP hD hS hl hf
    have hf : ((if v2 ≤ v3 then (fX2_copyFrom f_now_ground_a f_now_ground_b f_now_ground_x f_now_ground_y f_trial_a f_trial_b f_trial_x f_trial_y).bind fun q63 => (some (1, q63.1, q63.2.1, q63.2.2.1, q63.2.2.2, f_trial_a, f_trial_b, f_trial_x, f_trial_y)) else (fX5_byteAt (v1 + v3) f_setUp_length f_setUp_text).bind fun q32 => ((fX2_carryBy (q32 - 48) f_trial_a f_trial_b f_trial_x f_trial_y).bind fun q38 => ((if q38.1 = 0 then some (0, f_now_ground_a, f_now_ground_b, f_now_ground_x, f_now_ground_y, f_trial_a, f_trial_b, q38.2.1, q38.2.2) else lX8_carryByWord_16 n f_setUp_length f_setUp_text k16 v1 v2 (v3 + 1) f_now_ground_a f_now_ground_b f_now_ground_x f_now_ground_y f_trial_a f_trial_b q38.2.1 q38.2.2)))) : Option (Int32 × Int32 × Int32 × Int32 × Int32 × Int32 × Int32 × Int32 × Int32)) = some o := hf
    refine lv_iload_n hx hb dX8_carryByWord_16 rfl (lv_at hl 3 rfl) ?_
    refine lv_iload_n hx hb dX8_carryByWord_17 rfl (lv_at hl 2 rfl) ?_
    refine lv_icmp_ge (tgt := 52) hx hb dX8_carryByWord_18 (by decide) (fun c_25 => ?_) (fun c_25 => ?_)
    · have hf := ite_t c_25 hf
      refine lv_aload_n hx hb dX8_carryByWord_52 rfl (lv_at hl 0 rfl) ?_
      refine va_get (D := G) (ci := 8) (v := .ref q_now) (C := RX8) (T := TX8) (N := 9) hx hb htA lyX8 hown hK hP 0 rfl rfl 0 (by decide) (htA _ a_fl_X8_14) (fun _ h9 => h9) rfl dX8_carryByWord_53 ?_
      refine va_getN (D := G) (ci := 6) (v := .ref q_now_ground) (C := RX6) (T := TX6) (N := 5) hx hb htA lyX6 hown hK hP 1 rfl rfl 0 (by decide) (u_link hN (List.mem_of_getElem? (i := 6) rfl)) (fun _ h9 => h9) rfl dX8_carryByWord_56 ?_
      refine lv_aload_n hx hb dX8_carryByWord_59 rfl (lv_at hl 0 rfl) ?_
      refine va_get (D := G) (ci := 8) (v := .ref q_trial) (C := RX8) (T := TX8) (N := 9) hx hb htA lyX8 hown hK hP 0 rfl rfl 3 (by decide) (htA _ a_fl_X8_28) (fun _ h9 => h9) rfl dX8_carryByWord_60 ?_
      obtain ⟨q63, h63_26, hf⟩ := bd_s hf
      refine u_callv [(q_this, .inr (8, [.ref q_now, .ref q_saved, .int f_imaged, .ref q_trial, .ref q_lowering, .ref q_counts, .ref q_expansion, .ref q_setUp, .ref q_tapes])), (q_now, .inr (6, [.ref q_now_ground, .ref q_now_notes, .ref q_now_seen, .ref q_now_events, .ref q_now_book])), (q_now_ground, .inr (2, [.int q63.1, .int q63.2.1, .int q63.2.2.1, .int q63.2.2.2])), (q_trial, .inr (2, [.int f_trial_a, .int f_trial_b, .int f_trial_x, .int f_trial_y])), (q_setUp, .inr (5, [.ref q_setUp_text, .int f_setUp_length, .ref q_setUp_kinds, .ref q_setUp_firsts, .ref q_setUp_seconds, .int f_setUp_clauses, .int f_setUp_spot, .int f_setUp_value])), (q_setUp_text, .inl (cy 0, 100, .inl f_setUp_text))] (va_runV (As := [.ref q_trial]) (rest := []) ⟨hx, hb, hml, hown, htA⟩ (kX2_copyFrom l G cy q_now_ground q_trial H.size f_now_ground_a f_now_ground_b f_now_ground_x f_now_ground_y f_trial_a f_trial_b f_trial_x f_trial_y h63_26) (u_cwV htA a_ml_X8_160 pk_X2_copyFrom ⟨Nat.le_of_ble_eq_true rfl, Nat.le_of_ble_eq_true rfl⟩) (u_preV hK hN hP hD [2, 3] rfl (by decide) 2 rfl rfl) rfl rfl hl.1 rfl (lv_room (Nat.le_of_ble_eq_true rfl)) dX8_carryByWord_63 ⟨Nat.zero_le _, Nat.zero_le _⟩) hP hD hS hA [2, 3] rfl [0, 1, 4, 5] 6 rfl rfl rfl (by decide) rfl (fun H locs hP hD hS => ?_)
      refine lv_iconst (v := 1) hx hb dX8_carryByWord_66 (by decide) ?_
      have ho := Option.some.inj hf
      subst ho
      exact W.zret (v := 1) hx hb hr rfl (fun t ht hW => ⟨⟨_, (), rfl, rfl, by rw [ht]; exact hP, va_K.moved hW.alike hK, hD⟩, hS.F ht⟩) hS.2.2 dX8_carryByWord_67
    · have hf := ite_f c_25 hf
      refine lv_aload_n hx hb dX8_carryByWord_21 rfl (lv_at hl 0 rfl) ?_
      refine va_get (D := G) (ci := 8) (v := .ref q_trial) (C := RX8) (T := TX8) (N := 9) hx hb htA lyX8 hown hK hP 0 rfl rfl 3 (by decide) (htA _ a_fl_X8_28) (fun _ h9 => h9) rfl dX8_carryByWord_22 ?_
      refine lv_aload_n hx hb dX8_carryByWord_25 rfl (lv_at hl 0 rfl) ?_
      refine va_get (D := G) (ci := 8) (v := .ref q_setUp) (C := RX8) (T := TX8) (N := 9) hx hb htA lyX8 hown hK hP 0 rfl rfl 7 (by decide) (htA _ a_fl_X8_58) (fun _ h9 => h9) rfl dX8_carryByWord_26 ?_
      refine lv_iload_n hx hb dX8_carryByWord_29 rfl (lv_at hl 1 rfl) ?_
      refine lv_iload_n hx hb dX8_carryByWord_30 rfl (lv_at hl 3 rfl) ?_
      refine lv_iadd hx hb dX8_carryByWord_31 ?_
      obtain ⟨q32, h32_27, hf⟩ := bd_s hf
      refine u_calliR (va_runV (As := [.int (v1 + v3)]) (rest := [.ref q_trial]) ⟨hx, hb, hml, hown, htA⟩ (kX5_byteAt l G cy q_setUp q_setUp_text q_setUp_kinds q_setUp_firsts q_setUp_seconds H.size f_setUp_length f_setUp_clauses f_setUp_spot f_setUp_value f_setUp_text (v1 + v3) h32_27) (u_cwV htA a_ml_X8_164 pk_X5_byteAt ⟨Nat.le_of_ble_eq_true rfl, Nat.le_of_ble_eq_true rfl⟩) (u_preV hK hN hP hD [4, 5] rfl (by decide) 4 rfl rfl) rfl rfl hl.1 rfl (lv_room (Nat.le_of_ble_eq_true rfl)) dX8_carryByWord_32 ⟨Nat.zero_le _, Nat.zero_le _⟩) hP hD hS hA [4, 5] rfl (fun H locs hP hS => ?_)
      refine lv_bipush (v := 48) hx hb dX8_carryByWord_35 (by decide) ?_
      refine lv_isub hx hb dX8_carryByWord_37 ?_
      obtain ⟨q38, h38_28, hf⟩ := bd_s hf
      refine u_calli [(q_this, .inr (8, [.ref q_now, .ref q_saved, .int f_imaged, .ref q_trial, .ref q_lowering, .ref q_counts, .ref q_expansion, .ref q_setUp, .ref q_tapes])), (q_now, .inr (6, [.ref q_now_ground, .ref q_now_notes, .ref q_now_seen, .ref q_now_events, .ref q_now_book])), (q_now_ground, .inr (2, [.int f_now_ground_a, .int f_now_ground_b, .int f_now_ground_x, .int f_now_ground_y])), (q_trial, .inr (2, [.int f_trial_a, .int f_trial_b, .int q38.2.1, .int q38.2.2])), (q_setUp, .inr (5, [.ref q_setUp_text, .int f_setUp_length, .ref q_setUp_kinds, .ref q_setUp_firsts, .ref q_setUp_seconds, .int f_setUp_clauses, .int f_setUp_spot, .int f_setUp_value])), (q_setUp_text, .inl (cy 0, 100, .inl f_setUp_text))] (va_runV (As := [.int (q32 - 48)]) (rest := []) ⟨hx, hb, hml, hown, htA⟩ (kX2_carryBy l G cy q_trial H.size f_trial_a f_trial_b f_trial_x f_trial_y (q32 - 48) h38_28) (u_cwV htA a_ml_X8_101 pk_X2_carryBy ⟨Nat.le_of_ble_eq_true rfl, Nat.le_of_ble_eq_true rfl⟩) (u_preV hK hN hP hD [3] rfl (by decide) 3 rfl rfl) rfl rfl hl.1 rfl (lv_room (Nat.le_of_ble_eq_true rfl)) dX8_carryByWord_38 ⟨Nat.zero_le _, Nat.zero_le _⟩) hP hD hS hA [3] rfl [0, 1, 2, 4, 5] 6 rfl rfl rfl (by decide) rfl (fun H locs hP hD hS => ?_)
      refine lv_if_ne (tgt := 46) hx hb dX8_carryByWord_41 (by decide) (fun c_29 => ?_) (fun c_29 => ?_)
      · have hf := ite_f c_29 hf
        refine lv_iinc (v := (v3 + 1)) (lv' := [(3, .int (v3 + 1)), (0, .ref q_this), (1, .int v1), (2, .int v2)]) hx hb dX8_carryByWord_46 hl (k := 3) rfl rfl (by decide) rfl (fun ls hl => ?_)
        refine lv_goto (tgt := 16) hx hb dX8_carryByWord_49 (by decide) ?_
        exact ih16 _ _ _ _ _ _ _ _ _ _ _ _ _ _ hP hD hS (lv_sub hl [1, 2, 3, 0] rfl) hf
      · have hf := ite_t c_29 hf
        refine lv_iconst (v := 0) hx hb dX8_carryByWord_44 (by decide) ?_
        have ho := Option.some.inj hf
        subst ho
        exact W.zret (v := 0) hx hb hr rfl (fun t ht hW => ⟨⟨_, (), rfl, rfl, by rw [ht]; exact hP, va_K.moved hW.alike hK, hD⟩, hS.F ht⟩) hS.2.2 dX8_carryByWord_45
set_option maxRecDepth 100000 in
set_option maxHeartbeats 4000000 in
theorem kX8_carryByWord (l : Launch) (G : va_G) (cy : Nat → ClassId) (q_this : Nat) (q_now : Nat) (q_saved : Nat) (q_trial : Nat) (q_lowering : Nat) (q_counts : Nat) (q_expansion : Nat) (q_setUp : Nat) (q_tapes : Nat) (q_now_ground : Nat) (q_now_notes : Nat) (q_now_seen : Nat) (q_now_events : Nat) (q_now_book : Nat) (q_setUp_text : Nat) (q_setUp_kinds : Nat) (q_setUp_firsts : Nat) (q_setUp_seconds : Nat) (sz : Nat) (f_imaged : Int32) (f_now_ground_a : Int32) (f_now_ground_b : Int32) (f_now_ground_x : Int32) (f_now_ground_y : Int32) (f_trial_a : Int32) (f_trial_b : Int32) (f_trial_x : Int32) (f_trial_y : Int32) (f_setUp_length : Int32) (f_setUp_clauses : Int32) (f_setUp_spot : Int32) (f_setUp_value : Int32) (f_setUp_text : Nat → Int32) (p1 : Int32) (p2 : Int32) (n : Nat) {o : Int32 × Int32 × Int32 × Int32 × Int32 × Int32 × Int32 × Int32 × Int32} (hf : fX8_carryByWord n p1 p2 f_now_ground_a f_now_ground_b f_now_ground_x f_now_ground_y f_trial_a f_trial_b f_trial_x f_trial_y f_setUp_length f_setUp_text = some o) : Met l yX8_carryByWord (Cond.code yX8_carryByWord cX8_carryByWord 4 (some .boolean) :: AW) ({ frames := 3, cells := 0, slots := 0, locals := 66 } : Room) (va_Pc [.ref q_this, .int p1, .int p2] (Wp G cy [(q_this, .inr (8, [.ref q_now, .ref q_saved, .int f_imaged, .ref q_trial, .ref q_lowering, .ref q_counts, .ref q_expansion, .ref q_setUp, .ref q_tapes])), (q_now, .inr (6, [.ref q_now_ground, .ref q_now_notes, .ref q_now_seen, .ref q_now_events, .ref q_now_book])), (q_now_ground, .inr (2, [.int f_now_ground_a, .int f_now_ground_b, .int f_now_ground_x, .int f_now_ground_y])), (q_trial, .inr (2, [.int f_trial_a, .int f_trial_b, .int f_trial_x, .int f_trial_y])), (q_setUp, .inr (5, [.ref q_setUp_text, .int f_setUp_length, .ref q_setUp_kinds, .ref q_setUp_firsts, .ref q_setUp_seconds, .int f_setUp_clauses, .int f_setUp_spot, .int f_setUp_value])), (q_setUp_text, .inl (cy 0, 100, .inl f_setUp_text))] sz)) (va_Qi (fun r (_ : Unit) => r = o.1) (fun _ => Wq G cy (va_A [(q_this, .inr (8, [.ref q_now, .ref q_saved, .int f_imaged, .ref q_trial, .ref q_lowering, .ref q_counts, .ref q_expansion, .ref q_setUp, .ref q_tapes])), (q_now, .inr (6, [.ref q_now_ground, .ref q_now_notes, .ref q_now_seen, .ref q_now_events, .ref q_now_book])), (q_now_ground, .inr (2, [.int f_now_ground_a, .int f_now_ground_b, .int f_now_ground_x, .int f_now_ground_y])), (q_trial, .inr (2, [.int f_trial_a, .int f_trial_b, .int f_trial_x, .int f_trial_y])), (q_setUp, .inr (5, [.ref q_setUp_text, .int f_setUp_length, .ref q_setUp_kinds, .ref q_setUp_firsts, .ref q_setUp_seconds, .int f_setUp_clauses, .int f_setUp_spot, .int f_setUp_value])), (q_setUp_text, .inl (cy 0, 100, .inl f_setUp_text))] sz) [(q_this, .inr (8, [.ref q_now, .ref q_saved, .int f_imaged, .ref q_trial, .ref q_lowering, .ref q_counts, .ref q_expansion, .ref q_setUp, .ref q_tapes])), (q_now, .inr (6, [.ref q_now_ground, .ref q_now_notes, .ref q_now_seen, .ref q_now_events, .ref q_now_book])), (q_now_ground, .inr (2, [.int o.2.1, .int o.2.2.1, .int o.2.2.2.1, .int o.2.2.2.2.1])), (q_trial, .inr (2, [.int o.2.2.2.2.2.1, .int o.2.2.2.2.2.2.1, .int o.2.2.2.2.2.2.2.1, .int o.2.2.2.2.2.2.2.2])), (q_setUp, .inr (5, [.ref q_setUp_text, .int f_setUp_length, .ref q_setUp_kinds, .ref q_setUp_firsts, .ref q_setUp_seconds, .int f_setUp_clauses, .int f_setUp_spot, .int f_setUp_value])), (q_setUp_text, .inl (cy 0, 100, .inl f_setUp_text))]) (va_A [(q_this, .inr (8, [.ref q_now, .ref q_saved, .int f_imaged, .ref q_trial, .ref q_lowering, .ref q_counts, .ref q_expansion, .ref q_setUp, .ref q_tapes])), (q_now, .inr (6, [.ref q_now_ground, .ref q_now_notes, .ref q_now_seen, .ref q_now_events, .ref q_now_book])), (q_now_ground, .inr (2, [.int f_now_ground_a, .int f_now_ground_b, .int f_now_ground_x, .int f_now_ground_y])), (q_trial, .inr (2, [.int f_trial_a, .int f_trial_b, .int f_trial_x, .int f_trial_y])), (q_setUp, .inr (5, [.ref q_setUp_text, .int f_setUp_length, .ref q_setUp_kinds, .ref q_setUp_firsts, .ref q_setUp_seconds, .int f_setUp_clauses, .int f_setUp_spot, .int f_setUp_value])), (q_setUp_text, .inl (cy 0, 100, .inl f_setUp_text))] sz)) 0 0 (va_A [(q_this, .inr (8, [.ref q_now, .ref q_saved, .int f_imaged, .ref q_trial, .ref q_lowering, .ref q_counts, .ref q_expansion, .ref q_setUp, .ref q_tapes])), (q_now, .inr (6, [.ref q_now_ground, .ref q_now_notes, .ref q_now_seen, .ref q_now_events, .ref q_now_book])), (q_now_ground, .inr (2, [.int f_now_ground_a, .int f_now_ground_b, .int f_now_ground_x, .int f_now_ground_y])), (q_trial, .inr (2, [.int f_trial_a, .int f_trial_b, .int f_trial_x, .int f_trial_y])), (q_setUp, .inr (5, [.ref q_setUp_text, .int f_setUp_length, .ref q_setUp_kinds, .ref q_setUp_firsts, .ref q_setUp_seconds, .int f_setUp_clauses, .int f_setUp_spot, .int f_setUp_value])), (q_setUp_text, .inl (cy 0, 100, .inl f_setUp_text))] sz) := by
  refine Met.ofW (cc := cX8_carryByWord) (maxL := 4) (ret := (some .boolean)) (by decide) rfl ?_
  intro p e s m args below meth c s₁ B hml hv
  obtain ⟨rfl, hsz, hP, hK, hD0, hN⟩ := hv
  have hx := B.exec
  have hb := B.bytes
  have hr := B.returns
  have htA : ∀ w ∈ AW, w.before _ s = true := fun w h => atoms_spec (ws := Cond.code yX8_carryByWord cX8_carryByWord 4 (some .boolean) :: AW) B.pre w (List.mem_cons_of_mem _ h)
  have hown : s.vm.findClass RX8 = some m.cls := findClass_of_methodNamed B.named
  have hlocks := B.notSynchronized
  subst hsz
  have hD := hD0.self (sz := s.heap.size)
  generalize hAe : va_A [(q_this, .inr (8, [.ref q_now, .ref q_saved, .int f_imaged, .ref q_trial, .ref q_lowering, .ref q_counts, .ref q_expansion, .ref q_setUp, .ref q_tapes])), (q_now, .inr (6, [.ref q_now_ground, .ref q_now_notes, .ref q_now_seen, .ref q_now_events, .ref q_now_book])), (q_now_ground, .inr (2, [.int f_now_ground_a, .int f_now_ground_b, .int f_now_ground_x, .int f_now_ground_y])), (q_trial, .inr (2, [.int f_trial_a, .int f_trial_b, .int f_trial_x, .int f_trial_y])), (q_setUp, .inr (5, [.ref q_setUp_text, .int f_setUp_length, .ref q_setUp_kinds, .ref q_setUp_firsts, .ref q_setUp_seconds, .int f_setUp_clauses, .int f_setUp_spot, .int f_setUp_value])), (q_setUp_text, .inl (cy 0, 100, .inl f_setUp_text))] s.heap.size = A at hD ⊢
  have hA : ∀ q : Nat, s.heap.size ≤ q → A q := fun q h => by rw [← hAe]; exact Or.inr h
  have hS : va_S A s.heap s.heap [] := va_S.rf
  have hl := lv_entry ([.ref q_this, .int p1, .int p2]) (n := 4) (Nat.le_of_ble_eq_true rfl)
  rw [lg_entry_eq]
  generalize (lg_sl ([.ref q_this, .int p1, .int p2]) ++ List.replicate (4 - (lg_sl ([.ref q_this, .int p1, .int p2])).length) Slot.unset).toArray = ls at hl ⊢
  have hl : lv_has ls 4 [(0, .ref q_this), (1, .int p1), (2, .int p2)] := hl
  have hP : va_P G vwCl [(q_this, .inr (8, [.ref q_now, .ref q_saved, .int f_imaged, .ref q_trial, .ref q_lowering, .ref q_counts, .ref q_expansion, .ref q_setUp, .ref q_tapes])), (q_now, .inr (6, [.ref q_now_ground, .ref q_now_notes, .ref q_now_seen, .ref q_now_events, .ref q_now_book])), (q_now_ground, .inr (2, [.int f_now_ground_a, .int f_now_ground_b, .int f_now_ground_x, .int f_now_ground_y])), (q_trial, .inr (2, [.int f_trial_a, .int f_trial_b, .int f_trial_x, .int f_trial_y])), (q_setUp, .inr (5, [.ref q_setUp_text, .int f_setUp_length, .ref q_setUp_kinds, .ref q_setUp_firsts, .ref q_setUp_seconds, .int f_setUp_clauses, .int f_setUp_spot, .int f_setUp_value])), (q_setUp_text, .inl (cy 0, 100, .inl f_setUp_text))] s.heap := hP
  have C0 : Cx p s m _ meth c cX8_carryByWord 4 (some .boolean) RX8 G cy A := ⟨hx, hb, hr, hml, htA, hown, hK, hN, hA, hlocks⟩
  have hf : ((fX2_copyFrom f_trial_a f_trial_b f_trial_x f_trial_y f_now_ground_a f_now_ground_b f_now_ground_x f_now_ground_y).bind fun q11 => (lX8_carryByWord_16 n f_setUp_length f_setUp_text n p1 p2 0 f_now_ground_a f_now_ground_b f_now_ground_x f_now_ground_y q11.1 q11.2.1 q11.2.2.1 q11.2.2.2) : Option (Int32 × Int32 × Int32 × Int32 × Int32 × Int32 × Int32 × Int32 × Int32)) = some o := hf
  refine lv_aload_n hx hb dX8_carryByWord_0 rfl (lv_at hl 0 rfl) ?_
  refine va_get (D := G) (ci := 8) (v := .ref q_trial) (C := RX8) (T := TX8) (N := 9) hx hb htA lyX8 hown hK hP 0 rfl rfl 3 (by decide) (htA _ a_fl_X8_28) (fun _ h9 => h9) rfl dX8_carryByWord_1 ?_
  refine lv_aload_n hx hb dX8_carryByWord_4 rfl (lv_at hl 0 rfl) ?_
  refine va_get (D := G) (ci := 8) (v := .ref q_now) (C := RX8) (T := TX8) (N := 9) hx hb htA lyX8 hown hK hP 0 rfl rfl 0 (by decide) (htA _ a_fl_X8_14) (fun _ h9 => h9) rfl dX8_carryByWord_5 ?_
  refine va_getN (D := G) (ci := 6) (v := .ref q_now_ground) (C := RX6) (T := TX6) (N := 5) hx hb htA lyX6 hown hK hP 1 rfl rfl 0 (by decide) (u_link hN (List.mem_of_getElem? (i := 6) rfl)) (fun _ h9 => h9) rfl dX8_carryByWord_8 ?_
  obtain ⟨q11, h11_30, hf⟩ := bd_s hf
  refine u_callv [(q_this, .inr (8, [.ref q_now, .ref q_saved, .int f_imaged, .ref q_trial, .ref q_lowering, .ref q_counts, .ref q_expansion, .ref q_setUp, .ref q_tapes])), (q_now, .inr (6, [.ref q_now_ground, .ref q_now_notes, .ref q_now_seen, .ref q_now_events, .ref q_now_book])), (q_now_ground, .inr (2, [.int f_now_ground_a, .int f_now_ground_b, .int f_now_ground_x, .int f_now_ground_y])), (q_trial, .inr (2, [.int q11.1, .int q11.2.1, .int q11.2.2.1, .int q11.2.2.2])), (q_setUp, .inr (5, [.ref q_setUp_text, .int f_setUp_length, .ref q_setUp_kinds, .ref q_setUp_firsts, .ref q_setUp_seconds, .int f_setUp_clauses, .int f_setUp_spot, .int f_setUp_value])), (q_setUp_text, .inl (cy 0, 100, .inl f_setUp_text))] (va_runV (As := [.ref q_now_ground]) (rest := []) ⟨hx, hb, hml, hown, htA⟩ (kX2_copyFrom l G cy q_trial q_now_ground s.heap.size f_trial_a f_trial_b f_trial_x f_trial_y f_now_ground_a f_now_ground_b f_now_ground_x f_now_ground_y h11_30) (u_cwV htA a_ml_X8_160 pk_X2_copyFrom ⟨Nat.le_of_ble_eq_true rfl, Nat.le_of_ble_eq_true rfl⟩) (u_preV hK hN hP hD [3, 2] rfl (by decide) 3 rfl rfl) rfl rfl hl.1 rfl (lv_room (Nat.le_of_ble_eq_true rfl)) dX8_carryByWord_11 ⟨Nat.zero_le _, Nat.zero_le _⟩) hP hD hS hA [3, 2] rfl [0, 1, 4, 5] 6 rfl rfl rfl (by decide) rfl (fun H locs hP hD hS => ?_)
  refine lv_iconst (v := 0) hx hb dX8_carryByWord_14 (by decide) ?_
  refine lv_istore_n (lv' := [(3, .int 0), (0, .ref q_this), (1, .int p1), (2, .int p2)]) hx hb dX8_carryByWord_15 rfl hl (by decide) rfl (fun ls hl => ?_)
  exact wX8_carryByWord_16 C0 n _ _ _ _ _ _ _ _ _ _ _ _ _ _ hP hD hS (lv_sub hl [1, 2, 3, 0] rfl) hf
set_option maxRecDepth 100000 in
set_option maxHeartbeats 4000000 in
theorem kX8_doClause (l : Launch) (G : va_G) (cy : Nat → ClassId) (q_this : Nat) (q_now : Nat) (q_saved : Nat) (q_trial : Nat) (q_lowering : Nat) (q_counts : Nat) (q_expansion : Nat) (q_setUp : Nat) (q_tapes : Nat) (q_now_ground : Nat) (q_now_notes : Nat) (q_now_seen : Nat) (q_now_events : Nat) (q_now_book : Nat) (q_now_notes_cells : Nat) (q_setUp_text : Nat) (q_setUp_kinds : Nat) (q_setUp_firsts : Nat) (q_setUp_seconds : Nat) (sz : Nat) (n_now_notes_cells : Nat) (f_imaged : Int32) (f_now_ground_a : Int32) (f_now_ground_b : Int32) (f_now_ground_x : Int32) (f_now_ground_y : Int32) (f_now_notes_limit : Int32) (f_now_notes_used : Int32) (f_now_notes_cells : Nat → Int32) (f_trial_a : Int32) (f_trial_b : Int32) (f_trial_x : Int32) (f_trial_y : Int32) (f_lowering_x : Int32) (f_lowering_y : Int32) (f_lowering_steps : Int32) (f_lowering_metLetter : Int32) (f_setUp_length : Int32) (f_setUp_clauses : Int32) (f_setUp_spot : Int32) (f_setUp_value : Int32) (f_setUp_text : Nat → Int32) (p1 : Int32) (p2 : Int32) (p3 : Int32) (n : Nat) {o : Int32 × Int32 × Int32 × Int32 × Int32 × Int32 × (Nat → Int32) × Int32 × Int32 × Int32 × Int32 × Int32 × Int32 × Int32 × Int32} (hf : fX8_doClause n p1 p2 p3 n_now_notes_cells f_now_ground_a f_now_ground_b f_now_ground_x f_now_ground_y f_now_notes_limit f_now_notes_used f_now_notes_cells f_trial_a f_trial_b f_trial_x f_trial_y f_lowering_x f_lowering_y f_lowering_steps f_lowering_metLetter f_setUp_length f_setUp_text = some o) : Met l yX8_doClause (Cond.code yX8_doClause cX8_doClause 4 (some .boolean) :: AW) ({ frames := 5, cells := 0, slots := 0, locals := 114 } : Room) (va_Pc [.ref q_this, .int p1, .int p2, .int p3] (Wp G cy [(q_this, .inr (8, [.ref q_now, .ref q_saved, .int f_imaged, .ref q_trial, .ref q_lowering, .ref q_counts, .ref q_expansion, .ref q_setUp, .ref q_tapes])), (q_now, .inr (6, [.ref q_now_ground, .ref q_now_notes, .ref q_now_seen, .ref q_now_events, .ref q_now_book])), (q_now_ground, .inr (2, [.int f_now_ground_a, .int f_now_ground_b, .int f_now_ground_x, .int f_now_ground_y])), (q_now_notes, .inr (4, [.int f_now_notes_limit, .ref q_now_notes_cells, .int f_now_notes_used])), (q_now_notes_cells, .inl (cy 0, n_now_notes_cells, .inl f_now_notes_cells)), (q_trial, .inr (2, [.int f_trial_a, .int f_trial_b, .int f_trial_x, .int f_trial_y])), (q_lowering, .inr (3, [.int f_lowering_x, .int f_lowering_y, .int f_lowering_steps, .int f_lowering_metLetter])), (q_setUp, .inr (5, [.ref q_setUp_text, .int f_setUp_length, .ref q_setUp_kinds, .ref q_setUp_firsts, .ref q_setUp_seconds, .int f_setUp_clauses, .int f_setUp_spot, .int f_setUp_value])), (q_setUp_text, .inl (cy 0, 100, .inl f_setUp_text))] sz)) (va_Qi (fun r (_ : Unit) => r = o.1) (fun _ => Wq G cy (va_A [(q_this, .inr (8, [.ref q_now, .ref q_saved, .int f_imaged, .ref q_trial, .ref q_lowering, .ref q_counts, .ref q_expansion, .ref q_setUp, .ref q_tapes])), (q_now, .inr (6, [.ref q_now_ground, .ref q_now_notes, .ref q_now_seen, .ref q_now_events, .ref q_now_book])), (q_now_ground, .inr (2, [.int f_now_ground_a, .int f_now_ground_b, .int f_now_ground_x, .int f_now_ground_y])), (q_now_notes, .inr (4, [.int f_now_notes_limit, .ref q_now_notes_cells, .int f_now_notes_used])), (q_now_notes_cells, .inl (cy 0, n_now_notes_cells, .inl f_now_notes_cells)), (q_trial, .inr (2, [.int f_trial_a, .int f_trial_b, .int f_trial_x, .int f_trial_y])), (q_lowering, .inr (3, [.int f_lowering_x, .int f_lowering_y, .int f_lowering_steps, .int f_lowering_metLetter])), (q_setUp, .inr (5, [.ref q_setUp_text, .int f_setUp_length, .ref q_setUp_kinds, .ref q_setUp_firsts, .ref q_setUp_seconds, .int f_setUp_clauses, .int f_setUp_spot, .int f_setUp_value])), (q_setUp_text, .inl (cy 0, 100, .inl f_setUp_text))] sz) [(q_this, .inr (8, [.ref q_now, .ref q_saved, .int f_imaged, .ref q_trial, .ref q_lowering, .ref q_counts, .ref q_expansion, .ref q_setUp, .ref q_tapes])), (q_now, .inr (6, [.ref q_now_ground, .ref q_now_notes, .ref q_now_seen, .ref q_now_events, .ref q_now_book])), (q_now_ground, .inr (2, [.int o.2.1, .int o.2.2.1, .int o.2.2.2.1, .int o.2.2.2.2.1])), (q_now_notes, .inr (4, [.int f_now_notes_limit, .ref q_now_notes_cells, .int o.2.2.2.2.2.1])), (q_now_notes_cells, .inl (cy 0, n_now_notes_cells, .inl o.2.2.2.2.2.2.1)), (q_trial, .inr (2, [.int o.2.2.2.2.2.2.2.1, .int o.2.2.2.2.2.2.2.2.1, .int o.2.2.2.2.2.2.2.2.2.1, .int o.2.2.2.2.2.2.2.2.2.2.1])), (q_lowering, .inr (3, [.int o.2.2.2.2.2.2.2.2.2.2.2.1, .int o.2.2.2.2.2.2.2.2.2.2.2.2.1, .int o.2.2.2.2.2.2.2.2.2.2.2.2.2.1, .int o.2.2.2.2.2.2.2.2.2.2.2.2.2.2])), (q_setUp, .inr (5, [.ref q_setUp_text, .int f_setUp_length, .ref q_setUp_kinds, .ref q_setUp_firsts, .ref q_setUp_seconds, .int f_setUp_clauses, .int f_setUp_spot, .int f_setUp_value])), (q_setUp_text, .inl (cy 0, 100, .inl f_setUp_text))]) (va_A [(q_this, .inr (8, [.ref q_now, .ref q_saved, .int f_imaged, .ref q_trial, .ref q_lowering, .ref q_counts, .ref q_expansion, .ref q_setUp, .ref q_tapes])), (q_now, .inr (6, [.ref q_now_ground, .ref q_now_notes, .ref q_now_seen, .ref q_now_events, .ref q_now_book])), (q_now_ground, .inr (2, [.int f_now_ground_a, .int f_now_ground_b, .int f_now_ground_x, .int f_now_ground_y])), (q_now_notes, .inr (4, [.int f_now_notes_limit, .ref q_now_notes_cells, .int f_now_notes_used])), (q_now_notes_cells, .inl (cy 0, n_now_notes_cells, .inl f_now_notes_cells)), (q_trial, .inr (2, [.int f_trial_a, .int f_trial_b, .int f_trial_x, .int f_trial_y])), (q_lowering, .inr (3, [.int f_lowering_x, .int f_lowering_y, .int f_lowering_steps, .int f_lowering_metLetter])), (q_setUp, .inr (5, [.ref q_setUp_text, .int f_setUp_length, .ref q_setUp_kinds, .ref q_setUp_firsts, .ref q_setUp_seconds, .int f_setUp_clauses, .int f_setUp_spot, .int f_setUp_value])), (q_setUp_text, .inl (cy 0, 100, .inl f_setUp_text))] sz)) 0 0 (va_A [(q_this, .inr (8, [.ref q_now, .ref q_saved, .int f_imaged, .ref q_trial, .ref q_lowering, .ref q_counts, .ref q_expansion, .ref q_setUp, .ref q_tapes])), (q_now, .inr (6, [.ref q_now_ground, .ref q_now_notes, .ref q_now_seen, .ref q_now_events, .ref q_now_book])), (q_now_ground, .inr (2, [.int f_now_ground_a, .int f_now_ground_b, .int f_now_ground_x, .int f_now_ground_y])), (q_now_notes, .inr (4, [.int f_now_notes_limit, .ref q_now_notes_cells, .int f_now_notes_used])), (q_now_notes_cells, .inl (cy 0, n_now_notes_cells, .inl f_now_notes_cells)), (q_trial, .inr (2, [.int f_trial_a, .int f_trial_b, .int f_trial_x, .int f_trial_y])), (q_lowering, .inr (3, [.int f_lowering_x, .int f_lowering_y, .int f_lowering_steps, .int f_lowering_metLetter])), (q_setUp, .inr (5, [.ref q_setUp_text, .int f_setUp_length, .ref q_setUp_kinds, .ref q_setUp_firsts, .ref q_setUp_seconds, .int f_setUp_clauses, .int f_setUp_spot, .int f_setUp_value])), (q_setUp_text, .inl (cy 0, 100, .inl f_setUp_text))] sz) := by
  refine Met.ofW (cc := cX8_doClause) (maxL := 4) (ret := (some .boolean)) (by decide) rfl ?_
  intro p e s m args below meth c s₁ B hml hv
  obtain ⟨rfl, hsz, hP, hK, hD0, hN⟩ := hv
  have hx := B.exec
  have hb := B.bytes
  have hr := B.returns
  have htA : ∀ w ∈ AW, w.before _ s = true := fun w h => atoms_spec (ws := Cond.code yX8_doClause cX8_doClause 4 (some .boolean) :: AW) B.pre w (List.mem_cons_of_mem _ h)
  have hown : s.vm.findClass RX8 = some m.cls := findClass_of_methodNamed B.named
  have hlocks := B.notSynchronized
  subst hsz
  have hD := hD0.self (sz := s.heap.size)
  generalize hAe : va_A [(q_this, .inr (8, [.ref q_now, .ref q_saved, .int f_imaged, .ref q_trial, .ref q_lowering, .ref q_counts, .ref q_expansion, .ref q_setUp, .ref q_tapes])), (q_now, .inr (6, [.ref q_now_ground, .ref q_now_notes, .ref q_now_seen, .ref q_now_events, .ref q_now_book])), (q_now_ground, .inr (2, [.int f_now_ground_a, .int f_now_ground_b, .int f_now_ground_x, .int f_now_ground_y])), (q_now_notes, .inr (4, [.int f_now_notes_limit, .ref q_now_notes_cells, .int f_now_notes_used])), (q_now_notes_cells, .inl (cy 0, n_now_notes_cells, .inl f_now_notes_cells)), (q_trial, .inr (2, [.int f_trial_a, .int f_trial_b, .int f_trial_x, .int f_trial_y])), (q_lowering, .inr (3, [.int f_lowering_x, .int f_lowering_y, .int f_lowering_steps, .int f_lowering_metLetter])), (q_setUp, .inr (5, [.ref q_setUp_text, .int f_setUp_length, .ref q_setUp_kinds, .ref q_setUp_firsts, .ref q_setUp_seconds, .int f_setUp_clauses, .int f_setUp_spot, .int f_setUp_value])), (q_setUp_text, .inl (cy 0, 100, .inl f_setUp_text))] s.heap.size = A at hD ⊢
  have hA : ∀ q : Nat, s.heap.size ≤ q → A q := fun q h => by rw [← hAe]; exact Or.inr h
  have hS : va_S A s.heap s.heap [] := va_S.rf
  have hl := lv_entry ([.ref q_this, .int p1, .int p2, .int p3]) (n := 4) (Nat.le_of_ble_eq_true rfl)
  rw [lg_entry_eq]
  generalize (lg_sl ([.ref q_this, .int p1, .int p2, .int p3]) ++ List.replicate (4 - (lg_sl ([.ref q_this, .int p1, .int p2, .int p3])).length) Slot.unset).toArray = ls at hl ⊢
  have hl : lv_has ls 4 [(0, .ref q_this), (1, .int p1), (2, .int p2), (3, .int p3)] := hl
  have hP : va_P G vwCl [(q_this, .inr (8, [.ref q_now, .ref q_saved, .int f_imaged, .ref q_trial, .ref q_lowering, .ref q_counts, .ref q_expansion, .ref q_setUp, .ref q_tapes])), (q_now, .inr (6, [.ref q_now_ground, .ref q_now_notes, .ref q_now_seen, .ref q_now_events, .ref q_now_book])), (q_now_ground, .inr (2, [.int f_now_ground_a, .int f_now_ground_b, .int f_now_ground_x, .int f_now_ground_y])), (q_now_notes, .inr (4, [.int f_now_notes_limit, .ref q_now_notes_cells, .int f_now_notes_used])), (q_now_notes_cells, .inl (cy 0, n_now_notes_cells, .inl f_now_notes_cells)), (q_trial, .inr (2, [.int f_trial_a, .int f_trial_b, .int f_trial_x, .int f_trial_y])), (q_lowering, .inr (3, [.int f_lowering_x, .int f_lowering_y, .int f_lowering_steps, .int f_lowering_metLetter])), (q_setUp, .inr (5, [.ref q_setUp_text, .int f_setUp_length, .ref q_setUp_kinds, .ref q_setUp_firsts, .ref q_setUp_seconds, .int f_setUp_clauses, .int f_setUp_spot, .int f_setUp_value])), (q_setUp_text, .inl (cy 0, 100, .inl f_setUp_text))] s.heap := hP
  have hf : ((if p1 = 0 then (fX8_table p2 p3 f_now_ground_a f_now_ground_b).bind fun q39 => ((if q39.1 < 0 then some (0, q39.2.1, q39.2.2, f_now_ground_x, f_now_ground_y, f_now_notes_used, f_now_notes_cells, f_trial_a, f_trial_b, f_trial_x, f_trial_y, f_lowering_x, f_lowering_y, f_lowering_steps, f_lowering_metLetter) else some (1, q39.2.1, q39.2.2, f_now_ground_x, f_now_ground_y, f_now_notes_used, f_now_notes_cells, f_trial_a, f_trial_b, f_trial_x, f_trial_y, f_lowering_x, f_lowering_y, f_lowering_steps, f_lowering_metLetter))) else if p1 = 1 then (fX8_place n p2 p3 f_now_ground_a f_now_ground_b f_now_ground_x f_now_ground_y f_lowering_x f_lowering_y f_lowering_steps f_lowering_metLetter).bind fun q54 => ((if q54.1 < 0 then some (0, f_now_ground_a, f_now_ground_b, q54.2.1, q54.2.2.1, f_now_notes_used, f_now_notes_cells, f_trial_a, f_trial_b, f_trial_x, f_trial_y, q54.2.2.2.1, q54.2.2.2.2.1, q54.2.2.2.2.2.1, q54.2.2.2.2.2.2) else some (1, f_now_ground_a, f_now_ground_b, q54.2.1, q54.2.2.1, f_now_notes_used, f_now_notes_cells, f_trial_a, f_trial_b, f_trial_x, f_trial_y, q54.2.2.2.1, q54.2.2.2.2.1, q54.2.2.2.2.2.1, q54.2.2.2.2.2.2))) else if p1 = 2 then (fX8_carryByWord n p2 p3 f_now_ground_a f_now_ground_b f_now_ground_x f_now_ground_y f_trial_a f_trial_b f_trial_x f_trial_y f_setUp_length f_setUp_text).bind fun q69 => (zk q69.1 (some (q69.1, q69.2.1, q69.2.2.1, q69.2.2.2.1, q69.2.2.2.2.1, f_now_notes_used, f_now_notes_cells, q69.2.2.2.2.2.1, q69.2.2.2.2.2.2.1, q69.2.2.2.2.2.2.2.1, q69.2.2.2.2.2.2.2.2, f_lowering_x, f_lowering_y, f_lowering_steps, f_lowering_metLetter))) else if p1 = 3 then (fX8_note n n_now_notes_cells f_now_ground_x f_now_ground_y f_now_notes_limit f_now_notes_used f_now_notes_cells).bind fun q74 => ((if q74.1 < 0 then some (0, f_now_ground_a, f_now_ground_b, f_now_ground_x, f_now_ground_y, q74.2.1, q74.2.2, f_trial_a, f_trial_b, f_trial_x, f_trial_y, f_lowering_x, f_lowering_y, f_lowering_steps, f_lowering_metLetter) else some (1, f_now_ground_a, f_now_ground_b, f_now_ground_x, f_now_ground_y, q74.2.1, q74.2.2, f_trial_a, f_trial_b, f_trial_x, f_trial_y, f_lowering_x, f_lowering_y, f_lowering_steps, f_lowering_metLetter))) else if p1 = 4 then (fX8_wipe f_now_notes_used).bind fun q87 => ((if q87.1 < 0 then some (0, f_now_ground_a, f_now_ground_b, f_now_ground_x, f_now_ground_y, q87.2, f_now_notes_cells, f_trial_a, f_trial_b, f_trial_x, f_trial_y, f_lowering_x, f_lowering_y, f_lowering_steps, f_lowering_metLetter) else some (1, f_now_ground_a, f_now_ground_b, f_now_ground_x, f_now_ground_y, q87.2, f_now_notes_cells, f_trial_a, f_trial_b, f_trial_x, f_trial_y, f_lowering_x, f_lowering_y, f_lowering_steps, f_lowering_metLetter))) else some (0, f_now_ground_a, f_now_ground_b, f_now_ground_x, f_now_ground_y, f_now_notes_used, f_now_notes_cells, f_trial_a, f_trial_b, f_trial_x, f_trial_y, f_lowering_x, f_lowering_y, f_lowering_steps, f_lowering_metLetter)) : Option (Int32 × Int32 × Int32 × Int32 × Int32 × Int32 × (Nat → Int32) × Int32 × Int32 × Int32 × Int32 × Int32 × Int32 × Int32 × Int32)) = some o := hf
  refine lv_iload_n hx hb dX8_doClause_0 rfl (lv_at hl 1 rfl) ?_
  by_cases c_61 : p1 = 0
  · have hf := ite_t c_61 hf
    refine lv_tableIn (off := 35) (tgt := 36) hx hb dX8_doClause_1 (by rw [c_61]; decide) (by rw [c_61]; decide) (by rw [c_61]; rfl) (by decide) ?_
    refine lv_aload_n hx hb dX8_doClause_36 rfl (lv_at hl 0 rfl) ?_
    refine lv_iload_n hx hb dX8_doClause_37 rfl (lv_at hl 2 rfl) ?_
    refine lv_iload_n hx hb dX8_doClause_38 rfl (lv_at hl 3 rfl) ?_
    obtain ⟨q39, h39_62, hf⟩ := bd_s hf
    refine u_calli [(q_this, .inr (8, [.ref q_now, .ref q_saved, .int f_imaged, .ref q_trial, .ref q_lowering, .ref q_counts, .ref q_expansion, .ref q_setUp, .ref q_tapes])), (q_now, .inr (6, [.ref q_now_ground, .ref q_now_notes, .ref q_now_seen, .ref q_now_events, .ref q_now_book])), (q_now_ground, .inr (2, [.int q39.2.1, .int q39.2.2, .int f_now_ground_x, .int f_now_ground_y])), (q_now_notes, .inr (4, [.int f_now_notes_limit, .ref q_now_notes_cells, .int f_now_notes_used])), (q_now_notes_cells, .inl (cy 0, n_now_notes_cells, .inl f_now_notes_cells)), (q_trial, .inr (2, [.int f_trial_a, .int f_trial_b, .int f_trial_x, .int f_trial_y])), (q_lowering, .inr (3, [.int f_lowering_x, .int f_lowering_y, .int f_lowering_steps, .int f_lowering_metLetter])), (q_setUp, .inr (5, [.ref q_setUp_text, .int f_setUp_length, .ref q_setUp_kinds, .ref q_setUp_firsts, .ref q_setUp_seconds, .int f_setUp_clauses, .int f_setUp_spot, .int f_setUp_value])), (q_setUp_text, .inl (cy 0, 100, .inl f_setUp_text))] (va_runV (As := [.int p2, .int p3]) (rest := []) ⟨hx, hb, hml, hown, htA⟩ (kX8_table l G cy q_this q_now q_saved q_trial q_lowering q_counts q_expansion q_setUp q_tapes q_now_ground q_now_notes q_now_seen q_now_events q_now_book s.heap.size f_imaged f_now_ground_a f_now_ground_b f_now_ground_x f_now_ground_y p2 p3 h39_62) (u_cwV htA a_ml_X8_145 pk_X8_table ⟨Nat.le_of_ble_eq_true rfl, Nat.le_of_ble_eq_true rfl⟩) (u_preV hK hN hP hD [0, 1, 2] rfl (by decide) 0 rfl rfl) rfl rfl hl.1 rfl (lv_room (Nat.le_of_ble_eq_true rfl)) dX8_doClause_39 ⟨Nat.zero_le _, Nat.zero_le _⟩) hP hD hS hA [0, 1, 2] rfl [3, 4, 5, 6, 7, 8] 9 rfl rfl rfl (by decide) rfl (fun H locs hP hD hS => ?_)
    refine lv_if_lt (tgt := 49) hx hb dX8_doClause_42 (by decide) (fun c_63 => ?_) (fun c_63 => ?_)
    · have hf := ite_t c_63 hf
      refine lv_iconst (v := 0) hx hb dX8_doClause_49 (by decide) ?_
      have ho := Option.some.inj hf
      subst ho
      exact W.zret (v := 0) hx hb hr rfl (fun t ht hW => ⟨⟨_, (), rfl, rfl, by rw [ht]; exact hP, va_K.moved hW.alike hK, hD⟩, hS.F ht⟩) hS.2.2 dX8_doClause_50
    · have hf := ite_f c_63 hf
      refine lv_iconst (v := 1) hx hb dX8_doClause_45 (by decide) ?_
      refine lv_goto (tgt := 50) hx hb dX8_doClause_46 (by decide) ?_
      have ho := Option.some.inj hf
      subst ho
      exact W.zret (v := 1) hx hb hr rfl (fun t ht hW => ⟨⟨_, (), rfl, rfl, by rw [ht]; exact hP, va_K.moved hW.alike hK, hD⟩, hS.F ht⟩) hS.2.2 dX8_doClause_50
  · have hf := ite_f c_61 hf
    by_cases c_64 : p1 = 1
    · have hf := ite_t c_64 hf
      refine lv_tableIn (off := 50) (tgt := 51) hx hb dX8_doClause_1 (by rw [c_64]; decide) (by rw [c_64]; decide) (by rw [c_64]; rfl) (by decide) ?_
      refine lv_aload_n hx hb dX8_doClause_51 rfl (lv_at hl 0 rfl) ?_
      refine lv_iload_n hx hb dX8_doClause_52 rfl (lv_at hl 2 rfl) ?_
      refine lv_iload_n hx hb dX8_doClause_53 rfl (lv_at hl 3 rfl) ?_
      obtain ⟨q54, h54_65, hf⟩ := bd_s hf
      refine u_calli [(q_this, .inr (8, [.ref q_now, .ref q_saved, .int f_imaged, .ref q_trial, .ref q_lowering, .ref q_counts, .ref q_expansion, .ref q_setUp, .ref q_tapes])), (q_now, .inr (6, [.ref q_now_ground, .ref q_now_notes, .ref q_now_seen, .ref q_now_events, .ref q_now_book])), (q_now_ground, .inr (2, [.int f_now_ground_a, .int f_now_ground_b, .int q54.2.1, .int q54.2.2.1])), (q_now_notes, .inr (4, [.int f_now_notes_limit, .ref q_now_notes_cells, .int f_now_notes_used])), (q_now_notes_cells, .inl (cy 0, n_now_notes_cells, .inl f_now_notes_cells)), (q_trial, .inr (2, [.int f_trial_a, .int f_trial_b, .int f_trial_x, .int f_trial_y])), (q_lowering, .inr (3, [.int q54.2.2.2.1, .int q54.2.2.2.2.1, .int q54.2.2.2.2.2.1, .int q54.2.2.2.2.2.2])), (q_setUp, .inr (5, [.ref q_setUp_text, .int f_setUp_length, .ref q_setUp_kinds, .ref q_setUp_firsts, .ref q_setUp_seconds, .int f_setUp_clauses, .int f_setUp_spot, .int f_setUp_value])), (q_setUp_text, .inl (cy 0, 100, .inl f_setUp_text))] (va_runV (As := [.int p2, .int p3]) (rest := []) ⟨hx, hb, hml, hown, htA⟩ (kX8_place l G cy q_this q_now q_saved q_trial q_lowering q_counts q_expansion q_setUp q_tapes q_now_ground q_now_notes q_now_seen q_now_events q_now_book s.heap.size f_imaged f_now_ground_a f_now_ground_b f_now_ground_x f_now_ground_y f_lowering_x f_lowering_y f_lowering_steps f_lowering_metLetter p2 p3 n h54_65) (u_cwV htA a_ml_X8_148 pk_X8_place ⟨Nat.le_of_ble_eq_true rfl, Nat.le_of_ble_eq_true rfl⟩) (u_preV hK hN hP hD [0, 1, 2, 6] rfl (by decide) 0 rfl rfl) rfl rfl hl.1 rfl (lv_room (Nat.le_of_ble_eq_true rfl)) dX8_doClause_54 ⟨Nat.zero_le _, Nat.zero_le _⟩) hP hD hS hA [0, 1, 2, 6] rfl [3, 4, 5, 7, 8] 9 rfl rfl rfl (by decide) rfl (fun H locs hP hD hS => ?_)
      refine lv_if_lt (tgt := 64) hx hb dX8_doClause_57 (by decide) (fun c_66 => ?_) (fun c_66 => ?_)
      · have hf := ite_t c_66 hf
        refine lv_iconst (v := 0) hx hb dX8_doClause_64 (by decide) ?_
        have ho := Option.some.inj hf
        subst ho
        exact W.zret (v := 0) hx hb hr rfl (fun t ht hW => ⟨⟨_, (), rfl, rfl, by rw [ht]; exact hP, va_K.moved hW.alike hK, hD⟩, hS.F ht⟩) hS.2.2 dX8_doClause_65
      · have hf := ite_f c_66 hf
        refine lv_iconst (v := 1) hx hb dX8_doClause_60 (by decide) ?_
        refine lv_goto (tgt := 65) hx hb dX8_doClause_61 (by decide) ?_
        have ho := Option.some.inj hf
        subst ho
        exact W.zret (v := 1) hx hb hr rfl (fun t ht hW => ⟨⟨_, (), rfl, rfl, by rw [ht]; exact hP, va_K.moved hW.alike hK, hD⟩, hS.F ht⟩) hS.2.2 dX8_doClause_65
    · have hf := ite_f c_64 hf
      by_cases c_67 : p1 = 2
      · have hf := ite_t c_67 hf
        refine lv_tableIn (off := 65) (tgt := 66) hx hb dX8_doClause_1 (by rw [c_67]; decide) (by rw [c_67]; decide) (by rw [c_67]; rfl) (by decide) ?_
        refine lv_aload_n hx hb dX8_doClause_66 rfl (lv_at hl 0 rfl) ?_
        refine lv_iload_n hx hb dX8_doClause_67 rfl (lv_at hl 2 rfl) ?_
        refine lv_iload_n hx hb dX8_doClause_68 rfl (lv_at hl 3 rfl) ?_
        obtain ⟨q69, h69_68, hf⟩ := bd_s hf
        refine u_calli [(q_this, .inr (8, [.ref q_now, .ref q_saved, .int f_imaged, .ref q_trial, .ref q_lowering, .ref q_counts, .ref q_expansion, .ref q_setUp, .ref q_tapes])), (q_now, .inr (6, [.ref q_now_ground, .ref q_now_notes, .ref q_now_seen, .ref q_now_events, .ref q_now_book])), (q_now_ground, .inr (2, [.int q69.2.1, .int q69.2.2.1, .int q69.2.2.2.1, .int q69.2.2.2.2.1])), (q_now_notes, .inr (4, [.int f_now_notes_limit, .ref q_now_notes_cells, .int f_now_notes_used])), (q_now_notes_cells, .inl (cy 0, n_now_notes_cells, .inl f_now_notes_cells)), (q_trial, .inr (2, [.int q69.2.2.2.2.2.1, .int q69.2.2.2.2.2.2.1, .int q69.2.2.2.2.2.2.2.1, .int q69.2.2.2.2.2.2.2.2])), (q_lowering, .inr (3, [.int f_lowering_x, .int f_lowering_y, .int f_lowering_steps, .int f_lowering_metLetter])), (q_setUp, .inr (5, [.ref q_setUp_text, .int f_setUp_length, .ref q_setUp_kinds, .ref q_setUp_firsts, .ref q_setUp_seconds, .int f_setUp_clauses, .int f_setUp_spot, .int f_setUp_value])), (q_setUp_text, .inl (cy 0, 100, .inl f_setUp_text))] (va_runV (As := [.int p2, .int p3]) (rest := []) ⟨hx, hb, hml, hown, htA⟩ (kX8_carryByWord l G cy q_this q_now q_saved q_trial q_lowering q_counts q_expansion q_setUp q_tapes q_now_ground q_now_notes q_now_seen q_now_events q_now_book q_setUp_text q_setUp_kinds q_setUp_firsts q_setUp_seconds s.heap.size f_imaged f_now_ground_a f_now_ground_b f_now_ground_x f_now_ground_y f_trial_a f_trial_b f_trial_x f_trial_y f_setUp_length f_setUp_clauses f_setUp_spot f_setUp_value f_setUp_text p2 p3 n h69_68) (u_cwV htA a_ml_X8_151 pk_X8_carryByWord ⟨Nat.le_of_ble_eq_true rfl, Nat.le_of_ble_eq_true rfl⟩) (u_preV hK hN hP hD [0, 1, 2, 5, 7, 8] rfl (by decide) 0 rfl rfl) rfl rfl hl.1 rfl (lv_room (Nat.le_of_ble_eq_true rfl)) dX8_doClause_69 ⟨Nat.zero_le _, Nat.zero_le _⟩) hP hD hS hA [0, 1, 2, 5, 7, 8] rfl [3, 4, 6] 9 rfl rfl rfl (by decide) rfl (fun H locs hP hD hS => ?_)
        obtain ⟨z_69, hf⟩ := zk_s hf
        have ho := Option.some.inj hf
        subst ho
        exact W.zret (v := q69.1) hx hb hr (zk_n z_69) (fun t ht hW => ⟨⟨_, (), rfl, rfl, by rw [ht]; exact hP, va_K.moved hW.alike hK, hD⟩, hS.F ht⟩) hS.2.2 dX8_doClause_72
      · have hf := ite_f c_67 hf
        by_cases c_70 : p1 = 3
        · have hf := ite_t c_70 hf
          refine lv_tableIn (off := 72) (tgt := 73) hx hb dX8_doClause_1 (by rw [c_70]; decide) (by rw [c_70]; decide) (by rw [c_70]; rfl) (by decide) ?_
          refine lv_aload_n hx hb dX8_doClause_73 rfl (lv_at hl 0 rfl) ?_
          obtain ⟨q74, h74_71, hf⟩ := bd_s hf
          refine u_calli [(q_this, .inr (8, [.ref q_now, .ref q_saved, .int f_imaged, .ref q_trial, .ref q_lowering, .ref q_counts, .ref q_expansion, .ref q_setUp, .ref q_tapes])), (q_now, .inr (6, [.ref q_now_ground, .ref q_now_notes, .ref q_now_seen, .ref q_now_events, .ref q_now_book])), (q_now_ground, .inr (2, [.int f_now_ground_a, .int f_now_ground_b, .int f_now_ground_x, .int f_now_ground_y])), (q_now_notes, .inr (4, [.int f_now_notes_limit, .ref q_now_notes_cells, .int q74.2.1])), (q_now_notes_cells, .inl (cy 0, n_now_notes_cells, .inl q74.2.2)), (q_trial, .inr (2, [.int f_trial_a, .int f_trial_b, .int f_trial_x, .int f_trial_y])), (q_lowering, .inr (3, [.int f_lowering_x, .int f_lowering_y, .int f_lowering_steps, .int f_lowering_metLetter])), (q_setUp, .inr (5, [.ref q_setUp_text, .int f_setUp_length, .ref q_setUp_kinds, .ref q_setUp_firsts, .ref q_setUp_seconds, .int f_setUp_clauses, .int f_setUp_spot, .int f_setUp_value])), (q_setUp_text, .inl (cy 0, 100, .inl f_setUp_text))] (va_runV (As := []) (rest := []) ⟨hx, hb, hml, hown, htA⟩ (kX8_note l G cy q_this q_now q_saved q_trial q_lowering q_counts q_expansion q_setUp q_tapes q_now_ground q_now_notes q_now_seen q_now_events q_now_book q_now_notes_cells s.heap.size n_now_notes_cells f_imaged f_now_ground_a f_now_ground_b f_now_ground_x f_now_ground_y f_now_notes_limit f_now_notes_used f_now_notes_cells n h74_71) (u_cwV htA a_ml_X8_154 pk_X8_note ⟨Nat.le_of_ble_eq_true rfl, Nat.le_of_ble_eq_true rfl⟩) (u_preV hK hN hP hD [0, 1, 2, 3, 4] rfl (by decide) 0 rfl rfl) rfl rfl hl.1 rfl (lv_room (Nat.le_of_ble_eq_true rfl)) dX8_doClause_74 ⟨Nat.zero_le _, Nat.zero_le _⟩) hP hD hS hA [0, 1, 2, 3, 4] rfl [5, 6, 7, 8] 9 rfl rfl rfl (by decide) rfl (fun H locs hP hD hS => ?_)
          refine lv_if_lt (tgt := 84) hx hb dX8_doClause_77 (by decide) (fun c_72 => ?_) (fun c_72 => ?_)
          · have hf := ite_t c_72 hf
            refine lv_iconst (v := 0) hx hb dX8_doClause_84 (by decide) ?_
            have ho := Option.some.inj hf
            subst ho
            exact W.zret (v := 0) hx hb hr rfl (fun t ht hW => ⟨⟨_, (), rfl, rfl, by rw [ht]; exact hP, va_K.moved hW.alike hK, hD⟩, hS.F ht⟩) hS.2.2 dX8_doClause_85
          · have hf := ite_f c_72 hf
            refine lv_iconst (v := 1) hx hb dX8_doClause_80 (by decide) ?_
            refine lv_goto (tgt := 85) hx hb dX8_doClause_81 (by decide) ?_
            have ho := Option.some.inj hf
            subst ho
            exact W.zret (v := 1) hx hb hr rfl (fun t ht hW => ⟨⟨_, (), rfl, rfl, by rw [ht]; exact hP, va_K.moved hW.alike hK, hD⟩, hS.F ht⟩) hS.2.2 dX8_doClause_85
        · have hf := ite_f c_70 hf
          by_cases c_73 : p1 = 4
          · have hf := ite_t c_73 hf
            refine lv_tableIn (off := 85) (tgt := 86) hx hb dX8_doClause_1 (by rw [c_73]; decide) (by rw [c_73]; decide) (by rw [c_73]; rfl) (by decide) ?_
            refine lv_aload_n hx hb dX8_doClause_86 rfl (lv_at hl 0 rfl) ?_
            obtain ⟨q87, h87_74, hf⟩ := bd_s hf
            refine u_calli [(q_this, .inr (8, [.ref q_now, .ref q_saved, .int f_imaged, .ref q_trial, .ref q_lowering, .ref q_counts, .ref q_expansion, .ref q_setUp, .ref q_tapes])), (q_now, .inr (6, [.ref q_now_ground, .ref q_now_notes, .ref q_now_seen, .ref q_now_events, .ref q_now_book])), (q_now_ground, .inr (2, [.int f_now_ground_a, .int f_now_ground_b, .int f_now_ground_x, .int f_now_ground_y])), (q_now_notes, .inr (4, [.int f_now_notes_limit, .ref q_now_notes_cells, .int q87.2])), (q_now_notes_cells, .inl (cy 0, n_now_notes_cells, .inl f_now_notes_cells)), (q_trial, .inr (2, [.int f_trial_a, .int f_trial_b, .int f_trial_x, .int f_trial_y])), (q_lowering, .inr (3, [.int f_lowering_x, .int f_lowering_y, .int f_lowering_steps, .int f_lowering_metLetter])), (q_setUp, .inr (5, [.ref q_setUp_text, .int f_setUp_length, .ref q_setUp_kinds, .ref q_setUp_firsts, .ref q_setUp_seconds, .int f_setUp_clauses, .int f_setUp_spot, .int f_setUp_value])), (q_setUp_text, .inl (cy 0, 100, .inl f_setUp_text))] (va_runV (As := []) (rest := []) ⟨hx, hb, hml, hown, htA⟩ (kX8_wipe l G cy q_this q_now q_saved q_trial q_lowering q_counts q_expansion q_setUp q_tapes q_now_ground q_now_notes q_now_seen q_now_events q_now_book q_now_notes_cells s.heap.size f_imaged f_now_notes_limit f_now_notes_used h87_74) (u_cwV htA a_ml_X8_157 pk_X8_wipe ⟨Nat.le_of_ble_eq_true rfl, Nat.le_of_ble_eq_true rfl⟩) (u_preV hK hN hP hD [0, 1, 3] rfl (by decide) 0 rfl rfl) rfl rfl hl.1 rfl (lv_room (Nat.le_of_ble_eq_true rfl)) dX8_doClause_87 ⟨Nat.zero_le _, Nat.zero_le _⟩) hP hD hS hA [0, 1, 3] rfl [2, 4, 5, 6, 7, 8] 9 rfl rfl rfl (by decide) rfl (fun H locs hP hD hS => ?_)
            refine lv_if_lt (tgt := 97) hx hb dX8_doClause_90 (by decide) (fun c_75 => ?_) (fun c_75 => ?_)
            · have hf := ite_t c_75 hf
              refine lv_iconst (v := 0) hx hb dX8_doClause_97 (by decide) ?_
              have ho := Option.some.inj hf
              subst ho
              exact W.zret (v := 0) hx hb hr rfl (fun t ht hW => ⟨⟨_, (), rfl, rfl, by rw [ht]; exact hP, va_K.moved hW.alike hK, hD⟩, hS.F ht⟩) hS.2.2 dX8_doClause_98
            · have hf := ite_f c_75 hf
              refine lv_iconst (v := 1) hx hb dX8_doClause_93 (by decide) ?_
              refine lv_goto (tgt := 98) hx hb dX8_doClause_94 (by decide) ?_
              have ho := Option.some.inj hf
              subst ho
              exact W.zret (v := 1) hx hb hr rfl (fun t ht hW => ⟨⟨_, (), rfl, rfl, by rw [ht]; exact hP, va_K.moved hW.alike hK, hD⟩, hS.F ht⟩) hS.2.2 dX8_doClause_98
          · have hf := ite_f c_73 hf
            have c_61n := sw_no (a := 0) c_61 (by decide)
            have c_64n := sw_no (a := 1) c_64 (by decide)
            have c_67n := sw_no (a := 2) c_67 (by decide)
            have c_70n := sw_no (a := 3) c_70 (by decide)
            have c_73n := sw_no (a := 4) c_73 (by decide)
            refine lv_tableOut (tgt := 99) hx hb dX8_doClause_1 (by omega) (by decide) ?_
            refine lv_iconst (v := 0) hx hb dX8_doClause_99 (by decide) ?_
            have ho := Option.some.inj hf
            subst ho
            exact W.zret (v := 0) hx hb hr rfl (fun t ht hW => ⟨⟨_, (), rfl, rfl, by rw [ht]; exact hP, va_K.moved hW.alike hK, hD⟩, hS.F ht⟩) hS.2.2 dX8_doClause_100
set_option maxRecDepth 100000 in
set_option maxHeartbeats 4000000 in
theorem kX8_kindOf (l : Launch) (G : va_G) (cy : Nat → ClassId) (sz : Nat) (p0 : Int32) (p1 : Int32) {o : Int32} (hf : fX8_kindOf p0 p1 = some o) : Met l yX8_kindOf (Cond.code yX8_kindOf cX8_kindOf 2 (some .int) :: AW) ({ frames := 0, cells := 0, slots := 0, locals := 0 } : Room) (va_Pc [.int p0, .int p1] (Wp G cy [] sz)) (va_Qi (fun r (_ : Unit) => r = o) (fun _ => Wq G cy (va_A [] sz) []) (va_A [] sz)) 0 0 (va_A [] sz) := by
  refine Met.ofW (cc := cX8_kindOf) (maxL := 2) (ret := (some .int)) (by decide) rfl ?_
  intro p e s m args below meth c s₁ B hml hv
  obtain ⟨rfl, hsz, hP, hK, hD0, hN⟩ := hv
  have hx := B.exec
  have hb := B.bytes
  have hr := B.returns
  have htA : ∀ w ∈ AW, w.before _ s = true := fun w h => atoms_spec (ws := Cond.code yX8_kindOf cX8_kindOf 2 (some .int) :: AW) B.pre w (List.mem_cons_of_mem _ h)
  have hown : s.vm.findClass RX8 = some m.cls := findClass_of_methodNamed B.named
  have hlocks := B.notSynchronized
  subst hsz
  have hD := hD0.self (sz := s.heap.size)
  generalize hAe : va_A [] s.heap.size = A at hD ⊢
  have hA : ∀ q : Nat, s.heap.size ≤ q → A q := fun q h => by rw [← hAe]; exact Or.inr h
  have hS : va_S A s.heap s.heap [] := va_S.rf
  have hl := lv_entry ([.int p0, .int p1]) (n := 2) (Nat.le_of_ble_eq_true rfl)
  rw [lg_entry_eq]
  generalize (lg_sl ([.int p0, .int p1]) ++ List.replicate (2 - (lg_sl ([.int p0, .int p1])).length) Slot.unset).toArray = ls at hl ⊢
  have hl : lv_has ls 2 [(0, .int p0), (1, .int p1)] := hl
  have hP : va_P G vwCl [] s.heap := hP
  have hf : ((if 4 ≤ (p0 * p1) then (if (p0 * p1) = 4 then some (1) else some (2)) else some (0)) : Option (Int32)) = some o := hf
  refine lv_iload_n hx hb dX8_kindOf_0 rfl (lv_at hl 0 rfl) ?_
  refine lv_iload_n hx hb dX8_kindOf_1 rfl (lv_at hl 1 rfl) ?_
  refine lv_imul hx hb dX8_kindOf_2 ?_
  refine lv_iconst (v := 4) hx hb dX8_kindOf_3 (by decide) ?_
  refine lv_icmp_ge (tgt := 11) hx hb dX8_kindOf_4 (by decide) (fun c_9 => ?_) (fun c_9 => ?_)
  · have hf := ite_t c_9 hf
    refine lv_iload_n hx hb dX8_kindOf_11 rfl (lv_at hl 0 rfl) ?_
    refine lv_iload_n hx hb dX8_kindOf_12 rfl (lv_at hl 1 rfl) ?_
    refine lv_imul hx hb dX8_kindOf_13 ?_
    refine lv_iconst (v := 4) hx hb dX8_kindOf_14 (by decide) ?_
    refine lv_icmp_ne (tgt := 22) hx hb dX8_kindOf_15 (by decide) (fun c_10 => ?_) (fun c_10 => ?_)
    · have hf := ite_f c_10 hf
      refine lv_iconst (v := 2) hx hb dX8_kindOf_22 (by decide) ?_
      have ho := Option.some.inj hf
      subst ho
      exact W.iret (v := 2) hx hb hr (fun t ht hW => ⟨⟨_, (), rfl, rfl, by rw [ht]; exact hP, va_K.moved hW.alike hK, hD⟩, hS.F ht⟩) hS.2.2 dX8_kindOf_23
    · have hf := ite_t c_10 hf
      refine lv_iconst (v := 1) hx hb dX8_kindOf_18 (by decide) ?_
      refine lv_goto (tgt := 23) hx hb dX8_kindOf_19 (by decide) ?_
      have ho := Option.some.inj hf
      subst ho
      exact W.iret (v := 1) hx hb hr (fun t ht hW => ⟨⟨_, (), rfl, rfl, by rw [ht]; exact hP, va_K.moved hW.alike hK, hD⟩, hS.F ht⟩) hS.2.2 dX8_kindOf_23
  · have hf := ite_f c_9 hf
    refine lv_iconst (v := 0) hx hb dX8_kindOf_7 (by decide) ?_
    refine lv_goto (tgt := 23) hx hb dX8_kindOf_8 (by decide) ?_
    have ho := Option.some.inj hf
    subst ho
    exact W.iret (v := 0) hx hb hr (fun t ht hW => ⟨⟨_, (), rfl, rfl, by rw [ht]; exact hP, va_K.moved hW.alike hK, hD⟩, hS.F ht⟩) hS.2.2 dX8_kindOf_23
set_option maxRecDepth 100000 in
set_option maxHeartbeats 4000000 in
theorem kX8_told (l : Launch) (G : va_G) (cy : Nat → ClassId) (q_this : Nat) (q_now : Nat) (q_saved : Nat) (q_trial : Nat) (q_lowering : Nat) (q_counts : Nat) (q_expansion : Nat) (q_setUp : Nat) (q_tapes : Nat) (q_now_ground : Nat) (q_now_notes : Nat) (q_now_seen : Nat) (q_now_events : Nat) (q_now_book : Nat) (q_now_notes_cells : Nat) (sz : Nat) (f_imaged : Int32) (f_now_ground_a : Int32) (f_now_ground_b : Int32) (f_now_ground_x : Int32) (f_now_ground_y : Int32) (f_now_notes_limit : Int32) (f_now_notes_used : Int32) (f_lowering_x : Int32) (f_lowering_y : Int32) (f_lowering_steps : Int32) (f_lowering_metLetter : Int32) (p1 : Int32) (n : Nat) {o : Int32 × Int32 × Int32 × Int32 × Int32} (hf : fX8_told n p1 f_now_ground_a f_now_ground_b f_now_ground_x f_now_ground_y f_now_notes_used f_lowering_x f_lowering_y f_lowering_steps f_lowering_metLetter = some o) : Met l yX8_told (Cond.code yX8_told cX8_told 2 (some .int) :: AW) ({ frames := 4, cells := 0, slots := 0, locals := 92 } : Room) (va_Pc [.ref q_this, .int p1] (Wp G cy [(q_this, .inr (8, [.ref q_now, .ref q_saved, .int f_imaged, .ref q_trial, .ref q_lowering, .ref q_counts, .ref q_expansion, .ref q_setUp, .ref q_tapes])), (q_now, .inr (6, [.ref q_now_ground, .ref q_now_notes, .ref q_now_seen, .ref q_now_events, .ref q_now_book])), (q_now_ground, .inr (2, [.int f_now_ground_a, .int f_now_ground_b, .int f_now_ground_x, .int f_now_ground_y])), (q_now_notes, .inr (4, [.int f_now_notes_limit, .ref q_now_notes_cells, .int f_now_notes_used])), (q_lowering, .inr (3, [.int f_lowering_x, .int f_lowering_y, .int f_lowering_steps, .int f_lowering_metLetter]))] sz)) (va_Qi (fun r (_ : Unit) => r = o.1) (fun _ => Wq G cy (va_A [(q_this, .inr (8, [.ref q_now, .ref q_saved, .int f_imaged, .ref q_trial, .ref q_lowering, .ref q_counts, .ref q_expansion, .ref q_setUp, .ref q_tapes])), (q_now, .inr (6, [.ref q_now_ground, .ref q_now_notes, .ref q_now_seen, .ref q_now_events, .ref q_now_book])), (q_now_ground, .inr (2, [.int f_now_ground_a, .int f_now_ground_b, .int f_now_ground_x, .int f_now_ground_y])), (q_now_notes, .inr (4, [.int f_now_notes_limit, .ref q_now_notes_cells, .int f_now_notes_used])), (q_lowering, .inr (3, [.int f_lowering_x, .int f_lowering_y, .int f_lowering_steps, .int f_lowering_metLetter]))] sz) [(q_this, .inr (8, [.ref q_now, .ref q_saved, .int f_imaged, .ref q_trial, .ref q_lowering, .ref q_counts, .ref q_expansion, .ref q_setUp, .ref q_tapes])), (q_now, .inr (6, [.ref q_now_ground, .ref q_now_notes, .ref q_now_seen, .ref q_now_events, .ref q_now_book])), (q_now_ground, .inr (2, [.int f_now_ground_a, .int f_now_ground_b, .int f_now_ground_x, .int f_now_ground_y])), (q_now_notes, .inr (4, [.int f_now_notes_limit, .ref q_now_notes_cells, .int f_now_notes_used])), (q_lowering, .inr (3, [.int o.2.1, .int o.2.2.1, .int o.2.2.2.1, .int o.2.2.2.2]))]) (va_A [(q_this, .inr (8, [.ref q_now, .ref q_saved, .int f_imaged, .ref q_trial, .ref q_lowering, .ref q_counts, .ref q_expansion, .ref q_setUp, .ref q_tapes])), (q_now, .inr (6, [.ref q_now_ground, .ref q_now_notes, .ref q_now_seen, .ref q_now_events, .ref q_now_book])), (q_now_ground, .inr (2, [.int f_now_ground_a, .int f_now_ground_b, .int f_now_ground_x, .int f_now_ground_y])), (q_now_notes, .inr (4, [.int f_now_notes_limit, .ref q_now_notes_cells, .int f_now_notes_used])), (q_lowering, .inr (3, [.int f_lowering_x, .int f_lowering_y, .int f_lowering_steps, .int f_lowering_metLetter]))] sz)) 0 0 (va_A [(q_this, .inr (8, [.ref q_now, .ref q_saved, .int f_imaged, .ref q_trial, .ref q_lowering, .ref q_counts, .ref q_expansion, .ref q_setUp, .ref q_tapes])), (q_now, .inr (6, [.ref q_now_ground, .ref q_now_notes, .ref q_now_seen, .ref q_now_events, .ref q_now_book])), (q_now_ground, .inr (2, [.int f_now_ground_a, .int f_now_ground_b, .int f_now_ground_x, .int f_now_ground_y])), (q_now_notes, .inr (4, [.int f_now_notes_limit, .ref q_now_notes_cells, .int f_now_notes_used])), (q_lowering, .inr (3, [.int f_lowering_x, .int f_lowering_y, .int f_lowering_steps, .int f_lowering_metLetter]))] sz) := by
  refine Met.ofW (cc := cX8_told) (maxL := 2) (ret := (some .int)) (by decide) rfl ?_
  intro p e s m args below meth c s₁ B hml hv
  obtain ⟨rfl, hsz, hP, hK, hD0, hN⟩ := hv
  have hx := B.exec
  have hb := B.bytes
  have hr := B.returns
  have htA : ∀ w ∈ AW, w.before _ s = true := fun w h => atoms_spec (ws := Cond.code yX8_told cX8_told 2 (some .int) :: AW) B.pre w (List.mem_cons_of_mem _ h)
  have hown : s.vm.findClass RX8 = some m.cls := findClass_of_methodNamed B.named
  have hlocks := B.notSynchronized
  subst hsz
  have hD := hD0.self (sz := s.heap.size)
  generalize hAe : va_A [(q_this, .inr (8, [.ref q_now, .ref q_saved, .int f_imaged, .ref q_trial, .ref q_lowering, .ref q_counts, .ref q_expansion, .ref q_setUp, .ref q_tapes])), (q_now, .inr (6, [.ref q_now_ground, .ref q_now_notes, .ref q_now_seen, .ref q_now_events, .ref q_now_book])), (q_now_ground, .inr (2, [.int f_now_ground_a, .int f_now_ground_b, .int f_now_ground_x, .int f_now_ground_y])), (q_now_notes, .inr (4, [.int f_now_notes_limit, .ref q_now_notes_cells, .int f_now_notes_used])), (q_lowering, .inr (3, [.int f_lowering_x, .int f_lowering_y, .int f_lowering_steps, .int f_lowering_metLetter]))] s.heap.size = A at hD ⊢
  have hA : ∀ q : Nat, s.heap.size ≤ q → A q := fun q h => by rw [← hAe]; exact Or.inr h
  have hS : va_S A s.heap s.heap [] := va_S.rf
  have hl := lv_entry ([.ref q_this, .int p1]) (n := 2) (Nat.le_of_ble_eq_true rfl)
  rw [lg_entry_eq]
  generalize (lg_sl ([.ref q_this, .int p1]) ++ List.replicate (2 - (lg_sl ([.ref q_this, .int p1])).length) Slot.unset).toArray = ls at hl ⊢
  have hl : lv_has ls 2 [(0, .ref q_this), (1, .int p1)] := hl
  have hP : va_P G vwCl [(q_this, .inr (8, [.ref q_now, .ref q_saved, .int f_imaged, .ref q_trial, .ref q_lowering, .ref q_counts, .ref q_expansion, .ref q_setUp, .ref q_tapes])), (q_now, .inr (6, [.ref q_now_ground, .ref q_now_notes, .ref q_now_seen, .ref q_now_events, .ref q_now_book])), (q_now_ground, .inr (2, [.int f_now_ground_a, .int f_now_ground_b, .int f_now_ground_x, .int f_now_ground_y])), (q_now_notes, .inr (4, [.int f_now_notes_limit, .ref q_now_notes_cells, .int f_now_notes_used])), (q_lowering, .inr (3, [.int f_lowering_x, .int f_lowering_y, .int f_lowering_steps, .int f_lowering_metLetter]))] s.heap := hP
  have hf : ((if p1 = 0 then some (f_now_ground_a, f_lowering_x, f_lowering_y, f_lowering_steps, f_lowering_metLetter) else if p1 = 1 then some (f_now_ground_b, f_lowering_x, f_lowering_y, f_lowering_steps, f_lowering_metLetter) else if p1 = 2 then (fX8_kindOf f_now_ground_a f_now_ground_b).bind fun q86 => (some (q86, f_lowering_x, f_lowering_y, f_lowering_steps, f_lowering_metLetter)) else if p1 = 3 then some ((f_now_ground_x + 1000), f_lowering_x, f_lowering_y, f_lowering_steps, f_lowering_metLetter) else if p1 = 4 then some ((f_now_ground_y + 1000), f_lowering_x, f_lowering_y, f_lowering_steps, f_lowering_metLetter) else if p1 = 5 then (fX8_sortNow n f_now_ground_x f_now_ground_y f_now_ground_a f_now_ground_b f_lowering_x f_lowering_y f_lowering_steps f_lowering_metLetter).bind fun q141 => (some (q141.1, q141.2.1, q141.2.2.1, q141.2.2.2.1, q141.2.2.2.2)) else if p1 = 6 then (fX4_size f_now_notes_used).bind fun q152 => (some (q152, f_lowering_x, f_lowering_y, f_lowering_steps, f_lowering_metLetter)) else some ((-1), f_lowering_x, f_lowering_y, f_lowering_steps, f_lowering_metLetter)) : Option (Int32 × Int32 × Int32 × Int32 × Int32)) = some o := hf
  refine lv_iload_n hx hb dX8_told_0 rfl (lv_at hl 1 rfl) ?_
  by_cases c_41 : p1 = 0
  · have hf := ite_t c_41 hf
    refine lv_tableIn (off := 43) (tgt := 44) hx hb dX8_told_1 (by rw [c_41]; decide) (by rw [c_41]; decide) (by rw [c_41]; rfl) (by decide) ?_
    refine lv_aload_n hx hb dX8_told_44 rfl (lv_at hl 0 rfl) ?_
    refine va_get (D := G) (ci := 8) (v := .ref q_now) (C := RX8) (T := TX8) (N := 9) hx hb htA lyX8 hown hK hP 0 rfl rfl 0 (by decide) (htA _ a_fl_X8_14) (fun _ h9 => h9) rfl dX8_told_45 ?_
    refine va_getN (D := G) (ci := 6) (v := .ref q_now_ground) (C := RX6) (T := TX6) (N := 5) hx hb htA lyX6 hown hK hP 1 rfl rfl 0 (by decide) (u_link hN (List.mem_of_getElem? (i := 6) rfl)) (fun _ h9 => h9) rfl dX8_told_48 ?_
    refine va_getN (D := G) (ci := 2) (v := .int f_now_ground_a) (C := RX2) (T := TX2) (N := 4) hx hb htA lyX2 hown hK hP 2 rfl rfl 0 (by decide) (u_link hN (List.mem_of_getElem? (i := 2) rfl)) (fun _ h9 => h9) rfl dX8_told_51 ?_
    have ho := Option.some.inj hf
    subst ho
    exact W.iret (v := f_now_ground_a) hx hb hr (fun t ht hW => ⟨⟨_, (), rfl, rfl, by rw [ht]; exact hP, va_K.moved hW.alike hK, hD⟩, hS.F ht⟩) hS.2.2 dX8_told_54
  · have hf := ite_f c_41 hf
    by_cases c_42 : p1 = 1
    · have hf := ite_t c_42 hf
      refine lv_tableIn (off := 54) (tgt := 55) hx hb dX8_told_1 (by rw [c_42]; decide) (by rw [c_42]; decide) (by rw [c_42]; rfl) (by decide) ?_
      refine lv_aload_n hx hb dX8_told_55 rfl (lv_at hl 0 rfl) ?_
      refine va_get (D := G) (ci := 8) (v := .ref q_now) (C := RX8) (T := TX8) (N := 9) hx hb htA lyX8 hown hK hP 0 rfl rfl 0 (by decide) (htA _ a_fl_X8_14) (fun _ h9 => h9) rfl dX8_told_56 ?_
      refine va_getN (D := G) (ci := 6) (v := .ref q_now_ground) (C := RX6) (T := TX6) (N := 5) hx hb htA lyX6 hown hK hP 1 rfl rfl 0 (by decide) (u_link hN (List.mem_of_getElem? (i := 6) rfl)) (fun _ h9 => h9) rfl dX8_told_59 ?_
      refine va_getN (D := G) (ci := 2) (v := .int f_now_ground_b) (C := RX2) (T := TX2) (N := 4) hx hb htA lyX2 hown hK hP 2 rfl rfl 1 (by decide) (u_link hN (List.mem_of_getElem? (i := 3) rfl)) (fun _ h9 => h9) rfl dX8_told_62 ?_
      have ho := Option.some.inj hf
      subst ho
      exact W.iret (v := f_now_ground_b) hx hb hr (fun t ht hW => ⟨⟨_, (), rfl, rfl, by rw [ht]; exact hP, va_K.moved hW.alike hK, hD⟩, hS.F ht⟩) hS.2.2 dX8_told_65
    · have hf := ite_f c_42 hf
      by_cases c_43 : p1 = 2
      · have hf := ite_t c_43 hf
        refine lv_tableIn (off := 65) (tgt := 66) hx hb dX8_told_1 (by rw [c_43]; decide) (by rw [c_43]; decide) (by rw [c_43]; rfl) (by decide) ?_
        refine lv_aload_n hx hb dX8_told_66 rfl (lv_at hl 0 rfl) ?_
        refine va_get (D := G) (ci := 8) (v := .ref q_now) (C := RX8) (T := TX8) (N := 9) hx hb htA lyX8 hown hK hP 0 rfl rfl 0 (by decide) (htA _ a_fl_X8_14) (fun _ h9 => h9) rfl dX8_told_67 ?_
        refine va_getN (D := G) (ci := 6) (v := .ref q_now_ground) (C := RX6) (T := TX6) (N := 5) hx hb htA lyX6 hown hK hP 1 rfl rfl 0 (by decide) (u_link hN (List.mem_of_getElem? (i := 6) rfl)) (fun _ h9 => h9) rfl dX8_told_70 ?_
        refine va_getN (D := G) (ci := 2) (v := .int f_now_ground_a) (C := RX2) (T := TX2) (N := 4) hx hb htA lyX2 hown hK hP 2 rfl rfl 0 (by decide) (u_link hN (List.mem_of_getElem? (i := 2) rfl)) (fun _ h9 => h9) rfl dX8_told_73 ?_
        refine lv_aload_n hx hb dX8_told_76 rfl (lv_at hl 0 rfl) ?_
        refine va_get (D := G) (ci := 8) (v := .ref q_now) (C := RX8) (T := TX8) (N := 9) hx hb htA lyX8 hown hK hP 0 rfl rfl 0 (by decide) (htA _ a_fl_X8_14) (fun _ h9 => h9) rfl dX8_told_77 ?_
        refine va_getN (D := G) (ci := 6) (v := .ref q_now_ground) (C := RX6) (T := TX6) (N := 5) hx hb htA lyX6 hown hK hP 1 rfl rfl 0 (by decide) (u_link hN (List.mem_of_getElem? (i := 6) rfl)) (fun _ h9 => h9) rfl dX8_told_80 ?_
        refine va_getN (D := G) (ci := 2) (v := .int f_now_ground_b) (C := RX2) (T := TX2) (N := 4) hx hb htA lyX2 hown hK hP 2 rfl rfl 1 (by decide) (u_link hN (List.mem_of_getElem? (i := 3) rfl)) (fun _ h9 => h9) rfl dX8_told_83 ?_
        obtain ⟨q86, h86_44, hf⟩ := bd_s hf
        refine u_calliR (va_runS (As := [.int f_now_ground_a, .int f_now_ground_b]) (rest := []) ⟨hx, hb, hml, hown, htA⟩ (kX8_kindOf l G cy s.heap.size f_now_ground_a f_now_ground_b h86_44) (u_cwS htA a_ml_X8_167 pk_X8_kindOf ⟨Nat.le_of_ble_eq_true rfl, Nat.le_of_ble_eq_true rfl⟩) (u_preS hK hN hP hD [] rfl (by decide)) rfl rfl hl.1 rfl (lv_room (Nat.le_of_ble_eq_true rfl)) dX8_told_86 ⟨Nat.zero_le _, Nat.zero_le _⟩) hP hD hS hA [] rfl (fun H locs hP hS => ?_)
        have ho := Option.some.inj hf
        subst ho
        exact W.iret (v := q86) hx hb hr (fun t ht hW => ⟨⟨_, (), rfl, rfl, by rw [ht]; exact hP, va_K.moved hW.alike hK, hD⟩, hS.F ht⟩) hS.2.2 dX8_told_89
      · have hf := ite_f c_43 hf
        by_cases c_45 : p1 = 3
        · have hf := ite_t c_45 hf
          refine lv_tableIn (off := 89) (tgt := 90) hx hb dX8_told_1 (by rw [c_45]; decide) (by rw [c_45]; decide) (by rw [c_45]; rfl) (by decide) ?_
          refine lv_aload_n hx hb dX8_told_90 rfl (lv_at hl 0 rfl) ?_
          refine va_get (D := G) (ci := 8) (v := .ref q_now) (C := RX8) (T := TX8) (N := 9) hx hb htA lyX8 hown hK hP 0 rfl rfl 0 (by decide) (htA _ a_fl_X8_14) (fun _ h9 => h9) rfl dX8_told_91 ?_
          refine va_getN (D := G) (ci := 6) (v := .ref q_now_ground) (C := RX6) (T := TX6) (N := 5) hx hb htA lyX6 hown hK hP 1 rfl rfl 0 (by decide) (u_link hN (List.mem_of_getElem? (i := 6) rfl)) (fun _ h9 => h9) rfl dX8_told_94 ?_
          refine va_getN (D := G) (ci := 2) (v := .int f_now_ground_x) (C := RX2) (T := TX2) (N := 4) hx hb htA lyX2 hown hK hP 2 rfl rfl 2 (by decide) (u_link hN (List.mem_of_getElem? (i := 4) rfl)) (fun _ h9 => h9) rfl dX8_told_97 ?_
          refine lv_sipush (v := 1000) hx hb dX8_told_100 (by decide) ?_
          refine lv_iadd hx hb dX8_told_103 ?_
          have ho := Option.some.inj hf
          subst ho
          exact W.iret (v := (f_now_ground_x + 1000)) hx hb hr (fun t ht hW => ⟨⟨_, (), rfl, rfl, by rw [ht]; exact hP, va_K.moved hW.alike hK, hD⟩, hS.F ht⟩) hS.2.2 dX8_told_104
        · have hf := ite_f c_45 hf
          by_cases c_46 : p1 = 4
          · have hf := ite_t c_46 hf
            refine lv_tableIn (off := 104) (tgt := 105) hx hb dX8_told_1 (by rw [c_46]; decide) (by rw [c_46]; decide) (by rw [c_46]; rfl) (by decide) ?_
            refine lv_aload_n hx hb dX8_told_105 rfl (lv_at hl 0 rfl) ?_
            refine va_get (D := G) (ci := 8) (v := .ref q_now) (C := RX8) (T := TX8) (N := 9) hx hb htA lyX8 hown hK hP 0 rfl rfl 0 (by decide) (htA _ a_fl_X8_14) (fun _ h9 => h9) rfl dX8_told_106 ?_
            refine va_getN (D := G) (ci := 6) (v := .ref q_now_ground) (C := RX6) (T := TX6) (N := 5) hx hb htA lyX6 hown hK hP 1 rfl rfl 0 (by decide) (u_link hN (List.mem_of_getElem? (i := 6) rfl)) (fun _ h9 => h9) rfl dX8_told_109 ?_
            refine va_getN (D := G) (ci := 2) (v := .int f_now_ground_y) (C := RX2) (T := TX2) (N := 4) hx hb htA lyX2 hown hK hP 2 rfl rfl 3 (by decide) (u_link hN (List.mem_of_getElem? (i := 5) rfl)) (fun _ h9 => h9) rfl dX8_told_112 ?_
            refine lv_sipush (v := 1000) hx hb dX8_told_115 (by decide) ?_
            refine lv_iadd hx hb dX8_told_118 ?_
            have ho := Option.some.inj hf
            subst ho
            exact W.iret (v := (f_now_ground_y + 1000)) hx hb hr (fun t ht hW => ⟨⟨_, (), rfl, rfl, by rw [ht]; exact hP, va_K.moved hW.alike hK, hD⟩, hS.F ht⟩) hS.2.2 dX8_told_119
          · have hf := ite_f c_46 hf
            by_cases c_47 : p1 = 5
            · have hf := ite_t c_47 hf
              refine lv_tableIn (off := 119) (tgt := 120) hx hb dX8_told_1 (by rw [c_47]; decide) (by rw [c_47]; decide) (by rw [c_47]; rfl) (by decide) ?_
              refine lv_aload_n hx hb dX8_told_120 rfl (lv_at hl 0 rfl) ?_
              refine lv_aload_n hx hb dX8_told_121 rfl (lv_at hl 0 rfl) ?_
              refine va_get (D := G) (ci := 8) (v := .ref q_now) (C := RX8) (T := TX8) (N := 9) hx hb htA lyX8 hown hK hP 0 rfl rfl 0 (by decide) (htA _ a_fl_X8_14) (fun _ h9 => h9) rfl dX8_told_122 ?_
              refine va_getN (D := G) (ci := 6) (v := .ref q_now_ground) (C := RX6) (T := TX6) (N := 5) hx hb htA lyX6 hown hK hP 1 rfl rfl 0 (by decide) (u_link hN (List.mem_of_getElem? (i := 6) rfl)) (fun _ h9 => h9) rfl dX8_told_125 ?_
              refine va_getN (D := G) (ci := 2) (v := .int f_now_ground_x) (C := RX2) (T := TX2) (N := 4) hx hb htA lyX2 hown hK hP 2 rfl rfl 2 (by decide) (u_link hN (List.mem_of_getElem? (i := 4) rfl)) (fun _ h9 => h9) rfl dX8_told_128 ?_
              refine lv_aload_n hx hb dX8_told_131 rfl (lv_at hl 0 rfl) ?_
              refine va_get (D := G) (ci := 8) (v := .ref q_now) (C := RX8) (T := TX8) (N := 9) hx hb htA lyX8 hown hK hP 0 rfl rfl 0 (by decide) (htA _ a_fl_X8_14) (fun _ h9 => h9) rfl dX8_told_132 ?_
              refine va_getN (D := G) (ci := 6) (v := .ref q_now_ground) (C := RX6) (T := TX6) (N := 5) hx hb htA lyX6 hown hK hP 1 rfl rfl 0 (by decide) (u_link hN (List.mem_of_getElem? (i := 6) rfl)) (fun _ h9 => h9) rfl dX8_told_135 ?_
              refine va_getN (D := G) (ci := 2) (v := .int f_now_ground_y) (C := RX2) (T := TX2) (N := 4) hx hb htA lyX2 hown hK hP 2 rfl rfl 3 (by decide) (u_link hN (List.mem_of_getElem? (i := 5) rfl)) (fun _ h9 => h9) rfl dX8_told_138 ?_
              obtain ⟨q141, h141_48, hf⟩ := bd_s hf
              refine u_calli [(q_this, .inr (8, [.ref q_now, .ref q_saved, .int f_imaged, .ref q_trial, .ref q_lowering, .ref q_counts, .ref q_expansion, .ref q_setUp, .ref q_tapes])), (q_now, .inr (6, [.ref q_now_ground, .ref q_now_notes, .ref q_now_seen, .ref q_now_events, .ref q_now_book])), (q_now_ground, .inr (2, [.int f_now_ground_a, .int f_now_ground_b, .int f_now_ground_x, .int f_now_ground_y])), (q_now_notes, .inr (4, [.int f_now_notes_limit, .ref q_now_notes_cells, .int f_now_notes_used])), (q_lowering, .inr (3, [.int q141.2.1, .int q141.2.2.1, .int q141.2.2.2.1, .int q141.2.2.2.2]))] (va_runV (As := [.int f_now_ground_x, .int f_now_ground_y]) (rest := []) ⟨hx, hb, hml, hown, htA⟩ (kX8_sortNow l G cy q_this q_now q_saved q_trial q_lowering q_counts q_expansion q_setUp q_tapes q_now_ground q_now_notes q_now_seen q_now_events q_now_book s.heap.size f_imaged f_now_ground_a f_now_ground_b f_now_ground_x f_now_ground_y f_lowering_x f_lowering_y f_lowering_steps f_lowering_metLetter f_now_ground_x f_now_ground_y n h141_48) (u_cwV htA a_ml_X8_97 pk_X8_sortNow ⟨Nat.le_of_ble_eq_true rfl, Nat.le_of_ble_eq_true rfl⟩) (u_preV hK hN hP hD [0, 1, 2, 4] rfl (by decide) 0 rfl rfl) rfl rfl hl.1 rfl (lv_room (Nat.le_of_ble_eq_true rfl)) dX8_told_141 ⟨Nat.zero_le _, Nat.zero_le _⟩) hP hD hS hA [0, 1, 2, 4] rfl [3] 5 rfl rfl rfl (by decide) rfl (fun H locs hP hD hS => ?_)
              have ho := Option.some.inj hf
              subst ho
              exact W.iret (v := q141.1) hx hb hr (fun t ht hW => ⟨⟨_, (), rfl, rfl, by rw [ht]; exact hP, va_K.moved hW.alike hK, hD⟩, hS.F ht⟩) hS.2.2 dX8_told_144
            · have hf := ite_f c_47 hf
              by_cases c_49 : p1 = 6
              · have hf := ite_t c_49 hf
                refine lv_tableIn (off := 144) (tgt := 145) hx hb dX8_told_1 (by rw [c_49]; decide) (by rw [c_49]; decide) (by rw [c_49]; rfl) (by decide) ?_
                refine lv_aload_n hx hb dX8_told_145 rfl (lv_at hl 0 rfl) ?_
                refine va_get (D := G) (ci := 8) (v := .ref q_now) (C := RX8) (T := TX8) (N := 9) hx hb htA lyX8 hown hK hP 0 rfl rfl 0 (by decide) (htA _ a_fl_X8_14) (fun _ h9 => h9) rfl dX8_told_146 ?_
                refine va_getN (D := G) (ci := 6) (v := .ref q_now_notes) (C := RX6) (T := TX6) (N := 5) hx hb htA lyX6 hown hK hP 1 rfl rfl 1 (by decide) (u_link hN (List.mem_of_getElem? (i := 7) rfl)) (fun _ h9 => h9) rfl dX8_told_149 ?_
                obtain ⟨q152, h152_50, hf⟩ := bd_s hf
                refine u_calliR (va_runV (As := []) (rest := []) ⟨hx, hb, hml, hown, htA⟩ (kX4_size l G cy q_now_notes q_now_notes_cells s.heap.size f_now_notes_limit f_now_notes_used h152_50) (u_cwV htA a_ml_X8_109 pk_X4_size ⟨Nat.le_of_ble_eq_true rfl, Nat.le_of_ble_eq_true rfl⟩) (u_preV hK hN hP hD [3] rfl (by decide) 3 rfl rfl) rfl rfl hl.1 rfl (lv_room (Nat.le_of_ble_eq_true rfl)) dX8_told_152 ⟨Nat.zero_le _, Nat.zero_le _⟩) hP hD hS hA [3] rfl (fun H locs hP hS => ?_)
                have ho := Option.some.inj hf
                subst ho
                exact W.iret (v := q152) hx hb hr (fun t ht hW => ⟨⟨_, (), rfl, rfl, by rw [ht]; exact hP, va_K.moved hW.alike hK, hD⟩, hS.F ht⟩) hS.2.2 dX8_told_155
              · have hf := ite_f c_49 hf
                have c_41n := sw_no (a := 0) c_41 (by decide)
                have c_42n := sw_no (a := 1) c_42 (by decide)
                have c_43n := sw_no (a := 2) c_43 (by decide)
                have c_45n := sw_no (a := 3) c_45 (by decide)
                have c_46n := sw_no (a := 4) c_46 (by decide)
                have c_47n := sw_no (a := 5) c_47 (by decide)
                have c_49n := sw_no (a := 6) c_49 (by decide)
                refine lv_tableOut (tgt := 156) hx hb dX8_told_1 (by omega) (by decide) ?_
                refine lv_iconst (v := (-1)) hx hb dX8_told_156 (by decide) ?_
                have ho := Option.some.inj hf
                subst ho
                exact W.iret (v := (-1)) hx hb hr (fun t ht hW => ⟨⟨_, (), rfl, rfl, by rw [ht]; exact hP, va_K.moved hW.alike hK, hD⟩, hS.F ht⟩) hS.2.2 dX8_told_157
set_option maxRecDepth 100000 in
set_option maxHeartbeats 4000000 in
theorem kX8_noted (l : Launch) (G : va_G) (cy : Nat → ClassId) (q_this : Nat) (q_now : Nat) (q_saved : Nat) (q_trial : Nat) (q_lowering : Nat) (q_counts : Nat) (q_expansion : Nat) (q_setUp : Nat) (q_tapes : Nat) (q_now_ground : Nat) (q_now_notes : Nat) (q_now_seen : Nat) (q_now_events : Nat) (q_now_book : Nat) (q_now_notes_cells : Nat) (sz : Nat) (n_now_notes_cells : Nat) (f_imaged : Int32) (f_now_ground_a : Int32) (f_now_ground_b : Int32) (f_now_ground_x : Int32) (f_now_ground_y : Int32) (f_now_notes_limit : Int32) (f_now_notes_used : Int32) (f_now_notes_cells : Nat → Int32) (f_lowering_x : Int32) (f_lowering_y : Int32) (f_lowering_steps : Int32) (f_lowering_metLetter : Int32) (p1 : Int32) (p2 : Int32) (n : Nat) {o : Int32 × Int32 × Int32 × Int32 × Int32} (hf : fX8_noted n p1 p2 n_now_notes_cells f_now_ground_a f_now_ground_b f_now_notes_used f_now_notes_cells f_lowering_x f_lowering_y f_lowering_steps f_lowering_metLetter = some o) : Met l yX8_noted (Cond.code yX8_noted cX8_noted 5 (some .int) :: AW) ({ frames := 4, cells := 0, slots := 0, locals := 92 } : Room) (va_Pc [.ref q_this, .int p1, .int p2] (Wp G cy [(q_this, .inr (8, [.ref q_now, .ref q_saved, .int f_imaged, .ref q_trial, .ref q_lowering, .ref q_counts, .ref q_expansion, .ref q_setUp, .ref q_tapes])), (q_now, .inr (6, [.ref q_now_ground, .ref q_now_notes, .ref q_now_seen, .ref q_now_events, .ref q_now_book])), (q_now_ground, .inr (2, [.int f_now_ground_a, .int f_now_ground_b, .int f_now_ground_x, .int f_now_ground_y])), (q_now_notes, .inr (4, [.int f_now_notes_limit, .ref q_now_notes_cells, .int f_now_notes_used])), (q_now_notes_cells, .inl (cy 0, n_now_notes_cells, .inl f_now_notes_cells)), (q_lowering, .inr (3, [.int f_lowering_x, .int f_lowering_y, .int f_lowering_steps, .int f_lowering_metLetter]))] sz)) (va_Qi (fun r (_ : Unit) => r = o.1) (fun _ => Wq G cy (va_A [(q_this, .inr (8, [.ref q_now, .ref q_saved, .int f_imaged, .ref q_trial, .ref q_lowering, .ref q_counts, .ref q_expansion, .ref q_setUp, .ref q_tapes])), (q_now, .inr (6, [.ref q_now_ground, .ref q_now_notes, .ref q_now_seen, .ref q_now_events, .ref q_now_book])), (q_now_ground, .inr (2, [.int f_now_ground_a, .int f_now_ground_b, .int f_now_ground_x, .int f_now_ground_y])), (q_now_notes, .inr (4, [.int f_now_notes_limit, .ref q_now_notes_cells, .int f_now_notes_used])), (q_now_notes_cells, .inl (cy 0, n_now_notes_cells, .inl f_now_notes_cells)), (q_lowering, .inr (3, [.int f_lowering_x, .int f_lowering_y, .int f_lowering_steps, .int f_lowering_metLetter]))] sz) [(q_this, .inr (8, [.ref q_now, .ref q_saved, .int f_imaged, .ref q_trial, .ref q_lowering, .ref q_counts, .ref q_expansion, .ref q_setUp, .ref q_tapes])), (q_now, .inr (6, [.ref q_now_ground, .ref q_now_notes, .ref q_now_seen, .ref q_now_events, .ref q_now_book])), (q_now_ground, .inr (2, [.int f_now_ground_a, .int f_now_ground_b, .int f_now_ground_x, .int f_now_ground_y])), (q_now_notes, .inr (4, [.int f_now_notes_limit, .ref q_now_notes_cells, .int f_now_notes_used])), (q_now_notes_cells, .inl (cy 0, n_now_notes_cells, .inl f_now_notes_cells)), (q_lowering, .inr (3, [.int o.2.1, .int o.2.2.1, .int o.2.2.2.1, .int o.2.2.2.2]))]) (va_A [(q_this, .inr (8, [.ref q_now, .ref q_saved, .int f_imaged, .ref q_trial, .ref q_lowering, .ref q_counts, .ref q_expansion, .ref q_setUp, .ref q_tapes])), (q_now, .inr (6, [.ref q_now_ground, .ref q_now_notes, .ref q_now_seen, .ref q_now_events, .ref q_now_book])), (q_now_ground, .inr (2, [.int f_now_ground_a, .int f_now_ground_b, .int f_now_ground_x, .int f_now_ground_y])), (q_now_notes, .inr (4, [.int f_now_notes_limit, .ref q_now_notes_cells, .int f_now_notes_used])), (q_now_notes_cells, .inl (cy 0, n_now_notes_cells, .inl f_now_notes_cells)), (q_lowering, .inr (3, [.int f_lowering_x, .int f_lowering_y, .int f_lowering_steps, .int f_lowering_metLetter]))] sz)) 0 0 (va_A [(q_this, .inr (8, [.ref q_now, .ref q_saved, .int f_imaged, .ref q_trial, .ref q_lowering, .ref q_counts, .ref q_expansion, .ref q_setUp, .ref q_tapes])), (q_now, .inr (6, [.ref q_now_ground, .ref q_now_notes, .ref q_now_seen, .ref q_now_events, .ref q_now_book])), (q_now_ground, .inr (2, [.int f_now_ground_a, .int f_now_ground_b, .int f_now_ground_x, .int f_now_ground_y])), (q_now_notes, .inr (4, [.int f_now_notes_limit, .ref q_now_notes_cells, .int f_now_notes_used])), (q_now_notes_cells, .inl (cy 0, n_now_notes_cells, .inl f_now_notes_cells)), (q_lowering, .inr (3, [.int f_lowering_x, .int f_lowering_y, .int f_lowering_steps, .int f_lowering_metLetter]))] sz) := by
  refine Met.ofW (cc := cX8_noted) (maxL := 5) (ret := (some .int)) (by decide) rfl ?_
  intro p e s m args below meth c s₁ B hml hv
  obtain ⟨rfl, hsz, hP, hK, hD0, hN⟩ := hv
  have hx := B.exec
  have hb := B.bytes
  have hr := B.returns
  have htA : ∀ w ∈ AW, w.before _ s = true := fun w h => atoms_spec (ws := Cond.code yX8_noted cX8_noted 5 (some .int) :: AW) B.pre w (List.mem_cons_of_mem _ h)
  have hown : s.vm.findClass RX8 = some m.cls := findClass_of_methodNamed B.named
  have hlocks := B.notSynchronized
  subst hsz
  have hD := hD0.self (sz := s.heap.size)
  generalize hAe : va_A [(q_this, .inr (8, [.ref q_now, .ref q_saved, .int f_imaged, .ref q_trial, .ref q_lowering, .ref q_counts, .ref q_expansion, .ref q_setUp, .ref q_tapes])), (q_now, .inr (6, [.ref q_now_ground, .ref q_now_notes, .ref q_now_seen, .ref q_now_events, .ref q_now_book])), (q_now_ground, .inr (2, [.int f_now_ground_a, .int f_now_ground_b, .int f_now_ground_x, .int f_now_ground_y])), (q_now_notes, .inr (4, [.int f_now_notes_limit, .ref q_now_notes_cells, .int f_now_notes_used])), (q_now_notes_cells, .inl (cy 0, n_now_notes_cells, .inl f_now_notes_cells)), (q_lowering, .inr (3, [.int f_lowering_x, .int f_lowering_y, .int f_lowering_steps, .int f_lowering_metLetter]))] s.heap.size = A at hD ⊢
  have hA : ∀ q : Nat, s.heap.size ≤ q → A q := fun q h => by rw [← hAe]; exact Or.inr h
  have hS : va_S A s.heap s.heap [] := va_S.rf
  have hl := lv_entry ([.ref q_this, .int p1, .int p2]) (n := 5) (Nat.le_of_ble_eq_true rfl)
  rw [lg_entry_eq]
  generalize (lg_sl ([.ref q_this, .int p1, .int p2]) ++ List.replicate (5 - (lg_sl ([.ref q_this, .int p1, .int p2])).length) Slot.unset).toArray = ls at hl ⊢
  have hl : lv_has ls 5 [(0, .ref q_this), (1, .int p1), (2, .int p2)] := hl
  have hP : va_P G vwCl [(q_this, .inr (8, [.ref q_now, .ref q_saved, .int f_imaged, .ref q_trial, .ref q_lowering, .ref q_counts, .ref q_expansion, .ref q_setUp, .ref q_tapes])), (q_now, .inr (6, [.ref q_now_ground, .ref q_now_notes, .ref q_now_seen, .ref q_now_events, .ref q_now_book])), (q_now_ground, .inr (2, [.int f_now_ground_a, .int f_now_ground_b, .int f_now_ground_x, .int f_now_ground_y])), (q_now_notes, .inr (4, [.int f_now_notes_limit, .ref q_now_notes_cells, .int f_now_notes_used])), (q_now_notes_cells, .inl (cy 0, n_now_notes_cells, .inl f_now_notes_cells)), (q_lowering, .inr (3, [.int f_lowering_x, .int f_lowering_y, .int f_lowering_steps, .int f_lowering_metLetter]))] s.heap := hP
  have hf : ((fX4_size f_now_notes_used).bind fun q9 => ((fX8_isIn p1 0 (q9 - 1)).bind fun q14 => ((if q14 = 0 then some ((-1), f_lowering_x, f_lowering_y, f_lowering_steps, f_lowering_metLetter) else (fX8_isIn p2 0 2).bind fun q23 => ((if q23 = 0 then some ((-1), f_lowering_x, f_lowering_y, f_lowering_steps, f_lowering_metLetter) else (fX4_cell p1 0 n_now_notes_cells f_now_notes_used f_now_notes_cells).bind fun q40 => ((fX4_cell p1 1 n_now_notes_cells f_now_notes_used f_now_notes_cells).bind fun q53 => ((if p2 = 2 then (fX8_sortNow n q40 q53 f_now_ground_a f_now_ground_b f_lowering_x f_lowering_y f_lowering_steps f_lowering_metLetter).bind fun q67 => (some (q67.1, q67.2.1, q67.2.2.1, q67.2.2.2.1, q67.2.2.2.2)) else (if p2 = 0 then some ((q40 + 1000), f_lowering_x, f_lowering_y, f_lowering_steps, f_lowering_metLetter) else some ((q53 + 1000), f_lowering_x, f_lowering_y, f_lowering_steps, f_lowering_metLetter)))))))))) : Option (Int32 × Int32 × Int32 × Int32 × Int32)) = some o := hf
  refine lv_iload_n hx hb dX8_noted_0 rfl (lv_at hl 1 rfl) ?_
  refine lv_iconst (v := 0) hx hb dX8_noted_1 (by decide) ?_
  refine lv_aload_n hx hb dX8_noted_2 rfl (lv_at hl 0 rfl) ?_
  refine va_get (D := G) (ci := 8) (v := .ref q_now) (C := RX8) (T := TX8) (N := 9) hx hb htA lyX8 hown hK hP 0 rfl rfl 0 (by decide) (htA _ a_fl_X8_14) (fun _ h9 => h9) rfl dX8_noted_3 ?_
  refine va_getN (D := G) (ci := 6) (v := .ref q_now_notes) (C := RX6) (T := TX6) (N := 5) hx hb htA lyX6 hown hK hP 1 rfl rfl 1 (by decide) (u_link hN (List.mem_of_getElem? (i := 7) rfl)) (fun _ h9 => h9) rfl dX8_noted_6 ?_
  obtain ⟨q9, h9_41, hf⟩ := bd_s hf
  refine u_calliR (va_runV (As := []) (rest := [.int 0, .int p1]) ⟨hx, hb, hml, hown, htA⟩ (kX4_size l G cy q_now_notes q_now_notes_cells s.heap.size f_now_notes_limit f_now_notes_used h9_41) (u_cwV htA a_ml_X8_109 pk_X4_size ⟨Nat.le_of_ble_eq_true rfl, Nat.le_of_ble_eq_true rfl⟩) (u_preV hK hN hP hD [3] rfl (by decide) 3 rfl rfl) rfl rfl hl.1 rfl (lv_room (Nat.le_of_ble_eq_true rfl)) dX8_noted_9 ⟨Nat.zero_le _, Nat.zero_le _⟩) hP hD hS hA [3] rfl (fun H locs hP hS => ?_)
  refine lv_iconst (v := 1) hx hb dX8_noted_12 (by decide) ?_
  refine lv_isub hx hb dX8_noted_13 ?_
  obtain ⟨q14, h14_42, hf⟩ := bd_s hf
  refine u_calliR (va_runS (As := [.int p1, .int 0, .int (q9 - 1)]) (rest := []) ⟨hx, hb, hml, hown, htA⟩ (kX8_isIn l G cy H.size p1 0 (q9 - 1) h14_42) (u_cwS htA a_ml_X8_69 pk_X8_isIn ⟨Nat.le_of_ble_eq_true rfl, Nat.le_of_ble_eq_true rfl⟩) (u_preS hK hN hP hD [] rfl (by decide)) rfl rfl hl.1 rfl (lv_room (Nat.le_of_ble_eq_true rfl)) dX8_noted_14 ⟨Nat.zero_le _, Nat.zero_le _⟩) hP hD hS hA [] rfl (fun H locs hP hS => ?_)
  refine lv_if_eq (tgt := 29) hx hb dX8_noted_17 (by decide) (fun c_43 => ?_) (fun c_43 => ?_)
  · have hf := ite_t c_43 hf
    refine lv_iconst (v := (-1)) hx hb dX8_noted_29 (by decide) ?_
    have ho := Option.some.inj hf
    subst ho
    exact W.iret (v := (-1)) hx hb hr (fun t ht hW => ⟨⟨_, (), rfl, rfl, by rw [ht]; exact hP, va_K.moved hW.alike hK, hD⟩, hS.F ht⟩) hS.2.2 dX8_noted_30
  · have hf := ite_f c_43 hf
    refine lv_iload_n hx hb dX8_noted_20 rfl (lv_at hl 2 rfl) ?_
    refine lv_iconst (v := 0) hx hb dX8_noted_21 (by decide) ?_
    refine lv_iconst (v := 2) hx hb dX8_noted_22 (by decide) ?_
    obtain ⟨q23, h23_44, hf⟩ := bd_s hf
    refine u_calliR (va_runS (As := [.int p2, .int 0, .int 2]) (rest := []) ⟨hx, hb, hml, hown, htA⟩ (kX8_isIn l G cy H.size p2 0 2 h23_44) (u_cwS htA a_ml_X8_69 pk_X8_isIn ⟨Nat.le_of_ble_eq_true rfl, Nat.le_of_ble_eq_true rfl⟩) (u_preS hK hN hP hD [] rfl (by decide)) rfl rfl hl.1 rfl (lv_room (Nat.le_of_ble_eq_true rfl)) dX8_noted_23 ⟨Nat.zero_le _, Nat.zero_le _⟩) hP hD hS hA [] rfl (fun H locs hP hS => ?_)
    refine lv_if_ne (tgt := 31) hx hb dX8_noted_26 (by decide) (fun c_45 => ?_) (fun c_45 => ?_)
    · have hf := ite_f c_45 hf
      refine lv_aload_n hx hb dX8_noted_31 rfl (lv_at hl 0 rfl) ?_
      refine va_get (D := G) (ci := 8) (v := .ref q_now) (C := RX8) (T := TX8) (N := 9) hx hb htA lyX8 hown hK hP 0 rfl rfl 0 (by decide) (htA _ a_fl_X8_14) (fun _ h9 => h9) rfl dX8_noted_32 ?_
      refine va_getN (D := G) (ci := 6) (v := .ref q_now_notes) (C := RX6) (T := TX6) (N := 5) hx hb htA lyX6 hown hK hP 1 rfl rfl 1 (by decide) (u_link hN (List.mem_of_getElem? (i := 7) rfl)) (fun _ h9 => h9) rfl dX8_noted_35 ?_
      refine lv_iload_n hx hb dX8_noted_38 rfl (lv_at hl 1 rfl) ?_
      refine lv_iconst (v := 0) hx hb dX8_noted_39 (by decide) ?_
      obtain ⟨q40, h40_46, hf⟩ := bd_s hf
      refine u_calliR (va_runV (As := [.int p1, .int 0]) (rest := []) ⟨hx, hb, hml, hown, htA⟩ (kX4_cell l G cy q_now_notes q_now_notes_cells H.size n_now_notes_cells f_now_notes_limit f_now_notes_used f_now_notes_cells p1 0 h40_46) (u_cwV htA a_ml_X8_114 pk_X4_cell ⟨Nat.le_of_ble_eq_true rfl, Nat.le_of_ble_eq_true rfl⟩) (u_preV hK hN hP hD [3, 4] rfl (by decide) 3 rfl rfl) rfl rfl hl.1 rfl (lv_room (Nat.le_of_ble_eq_true rfl)) dX8_noted_40 ⟨Nat.zero_le _, Nat.zero_le _⟩) hP hD hS hA [3, 4] rfl (fun H locs hP hS => ?_)
      refine lv_istore_n (lv' := [(3, .int q40), (0, .ref q_this), (1, .int p1), (2, .int p2)]) hx hb dX8_noted_43 rfl hl (by decide) rfl (fun ls hl => ?_)
      refine lv_aload_n hx hb dX8_noted_44 rfl (lv_at hl 1 rfl) ?_
      refine va_get (D := G) (ci := 8) (v := .ref q_now) (C := RX8) (T := TX8) (N := 9) hx hb htA lyX8 hown hK hP 0 rfl rfl 0 (by decide) (htA _ a_fl_X8_14) (fun _ h9 => h9) rfl dX8_noted_45 ?_
      refine va_getN (D := G) (ci := 6) (v := .ref q_now_notes) (C := RX6) (T := TX6) (N := 5) hx hb htA lyX6 hown hK hP 1 rfl rfl 1 (by decide) (u_link hN (List.mem_of_getElem? (i := 7) rfl)) (fun _ h9 => h9) rfl dX8_noted_48 ?_
      refine lv_iload_n hx hb dX8_noted_51 rfl (lv_at hl 2 rfl) ?_
      refine lv_iconst (v := 1) hx hb dX8_noted_52 (by decide) ?_
      obtain ⟨q53, h53_47, hf⟩ := bd_s hf
      refine u_calliR (va_runV (As := [.int p1, .int 1]) (rest := []) ⟨hx, hb, hml, hown, htA⟩ (kX4_cell l G cy q_now_notes q_now_notes_cells H.size n_now_notes_cells f_now_notes_limit f_now_notes_used f_now_notes_cells p1 1 h53_47) (u_cwV htA a_ml_X8_114 pk_X4_cell ⟨Nat.le_of_ble_eq_true rfl, Nat.le_of_ble_eq_true rfl⟩) (u_preV hK hN hP hD [3, 4] rfl (by decide) 3 rfl rfl) rfl rfl hl.1 rfl (lv_room (Nat.le_of_ble_eq_true rfl)) dX8_noted_53 ⟨Nat.zero_le _, Nat.zero_le _⟩) hP hD hS hA [3, 4] rfl (fun H locs hP hS => ?_)
      refine lv_istore (lv' := [(4, .int q53), (3, .int q40), (0, .ref q_this), (1, .int p1), (2, .int p2)]) hx hb dX8_noted_56 hl (by decide) rfl (fun ls hl => ?_)
      refine lv_iload_n hx hb dX8_noted_58 rfl (lv_at hl 4 rfl) ?_
      refine lv_iconst (v := 2) hx hb dX8_noted_59 (by decide) ?_
      refine lv_icmp_ne (tgt := 71) hx hb dX8_noted_60 (by decide) (fun c_48 => ?_) (fun c_48 => ?_)
      · have hf := ite_f c_48 hf
        refine lv_iload_n hx hb dX8_noted_71 rfl (lv_at hl 4 rfl) ?_
        refine lv_if_ne (tgt := 79) hx hb dX8_noted_72 (by decide) (fun c_49 => ?_) (fun c_49 => ?_)
        · have hf := ite_f c_49 hf
          refine lv_iload hx hb dX8_noted_79 (lv_at hl 0 rfl) ?_
          refine lv_sipush (v := 1000) hx hb dX8_noted_81 (by decide) ?_
          refine lv_iadd hx hb dX8_noted_84 ?_
          have ho := Option.some.inj hf
          subst ho
          exact W.iret (v := (q53 + 1000)) hx hb hr (fun t ht hW => ⟨⟨_, (), rfl, rfl, by rw [ht]; exact hP, va_K.moved hW.alike hK, hD⟩, hS.F ht⟩) hS.2.2 dX8_noted_85
        · have hf := ite_t c_49 hf
          refine lv_iload_n hx hb dX8_noted_75 rfl (lv_at hl 1 rfl) ?_
          refine lv_goto (tgt := 81) hx hb dX8_noted_76 (by decide) ?_
          refine lv_sipush (v := 1000) hx hb dX8_noted_81 (by decide) ?_
          refine lv_iadd hx hb dX8_noted_84 ?_
          have ho := Option.some.inj hf
          subst ho
          exact W.iret (v := (q40 + 1000)) hx hb hr (fun t ht hW => ⟨⟨_, (), rfl, rfl, by rw [ht]; exact hP, va_K.moved hW.alike hK, hD⟩, hS.F ht⟩) hS.2.2 dX8_noted_85
      · have hf := ite_t c_48 hf
        refine lv_aload_n hx hb dX8_noted_63 rfl (lv_at hl 2 rfl) ?_
        refine lv_iload_n hx hb dX8_noted_64 rfl (lv_at hl 1 rfl) ?_
        refine lv_iload hx hb dX8_noted_65 (lv_at hl 0 rfl) ?_
        obtain ⟨q67, h67_50, hf⟩ := bd_s hf
        refine u_calli [(q_this, .inr (8, [.ref q_now, .ref q_saved, .int f_imaged, .ref q_trial, .ref q_lowering, .ref q_counts, .ref q_expansion, .ref q_setUp, .ref q_tapes])), (q_now, .inr (6, [.ref q_now_ground, .ref q_now_notes, .ref q_now_seen, .ref q_now_events, .ref q_now_book])), (q_now_ground, .inr (2, [.int f_now_ground_a, .int f_now_ground_b, .int f_now_ground_x, .int f_now_ground_y])), (q_now_notes, .inr (4, [.int f_now_notes_limit, .ref q_now_notes_cells, .int f_now_notes_used])), (q_now_notes_cells, .inl (cy 0, n_now_notes_cells, .inl f_now_notes_cells)), (q_lowering, .inr (3, [.int q67.2.1, .int q67.2.2.1, .int q67.2.2.2.1, .int q67.2.2.2.2]))] (va_runV (As := [.int q40, .int q53]) (rest := []) ⟨hx, hb, hml, hown, htA⟩ (kX8_sortNow l G cy q_this q_now q_saved q_trial q_lowering q_counts q_expansion q_setUp q_tapes q_now_ground q_now_notes q_now_seen q_now_events q_now_book H.size f_imaged f_now_ground_a f_now_ground_b f_now_ground_x f_now_ground_y f_lowering_x f_lowering_y f_lowering_steps f_lowering_metLetter q40 q53 n h67_50) (u_cwV htA a_ml_X8_97 pk_X8_sortNow ⟨Nat.le_of_ble_eq_true rfl, Nat.le_of_ble_eq_true rfl⟩) (u_preV hK hN hP hD [0, 1, 2, 5] rfl (by decide) 0 rfl rfl) rfl rfl hl.1 rfl (lv_room (Nat.le_of_ble_eq_true rfl)) dX8_noted_67 ⟨Nat.zero_le _, Nat.zero_le _⟩) hP hD hS hA [0, 1, 2, 5] rfl [3, 4] 6 rfl rfl rfl (by decide) rfl (fun H locs hP hD hS => ?_)
        have ho := Option.some.inj hf
        subst ho
        exact W.iret (v := q67.1) hx hb hr (fun t ht hW => ⟨⟨_, (), rfl, rfl, by rw [ht]; exact hP, va_K.moved hW.alike hK, hD⟩, hS.F ht⟩) hS.2.2 dX8_noted_70
    · have hf := ite_t c_45 hf
      refine lv_iconst (v := (-1)) hx hb dX8_noted_29 (by decide) ?_
      have ho := Option.some.inj hf
      subst ho
      exact W.iret (v := (-1)) hx hb hr (fun t ht hW => ⟨⟨_, (), rfl, rfl, by rw [ht]; exact hP, va_K.moved hW.alike hK, hD⟩, hS.F ht⟩) hS.2.2 dX8_noted_30
set_option maxRecDepth 100000 in
set_option maxHeartbeats 4000000 in
theorem kX8_norm (l : Launch) (G : va_G) (cy : Nat → ClassId) (q_this : Nat) (q_now : Nat) (q_saved : Nat) (q_trial : Nat) (q_lowering : Nat) (q_counts : Nat) (q_expansion : Nat) (q_setUp : Nat) (q_tapes : Nat) (q_now_ground : Nat) (q_now_notes : Nat) (q_now_seen : Nat) (q_now_events : Nat) (q_now_book : Nat) (sz : Nat) (f_imaged : Int32) (f_now_ground_a : Int32) (f_now_ground_b : Int32) (f_now_ground_x : Int32) (f_now_ground_y : Int32) (p1 : Int32) (p2 : Int32) {o : Int64} (hf : fX8_norm p1 p2 f_now_ground_a f_now_ground_b = some o) : Met l yX8_norm (Cond.code yX8_norm cX8_norm 3 (some .long) :: AW) ({ frames := 2, cells := 0, slots := 0, locals := 52 } : Room) (va_Pc [.ref q_this, .int p1, .int p2] (Wp G cy [(q_this, .inr (8, [.ref q_now, .ref q_saved, .int f_imaged, .ref q_trial, .ref q_lowering, .ref q_counts, .ref q_expansion, .ref q_setUp, .ref q_tapes])), (q_now, .inr (6, [.ref q_now_ground, .ref q_now_notes, .ref q_now_seen, .ref q_now_events, .ref q_now_book])), (q_now_ground, .inr (2, [.int f_now_ground_a, .int f_now_ground_b, .int f_now_ground_x, .int f_now_ground_y]))] sz)) (va_Ql (fun r (_ : Unit) => r = o) (fun _ => Wq G cy (va_A [(q_this, .inr (8, [.ref q_now, .ref q_saved, .int f_imaged, .ref q_trial, .ref q_lowering, .ref q_counts, .ref q_expansion, .ref q_setUp, .ref q_tapes])), (q_now, .inr (6, [.ref q_now_ground, .ref q_now_notes, .ref q_now_seen, .ref q_now_events, .ref q_now_book])), (q_now_ground, .inr (2, [.int f_now_ground_a, .int f_now_ground_b, .int f_now_ground_x, .int f_now_ground_y]))] sz) [(q_this, .inr (8, [.ref q_now, .ref q_saved, .int f_imaged, .ref q_trial, .ref q_lowering, .ref q_counts, .ref q_expansion, .ref q_setUp, .ref q_tapes])), (q_now, .inr (6, [.ref q_now_ground, .ref q_now_notes, .ref q_now_seen, .ref q_now_events, .ref q_now_book])), (q_now_ground, .inr (2, [.int f_now_ground_a, .int f_now_ground_b, .int f_now_ground_x, .int f_now_ground_y]))]) (va_A [(q_this, .inr (8, [.ref q_now, .ref q_saved, .int f_imaged, .ref q_trial, .ref q_lowering, .ref q_counts, .ref q_expansion, .ref q_setUp, .ref q_tapes])), (q_now, .inr (6, [.ref q_now_ground, .ref q_now_notes, .ref q_now_seen, .ref q_now_events, .ref q_now_book])), (q_now_ground, .inr (2, [.int f_now_ground_a, .int f_now_ground_b, .int f_now_ground_x, .int f_now_ground_y]))] sz)) 0 0 (va_A [(q_this, .inr (8, [.ref q_now, .ref q_saved, .int f_imaged, .ref q_trial, .ref q_lowering, .ref q_counts, .ref q_expansion, .ref q_setUp, .ref q_tapes])), (q_now, .inr (6, [.ref q_now_ground, .ref q_now_notes, .ref q_now_seen, .ref q_now_events, .ref q_now_book])), (q_now_ground, .inr (2, [.int f_now_ground_a, .int f_now_ground_b, .int f_now_ground_x, .int f_now_ground_y]))] sz) := by
  refine Met.ofW (cc := cX8_norm) (maxL := 3) (ret := (some .long)) (by decide) rfl ?_
  intro p e s m args below meth c s₁ B hml hv
  obtain ⟨rfl, hsz, hP, hK, hD0, hN⟩ := hv
  have hx := B.exec
  have hb := B.bytes
  have hr := B.returns
  have htA : ∀ w ∈ AW, w.before _ s = true := fun w h => atoms_spec (ws := Cond.code yX8_norm cX8_norm 3 (some .long) :: AW) B.pre w (List.mem_cons_of_mem _ h)
  have hown : s.vm.findClass RX8 = some m.cls := findClass_of_methodNamed B.named
  have hlocks := B.notSynchronized
  subst hsz
  have hD := hD0.self (sz := s.heap.size)
  generalize hAe : va_A [(q_this, .inr (8, [.ref q_now, .ref q_saved, .int f_imaged, .ref q_trial, .ref q_lowering, .ref q_counts, .ref q_expansion, .ref q_setUp, .ref q_tapes])), (q_now, .inr (6, [.ref q_now_ground, .ref q_now_notes, .ref q_now_seen, .ref q_now_events, .ref q_now_book])), (q_now_ground, .inr (2, [.int f_now_ground_a, .int f_now_ground_b, .int f_now_ground_x, .int f_now_ground_y]))] s.heap.size = A at hD ⊢
  have hA : ∀ q : Nat, s.heap.size ≤ q → A q := fun q h => by rw [← hAe]; exact Or.inr h
  have hS : va_S A s.heap s.heap [] := va_S.rf
  have hl := lv_entry ([.ref q_this, .int p1, .int p2]) (n := 3) (Nat.le_of_ble_eq_true rfl)
  rw [lg_entry_eq]
  generalize (lg_sl ([.ref q_this, .int p1, .int p2]) ++ List.replicate (3 - (lg_sl ([.ref q_this, .int p1, .int p2])).length) Slot.unset).toArray = ls at hl ⊢
  have hl : lv_has ls 3 [(0, .ref q_this), (1, .int p1), (2, .int p2)] := hl
  have hP : va_P G vwCl [(q_this, .inr (8, [.ref q_now, .ref q_saved, .int f_imaged, .ref q_trial, .ref q_lowering, .ref q_counts, .ref q_expansion, .ref q_setUp, .ref q_tapes])), (q_now, .inr (6, [.ref q_now_ground, .ref q_now_notes, .ref q_now_seen, .ref q_now_events, .ref q_now_book])), (q_now_ground, .inr (2, [.int f_now_ground_a, .int f_now_ground_b, .int f_now_ground_x, .int f_now_ground_y]))] s.heap := hP
  have hf : ((fX8_isPlace p1 p2).bind fun q2 => ((if q2 = 0 then some ((-9223372036854775808)) else (fX8_normOf f_now_ground_a f_now_ground_b p1 p2).bind fun q34 => (some (q34)))) : Option (Int64)) = some o := hf
  refine lv_iload_n hx hb dX8_norm_0 rfl (lv_at hl 1 rfl) ?_
  refine lv_iload_n hx hb dX8_norm_1 rfl (lv_at hl 2 rfl) ?_
  obtain ⟨q2, h2_13, hf⟩ := bd_s hf
  refine u_calliR (va_runS (As := [.int p1, .int p2]) (rest := []) ⟨hx, hb, hml, hown, htA⟩ (kX8_isPlace l G cy s.heap.size p1 p2 h2_13) (u_cwS htA a_ml_X8_87 pk_X8_isPlace ⟨Nat.le_of_ble_eq_true rfl, Nat.le_of_ble_eq_true rfl⟩) (u_preS hK hN hP hD [] rfl (by decide)) rfl rfl hl.1 rfl (lv_room (Nat.le_of_ble_eq_true rfl)) dX8_norm_2 ⟨Nat.zero_le _, Nat.zero_le _⟩) hP hD hS hA [] rfl (fun H locs hP hS => ?_)
  refine lv_if_ne (tgt := 12) hx hb dX8_norm_5 (by decide) (fun c_14 => ?_) (fun c_14 => ?_)
  · have hf := ite_f c_14 hf
    refine lv_aload_n hx hb dX8_norm_12 rfl (lv_at hl 0 rfl) ?_
    refine va_get (D := G) (ci := 8) (v := .ref q_now) (C := RX8) (T := TX8) (N := 9) hx hb htA lyX8 hown hK hP 0 rfl rfl 0 (by decide) (htA _ a_fl_X8_14) (fun _ h9 => h9) rfl dX8_norm_13 ?_
    refine va_getN (D := G) (ci := 6) (v := .ref q_now_ground) (C := RX6) (T := TX6) (N := 5) hx hb htA lyX6 hown hK hP 1 rfl rfl 0 (by decide) (u_link hN (List.mem_of_getElem? (i := 6) rfl)) (fun _ h9 => h9) rfl dX8_norm_16 ?_
    refine va_getN (D := G) (ci := 2) (v := .int f_now_ground_a) (C := RX2) (T := TX2) (N := 4) hx hb htA lyX2 hown hK hP 2 rfl rfl 0 (by decide) (u_link hN (List.mem_of_getElem? (i := 2) rfl)) (fun _ h9 => h9) rfl dX8_norm_19 ?_
    refine lv_aload_n hx hb dX8_norm_22 rfl (lv_at hl 0 rfl) ?_
    refine va_get (D := G) (ci := 8) (v := .ref q_now) (C := RX8) (T := TX8) (N := 9) hx hb htA lyX8 hown hK hP 0 rfl rfl 0 (by decide) (htA _ a_fl_X8_14) (fun _ h9 => h9) rfl dX8_norm_23 ?_
    refine va_getN (D := G) (ci := 6) (v := .ref q_now_ground) (C := RX6) (T := TX6) (N := 5) hx hb htA lyX6 hown hK hP 1 rfl rfl 0 (by decide) (u_link hN (List.mem_of_getElem? (i := 6) rfl)) (fun _ h9 => h9) rfl dX8_norm_26 ?_
    refine va_getN (D := G) (ci := 2) (v := .int f_now_ground_b) (C := RX2) (T := TX2) (N := 4) hx hb htA lyX2 hown hK hP 2 rfl rfl 1 (by decide) (u_link hN (List.mem_of_getElem? (i := 3) rfl)) (fun _ h9 => h9) rfl dX8_norm_29 ?_
    refine lv_iload_n hx hb dX8_norm_32 rfl (lv_at hl 1 rfl) ?_
    refine lv_iload_n hx hb dX8_norm_33 rfl (lv_at hl 2 rfl) ?_
    obtain ⟨q34, h34_15, hf⟩ := bd_s hf
    refine u_calllR (va_runS (As := [.int f_now_ground_a, .int f_now_ground_b, .int p1, .int p2]) (rest := []) ⟨hx, hb, hml, hown, htA⟩ (kX8_normOf l G cy H.size f_now_ground_a f_now_ground_b p1 p2 h34_15) (u_cwS htA a_ml_X8_172 pk_X8_normOf ⟨Nat.le_of_ble_eq_true rfl, Nat.le_of_ble_eq_true rfl⟩) (u_preS hK hN hP hD [] rfl (by decide)) rfl rfl hl.1 rfl (lv_room (Nat.le_of_ble_eq_true rfl)) dX8_norm_34 ⟨Nat.zero_le _, Nat.zero_le _⟩) hP hD hS hA [] rfl (fun H locs hP hS => ?_)
    have ho := Option.some.inj hf
    subst ho
    exact W.lret (v := q34) hx hb hr (fun t ht hW => ⟨⟨_, (), rfl, rfl, by rw [ht]; exact hP, va_K.moved hW.alike hK, hD⟩, hS.F ht⟩) hS.2.2 dX8_norm_37
  · have hf := ite_t c_14 hf
    refine lv_ldc2 (v := (-9223372036854775808)) hx hb hown (htA _ a_cl_X8_170) dX8_norm_8 ?_
    have ho := Option.some.inj hf
    subst ho
    exact W.lret (v := (-9223372036854775808)) hx hb hr (fun t ht hW => ⟨⟨_, (), rfl, rfl, by rw [ht]; exact hP, va_K.moved hW.alike hK, hD⟩, hS.F ht⟩) hS.2.2 dX8_norm_11
set_option maxRecDepth 100000 in
set_option maxHeartbeats 4000000 in
theorem kX8_product (l : Launch) (G : va_G) (cy : Nat → ClassId) (q_this : Nat) (q_now : Nat) (q_saved : Nat) (q_trial : Nat) (q_lowering : Nat) (q_counts : Nat) (q_expansion : Nat) (q_setUp : Nat) (q_tapes : Nat) (q_now_ground : Nat) (q_now_notes : Nat) (q_now_seen : Nat) (q_now_events : Nat) (q_now_book : Nat) (sz : Nat) (f_imaged : Int32) (f_now_ground_a : Int32) (f_now_ground_b : Int32) (f_now_ground_x : Int32) (f_now_ground_y : Int32) (p1 : Int32) (p2 : Int32) (p3 : Int32) (p4 : Int32) {o : Int64} (hf : fX8_product p1 p2 p3 p4 f_now_ground_a f_now_ground_b = some o) : Met l yX8_product (Cond.code yX8_product cX8_product 5 (some .long) :: AW) ({ frames := 2, cells := 0, slots := 0, locals := 43 } : Room) (va_Pc [.ref q_this, .int p1, .int p2, .int p3, .int p4] (Wp G cy [(q_this, .inr (8, [.ref q_now, .ref q_saved, .int f_imaged, .ref q_trial, .ref q_lowering, .ref q_counts, .ref q_expansion, .ref q_setUp, .ref q_tapes])), (q_now, .inr (6, [.ref q_now_ground, .ref q_now_notes, .ref q_now_seen, .ref q_now_events, .ref q_now_book])), (q_now_ground, .inr (2, [.int f_now_ground_a, .int f_now_ground_b, .int f_now_ground_x, .int f_now_ground_y]))] sz)) (va_Ql (fun r (_ : Unit) => r = o) (fun _ => Wq G cy (va_A [(q_this, .inr (8, [.ref q_now, .ref q_saved, .int f_imaged, .ref q_trial, .ref q_lowering, .ref q_counts, .ref q_expansion, .ref q_setUp, .ref q_tapes])), (q_now, .inr (6, [.ref q_now_ground, .ref q_now_notes, .ref q_now_seen, .ref q_now_events, .ref q_now_book])), (q_now_ground, .inr (2, [.int f_now_ground_a, .int f_now_ground_b, .int f_now_ground_x, .int f_now_ground_y]))] sz) [(q_this, .inr (8, [.ref q_now, .ref q_saved, .int f_imaged, .ref q_trial, .ref q_lowering, .ref q_counts, .ref q_expansion, .ref q_setUp, .ref q_tapes])), (q_now, .inr (6, [.ref q_now_ground, .ref q_now_notes, .ref q_now_seen, .ref q_now_events, .ref q_now_book])), (q_now_ground, .inr (2, [.int f_now_ground_a, .int f_now_ground_b, .int f_now_ground_x, .int f_now_ground_y]))]) (va_A [(q_this, .inr (8, [.ref q_now, .ref q_saved, .int f_imaged, .ref q_trial, .ref q_lowering, .ref q_counts, .ref q_expansion, .ref q_setUp, .ref q_tapes])), (q_now, .inr (6, [.ref q_now_ground, .ref q_now_notes, .ref q_now_seen, .ref q_now_events, .ref q_now_book])), (q_now_ground, .inr (2, [.int f_now_ground_a, .int f_now_ground_b, .int f_now_ground_x, .int f_now_ground_y]))] sz)) 0 0 (va_A [(q_this, .inr (8, [.ref q_now, .ref q_saved, .int f_imaged, .ref q_trial, .ref q_lowering, .ref q_counts, .ref q_expansion, .ref q_setUp, .ref q_tapes])), (q_now, .inr (6, [.ref q_now_ground, .ref q_now_notes, .ref q_now_seen, .ref q_now_events, .ref q_now_book])), (q_now_ground, .inr (2, [.int f_now_ground_a, .int f_now_ground_b, .int f_now_ground_x, .int f_now_ground_y]))] sz) := by
  refine Met.ofW (cc := cX8_product) (maxL := 5) (ret := (some .long)) (by decide) rfl ?_
  intro p e s m args below meth c s₁ B hml hv
  obtain ⟨rfl, hsz, hP, hK, hD0, hN⟩ := hv
  have hx := B.exec
  have hb := B.bytes
  have hr := B.returns
  have htA : ∀ w ∈ AW, w.before _ s = true := fun w h => atoms_spec (ws := Cond.code yX8_product cX8_product 5 (some .long) :: AW) B.pre w (List.mem_cons_of_mem _ h)
  have hown : s.vm.findClass RX8 = some m.cls := findClass_of_methodNamed B.named
  have hlocks := B.notSynchronized
  subst hsz
  have hD := hD0.self (sz := s.heap.size)
  generalize hAe : va_A [(q_this, .inr (8, [.ref q_now, .ref q_saved, .int f_imaged, .ref q_trial, .ref q_lowering, .ref q_counts, .ref q_expansion, .ref q_setUp, .ref q_tapes])), (q_now, .inr (6, [.ref q_now_ground, .ref q_now_notes, .ref q_now_seen, .ref q_now_events, .ref q_now_book])), (q_now_ground, .inr (2, [.int f_now_ground_a, .int f_now_ground_b, .int f_now_ground_x, .int f_now_ground_y]))] s.heap.size = A at hD ⊢
  have hA : ∀ q : Nat, s.heap.size ≤ q → A q := fun q h => by rw [← hAe]; exact Or.inr h
  have hS : va_S A s.heap s.heap [] := va_S.rf
  have hl := lv_entry ([.ref q_this, .int p1, .int p2, .int p3, .int p4]) (n := 5) (Nat.le_of_ble_eq_true rfl)
  rw [lg_entry_eq]
  generalize (lg_sl ([.ref q_this, .int p1, .int p2, .int p3, .int p4]) ++ List.replicate (5 - (lg_sl ([.ref q_this, .int p1, .int p2, .int p3, .int p4])).length) Slot.unset).toArray = ls at hl ⊢
  have hl : lv_has ls 5 [(0, .ref q_this), (1, .int p1), (2, .int p2), (3, .int p3), (4, .int p4)] := hl
  have hP : va_P G vwCl [(q_this, .inr (8, [.ref q_now, .ref q_saved, .int f_imaged, .ref q_trial, .ref q_lowering, .ref q_counts, .ref q_expansion, .ref q_setUp, .ref q_tapes])), (q_now, .inr (6, [.ref q_now_ground, .ref q_now_notes, .ref q_now_seen, .ref q_now_events, .ref q_now_book])), (q_now_ground, .inr (2, [.int f_now_ground_a, .int f_now_ground_b, .int f_now_ground_x, .int f_now_ground_y]))] s.heap := hP
  have hf : ((fX8_isPlace p1 p2).bind fun q2 => ((if q2 = 0 then some ((-9223372036854775808)) else (fX8_isPlace p3 p4).bind fun q11 => ((if q11 = 0 then some ((-9223372036854775808)) else (fX8_productOf f_now_ground_a f_now_ground_b (Int32.toInt64 p1) (Int32.toInt64 p2) (Int32.toInt64 p3) (Int32.toInt64 p4)).bind fun q50 => (some (q50)))))) : Option (Int64)) = some o := hf
  refine lv_iload_n hx hb dX8_product_0 rfl (lv_at hl 1 rfl) ?_
  refine lv_iload_n hx hb dX8_product_1 rfl (lv_at hl 2 rfl) ?_
  obtain ⟨q2, h2_21, hf⟩ := bd_s hf
  refine u_calliR (va_runS (As := [.int p1, .int p2]) (rest := []) ⟨hx, hb, hml, hown, htA⟩ (kX8_isPlace l G cy s.heap.size p1 p2 h2_21) (u_cwS htA a_ml_X8_87 pk_X8_isPlace ⟨Nat.le_of_ble_eq_true rfl, Nat.le_of_ble_eq_true rfl⟩) (u_preS hK hN hP hD [] rfl (by decide)) rfl rfl hl.1 rfl (lv_room (Nat.le_of_ble_eq_true rfl)) dX8_product_2 ⟨Nat.zero_le _, Nat.zero_le _⟩) hP hD hS hA [] rfl (fun H locs hP hS => ?_)
  refine lv_if_eq (tgt := 17) hx hb dX8_product_5 (by decide) (fun c_22 => ?_) (fun c_22 => ?_)
  · have hf := ite_t c_22 hf
    refine lv_ldc2 (v := (-9223372036854775808)) hx hb hown (htA _ a_cl_X8_170) dX8_product_17 ?_
    have ho := Option.some.inj hf
    subst ho
    exact W.lret (v := (-9223372036854775808)) hx hb hr (fun t ht hW => ⟨⟨_, (), rfl, rfl, by rw [ht]; exact hP, va_K.moved hW.alike hK, hD⟩, hS.F ht⟩) hS.2.2 dX8_product_20
  · have hf := ite_f c_22 hf
    refine lv_iload_n hx hb dX8_product_8 rfl (lv_at hl 3 rfl) ?_
    refine lv_iload hx hb dX8_product_9 (lv_at hl 4 rfl) ?_
    obtain ⟨q11, h11_23, hf⟩ := bd_s hf
    refine u_calliR (va_runS (As := [.int p3, .int p4]) (rest := []) ⟨hx, hb, hml, hown, htA⟩ (kX8_isPlace l G cy H.size p3 p4 h11_23) (u_cwS htA a_ml_X8_87 pk_X8_isPlace ⟨Nat.le_of_ble_eq_true rfl, Nat.le_of_ble_eq_true rfl⟩) (u_preS hK hN hP hD [] rfl (by decide)) rfl rfl hl.1 rfl (lv_room (Nat.le_of_ble_eq_true rfl)) dX8_product_11 ⟨Nat.zero_le _, Nat.zero_le _⟩) hP hD hS hA [] rfl (fun H locs hP hS => ?_)
    refine lv_if_ne (tgt := 21) hx hb dX8_product_14 (by decide) (fun c_24 => ?_) (fun c_24 => ?_)
    · have hf := ite_f c_24 hf
      refine lv_aload_n hx hb dX8_product_21 rfl (lv_at hl 0 rfl) ?_
      refine va_get (D := G) (ci := 8) (v := .ref q_now) (C := RX8) (T := TX8) (N := 9) hx hb htA lyX8 hown hK hP 0 rfl rfl 0 (by decide) (htA _ a_fl_X8_14) (fun _ h9 => h9) rfl dX8_product_22 ?_
      refine va_getN (D := G) (ci := 6) (v := .ref q_now_ground) (C := RX6) (T := TX6) (N := 5) hx hb htA lyX6 hown hK hP 1 rfl rfl 0 (by decide) (u_link hN (List.mem_of_getElem? (i := 6) rfl)) (fun _ h9 => h9) rfl dX8_product_25 ?_
      refine va_getN (D := G) (ci := 2) (v := .int f_now_ground_a) (C := RX2) (T := TX2) (N := 4) hx hb htA lyX2 hown hK hP 2 rfl rfl 0 (by decide) (u_link hN (List.mem_of_getElem? (i := 2) rfl)) (fun _ h9 => h9) rfl dX8_product_28 ?_
      refine lv_aload_n hx hb dX8_product_31 rfl (lv_at hl 0 rfl) ?_
      refine va_get (D := G) (ci := 8) (v := .ref q_now) (C := RX8) (T := TX8) (N := 9) hx hb htA lyX8 hown hK hP 0 rfl rfl 0 (by decide) (htA _ a_fl_X8_14) (fun _ h9 => h9) rfl dX8_product_32 ?_
      refine va_getN (D := G) (ci := 6) (v := .ref q_now_ground) (C := RX6) (T := TX6) (N := 5) hx hb htA lyX6 hown hK hP 1 rfl rfl 0 (by decide) (u_link hN (List.mem_of_getElem? (i := 6) rfl)) (fun _ h9 => h9) rfl dX8_product_35 ?_
      refine va_getN (D := G) (ci := 2) (v := .int f_now_ground_b) (C := RX2) (T := TX2) (N := 4) hx hb htA lyX2 hown hK hP 2 rfl rfl 1 (by decide) (u_link hN (List.mem_of_getElem? (i := 3) rfl)) (fun _ h9 => h9) rfl dX8_product_38 ?_
      refine lv_iload_n hx hb dX8_product_41 rfl (lv_at hl 1 rfl) ?_
      refine lv_i2l hx hb dX8_product_42 rfl ?_
      refine lv_iload_n hx hb dX8_product_43 rfl (lv_at hl 2 rfl) ?_
      refine lv_i2l hx hb dX8_product_44 rfl ?_
      refine lv_iload_n hx hb dX8_product_45 rfl (lv_at hl 3 rfl) ?_
      refine lv_i2l hx hb dX8_product_46 rfl ?_
      refine lv_iload hx hb dX8_product_47 (lv_at hl 4 rfl) ?_
      refine lv_i2l hx hb dX8_product_49 rfl ?_
      obtain ⟨q50, h50_25, hf⟩ := bd_s hf
      refine u_calllR (va_runS (As := [.int f_now_ground_a, .int f_now_ground_b, .long (Int32.toInt64 p1), .long (Int32.toInt64 p2), .long (Int32.toInt64 p3), .long (Int32.toInt64 p4)]) (rest := []) ⟨hx, hb, hml, hown, htA⟩ (kX8_productOf l G cy H.size f_now_ground_a f_now_ground_b (Int32.toInt64 p1) (Int32.toInt64 p2) (Int32.toInt64 p3) (Int32.toInt64 p4) h50_25) (u_cwS htA a_ml_X8_176 pk_X8_productOf ⟨Nat.le_of_ble_eq_true rfl, Nat.le_of_ble_eq_true rfl⟩) (u_preS hK hN hP hD [] rfl (by decide)) rfl rfl hl.1 rfl (lv_room (Nat.le_of_ble_eq_true rfl)) dX8_product_50 ⟨Nat.zero_le _, Nat.zero_le _⟩) hP hD hS hA [] rfl (fun H locs hP hS => ?_)
      have ho := Option.some.inj hf
      subst ho
      exact W.lret (v := q50) hx hb hr (fun t ht hW => ⟨⟨_, (), rfl, rfl, by rw [ht]; exact hP, va_K.moved hW.alike hK, hD⟩, hS.F ht⟩) hS.2.2 dX8_product_53
    · have hf := ite_t c_24 hf
      refine lv_ldc2 (v := (-9223372036854775808)) hx hb hown (htA _ a_cl_X8_170) dX8_product_17 ?_
      have ho := Option.some.inj hf
      subst ho
      exact W.lret (v := (-9223372036854775808)) hx hb hr (fun t ht hW => ⟨⟨_, (), rfl, rfl, by rw [ht]; exact hP, va_K.moved hW.alike hK, hD⟩, hS.F ht⟩) hS.2.2 dX8_product_20
