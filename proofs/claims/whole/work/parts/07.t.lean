def fX8_isIn (p0 : Int32) (p1 : Int32) (p2 : Int32) : Option (Int32) := (if p0 < p1 then some (0) else (if p2 < p0 then some (0) else some (1)))
set_option maxRecDepth 100000 in
theorem kX8_isIn (l : Launch) (G : va_G) (cy : Nat → ClassId) (sz : Nat) (p0 : Int32) (p1 : Int32) (p2 : Int32) {o : Int32} (hf : fX8_isIn p0 p1 p2 = some o) : Met l yX8_isIn (Cond.code yX8_isIn cX8_isIn 3 (some .boolean) :: AW) ({ frames := 0, cells := 0, slots := 0, locals := 0 } : Room) (va_Pc [.int p0, .int p1, .int p2] (Wp G cy [] sz)) (va_Qi (fun r (_ : Unit) => r = o) (fun _ => Wq G cy (va_A [] sz) []) (va_A [] sz)) 0 0 (va_A [] sz) := by
  refine Met.ofW (cc := cX8_isIn) (maxL := 3) (ret := (some .boolean)) (by decide) rfl ?_
  intro p e s m args below meth c s₁ B hml hv
  obtain ⟨rfl, hsz, hP, hK, hD0, hN⟩ := hv
  have hx := B.exec
  have hb := B.bytes
  have hr := B.returns
  have htA : ∀ w ∈ AW, w.before _ s = true := fun w h => atoms_spec (ws := Cond.code yX8_isIn cX8_isIn 3 (some .boolean) :: AW) B.pre w (List.mem_cons_of_mem _ h)
  have hown : s.vm.findClass RX8 = some m.cls := findClass_of_methodNamed B.named
  have hlocks := B.notSynchronized
  subst hsz
  have hD := hD0.self (sz := s.heap.size)
  generalize hAe : va_A [] s.heap.size = A at hD ⊢
  have hA : ∀ q : Nat, s.heap.size ≤ q → A q := fun q h => by rw [← hAe]; exact Or.inr h
  have hS : va_S A s.heap s.heap [] := va_S.rf
  have hl := lv_entry ([.int p0, .int p1, .int p2]) (n := 3) (Nat.le_of_ble_eq_true rfl)
  rw [lg_entry_eq]
  generalize (lg_sl ([.int p0, .int p1, .int p2]) ++ List.replicate (3 - (lg_sl ([.int p0, .int p1, .int p2])).length) Slot.unset).toArray = ls at hl ⊢
  have hl : lv_has ls 3 [(0, .int p0), (1, .int p1), (2, .int p2)] := hl
  have hP : va_P G vwCl [] s.heap := hP
  have hf : ((if p0 < p1 then some (0) else (if p2 < p0 then some (0) else some (1))) : Option (Int32)) = some o := hf
  refine lv_iload_n hx hb dX8_isIn_0 rfl (lv_at hl 0 rfl) ?_
  refine lv_iload_n hx hb dX8_isIn_1 rfl (lv_at hl 1 rfl) ?_
  refine lv_icmp_lt (tgt := 14) hx hb dX8_isIn_2 (by decide) (fun c_9 => ?_) (fun c_9 => ?_)
  · have hf := ite_t c_9 hf
    refine lv_iconst (v := 0) hx hb dX8_isIn_14 (by decide) ?_
    have ho := Option.some.inj hf
    subst ho
    exact W.zret (v := 0) hx hb hr rfl (fun t ht hW => ⟨⟨_, (), rfl, rfl, by rw [ht]; exact hP, va_K.moved hW.alike hK, hD⟩, hS.F ht⟩) hS.2.2 dX8_isIn_15
  · have hf := ite_f c_9 hf
    refine lv_iload_n hx hb dX8_isIn_5 rfl (lv_at hl 0 rfl) ?_
    refine lv_iload_n hx hb dX8_isIn_6 rfl (lv_at hl 2 rfl) ?_
    refine lv_icmp_gt (tgt := 14) hx hb dX8_isIn_7 (by decide) (fun c_10 => ?_) (fun c_10 => ?_)
    · have hf := ite_t c_10 hf
      refine lv_iconst (v := 0) hx hb dX8_isIn_14 (by decide) ?_
      have ho := Option.some.inj hf
      subst ho
      exact W.zret (v := 0) hx hb hr rfl (fun t ht hW => ⟨⟨_, (), rfl, rfl, by rw [ht]; exact hP, va_K.moved hW.alike hK, hD⟩, hS.F ht⟩) hS.2.2 dX8_isIn_15
    · have hf := ite_f c_10 hf
      refine lv_iconst (v := 1) hx hb dX8_isIn_10 (by decide) ?_
      refine lv_goto (tgt := 15) hx hb dX8_isIn_11 (by decide) ?_
      have ho := Option.some.inj hf
      subst ho
      exact W.zret (v := 1) hx hb hr rfl (fun t ht hW => ⟨⟨_, (), rfl, rfl, by rw [ht]; exact hP, va_K.moved hW.alike hK, hD⟩, hS.F ht⟩) hS.2.2 dX8_isIn_15
def fX8_isPlace (p0 : Int32) (p1 : Int32) : Option (Int32) := (fX8_isIn p0 (-999) 999).bind fun q7 => ((if q7 = 0 then some (0) else (fX8_isIn p1 (-999) 999).bind fun q20 => ((if q20 = 0 then some (0) else some (1)))))
set_option maxRecDepth 100000 in
theorem kX8_isPlace (l : Launch) (G : va_G) (cy : Nat → ClassId) (sz : Nat) (p0 : Int32) (p1 : Int32) {o : Int32} (hf : fX8_isPlace p0 p1 = some o) : Met l yX8_isPlace (Cond.code yX8_isPlace cX8_isPlace 2 (some .boolean) :: AW) ({ frames := 1, cells := 0, slots := 0, locals := 22 } : Room) (va_Pc [.int p0, .int p1] (Wp G cy [] sz)) (va_Qi (fun r (_ : Unit) => r = o) (fun _ => Wq G cy (va_A [] sz) []) (va_A [] sz)) 0 0 (va_A [] sz) := by
  refine Met.ofW (cc := cX8_isPlace) (maxL := 2) (ret := (some .boolean)) (by decide) rfl ?_
  intro p e s m args below meth c s₁ B hml hv
  obtain ⟨rfl, hsz, hP, hK, hD0, hN⟩ := hv
  have hx := B.exec
  have hb := B.bytes
  have hr := B.returns
  have htA : ∀ w ∈ AW, w.before _ s = true := fun w h => atoms_spec (ws := Cond.code yX8_isPlace cX8_isPlace 2 (some .boolean) :: AW) B.pre w (List.mem_cons_of_mem _ h)
  have hown : s.vm.findClass RX8 = some m.cls := findClass_of_methodNamed B.named
  have hlocks := B.notSynchronized
  subst hsz
  have hD := hD0.self (sz := s.heap.size)
  generalize hAe : va_A [] s.heap.size = A at hD ⊢
  have hA : ∀ q : Nat, s.heap.size ≤ q → A q := fun q h => by rw [← hAe]; exact Or.inr h
  have hS : va_S A s.heap s.heap [] := va_S.rf
  have hl := lv_entry ([.int p0, .int p1]) (n := 2) (Nat.le_of_ble_eq_true rfl)
  rw [lg_entry_eq]
  generalize (lg_sl ([.int p0, .int p1]) ++ List.replicate (2 - (lg_sl ([.int p0, .int p1])).length) Slot.unset).toArray = ls at hl ⊢
  have hl : lv_has ls 2 [(0, .int p0), (1, .int p1)] := hl
  have hP : va_P G vwCl [] s.heap := hP
  have hf : ((fX8_isIn p0 (-999) 999).bind fun q7 => ((if q7 = 0 then some (0) else (fX8_isIn p1 (-999) 999).bind fun q20 => ((if q20 = 0 then some (0) else some (1))))) : Option (Int32)) = some o := hf
  refine lv_iload_n hx hb dX8_isPlace_0 rfl (lv_at hl 0 rfl) ?_
  refine lv_sipush (v := (-999)) hx hb dX8_isPlace_1 (by decide) ?_
  refine lv_sipush (v := 999) hx hb dX8_isPlace_4 (by decide) ?_
  obtain ⟨q7, h7_17, hf⟩ := bd_s hf
  refine u_calliR (va_runS (As := [.int p0, .int (-999), .int 999]) (rest := []) ⟨hx, hb, hml, hown, htA⟩ (kX8_isIn l G cy s.heap.size p0 (-999) 999 h7_17) (u_cwS htA a_ml_X8_69 pk_X8_isIn ⟨Nat.le_of_ble_eq_true rfl, Nat.le_of_ble_eq_true rfl⟩) (u_preS hK hN hP hD [] rfl (by decide)) rfl rfl hl.1 rfl (lv_room (Nat.le_of_ble_eq_true rfl)) dX8_isPlace_7 ⟨Nat.zero_le _, Nat.zero_le _⟩) hP hD hS hA [] rfl (fun H locs hP hS => ?_)
  refine lv_if_eq (tgt := 30) hx hb dX8_isPlace_10 (by decide) (fun c_18 => ?_) (fun c_18 => ?_)
  · have hf := ite_t c_18 hf
    refine lv_iconst (v := 0) hx hb dX8_isPlace_30 (by decide) ?_
    have ho := Option.some.inj hf
    subst ho
    exact W.zret (v := 0) hx hb hr rfl (fun t ht hW => ⟨⟨_, (), rfl, rfl, by rw [ht]; exact hP, va_K.moved hW.alike hK, hD⟩, hS.F ht⟩) hS.2.2 dX8_isPlace_31
  · have hf := ite_f c_18 hf
    refine lv_iload_n hx hb dX8_isPlace_13 rfl (lv_at hl 1 rfl) ?_
    refine lv_sipush (v := (-999)) hx hb dX8_isPlace_14 (by decide) ?_
    refine lv_sipush (v := 999) hx hb dX8_isPlace_17 (by decide) ?_
    obtain ⟨q20, h20_19, hf⟩ := bd_s hf
    refine u_calliR (va_runS (As := [.int p1, .int (-999), .int 999]) (rest := []) ⟨hx, hb, hml, hown, htA⟩ (kX8_isIn l G cy H.size p1 (-999) 999 h20_19) (u_cwS htA a_ml_X8_69 pk_X8_isIn ⟨Nat.le_of_ble_eq_true rfl, Nat.le_of_ble_eq_true rfl⟩) (u_preS hK hN hP hD [] rfl (by decide)) rfl rfl hl.1 rfl (lv_room (Nat.le_of_ble_eq_true rfl)) dX8_isPlace_20 ⟨Nat.zero_le _, Nat.zero_le _⟩) hP hD hS hA [] rfl (fun H locs hP hS => ?_)
    refine lv_if_eq (tgt := 30) hx hb dX8_isPlace_23 (by decide) (fun c_20 => ?_) (fun c_20 => ?_)
    · have hf := ite_t c_20 hf
      refine lv_iconst (v := 0) hx hb dX8_isPlace_30 (by decide) ?_
      have ho := Option.some.inj hf
      subst ho
      exact W.zret (v := 0) hx hb hr rfl (fun t ht hW => ⟨⟨_, (), rfl, rfl, by rw [ht]; exact hP, va_K.moved hW.alike hK, hD⟩, hS.F ht⟩) hS.2.2 dX8_isPlace_31
    · have hf := ite_f c_20 hf
      refine lv_iconst (v := 1) hx hb dX8_isPlace_26 (by decide) ?_
      refine lv_goto (tgt := 31) hx hb dX8_isPlace_27 (by decide) ?_
      have ho := Option.some.inj hf
      subst ho
      exact W.zret (v := 1) hx hb hr rfl (fun t ht hW => ⟨⟨_, (), rfl, rfl, by rw [ht]; exact hP, va_K.moved hW.alike hK, hD⟩, hS.F ht⟩) hS.2.2 dX8_isPlace_31
def fX8_isSmall (p0 : Int32) (p1 : Int32) : Option (Int32) := (if p0 < 0 then some (0) else (if 12 < p0 then some (0) else (if p1 < 0 then some (0) else (if 12 < p1 then some (0) else (if 12 < (p0 + p1) then some (0) else some (1))))))
set_option maxRecDepth 100000 in
theorem kX8_isSmall (l : Launch) (G : va_G) (cy : Nat → ClassId) (sz : Nat) (p0 : Int32) (p1 : Int32) {o : Int32} (hf : fX8_isSmall p0 p1 = some o) : Met l yX8_isSmall (Cond.code yX8_isSmall cX8_isSmall 2 (some .boolean) :: AW) ({ frames := 0, cells := 0, slots := 0, locals := 0 } : Room) (va_Pc [.int p0, .int p1] (Wp G cy [] sz)) (va_Qi (fun r (_ : Unit) => r = o) (fun _ => Wq G cy (va_A [] sz) []) (va_A [] sz)) 0 0 (va_A [] sz) := by
  refine Met.ofW (cc := cX8_isSmall) (maxL := 2) (ret := (some .boolean)) (by decide) rfl ?_
  intro p e s m args below meth c s₁ B hml hv
  obtain ⟨rfl, hsz, hP, hK, hD0, hN⟩ := hv
  have hx := B.exec
  have hb := B.bytes
  have hr := B.returns
  have htA : ∀ w ∈ AW, w.before _ s = true := fun w h => atoms_spec (ws := Cond.code yX8_isSmall cX8_isSmall 2 (some .boolean) :: AW) B.pre w (List.mem_cons_of_mem _ h)
  have hown : s.vm.findClass RX8 = some m.cls := findClass_of_methodNamed B.named
  have hlocks := B.notSynchronized
  subst hsz
  have hD := hD0.self (sz := s.heap.size)
  generalize hAe : va_A [] s.heap.size = A at hD ⊢
  have hA : ∀ q : Nat, s.heap.size ≤ q → A q := fun q h => by rw [← hAe]; exact Or.inr h
  have hS : va_S A s.heap s.heap [] := va_S.rf
  have hl := lv_entry ([.int p0, .int p1]) (n := 2) (Nat.le_of_ble_eq_true rfl)
  rw [lg_entry_eq]
  generalize (lg_sl ([.int p0, .int p1]) ++ List.replicate (2 - (lg_sl ([.int p0, .int p1])).length) Slot.unset).toArray = ls at hl ⊢
  have hl : lv_has ls 2 [(0, .int p0), (1, .int p1)] := hl
  have hP : va_P G vwCl [] s.heap := hP
  have hf : ((if p0 < 0 then some (0) else (if 12 < p0 then some (0) else (if p1 < 0 then some (0) else (if 12 < p1 then some (0) else (if 12 < (p0 + p1) then some (0) else some (1)))))) : Option (Int32)) = some o := hf
  refine lv_iload_n hx hb dX8_isSmall_0 rfl (lv_at hl 0 rfl) ?_
  refine lv_if_lt (tgt := 32) hx hb dX8_isSmall_1 (by decide) (fun c_21 => ?_) (fun c_21 => ?_)
  · have hf := ite_t c_21 hf
    refine lv_iconst (v := 0) hx hb dX8_isSmall_32 (by decide) ?_
    have ho := Option.some.inj hf
    subst ho
    exact W.zret (v := 0) hx hb hr rfl (fun t ht hW => ⟨⟨_, (), rfl, rfl, by rw [ht]; exact hP, va_K.moved hW.alike hK, hD⟩, hS.F ht⟩) hS.2.2 dX8_isSmall_33
  · have hf := ite_f c_21 hf
    refine lv_iload_n hx hb dX8_isSmall_4 rfl (lv_at hl 0 rfl) ?_
    refine lv_bipush (v := 12) hx hb dX8_isSmall_5 (by decide) ?_
    refine lv_icmp_gt (tgt := 32) hx hb dX8_isSmall_7 (by decide) (fun c_22 => ?_) (fun c_22 => ?_)
    · have hf := ite_t c_22 hf
      refine lv_iconst (v := 0) hx hb dX8_isSmall_32 (by decide) ?_
      have ho := Option.some.inj hf
      subst ho
      exact W.zret (v := 0) hx hb hr rfl (fun t ht hW => ⟨⟨_, (), rfl, rfl, by rw [ht]; exact hP, va_K.moved hW.alike hK, hD⟩, hS.F ht⟩) hS.2.2 dX8_isSmall_33
    · have hf := ite_f c_22 hf
      refine lv_iload_n hx hb dX8_isSmall_10 rfl (lv_at hl 1 rfl) ?_
      refine lv_if_lt (tgt := 32) hx hb dX8_isSmall_11 (by decide) (fun c_23 => ?_) (fun c_23 => ?_)
      · have hf := ite_t c_23 hf
        refine lv_iconst (v := 0) hx hb dX8_isSmall_32 (by decide) ?_
        have ho := Option.some.inj hf
        subst ho
        exact W.zret (v := 0) hx hb hr rfl (fun t ht hW => ⟨⟨_, (), rfl, rfl, by rw [ht]; exact hP, va_K.moved hW.alike hK, hD⟩, hS.F ht⟩) hS.2.2 dX8_isSmall_33
      · have hf := ite_f c_23 hf
        refine lv_iload_n hx hb dX8_isSmall_14 rfl (lv_at hl 1 rfl) ?_
        refine lv_bipush (v := 12) hx hb dX8_isSmall_15 (by decide) ?_
        refine lv_icmp_gt (tgt := 32) hx hb dX8_isSmall_17 (by decide) (fun c_24 => ?_) (fun c_24 => ?_)
        · have hf := ite_t c_24 hf
          refine lv_iconst (v := 0) hx hb dX8_isSmall_32 (by decide) ?_
          have ho := Option.some.inj hf
          subst ho
          exact W.zret (v := 0) hx hb hr rfl (fun t ht hW => ⟨⟨_, (), rfl, rfl, by rw [ht]; exact hP, va_K.moved hW.alike hK, hD⟩, hS.F ht⟩) hS.2.2 dX8_isSmall_33
        · have hf := ite_f c_24 hf
          refine lv_iload_n hx hb dX8_isSmall_20 rfl (lv_at hl 0 rfl) ?_
          refine lv_iload_n hx hb dX8_isSmall_21 rfl (lv_at hl 1 rfl) ?_
          refine lv_iadd hx hb dX8_isSmall_22 ?_
          refine lv_bipush (v := 12) hx hb dX8_isSmall_23 (by decide) ?_
          refine lv_icmp_gt (tgt := 32) hx hb dX8_isSmall_25 (by decide) (fun c_25 => ?_) (fun c_25 => ?_)
          · have hf := ite_t c_25 hf
            refine lv_iconst (v := 0) hx hb dX8_isSmall_32 (by decide) ?_
            have ho := Option.some.inj hf
            subst ho
            exact W.zret (v := 0) hx hb hr rfl (fun t ht hW => ⟨⟨_, (), rfl, rfl, by rw [ht]; exact hP, va_K.moved hW.alike hK, hD⟩, hS.F ht⟩) hS.2.2 dX8_isSmall_33
          · have hf := ite_f c_25 hf
            refine lv_iconst (v := 1) hx hb dX8_isSmall_28 (by decide) ?_
            refine lv_goto (tgt := 33) hx hb dX8_isSmall_29 (by decide) ?_
            have ho := Option.some.inj hf
            subst ho
            exact W.zret (v := 1) hx hb hr rfl (fun t ht hW => ⟨⟨_, (), rfl, rfl, by rw [ht]; exact hP, va_K.moved hW.alike hK, hD⟩, hS.F ht⟩) hS.2.2 dX8_isSmall_33
def fX8_isCountable (p0 : Int32) (p1 : Int32) : Option (Int32) := (fX8_isSmall p0 p1).bind fun q2 => ((if q2 = 0 then some (0) else (if (p0 + p1) < 1 then some (0) else some (1))))
set_option maxRecDepth 100000 in
theorem kX8_isCountable (l : Launch) (G : va_G) (cy : Nat → ClassId) (sz : Nat) (p0 : Int32) (p1 : Int32) {o : Int32} (hf : fX8_isCountable p0 p1 = some o) : Met l yX8_isCountable (Cond.code yX8_isCountable cX8_isCountable 2 (some .boolean) :: AW) ({ frames := 1, cells := 0, slots := 0, locals := 21 } : Room) (va_Pc [.int p0, .int p1] (Wp G cy [] sz)) (va_Qi (fun r (_ : Unit) => r = o) (fun _ => Wq G cy (va_A [] sz) []) (va_A [] sz)) 0 0 (va_A [] sz) := by
  refine Met.ofW (cc := cX8_isCountable) (maxL := 2) (ret := (some .boolean)) (by decide) rfl ?_
  intro p e s m args below meth c s₁ B hml hv
  obtain ⟨rfl, hsz, hP, hK, hD0, hN⟩ := hv
  have hx := B.exec
  have hb := B.bytes
  have hr := B.returns
  have htA : ∀ w ∈ AW, w.before _ s = true := fun w h => atoms_spec (ws := Cond.code yX8_isCountable cX8_isCountable 2 (some .boolean) :: AW) B.pre w (List.mem_cons_of_mem _ h)
  have hown : s.vm.findClass RX8 = some m.cls := findClass_of_methodNamed B.named
  have hlocks := B.notSynchronized
  subst hsz
  have hD := hD0.self (sz := s.heap.size)
  generalize hAe : va_A [] s.heap.size = A at hD ⊢
  have hA : ∀ q : Nat, s.heap.size ≤ q → A q := fun q h => by rw [← hAe]; exact Or.inr h
  have hS : va_S A s.heap s.heap [] := va_S.rf
  have hl := lv_entry ([.int p0, .int p1]) (n := 2) (Nat.le_of_ble_eq_true rfl)
  rw [lg_entry_eq]
  generalize (lg_sl ([.int p0, .int p1]) ++ List.replicate (2 - (lg_sl ([.int p0, .int p1])).length) Slot.unset).toArray = ls at hl ⊢
  have hl : lv_has ls 2 [(0, .int p0), (1, .int p1)] := hl
  have hP : va_P G vwCl [] s.heap := hP
  have hf : ((fX8_isSmall p0 p1).bind fun q2 => ((if q2 = 0 then some (0) else (if (p0 + p1) < 1 then some (0) else some (1)))) : Option (Int32)) = some o := hf
  refine lv_iload_n hx hb dX8_isCountable_0 rfl (lv_at hl 0 rfl) ?_
  refine lv_iload_n hx hb dX8_isCountable_1 rfl (lv_at hl 1 rfl) ?_
  obtain ⟨q2, h2_13, hf⟩ := bd_s hf
  refine u_calliR (va_runS (As := [.int p0, .int p1]) (rest := []) ⟨hx, hb, hml, hown, htA⟩ (kX8_isSmall l G cy s.heap.size p0 p1 h2_13) (u_cwS htA a_ml_X8_225 pk_X8_isSmall ⟨Nat.le_of_ble_eq_true rfl, Nat.le_of_ble_eq_true rfl⟩) (u_preS hK hN hP hD [] rfl (by decide)) rfl rfl hl.1 rfl (lv_room (Nat.le_of_ble_eq_true rfl)) dX8_isCountable_2 ⟨Nat.zero_le _, Nat.zero_le _⟩) hP hD hS hA [] rfl (fun H locs hP hS => ?_)
  refine lv_if_eq (tgt := 19) hx hb dX8_isCountable_5 (by decide) (fun c_14 => ?_) (fun c_14 => ?_)
  · have hf := ite_t c_14 hf
    refine lv_iconst (v := 0) hx hb dX8_isCountable_19 (by decide) ?_
    have ho := Option.some.inj hf
    subst ho
    exact W.zret (v := 0) hx hb hr rfl (fun t ht hW => ⟨⟨_, (), rfl, rfl, by rw [ht]; exact hP, va_K.moved hW.alike hK, hD⟩, hS.F ht⟩) hS.2.2 dX8_isCountable_20
  · have hf := ite_f c_14 hf
    refine lv_iload_n hx hb dX8_isCountable_8 rfl (lv_at hl 0 rfl) ?_
    refine lv_iload_n hx hb dX8_isCountable_9 rfl (lv_at hl 1 rfl) ?_
    refine lv_iadd hx hb dX8_isCountable_10 ?_
    refine lv_iconst (v := 1) hx hb dX8_isCountable_11 (by decide) ?_
    refine lv_icmp_lt (tgt := 19) hx hb dX8_isCountable_12 (by decide) (fun c_15 => ?_) (fun c_15 => ?_)
    · have hf := ite_t c_15 hf
      refine lv_iconst (v := 0) hx hb dX8_isCountable_19 (by decide) ?_
      have ho := Option.some.inj hf
      subst ho
      exact W.zret (v := 0) hx hb hr rfl (fun t ht hW => ⟨⟨_, (), rfl, rfl, by rw [ht]; exact hP, va_K.moved hW.alike hK, hD⟩, hS.F ht⟩) hS.2.2 dX8_isCountable_20
    · have hf := ite_f c_15 hf
      refine lv_iconst (v := 1) hx hb dX8_isCountable_15 (by decide) ?_
      refine lv_goto (tgt := 20) hx hb dX8_isCountable_16 (by decide) ?_
      have ho := Option.some.inj hf
      subst ho
      exact W.zret (v := 1) hx hb hr rfl (fun t ht hW => ⟨⟨_, (), rfl, rfl, by rw [ht]; exact hP, va_K.moved hW.alike hK, hD⟩, hS.F ht⟩) hS.2.2 dX8_isCountable_20
def fX8_kindOf (p0 : Int32) (p1 : Int32) : Option (Int32) := (if 4 ≤ (p0 * p1) then (if (p0 * p1) = 4 then some (1) else some (2)) else some (0))
set_option maxRecDepth 100000 in
theorem kX8_kindOf (l : Launch) (G : va_G) (cy : Nat → ClassId) (sz : Nat) (p0 : Int32) (p1 : Int32) {o : Int32} (hf : fX8_kindOf p0 p1 = some o) : Met l yX8_kindOf (Cond.code yX8_kindOf cX8_kindOf 2 (some .int) :: AW) ({ frames := 0, cells := 0, slots := 0, locals := 0 } : Room) (va_Pc [.int p0, .int p1] (Wp G cy [] sz)) (va_Qi (fun r (_ : Unit) => r = o) (fun _ => Wq G cy (va_A [] sz) []) (va_A [] sz)) 0 0 (va_A [] sz) := by
  refine Met.ofW (cc := cX8_kindOf) (maxL := 2) (ret := (some .int)) (by decide) rfl ?_
  intro p e s m args below meth c s₁ B hml hv
  obtain ⟨rfl, hsz, hP, hK, hD0, hN⟩ := hv
  have hx := B.exec
  have hb := B.bytes
  have hr := B.returns
  have htA : ∀ w ∈ AW, w.before _ s = true := fun w h => atoms_spec (ws := Cond.code yX8_kindOf cX8_kindOf 2 (some .int) :: AW) B.pre w (List.mem_cons_of_mem _ h)
  have hown : s.vm.findClass RX8 = some m.cls := findClass_of_methodNamed B.named
  have hlocks := B.notSynchronized
  subst hsz
  have hD := hD0.self (sz := s.heap.size)
  generalize hAe : va_A [] s.heap.size = A at hD ⊢
  have hA : ∀ q : Nat, s.heap.size ≤ q → A q := fun q h => by rw [← hAe]; exact Or.inr h
  have hS : va_S A s.heap s.heap [] := va_S.rf
  have hl := lv_entry ([.int p0, .int p1]) (n := 2) (Nat.le_of_ble_eq_true rfl)
  rw [lg_entry_eq]
  generalize (lg_sl ([.int p0, .int p1]) ++ List.replicate (2 - (lg_sl ([.int p0, .int p1])).length) Slot.unset).toArray = ls at hl ⊢
  have hl : lv_has ls 2 [(0, .int p0), (1, .int p1)] := hl
  have hP : va_P G vwCl [] s.heap := hP
  have hf : ((if 4 ≤ (p0 * p1) then (if (p0 * p1) = 4 then some (1) else some (2)) else some (0)) : Option (Int32)) = some o := hf
  refine lv_iload_n hx hb dX8_kindOf_0 rfl (lv_at hl 0 rfl) ?_
  refine lv_iload_n hx hb dX8_kindOf_1 rfl (lv_at hl 1 rfl) ?_
  refine lv_imul hx hb dX8_kindOf_2 ?_
  refine lv_iconst (v := 4) hx hb dX8_kindOf_3 (by decide) ?_
  refine lv_icmp_ge (tgt := 11) hx hb dX8_kindOf_4 (by decide) (fun c_9 => ?_) (fun c_9 => ?_)
  · have hf := ite_t c_9 hf
    refine lv_iload_n hx hb dX8_kindOf_11 rfl (lv_at hl 0 rfl) ?_
    refine lv_iload_n hx hb dX8_kindOf_12 rfl (lv_at hl 1 rfl) ?_
    refine lv_imul hx hb dX8_kindOf_13 ?_
    refine lv_iconst (v := 4) hx hb dX8_kindOf_14 (by decide) ?_
    refine lv_icmp_ne (tgt := 22) hx hb dX8_kindOf_15 (by decide) (fun c_10 => ?_) (fun c_10 => ?_)
    · have hf := ite_f c_10 hf
      refine lv_iconst (v := 2) hx hb dX8_kindOf_22 (by decide) ?_
      have ho := Option.some.inj hf
      subst ho
      exact W.iret (v := 2) hx hb hr (fun t ht hW => ⟨⟨_, (), rfl, rfl, by rw [ht]; exact hP, va_K.moved hW.alike hK, hD⟩, hS.F ht⟩) hS.2.2 dX8_kindOf_23
    · have hf := ite_t c_10 hf
      refine lv_iconst (v := 1) hx hb dX8_kindOf_18 (by decide) ?_
      refine lv_goto (tgt := 23) hx hb dX8_kindOf_19 (by decide) ?_
      have ho := Option.some.inj hf
      subst ho
      exact W.iret (v := 1) hx hb hr (fun t ht hW => ⟨⟨_, (), rfl, rfl, by rw [ht]; exact hP, va_K.moved hW.alike hK, hD⟩, hS.F ht⟩) hS.2.2 dX8_kindOf_23
  · have hf := ite_f c_9 hf
    refine lv_iconst (v := 0) hx hb dX8_kindOf_7 (by decide) ?_
    refine lv_goto (tgt := 23) hx hb dX8_kindOf_8 (by decide) ?_
    have ho := Option.some.inj hf
    subst ho
    exact W.iret (v := 0) hx hb hr (fun t ht hW => ⟨⟨_, (), rfl, rfl, by rw [ht]; exact hP, va_K.moved hW.alike hK, hD⟩, hS.F ht⟩) hS.2.2 dX8_kindOf_23
def fX8_coatOf (p0 : Int32) (p1 : Int32) (p2 : Int32) : Option (Int32) := some (((2 * p1) - (p0 * p2)))
set_option maxRecDepth 100000 in
theorem kX8_coatOf (l : Launch) (G : va_G) (cy : Nat → ClassId) (sz : Nat) (p0 : Int32) (p1 : Int32) (p2 : Int32) {o : Int32} (hf : fX8_coatOf p0 p1 p2 = some o) : Met l yX8_coatOf (Cond.code yX8_coatOf cX8_coatOf 3 (some .int) :: AW) ({ frames := 0, cells := 0, slots := 0, locals := 0 } : Room) (va_Pc [.int p0, .int p1, .int p2] (Wp G cy [] sz)) (va_Qi (fun r (_ : Unit) => r = o) (fun _ => Wq G cy (va_A [] sz) []) (va_A [] sz)) 0 0 (va_A [] sz) := by
  refine Met.ofW (cc := cX8_coatOf) (maxL := 3) (ret := (some .int)) (by decide) rfl ?_
  intro p e s m args below meth c s₁ B hml hv
  obtain ⟨rfl, hsz, hP, hK, hD0, hN⟩ := hv
  have hx := B.exec
  have hb := B.bytes
  have hr := B.returns
  have htA : ∀ w ∈ AW, w.before _ s = true := fun w h => atoms_spec (ws := Cond.code yX8_coatOf cX8_coatOf 3 (some .int) :: AW) B.pre w (List.mem_cons_of_mem _ h)
  have hown : s.vm.findClass RX8 = some m.cls := findClass_of_methodNamed B.named
  have hlocks := B.notSynchronized
  subst hsz
  have hD := hD0.self (sz := s.heap.size)
  generalize hAe : va_A [] s.heap.size = A at hD ⊢
  have hA : ∀ q : Nat, s.heap.size ≤ q → A q := fun q h => by rw [← hAe]; exact Or.inr h
  have hS : va_S A s.heap s.heap [] := va_S.rf
  have hl := lv_entry ([.int p0, .int p1, .int p2]) (n := 3) (Nat.le_of_ble_eq_true rfl)
  rw [lg_entry_eq]
  generalize (lg_sl ([.int p0, .int p1, .int p2]) ++ List.replicate (3 - (lg_sl ([.int p0, .int p1, .int p2])).length) Slot.unset).toArray = ls at hl ⊢
  have hl : lv_has ls 3 [(0, .int p0), (1, .int p1), (2, .int p2)] := hl
  have hP : va_P G vwCl [] s.heap := hP
  have hf : (some (((2 * p1) - (p0 * p2))) : Option (Int32)) = some o := hf
  refine lv_iconst (v := 2) hx hb dX8_coatOf_0 (by decide) ?_
  refine lv_iload_n hx hb dX8_coatOf_1 rfl (lv_at hl 1 rfl) ?_
  refine lv_imul hx hb dX8_coatOf_2 ?_
  refine lv_iload_n hx hb dX8_coatOf_3 rfl (lv_at hl 0 rfl) ?_
  refine lv_iload_n hx hb dX8_coatOf_4 rfl (lv_at hl 2 rfl) ?_
  refine lv_imul hx hb dX8_coatOf_5 ?_
  refine lv_isub hx hb dX8_coatOf_6 ?_
  have ho := Option.some.inj hf
  subst ho
  exact W.iret (v := ((2 * p1) - (p0 * p2))) hx hb hr (fun t ht hW => ⟨⟨_, (), rfl, rfl, by rw [ht]; exact hP, va_K.moved hW.alike hK, hD⟩, hS.F ht⟩) hS.2.2 dX8_coatOf_7
def fX8_productOf (p0 : Int32) (p1 : Int32) (p2 : Int64) (p4 : Int64) (p6 : Int64) (p8 : Int64) : Option (Int64) := some ((((((2 * (Int32.toInt64 p1)) * p2) * p6) - (((Int32.toInt64 p0) * (Int32.toInt64 p1)) * ((p2 * p8) + (p4 * p6)))) + (((2 * (Int32.toInt64 p0)) * p4) * p8)))
set_option maxRecDepth 100000 in
theorem kX8_productOf (l : Launch) (G : va_G) (cy : Nat → ClassId) (sz : Nat) (p0 : Int32) (p1 : Int32) (p2 : Int64) (p4 : Int64) (p6 : Int64) (p8 : Int64) {o : Int64} (hf : fX8_productOf p0 p1 p2 p4 p6 p8 = some o) : Met l yX8_productOf (Cond.code yX8_productOf cX8_productOf 10 (some .long) :: AW) ({ frames := 0, cells := 0, slots := 0, locals := 0 } : Room) (va_Pc [.int p0, .int p1, .long p2, .long p4, .long p6, .long p8] (Wp G cy [] sz)) (va_Ql (fun r (_ : Unit) => r = o) (fun _ => Wq G cy (va_A [] sz) []) (va_A [] sz)) 0 0 (va_A [] sz) := by
  refine Met.ofW (cc := cX8_productOf) (maxL := 10) (ret := (some .long)) (by decide) rfl ?_
  intro p e s m args below meth c s₁ B hml hv
  obtain ⟨rfl, hsz, hP, hK, hD0, hN⟩ := hv
  have hx := B.exec
  have hb := B.bytes
  have hr := B.returns
  have htA : ∀ w ∈ AW, w.before _ s = true := fun w h => atoms_spec (ws := Cond.code yX8_productOf cX8_productOf 10 (some .long) :: AW) B.pre w (List.mem_cons_of_mem _ h)
  have hown : s.vm.findClass RX8 = some m.cls := findClass_of_methodNamed B.named
  have hlocks := B.notSynchronized
  subst hsz
  have hD := hD0.self (sz := s.heap.size)
  generalize hAe : va_A [] s.heap.size = A at hD ⊢
  have hA : ∀ q : Nat, s.heap.size ≤ q → A q := fun q h => by rw [← hAe]; exact Or.inr h
  have hS : va_S A s.heap s.heap [] := va_S.rf
  have hl := lv_entry ([.int p0, .int p1, .long p2, .long p4, .long p6, .long p8]) (n := 10) (Nat.le_of_ble_eq_true rfl)
  rw [lg_entry_eq]
  generalize (lg_sl ([.int p0, .int p1, .long p2, .long p4, .long p6, .long p8]) ++ List.replicate (10 - (lg_sl ([.int p0, .int p1, .long p2, .long p4, .long p6, .long p8])).length) Slot.unset).toArray = ls at hl ⊢
  have hl : lv_has ls 10 [(0, .int p0), (1, .int p1), (2, .long p2), (4, .long p4), (6, .long p6), (8, .long p8)] := hl
  have hP : va_P G vwCl [] s.heap := hP
  have hf : (some ((((((2 * (Int32.toInt64 p1)) * p2) * p6) - (((Int32.toInt64 p0) * (Int32.toInt64 p1)) * ((p2 * p8) + (p4 * p6)))) + (((2 * (Int32.toInt64 p0)) * p4) * p8))) : Option (Int64)) = some o := hf
  refine lv_ldc2 (v := 2) hx hb hown (htA _ a_cl_X8_296) dX8_productOf_0 ?_
  refine lv_iload_n hx hb dX8_productOf_3 rfl (lv_at hl 1 rfl) ?_
  refine lv_i2l hx hb dX8_productOf_4 rfl ?_
  refine lv_lmul hx hb dX8_productOf_5 ?_
  refine lv_lload_n hx hb dX8_productOf_6 rfl (lv_at hl 2 rfl) ?_
  refine lv_lmul hx hb dX8_productOf_7 ?_
  refine lv_lload hx hb dX8_productOf_8 (lv_at hl 4 rfl) ?_
  refine lv_lmul hx hb dX8_productOf_10 ?_
  refine lv_iload_n hx hb dX8_productOf_11 rfl (lv_at hl 0 rfl) ?_
  refine lv_i2l hx hb dX8_productOf_12 rfl ?_
  refine lv_iload_n hx hb dX8_productOf_13 rfl (lv_at hl 1 rfl) ?_
  refine lv_i2l hx hb dX8_productOf_14 rfl ?_
  refine lv_lmul hx hb dX8_productOf_15 ?_
  refine lv_lload_n hx hb dX8_productOf_16 rfl (lv_at hl 2 rfl) ?_
  refine lv_lload hx hb dX8_productOf_17 (lv_at hl 5 rfl) ?_
  refine lv_lmul hx hb dX8_productOf_19 ?_
  refine lv_lload hx hb dX8_productOf_20 (lv_at hl 3 rfl) ?_
  refine lv_lload hx hb dX8_productOf_22 (lv_at hl 4 rfl) ?_
  refine lv_lmul hx hb dX8_productOf_24 ?_
  refine lv_ladd hx hb dX8_productOf_25 ?_
  refine lv_lmul hx hb dX8_productOf_26 ?_
  refine lv_lsub hx hb dX8_productOf_27 ?_
  refine lv_ldc2 (v := 2) hx hb hown (htA _ a_cl_X8_296) dX8_productOf_28 ?_
  refine lv_iload_n hx hb dX8_productOf_31 rfl (lv_at hl 0 rfl) ?_
  refine lv_i2l hx hb dX8_productOf_32 rfl ?_
  refine lv_lmul hx hb dX8_productOf_33 ?_
  refine lv_lload hx hb dX8_productOf_34 (lv_at hl 3 rfl) ?_
  refine lv_lmul hx hb dX8_productOf_36 ?_
  refine lv_lload hx hb dX8_productOf_37 (lv_at hl 5 rfl) ?_
  refine lv_lmul hx hb dX8_productOf_39 ?_
  refine lv_ladd hx hb dX8_productOf_40 ?_
  have ho := Option.some.inj hf
  subst ho
  exact W.lret (v := (((((2 * (Int32.toInt64 p1)) * p2) * p6) - (((Int32.toInt64 p0) * (Int32.toInt64 p1)) * ((p2 * p8) + (p4 * p6)))) + (((2 * (Int32.toInt64 p0)) * p4) * p8))) hx hb hr (fun t ht hW => ⟨⟨_, (), rfl, rfl, by rw [ht]; exact hP, va_K.moved hW.alike hK, hD⟩, hS.F ht⟩) hS.2.2 dX8_productOf_41
def fX8_normOf (p0 : Int32) (p1 : Int32) (p2 : Int32) (p3 : Int32) : Option (Int64) := (fX8_productOf p0 p1 (Int32.toInt64 p2) (Int32.toInt64 p3) (Int32.toInt64 p2) (Int32.toInt64 p3)).bind fun q10 => (some (q10))
set_option maxRecDepth 100000 in
theorem kX8_normOf (l : Launch) (G : va_G) (cy : Nat → ClassId) (sz : Nat) (p0 : Int32) (p1 : Int32) (p2 : Int32) (p3 : Int32) {o : Int64} (hf : fX8_normOf p0 p1 p2 p3 = some o) : Met l yX8_normOf (Cond.code yX8_normOf cX8_normOf 4 (some .long) :: AW) ({ frames := 1, cells := 0, slots := 0, locals := 29 } : Room) (va_Pc [.int p0, .int p1, .int p2, .int p3] (Wp G cy [] sz)) (va_Ql (fun r (_ : Unit) => r = o) (fun _ => Wq G cy (va_A [] sz) []) (va_A [] sz)) 0 0 (va_A [] sz) := by
  refine Met.ofW (cc := cX8_normOf) (maxL := 4) (ret := (some .long)) (by decide) rfl ?_
  intro p e s m args below meth c s₁ B hml hv
  obtain ⟨rfl, hsz, hP, hK, hD0, hN⟩ := hv
  have hx := B.exec
  have hb := B.bytes
  have hr := B.returns
  have htA : ∀ w ∈ AW, w.before _ s = true := fun w h => atoms_spec (ws := Cond.code yX8_normOf cX8_normOf 4 (some .long) :: AW) B.pre w (List.mem_cons_of_mem _ h)
  have hown : s.vm.findClass RX8 = some m.cls := findClass_of_methodNamed B.named
  have hlocks := B.notSynchronized
  subst hsz
  have hD := hD0.self (sz := s.heap.size)
  generalize hAe : va_A [] s.heap.size = A at hD ⊢
  have hA : ∀ q : Nat, s.heap.size ≤ q → A q := fun q h => by rw [← hAe]; exact Or.inr h
  have hS : va_S A s.heap s.heap [] := va_S.rf
  have hl := lv_entry ([.int p0, .int p1, .int p2, .int p3]) (n := 4) (Nat.le_of_ble_eq_true rfl)
  rw [lg_entry_eq]
  generalize (lg_sl ([.int p0, .int p1, .int p2, .int p3]) ++ List.replicate (4 - (lg_sl ([.int p0, .int p1, .int p2, .int p3])).length) Slot.unset).toArray = ls at hl ⊢
  have hl : lv_has ls 4 [(0, .int p0), (1, .int p1), (2, .int p2), (3, .int p3)] := hl
  have hP : va_P G vwCl [] s.heap := hP
  have hf : ((fX8_productOf p0 p1 (Int32.toInt64 p2) (Int32.toInt64 p3) (Int32.toInt64 p2) (Int32.toInt64 p3)).bind fun q10 => (some (q10)) : Option (Int64)) = some o := hf
  refine lv_iload_n hx hb dX8_normOf_0 rfl (lv_at hl 0 rfl) ?_
  refine lv_iload_n hx hb dX8_normOf_1 rfl (lv_at hl 1 rfl) ?_
  refine lv_iload_n hx hb dX8_normOf_2 rfl (lv_at hl 2 rfl) ?_
  refine lv_i2l hx hb dX8_normOf_3 rfl ?_
  refine lv_iload_n hx hb dX8_normOf_4 rfl (lv_at hl 3 rfl) ?_
  refine lv_i2l hx hb dX8_normOf_5 rfl ?_
  refine lv_iload_n hx hb dX8_normOf_6 rfl (lv_at hl 2 rfl) ?_
  refine lv_i2l hx hb dX8_normOf_7 rfl ?_
  refine lv_iload_n hx hb dX8_normOf_8 rfl (lv_at hl 3 rfl) ?_
  refine lv_i2l hx hb dX8_normOf_9 rfl ?_
  obtain ⟨q10, h10_5, hf⟩ := bd_s hf
  refine u_calllR (va_runS (As := [.int p0, .int p1, .long (Int32.toInt64 p2), .long (Int32.toInt64 p3), .long (Int32.toInt64 p2), .long (Int32.toInt64 p3)]) (rest := []) ⟨hx, hb, hml, hown, htA⟩ (kX8_productOf l G cy s.heap.size p0 p1 (Int32.toInt64 p2) (Int32.toInt64 p3) (Int32.toInt64 p2) (Int32.toInt64 p3) h10_5) (u_cwS htA a_ml_X8_176 pk_X8_productOf ⟨Nat.le_of_ble_eq_true rfl, Nat.le_of_ble_eq_true rfl⟩) (u_preS hK hN hP hD [] rfl (by decide)) rfl rfl hl.1 rfl (lv_room (Nat.le_of_ble_eq_true rfl)) dX8_normOf_10 ⟨Nat.zero_le _, Nat.zero_le _⟩) hP hD hS hA [] rfl (fun H locs hP hS => ?_)
  have ho := Option.some.inj hf
  subst ho
  exact W.lret (v := q10) hx hb hr (fun t ht hW => ⟨⟨_, (), rfl, rfl, by rw [ht]; exact hP, va_K.moved hW.alike hK, hD⟩, hS.F ht⟩) hS.2.2 dX8_normOf_13
def jX2_carryBy_51   (v2 : Int32) (s0 : Int32) (f_x : Int32) (f_y : Int32) : Option (Int32 × Int32 × Int32) := (fX8_isPlace v2 s0).bind fun q54 => ((if q54 = 0 then some (0, f_x, f_y) else some (1, v2, s0)))
def jX2_carryBy_25 (f_b : Int32)  (v1 : Int32) (s0 : Int32) (f_x : Int32) (f_y : Int32) : Option (Int32 × Int32 × Int32) := (if v1 = 0 then jX2_carryBy_51 s0 f_y f_x f_y else jX2_carryBy_51 s0 ((f_b * f_x) - f_y) f_x f_y)
def fX2_carryBy (p1 : Int32) (f_a : Int32) (f_b : Int32) (f_x : Int32) (f_y : Int32) : Option (Int32 × Int32 × Int32) := (if p1 = 0 then jX2_carryBy_25 f_b p1 ((f_a * f_y) - f_x) f_x f_y else jX2_carryBy_25 f_b p1 f_x f_x f_y)
set_option maxRecDepth 100000 in
theorem kX2_carryBy (l : Launch) (G : va_G) (cy : Nat → ClassId) (q_this : Nat) (sz : Nat) (f_a : Int32) (f_b : Int32) (f_x : Int32) (f_y : Int32) (p1 : Int32) {o : Int32 × Int32 × Int32} (hf : fX2_carryBy p1 f_a f_b f_x f_y = some o) : Met l yX2_carryBy (Cond.code yX2_carryBy cX2_carryBy 4 (some .boolean) :: AW) ({ frames := 2, cells := 0, slots := 0, locals := 43 } : Room) (va_Pc [.ref q_this, .int p1] (Wp G cy [(q_this, .inr (2, [.int f_a, .int f_b, .int f_x, .int f_y]))] sz)) (va_Qi (fun r (_ : Unit) => r = o.1) (fun _ => Wq G cy (va_A [(q_this, .inr (2, [.int f_a, .int f_b, .int f_x, .int f_y]))] sz) [(q_this, .inr (2, [.int f_a, .int f_b, .int o.2.1, .int o.2.2]))]) (va_A [(q_this, .inr (2, [.int f_a, .int f_b, .int f_x, .int f_y]))] sz)) 0 0 (va_A [(q_this, .inr (2, [.int f_a, .int f_b, .int f_x, .int f_y]))] sz) := by
  refine Met.ofW (cc := cX2_carryBy) (maxL := 4) (ret := (some .boolean)) (by decide) rfl ?_
  intro p e s m args below meth c s₁ B hml hv
  obtain ⟨rfl, hsz, hP, hK, hD0, hN⟩ := hv
  have hx := B.exec
  have hb := B.bytes
  have hr := B.returns
  have htA : ∀ w ∈ AW, w.before _ s = true := fun w h => atoms_spec (ws := Cond.code yX2_carryBy cX2_carryBy 4 (some .boolean) :: AW) B.pre w (List.mem_cons_of_mem _ h)
  have hown : s.vm.findClass RX2 = some m.cls := findClass_of_methodNamed B.named
  have hlocks := B.notSynchronized
  subst hsz
  have hD := hD0.self (sz := s.heap.size)
  generalize hAe : va_A [(q_this, .inr (2, [.int f_a, .int f_b, .int f_x, .int f_y]))] s.heap.size = A at hD ⊢
  have hA : ∀ q : Nat, s.heap.size ≤ q → A q := fun q h => by rw [← hAe]; exact Or.inr h
  have hS : va_S A s.heap s.heap [] := va_S.rf
  have hl := lv_entry ([.ref q_this, .int p1]) (n := 4) (Nat.le_of_ble_eq_true rfl)
  rw [lg_entry_eq]
  generalize (lg_sl ([.ref q_this, .int p1]) ++ List.replicate (4 - (lg_sl ([.ref q_this, .int p1])).length) Slot.unset).toArray = ls at hl ⊢
  have hl : lv_has ls 4 [(0, .ref q_this), (1, .int p1)] := hl
  have hP : va_P G vwCl [(q_this, .inr (2, [.int f_a, .int f_b, .int f_x, .int f_y]))] s.heap := hP
  have hf : ((if p1 = 0 then jX2_carryBy_25 f_b p1 ((f_a * f_y) - f_x) f_x f_y else jX2_carryBy_25 f_b p1 f_x f_x f_y) : Option (Int32 × Int32 × Int32)) = some o := hf
  have J25 : ∀ (v1 : Int32) (s0 : Int32) (f_x : Int32) (f_y : Int32) (H : Heap) (locs : List Loc) (ls : Array Slot), va_P G vwCl [(q_this, .inr (2, [.int f_a, .int f_b, .int f_x, .int f_y]))] H → va_D A [(q_this, .inr (2, [.int f_a, .int f_b, .int f_x, .int f_y]))] → va_S A s.heap H locs → lv_has ls 4 [(0, .ref q_this), (1, .int v1)] → jX2_carryBy_25 f_b v1 s0 f_x f_y = some o → W p l e (headSpec (Cond.code yX2_carryBy cX2_carryBy 4 (some .boolean) :: AW) ({ frames := 2, cells := 0, slots := 0, locals := 43 } : Room)).room s m ([.ref q_this, .int p1] : List Value).toArray below meth c H locs 0 0 (MQ below (va_Qi (fun r (_ : Unit) => r = o.1) (fun _ => Wq G cy A [(q_this, .inr (2, [.int f_a, .int f_b, .int o.2.1, .int o.2.2]))]) A) ([.ref q_this, .int p1] : List Value).toArray s 0 0 A) (F0 m 25 ls [.int s0]) := by
    intro v1 s0 f_x f_y H locs ls hP hD hS hl hf
    have hf : ((if v1 = 0 then jX2_carryBy_51 s0 f_y f_x f_y else jX2_carryBy_51 s0 ((f_b * f_x) - f_y) f_x f_y) : Option (Int32 × Int32 × Int32)) = some o := hf
    have J51 : ∀ (v2 : Int32) (s0 : Int32) (f_x : Int32) (f_y : Int32) (H : Heap) (locs : List Loc) (ls : Array Slot), va_P G vwCl [(q_this, .inr (2, [.int f_a, .int f_b, .int f_x, .int f_y]))] H → va_D A [(q_this, .inr (2, [.int f_a, .int f_b, .int f_x, .int f_y]))] → va_S A s.heap H locs → lv_has ls 4 [(0, .ref q_this), (2, .int v2)] → jX2_carryBy_51 v2 s0 f_x f_y = some o → W p l e (headSpec (Cond.code yX2_carryBy cX2_carryBy 4 (some .boolean) :: AW) ({ frames := 2, cells := 0, slots := 0, locals := 43 } : Room)).room s m ([.ref q_this, .int p1] : List Value).toArray below meth c H locs 0 0 (MQ below (va_Qi (fun r (_ : Unit) => r = o.1) (fun _ => Wq G cy A [(q_this, .inr (2, [.int f_a, .int f_b, .int o.2.1, .int o.2.2]))]) A) ([.ref q_this, .int p1] : List Value).toArray s 0 0 A) (F0 m 51 ls [.int s0]) := by
      intro v2 s0 f_x f_y H locs ls hP hD hS hl hf
      have hf : ((fX8_isPlace v2 s0).bind fun q54 => ((if q54 = 0 then some (0, f_x, f_y) else some (1, v2, s0))) : Option (Int32 × Int32 × Int32)) = some o := hf
      refine lv_istore_n (lv' := [(3, .int s0), (0, .ref q_this), (2, .int v2)]) hx hb dX2_carryBy_51 rfl hl (by decide) rfl (fun ls hl => ?_)
      refine lv_iload_n hx hb dX2_carryBy_52 rfl (lv_at hl 2 rfl) ?_
      refine lv_iload_n hx hb dX2_carryBy_53 rfl (lv_at hl 0 rfl) ?_
      obtain ⟨q54, h54_17, hf⟩ := bd_s hf
      refine u_calliR (va_runSN (As := [.int v2, .int s0]) (rest := []) ⟨hx, hb, hml, hown, htA⟩ (kX8_isPlace l G cy H.size v2 s0 h54_17) (u_cnS htA hN (List.mem_of_getElem? (i := 22) rfl) pk_X8_isPlace ⟨Nat.le_of_ble_eq_true rfl, Nat.le_of_ble_eq_true rfl⟩) (u_preS hK hN hP hD [] rfl (by decide)) rfl rfl hl.1 rfl (lv_room (Nat.le_of_ble_eq_true rfl)) dX2_carryBy_54 ⟨Nat.zero_le _, Nat.zero_le _⟩) hP hD hS hA [] rfl (fun H locs hP hS => ?_)
      refine lv_if_ne (tgt := 62) hx hb dX2_carryBy_57 (by decide) (fun c_18 => ?_) (fun c_18 => ?_)
      · have hf := ite_f c_18 hf
        refine lv_aload_n hx hb dX2_carryBy_62 rfl (lv_at hl 1 rfl) ?_
        refine lv_iload_n hx hb dX2_carryBy_63 rfl (lv_at hl 2 rfl) ?_
        refine va_put (D := G) (ci := 2) (v := .int v2) (ty := tyX2 2) (C := RX2) (T := TX2) (N := 4) hx hb htA lyX2 tyX2 tyX2_ok nmX2 hown hK hP hD hS 0 rfl rfl 2 (by decide) (htA _ a_fl_X2_16) (fun _ h9 => h9) rfl (tyX2_ok 2 (by decide)) rfl rfl (Nat.le_of_ble_eq_true rfl) dX2_carryBy_64 (fun H locs hP hD hS => ?_)
        have hP : va_P G vwCl [(q_this, .inr (2, [.int f_a, .int f_b, .int v2, .int f_y]))] H := hP
        have hD : va_D A [(q_this, .inr (2, [.int f_a, .int f_b, .int v2, .int f_y]))] := hD
        refine lv_aload_n hx hb dX2_carryBy_67 rfl (lv_at hl 1 rfl) ?_
        refine lv_iload_n hx hb dX2_carryBy_68 rfl (lv_at hl 0 rfl) ?_
        refine va_put (D := G) (ci := 2) (v := .int s0) (ty := tyX2 3) (C := RX2) (T := TX2) (N := 4) hx hb htA lyX2 tyX2 tyX2_ok nmX2 hown hK hP hD hS 0 rfl rfl 3 (by decide) (htA _ a_fl_X2_19) (fun _ h9 => h9) rfl (tyX2_ok 3 (by decide)) rfl rfl (Nat.le_of_ble_eq_true rfl) dX2_carryBy_69 (fun H locs hP hD hS => ?_)
        have hP : va_P G vwCl [(q_this, .inr (2, [.int f_a, .int f_b, .int v2, .int s0]))] H := hP
        have hD : va_D A [(q_this, .inr (2, [.int f_a, .int f_b, .int v2, .int s0]))] := hD
        refine lv_iconst (v := 1) hx hb dX2_carryBy_72 (by decide) ?_
        have ho := Option.some.inj hf
        subst ho
        exact W.zret (v := 1) hx hb hr rfl (fun t ht hW => ⟨⟨_, (), rfl, rfl, by rw [ht]; exact hP, va_K.moved hW.alike hK, hD⟩, hS.F ht⟩) hS.2.2 dX2_carryBy_73
      · have hf := ite_t c_18 hf
        refine lv_iconst (v := 0) hx hb dX2_carryBy_60 (by decide) ?_
        have ho := Option.some.inj hf
        subst ho
        exact W.zret (v := 0) hx hb hr rfl (fun t ht hW => ⟨⟨_, (), rfl, rfl, by rw [ht]; exact hP, va_K.moved hW.alike hK, hD⟩, hS.F ht⟩) hS.2.2 dX2_carryBy_61
    refine lv_istore_n (lv' := [(2, .int s0), (0, .ref q_this), (1, .int v1)]) hx hb dX2_carryBy_25 rfl hl (by decide) rfl (fun ls hl => ?_)
    refine lv_iload_n hx hb dX2_carryBy_26 rfl (lv_at hl 2 rfl) ?_
    refine lv_if_ne (tgt := 37) hx hb dX2_carryBy_27 (by decide) (fun c_19 => ?_) (fun c_19 => ?_)
    · have hf := ite_f c_19 hf
      refine lv_aload_n hx hb dX2_carryBy_37 rfl (lv_at hl 1 rfl) ?_
      refine va_get (D := G) (ci := 2) (v := .int f_b) (C := RX2) (T := TX2) (N := 4) hx hb htA lyX2 hown hK hP 0 rfl rfl 1 (by decide) (htA _ a_fl_X2_13) (fun _ h9 => h9) rfl dX2_carryBy_38 ?_
      refine lv_aload_n hx hb dX2_carryBy_41 rfl (lv_at hl 1 rfl) ?_
      refine va_get (D := G) (ci := 2) (v := .int f_x) (C := RX2) (T := TX2) (N := 4) hx hb htA lyX2 hown hK hP 0 rfl rfl 2 (by decide) (htA _ a_fl_X2_16) (fun _ h9 => h9) rfl dX2_carryBy_42 ?_
      refine lv_imul hx hb dX2_carryBy_45 ?_
      refine lv_aload_n hx hb dX2_carryBy_46 rfl (lv_at hl 1 rfl) ?_
      refine va_get (D := G) (ci := 2) (v := .int f_y) (C := RX2) (T := TX2) (N := 4) hx hb htA lyX2 hown hK hP 0 rfl rfl 3 (by decide) (htA _ a_fl_X2_19) (fun _ h9 => h9) rfl dX2_carryBy_47 ?_
      refine lv_isub hx hb dX2_carryBy_50 ?_
      exact J51 _ _ _ _ _ _ _ hP hD hS (lv_sub hl [1, 0] rfl) hf
    · have hf := ite_t c_19 hf
      refine lv_aload_n hx hb dX2_carryBy_30 rfl (lv_at hl 1 rfl) ?_
      refine va_get (D := G) (ci := 2) (v := .int f_y) (C := RX2) (T := TX2) (N := 4) hx hb htA lyX2 hown hK hP 0 rfl rfl 3 (by decide) (htA _ a_fl_X2_19) (fun _ h9 => h9) rfl dX2_carryBy_31 ?_
      refine lv_goto (tgt := 51) hx hb dX2_carryBy_34 (by decide) ?_
      exact J51 _ _ _ _ _ _ _ hP hD hS (lv_sub hl [1, 0] rfl) hf
  refine lv_iload_n hx hb dX2_carryBy_0 rfl (lv_at hl 1 rfl) ?_
  refine lv_if_ne (tgt := 21) hx hb dX2_carryBy_1 (by decide) (fun c_20 => ?_) (fun c_20 => ?_)
  · have hf := ite_f c_20 hf
    refine lv_aload_n hx hb dX2_carryBy_21 rfl (lv_at hl 0 rfl) ?_
    refine va_get (D := G) (ci := 2) (v := .int f_x) (C := RX2) (T := TX2) (N := 4) hx hb htA lyX2 hown hK hP 0 rfl rfl 2 (by decide) (htA _ a_fl_X2_16) (fun _ h9 => h9) rfl dX2_carryBy_22 ?_
    exact J25 _ _ _ _ _ _ _ hP hD hS (lv_sub hl [0, 1] rfl) hf
  · have hf := ite_t c_20 hf
    refine lv_aload_n hx hb dX2_carryBy_4 rfl (lv_at hl 0 rfl) ?_
    refine va_get (D := G) (ci := 2) (v := .int f_a) (C := RX2) (T := TX2) (N := 4) hx hb htA lyX2 hown hK hP 0 rfl rfl 0 (by decide) (htA _ a_fl_X2_7) (fun _ h9 => h9) rfl dX2_carryBy_5 ?_
    refine lv_aload_n hx hb dX2_carryBy_8 rfl (lv_at hl 0 rfl) ?_
    refine va_get (D := G) (ci := 2) (v := .int f_y) (C := RX2) (T := TX2) (N := 4) hx hb htA lyX2 hown hK hP 0 rfl rfl 3 (by decide) (htA _ a_fl_X2_19) (fun _ h9 => h9) rfl dX2_carryBy_9 ?_
    refine lv_imul hx hb dX2_carryBy_12 ?_
    refine lv_aload_n hx hb dX2_carryBy_13 rfl (lv_at hl 0 rfl) ?_
    refine va_get (D := G) (ci := 2) (v := .int f_x) (C := RX2) (T := TX2) (N := 4) hx hb htA lyX2 hown hK hP 0 rfl rfl 2 (by decide) (htA _ a_fl_X2_16) (fun _ h9 => h9) rfl dX2_carryBy_14 ?_
    refine lv_isub hx hb dX2_carryBy_17 ?_
    refine lv_goto (tgt := 25) hx hb dX2_carryBy_18 (by decide) ?_
    exact J25 _ _ _ _ _ _ _ hP hD hS (lv_sub hl [0, 1] rfl) hf
def fX2_swap (f_a : Int32) (f_b : Int32) (f_x : Int32) (f_y : Int32) : Option (Int32 × Int32 × Int32 × Int32) := some (f_b, f_a, f_y, f_x)
set_option maxRecDepth 100000 in
theorem kX2_swap (l : Launch) (G : va_G) (cy : Nat → ClassId) (q_this : Nat) (sz : Nat) (f_a : Int32) (f_b : Int32) (f_x : Int32) (f_y : Int32) {o : Int32 × Int32 × Int32 × Int32} (hf : fX2_swap f_a f_b f_x f_y = some o) : Met l yX2_swap (Cond.code yX2_swap cX2_swap 3 none :: AW) ({ frames := 0, cells := 0, slots := 0, locals := 0 } : Room) (va_Pc [.ref q_this] (Wp G cy [(q_this, .inr (2, [.int f_a, .int f_b, .int f_x, .int f_y]))] sz)) (va_Qv (fun (_ : Unit) => True) (fun _ => Wq G cy (va_A [(q_this, .inr (2, [.int f_a, .int f_b, .int f_x, .int f_y]))] sz) [(q_this, .inr (2, [.int o.1, .int o.2.1, .int o.2.2.1, .int o.2.2.2]))]) (va_A [(q_this, .inr (2, [.int f_a, .int f_b, .int f_x, .int f_y]))] sz)) 0 0 (va_A [(q_this, .inr (2, [.int f_a, .int f_b, .int f_x, .int f_y]))] sz) := by
  refine Met.ofW (cc := cX2_swap) (maxL := 3) (ret := none) (by decide) rfl ?_
  intro p e s m args below meth c s₁ B hml hv
  obtain ⟨rfl, hsz, hP, hK, hD0, hN⟩ := hv
  have hx := B.exec
  have hb := B.bytes
  have hr := B.returns
  have htA : ∀ w ∈ AW, w.before _ s = true := fun w h => atoms_spec (ws := Cond.code yX2_swap cX2_swap 3 none :: AW) B.pre w (List.mem_cons_of_mem _ h)
  have hown : s.vm.findClass RX2 = some m.cls := findClass_of_methodNamed B.named
  have hlocks := B.notSynchronized
  subst hsz
  have hD := hD0.self (sz := s.heap.size)
  generalize hAe : va_A [(q_this, .inr (2, [.int f_a, .int f_b, .int f_x, .int f_y]))] s.heap.size = A at hD ⊢
  have hA : ∀ q : Nat, s.heap.size ≤ q → A q := fun q h => by rw [← hAe]; exact Or.inr h
  have hS : va_S A s.heap s.heap [] := va_S.rf
  have hl := lv_entry ([.ref q_this]) (n := 3) (Nat.le_of_ble_eq_true rfl)
  rw [lg_entry_eq]
  generalize (lg_sl ([.ref q_this]) ++ List.replicate (3 - (lg_sl ([.ref q_this])).length) Slot.unset).toArray = ls at hl ⊢
  have hl : lv_has ls 3 [(0, .ref q_this)] := hl
  have hP : va_P G vwCl [(q_this, .inr (2, [.int f_a, .int f_b, .int f_x, .int f_y]))] s.heap := hP
  have hf : (some (f_b, f_a, f_y, f_x) : Option (Int32 × Int32 × Int32 × Int32)) = some o := hf
  refine lv_aload_n hx hb dX2_swap_0 rfl (lv_at hl 0 rfl) ?_
  refine va_get (D := G) (ci := 2) (v := .int f_a) (C := RX2) (T := TX2) (N := 4) hx hb htA lyX2 hown hK hP 0 rfl rfl 0 (by decide) (htA _ a_fl_X2_7) (fun _ h9 => h9) rfl dX2_swap_1 ?_
  refine lv_istore_n (lv' := [(1, .int f_a), (0, .ref q_this)]) hx hb dX2_swap_4 rfl hl (by decide) rfl (fun ls hl => ?_)
  refine lv_aload_n hx hb dX2_swap_5 rfl (lv_at hl 1 rfl) ?_
  refine lv_aload_n hx hb dX2_swap_6 rfl (lv_at hl 1 rfl) ?_
  refine va_get (D := G) (ci := 2) (v := .int f_b) (C := RX2) (T := TX2) (N := 4) hx hb htA lyX2 hown hK hP 0 rfl rfl 1 (by decide) (htA _ a_fl_X2_13) (fun _ h9 => h9) rfl dX2_swap_7 ?_
  refine va_put (D := G) (ci := 2) (v := .int f_b) (ty := tyX2 0) (C := RX2) (T := TX2) (N := 4) hx hb htA lyX2 tyX2 tyX2_ok nmX2 hown hK hP hD hS 0 rfl rfl 0 (by decide) (htA _ a_fl_X2_7) (fun _ h9 => h9) rfl (tyX2_ok 0 (by decide)) rfl rfl (Nat.le_of_ble_eq_true rfl) dX2_swap_10 (fun H locs hP hD hS => ?_)
  have hP : va_P G vwCl [(q_this, .inr (2, [.int f_b, .int f_b, .int f_x, .int f_y]))] H := hP
  have hD : va_D A [(q_this, .inr (2, [.int f_b, .int f_b, .int f_x, .int f_y]))] := hD
  refine lv_aload_n hx hb dX2_swap_13 rfl (lv_at hl 1 rfl) ?_
  refine lv_iload_n hx hb dX2_swap_14 rfl (lv_at hl 0 rfl) ?_
  refine va_put (D := G) (ci := 2) (v := .int f_a) (ty := tyX2 1) (C := RX2) (T := TX2) (N := 4) hx hb htA lyX2 tyX2 tyX2_ok nmX2 hown hK hP hD hS 0 rfl rfl 1 (by decide) (htA _ a_fl_X2_13) (fun _ h9 => h9) rfl (tyX2_ok 1 (by decide)) rfl rfl (Nat.le_of_ble_eq_true rfl) dX2_swap_15 (fun H locs hP hD hS => ?_)
  have hP : va_P G vwCl [(q_this, .inr (2, [.int f_b, .int f_a, .int f_x, .int f_y]))] H := hP
  have hD : va_D A [(q_this, .inr (2, [.int f_b, .int f_a, .int f_x, .int f_y]))] := hD
  refine lv_aload_n hx hb dX2_swap_18 rfl (lv_at hl 1 rfl) ?_
  refine va_get (D := G) (ci := 2) (v := .int f_x) (C := RX2) (T := TX2) (N := 4) hx hb htA lyX2 hown hK hP 0 rfl rfl 2 (by decide) (htA _ a_fl_X2_16) (fun _ h9 => h9) rfl dX2_swap_19 ?_
  refine lv_istore_n (lv' := [(2, .int f_x), (1, .int f_a), (0, .ref q_this)]) hx hb dX2_swap_22 rfl hl (by decide) rfl (fun ls hl => ?_)
  refine lv_aload_n hx hb dX2_swap_23 rfl (lv_at hl 2 rfl) ?_
  refine lv_aload_n hx hb dX2_swap_24 rfl (lv_at hl 2 rfl) ?_
  refine va_get (D := G) (ci := 2) (v := .int f_y) (C := RX2) (T := TX2) (N := 4) hx hb htA lyX2 hown hK hP 0 rfl rfl 3 (by decide) (htA _ a_fl_X2_19) (fun _ h9 => h9) rfl dX2_swap_25 ?_
  refine va_put (D := G) (ci := 2) (v := .int f_y) (ty := tyX2 2) (C := RX2) (T := TX2) (N := 4) hx hb htA lyX2 tyX2 tyX2_ok nmX2 hown hK hP hD hS 0 rfl rfl 2 (by decide) (htA _ a_fl_X2_16) (fun _ h9 => h9) rfl (tyX2_ok 2 (by decide)) rfl rfl (Nat.le_of_ble_eq_true rfl) dX2_swap_28 (fun H locs hP hD hS => ?_)
  have hP : va_P G vwCl [(q_this, .inr (2, [.int f_b, .int f_a, .int f_y, .int f_y]))] H := hP
  have hD : va_D A [(q_this, .inr (2, [.int f_b, .int f_a, .int f_y, .int f_y]))] := hD
  refine lv_aload_n hx hb dX2_swap_31 rfl (lv_at hl 2 rfl) ?_
  refine lv_iload_n hx hb dX2_swap_32 rfl (lv_at hl 0 rfl) ?_
  refine va_put (D := G) (ci := 2) (v := .int f_x) (ty := tyX2 3) (C := RX2) (T := TX2) (N := 4) hx hb htA lyX2 tyX2 tyX2_ok nmX2 hown hK hP hD hS 0 rfl rfl 3 (by decide) (htA _ a_fl_X2_19) (fun _ h9 => h9) rfl (tyX2_ok 3 (by decide)) rfl rfl (Nat.le_of_ble_eq_true rfl) dX2_swap_33 (fun H locs hP hD hS => ?_)
  have hP : va_P G vwCl [(q_this, .inr (2, [.int f_b, .int f_a, .int f_y, .int f_x]))] H := hP
  have hD : va_D A [(q_this, .inr (2, [.int f_b, .int f_a, .int f_y, .int f_x]))] := hD
  have ho := Option.some.inj hf
  subst ho
  exact W.vret hx hb hr (fun t ht hW => ⟨⟨(), rfl, trivial, by rw [ht]; exact hP, va_K.moved hW.alike hK, hD⟩, hS.F ht⟩) hS.2.2 dX2_swap_36
def fX2_copyFrom (f_a : Int32) (f_b : Int32) (f_x : Int32) (f_y : Int32) (f_o_a : Int32) (f_o_b : Int32) (f_o_x : Int32) (f_o_y : Int32) : Option (Int32 × Int32 × Int32 × Int32) := some (f_o_a, f_o_b, f_o_x, f_o_y)
set_option maxRecDepth 100000 in
theorem kX2_copyFrom (l : Launch) (G : va_G) (cy : Nat → ClassId) (q_this : Nat) (q_o : Nat) (sz : Nat) (f_a : Int32) (f_b : Int32) (f_x : Int32) (f_y : Int32) (f_o_a : Int32) (f_o_b : Int32) (f_o_x : Int32) (f_o_y : Int32) {o : Int32 × Int32 × Int32 × Int32} (hf : fX2_copyFrom f_a f_b f_x f_y f_o_a f_o_b f_o_x f_o_y = some o) : Met l yX2_copyFrom (Cond.code yX2_copyFrom cX2_copyFrom 2 none :: AW) ({ frames := 0, cells := 0, slots := 0, locals := 0 } : Room) (va_Pc [.ref q_this, .ref q_o] (Wp G cy [(q_this, .inr (2, [.int f_a, .int f_b, .int f_x, .int f_y])), (q_o, .inr (2, [.int f_o_a, .int f_o_b, .int f_o_x, .int f_o_y]))] sz)) (va_Qv (fun (_ : Unit) => True) (fun _ => Wq G cy (va_A [(q_this, .inr (2, [.int f_a, .int f_b, .int f_x, .int f_y])), (q_o, .inr (2, [.int f_o_a, .int f_o_b, .int f_o_x, .int f_o_y]))] sz) [(q_this, .inr (2, [.int o.1, .int o.2.1, .int o.2.2.1, .int o.2.2.2])), (q_o, .inr (2, [.int f_o_a, .int f_o_b, .int f_o_x, .int f_o_y]))]) (va_A [(q_this, .inr (2, [.int f_a, .int f_b, .int f_x, .int f_y])), (q_o, .inr (2, [.int f_o_a, .int f_o_b, .int f_o_x, .int f_o_y]))] sz)) 0 0 (va_A [(q_this, .inr (2, [.int f_a, .int f_b, .int f_x, .int f_y])), (q_o, .inr (2, [.int f_o_a, .int f_o_b, .int f_o_x, .int f_o_y]))] sz) := by
  refine Met.ofW (cc := cX2_copyFrom) (maxL := 2) (ret := none) (by decide) rfl ?_
  intro p e s m args below meth c s₁ B hml hv
  obtain ⟨rfl, hsz, hP, hK, hD0, hN⟩ := hv
  have hx := B.exec
  have hb := B.bytes
  have hr := B.returns
  have htA : ∀ w ∈ AW, w.before _ s = true := fun w h => atoms_spec (ws := Cond.code yX2_copyFrom cX2_copyFrom 2 none :: AW) B.pre w (List.mem_cons_of_mem _ h)
  have hown : s.vm.findClass RX2 = some m.cls := findClass_of_methodNamed B.named
  have hlocks := B.notSynchronized
  subst hsz
  have hD := hD0.self (sz := s.heap.size)
  generalize hAe : va_A [(q_this, .inr (2, [.int f_a, .int f_b, .int f_x, .int f_y])), (q_o, .inr (2, [.int f_o_a, .int f_o_b, .int f_o_x, .int f_o_y]))] s.heap.size = A at hD ⊢
  have hA : ∀ q : Nat, s.heap.size ≤ q → A q := fun q h => by rw [← hAe]; exact Or.inr h
  have hS : va_S A s.heap s.heap [] := va_S.rf
  have hl := lv_entry ([.ref q_this, .ref q_o]) (n := 2) (Nat.le_of_ble_eq_true rfl)
  rw [lg_entry_eq]
  generalize (lg_sl ([.ref q_this, .ref q_o]) ++ List.replicate (2 - (lg_sl ([.ref q_this, .ref q_o])).length) Slot.unset).toArray = ls at hl ⊢
  have hl : lv_has ls 2 [(0, .ref q_this), (1, .ref q_o)] := hl
  have hP : va_P G vwCl [(q_this, .inr (2, [.int f_a, .int f_b, .int f_x, .int f_y])), (q_o, .inr (2, [.int f_o_a, .int f_o_b, .int f_o_x, .int f_o_y]))] s.heap := hP
  have hf : (some (f_o_a, f_o_b, f_o_x, f_o_y) : Option (Int32 × Int32 × Int32 × Int32)) = some o := hf
  refine lv_aload_n hx hb dX2_copyFrom_0 rfl (lv_at hl 0 rfl) ?_
  refine lv_aload_n hx hb dX2_copyFrom_1 rfl (lv_at hl 1 rfl) ?_
  refine va_get (D := G) (ci := 2) (v := .int f_o_a) (C := RX2) (T := TX2) (N := 4) hx hb htA lyX2 hown hK hP 1 rfl rfl 0 (by decide) (htA _ a_fl_X2_7) (fun _ h9 => h9) rfl dX2_copyFrom_2 ?_
  refine va_put (D := G) (ci := 2) (v := .int f_o_a) (ty := tyX2 0) (C := RX2) (T := TX2) (N := 4) hx hb htA lyX2 tyX2 tyX2_ok nmX2 hown hK hP hD hS 0 rfl rfl 0 (by decide) (htA _ a_fl_X2_7) (fun _ h9 => h9) rfl (tyX2_ok 0 (by decide)) rfl rfl (Nat.le_of_ble_eq_true rfl) dX2_copyFrom_5 (fun H locs hP hD hS => ?_)
  have hP : va_P G vwCl [(q_this, .inr (2, [.int f_o_a, .int f_b, .int f_x, .int f_y])), (q_o, .inr (2, [.int f_o_a, .int f_o_b, .int f_o_x, .int f_o_y]))] H := hP
  have hD : va_D A [(q_this, .inr (2, [.int f_o_a, .int f_b, .int f_x, .int f_y])), (q_o, .inr (2, [.int f_o_a, .int f_o_b, .int f_o_x, .int f_o_y]))] := hD
  refine lv_aload_n hx hb dX2_copyFrom_8 rfl (lv_at hl 0 rfl) ?_
  refine lv_aload_n hx hb dX2_copyFrom_9 rfl (lv_at hl 1 rfl) ?_
  refine va_get (D := G) (ci := 2) (v := .int f_o_b) (C := RX2) (T := TX2) (N := 4) hx hb htA lyX2 hown hK hP 1 rfl rfl 1 (by decide) (htA _ a_fl_X2_13) (fun _ h9 => h9) rfl dX2_copyFrom_10 ?_
  refine va_put (D := G) (ci := 2) (v := .int f_o_b) (ty := tyX2 1) (C := RX2) (T := TX2) (N := 4) hx hb htA lyX2 tyX2 tyX2_ok nmX2 hown hK hP hD hS 0 rfl rfl 1 (by decide) (htA _ a_fl_X2_13) (fun _ h9 => h9) rfl (tyX2_ok 1 (by decide)) rfl rfl (Nat.le_of_ble_eq_true rfl) dX2_copyFrom_13 (fun H locs hP hD hS => ?_)
  have hP : va_P G vwCl [(q_this, .inr (2, [.int f_o_a, .int f_o_b, .int f_x, .int f_y])), (q_o, .inr (2, [.int f_o_a, .int f_o_b, .int f_o_x, .int f_o_y]))] H := hP
  have hD : va_D A [(q_this, .inr (2, [.int f_o_a, .int f_o_b, .int f_x, .int f_y])), (q_o, .inr (2, [.int f_o_a, .int f_o_b, .int f_o_x, .int f_o_y]))] := hD
  refine lv_aload_n hx hb dX2_copyFrom_16 rfl (lv_at hl 0 rfl) ?_
  refine lv_aload_n hx hb dX2_copyFrom_17 rfl (lv_at hl 1 rfl) ?_
  refine va_get (D := G) (ci := 2) (v := .int f_o_x) (C := RX2) (T := TX2) (N := 4) hx hb htA lyX2 hown hK hP 1 rfl rfl 2 (by decide) (htA _ a_fl_X2_16) (fun _ h9 => h9) rfl dX2_copyFrom_18 ?_
  refine va_put (D := G) (ci := 2) (v := .int f_o_x) (ty := tyX2 2) (C := RX2) (T := TX2) (N := 4) hx hb htA lyX2 tyX2 tyX2_ok nmX2 hown hK hP hD hS 0 rfl rfl 2 (by decide) (htA _ a_fl_X2_16) (fun _ h9 => h9) rfl (tyX2_ok 2 (by decide)) rfl rfl (Nat.le_of_ble_eq_true rfl) dX2_copyFrom_21 (fun H locs hP hD hS => ?_)
  have hP : va_P G vwCl [(q_this, .inr (2, [.int f_o_a, .int f_o_b, .int f_o_x, .int f_y])), (q_o, .inr (2, [.int f_o_a, .int f_o_b, .int f_o_x, .int f_o_y]))] H := hP
  have hD : va_D A [(q_this, .inr (2, [.int f_o_a, .int f_o_b, .int f_o_x, .int f_y])), (q_o, .inr (2, [.int f_o_a, .int f_o_b, .int f_o_x, .int f_o_y]))] := hD
  refine lv_aload_n hx hb dX2_copyFrom_24 rfl (lv_at hl 0 rfl) ?_
  refine lv_aload_n hx hb dX2_copyFrom_25 rfl (lv_at hl 1 rfl) ?_
  refine va_get (D := G) (ci := 2) (v := .int f_o_y) (C := RX2) (T := TX2) (N := 4) hx hb htA lyX2 hown hK hP 1 rfl rfl 3 (by decide) (htA _ a_fl_X2_19) (fun _ h9 => h9) rfl dX2_copyFrom_26 ?_
  refine va_put (D := G) (ci := 2) (v := .int f_o_y) (ty := tyX2 3) (C := RX2) (T := TX2) (N := 4) hx hb htA lyX2 tyX2 tyX2_ok nmX2 hown hK hP hD hS 0 rfl rfl 3 (by decide) (htA _ a_fl_X2_19) (fun _ h9 => h9) rfl (tyX2_ok 3 (by decide)) rfl rfl (Nat.le_of_ble_eq_true rfl) dX2_copyFrom_29 (fun H locs hP hD hS => ?_)
  have hP : va_P G vwCl [(q_this, .inr (2, [.int f_o_a, .int f_o_b, .int f_o_x, .int f_o_y])), (q_o, .inr (2, [.int f_o_a, .int f_o_b, .int f_o_x, .int f_o_y]))] H := hP
  have hD : va_D A [(q_this, .inr (2, [.int f_o_a, .int f_o_b, .int f_o_x, .int f_o_y])), (q_o, .inr (2, [.int f_o_a, .int f_o_b, .int f_o_x, .int f_o_y]))] := hD
  have ho := Option.some.inj hf
  subst ho
  exact W.vret hx hb hr (fun t ht hW => ⟨⟨(), rfl, trivial, by rw [ht]; exact hP, va_K.moved hW.alike hK, hD⟩, hS.F ht⟩) hS.2.2 dX2_copyFrom_32
def fX4_size (f_used : Int32) : Option (Int32) := some (f_used)
set_option maxRecDepth 100000 in
theorem kX4_size (l : Launch) (G : va_G) (cy : Nat → ClassId) (q_this : Nat) (q_cells : Nat) (sz : Nat) (f_limit : Int32) (f_used : Int32) {o : Int32} (hf : fX4_size f_used = some o) : Met l yX4_size (Cond.code yX4_size cX4_size 1 (some .int) :: AW) ({ frames := 0, cells := 0, slots := 0, locals := 0 } : Room) (va_Pc [.ref q_this] (Wp G cy [(q_this, .inr (4, [.int f_limit, .ref q_cells, .int f_used]))] sz)) (va_Qi (fun r (_ : Unit) => r = o) (fun _ => Wq G cy (va_A [(q_this, .inr (4, [.int f_limit, .ref q_cells, .int f_used]))] sz) [(q_this, .inr (4, [.int f_limit, .ref q_cells, .int f_used]))]) (va_A [(q_this, .inr (4, [.int f_limit, .ref q_cells, .int f_used]))] sz)) 0 0 (va_A [(q_this, .inr (4, [.int f_limit, .ref q_cells, .int f_used]))] sz) := by
  refine Met.ofW (cc := cX4_size) (maxL := 1) (ret := (some .int)) (by decide) rfl ?_
  intro p e s m args below meth c s₁ B hml hv
  obtain ⟨rfl, hsz, hP, hK, hD0, hN⟩ := hv
  have hx := B.exec
  have hb := B.bytes
  have hr := B.returns
  have htA : ∀ w ∈ AW, w.before _ s = true := fun w h => atoms_spec (ws := Cond.code yX4_size cX4_size 1 (some .int) :: AW) B.pre w (List.mem_cons_of_mem _ h)
  have hown : s.vm.findClass RX4 = some m.cls := findClass_of_methodNamed B.named
  have hlocks := B.notSynchronized
  subst hsz
  have hD := hD0.self (sz := s.heap.size)
  generalize hAe : va_A [(q_this, .inr (4, [.int f_limit, .ref q_cells, .int f_used]))] s.heap.size = A at hD ⊢
  have hA : ∀ q : Nat, s.heap.size ≤ q → A q := fun q h => by rw [← hAe]; exact Or.inr h
  have hS : va_S A s.heap s.heap [] := va_S.rf
  have hl := lv_entry ([.ref q_this]) (n := 1) (Nat.le_of_ble_eq_true rfl)
  rw [lg_entry_eq]
  generalize (lg_sl ([.ref q_this]) ++ List.replicate (1 - (lg_sl ([.ref q_this])).length) Slot.unset).toArray = ls at hl ⊢
  have hl : lv_has ls 1 [(0, .ref q_this)] := hl
  have hP : va_P G vwCl [(q_this, .inr (4, [.int f_limit, .ref q_cells, .int f_used]))] s.heap := hP
  have hf : (some (f_used) : Option (Int32)) = some o := hf
  refine lv_aload_n hx hb dX4_size_0 rfl (lv_at hl 0 rfl) ?_
  refine va_get (D := G) (ci := 4) (v := .int f_used) (C := RX4) (T := TX4) (N := 3) hx hb htA lyX4 hown hK hP 0 rfl rfl 2 (by decide) (htA _ a_fl_X4_9) (fun _ h9 => h9) rfl dX4_size_1 ?_
  have ho := Option.some.inj hf
  subst ho
  exact W.iret (v := f_used) hx hb hr (fun t ht hW => ⟨⟨_, (), rfl, rfl, by rw [ht]; exact hP, va_K.moved hW.alike hK, hD⟩, hS.F ht⟩) hS.2.2 dX4_size_4
def fX4_clear (f_used : Int32) : Option (Int32) := some (0)
set_option maxRecDepth 100000 in
theorem kX4_clear (l : Launch) (G : va_G) (cy : Nat → ClassId) (q_this : Nat) (q_cells : Nat) (sz : Nat) (f_limit : Int32) (f_used : Int32) {o : Int32} (hf : fX4_clear f_used = some o) : Met l yX4_clear (Cond.code yX4_clear cX4_clear 1 none :: AW) ({ frames := 0, cells := 0, slots := 0, locals := 0 } : Room) (va_Pc [.ref q_this] (Wp G cy [(q_this, .inr (4, [.int f_limit, .ref q_cells, .int f_used]))] sz)) (va_Qv (fun (_ : Unit) => True) (fun _ => Wq G cy (va_A [(q_this, .inr (4, [.int f_limit, .ref q_cells, .int f_used]))] sz) [(q_this, .inr (4, [.int f_limit, .ref q_cells, .int o]))]) (va_A [(q_this, .inr (4, [.int f_limit, .ref q_cells, .int f_used]))] sz)) 0 0 (va_A [(q_this, .inr (4, [.int f_limit, .ref q_cells, .int f_used]))] sz) := by
  refine Met.ofW (cc := cX4_clear) (maxL := 1) (ret := none) (by decide) rfl ?_
  intro p e s m args below meth c s₁ B hml hv
  obtain ⟨rfl, hsz, hP, hK, hD0, hN⟩ := hv
  have hx := B.exec
  have hb := B.bytes
  have hr := B.returns
  have htA : ∀ w ∈ AW, w.before _ s = true := fun w h => atoms_spec (ws := Cond.code yX4_clear cX4_clear 1 none :: AW) B.pre w (List.mem_cons_of_mem _ h)
  have hown : s.vm.findClass RX4 = some m.cls := findClass_of_methodNamed B.named
  have hlocks := B.notSynchronized
  subst hsz
  have hD := hD0.self (sz := s.heap.size)
  generalize hAe : va_A [(q_this, .inr (4, [.int f_limit, .ref q_cells, .int f_used]))] s.heap.size = A at hD ⊢
  have hA : ∀ q : Nat, s.heap.size ≤ q → A q := fun q h => by rw [← hAe]; exact Or.inr h
  have hS : va_S A s.heap s.heap [] := va_S.rf
  have hl := lv_entry ([.ref q_this]) (n := 1) (Nat.le_of_ble_eq_true rfl)
  rw [lg_entry_eq]
  generalize (lg_sl ([.ref q_this]) ++ List.replicate (1 - (lg_sl ([.ref q_this])).length) Slot.unset).toArray = ls at hl ⊢
  have hl : lv_has ls 1 [(0, .ref q_this)] := hl
  have hP : va_P G vwCl [(q_this, .inr (4, [.int f_limit, .ref q_cells, .int f_used]))] s.heap := hP
  have hf : (some (0) : Option (Int32)) = some o := hf
  refine lv_aload_n hx hb dX4_clear_0 rfl (lv_at hl 0 rfl) ?_
  refine lv_iconst (v := 0) hx hb dX4_clear_1 (by decide) ?_
  refine va_put (D := G) (ci := 4) (v := .int 0) (ty := tyX4 2) (C := RX4) (T := TX4) (N := 3) hx hb htA lyX4 tyX4 tyX4_ok nmX4 hown hK hP hD hS 0 rfl rfl 2 (by decide) (htA _ a_fl_X4_9) (fun _ h9 => h9) rfl (tyX4_ok 2 (by decide)) rfl rfl (Nat.le_of_ble_eq_true rfl) dX4_clear_2 (fun H locs hP hD hS => ?_)
  have hP : va_P G vwCl [(q_this, .inr (4, [.int f_limit, .ref q_cells, .int 0]))] H := hP
  have hD : va_D A [(q_this, .inr (4, [.int f_limit, .ref q_cells, .int 0]))] := hD
  have ho := Option.some.inj hf
  subst ho
  exact W.vret hx hb hr (fun t ht hW => ⟨⟨(), rfl, trivial, by rw [ht]; exact hP, va_K.moved hW.alike hK, hD⟩, hS.F ht⟩) hS.2.2 dX4_clear_5
def fX4_put (p1 : Int32) (p2 : Int32) (p3 : Int32) (n_cells : Nat) (f_limit : Int32) (f_used : Int32) (f_cells : Nat → Int32) : Option (Int32 × Int32 × (Nat → Int32)) := (if f_used < f_limit then ck (3 * f_used) n_cells (ck ((3 * f_used) + 1) n_cells (ck ((3 * f_used) + 2) n_cells (some ((f_used + 1), (f_used + 1), (upd (upd (upd f_cells (Int32.toNatClampNeg (3 * f_used)) p1) (Int32.toNatClampNeg ((3 * f_used) + 1)) p2) (Int32.toNatClampNeg ((3 * f_used) + 2)) p3))))) else some ((-4), f_used, f_cells))
set_option maxRecDepth 100000 in
theorem kX4_put (l : Launch) (G : va_G) (cy : Nat → ClassId) (q_this : Nat) (q_cells : Nat) (sz : Nat) (n_cells : Nat) (f_limit : Int32) (f_used : Int32) (f_cells : Nat → Int32) (p1 : Int32) (p2 : Int32) (p3 : Int32) {o : Int32 × Int32 × (Nat → Int32)} (hf : fX4_put p1 p2 p3 n_cells f_limit f_used f_cells = some o) : Met l yX4_put (Cond.code yX4_put cX4_put 4 (some .int) :: AW) ({ frames := 0, cells := 0, slots := 0, locals := 0 } : Room) (va_Pc [.ref q_this, .int p1, .int p2, .int p3] (Wp G cy [(q_this, .inr (4, [.int f_limit, .ref q_cells, .int f_used])), (q_cells, .inl (cy 0, n_cells, .inl f_cells))] sz)) (va_Qi (fun r (_ : Unit) => r = o.1) (fun _ => Wq G cy (va_A [(q_this, .inr (4, [.int f_limit, .ref q_cells, .int f_used])), (q_cells, .inl (cy 0, n_cells, .inl f_cells))] sz) [(q_this, .inr (4, [.int f_limit, .ref q_cells, .int o.2.1])), (q_cells, .inl (cy 0, n_cells, .inl o.2.2))]) (va_A [(q_this, .inr (4, [.int f_limit, .ref q_cells, .int f_used])), (q_cells, .inl (cy 0, n_cells, .inl f_cells))] sz)) 0 0 (va_A [(q_this, .inr (4, [.int f_limit, .ref q_cells, .int f_used])), (q_cells, .inl (cy 0, n_cells, .inl f_cells))] sz) := by
  refine Met.ofW (cc := cX4_put) (maxL := 4) (ret := (some .int)) (by decide) rfl ?_
  intro p e s m args below meth c s₁ B hml hv
  obtain ⟨rfl, hsz, hP, hK, hD0, hN⟩ := hv
  have hx := B.exec
  have hb := B.bytes
  have hr := B.returns
  have htA : ∀ w ∈ AW, w.before _ s = true := fun w h => atoms_spec (ws := Cond.code yX4_put cX4_put 4 (some .int) :: AW) B.pre w (List.mem_cons_of_mem _ h)
  have hown : s.vm.findClass RX4 = some m.cls := findClass_of_methodNamed B.named
  have hlocks := B.notSynchronized
  subst hsz
  have hD := hD0.self (sz := s.heap.size)
  generalize hAe : va_A [(q_this, .inr (4, [.int f_limit, .ref q_cells, .int f_used])), (q_cells, .inl (cy 0, n_cells, .inl f_cells))] s.heap.size = A at hD ⊢
  have hA : ∀ q : Nat, s.heap.size ≤ q → A q := fun q h => by rw [← hAe]; exact Or.inr h
  have hS : va_S A s.heap s.heap [] := va_S.rf
  have hl := lv_entry ([.ref q_this, .int p1, .int p2, .int p3]) (n := 4) (Nat.le_of_ble_eq_true rfl)
  rw [lg_entry_eq]
  generalize (lg_sl ([.ref q_this, .int p1, .int p2, .int p3]) ++ List.replicate (4 - (lg_sl ([.ref q_this, .int p1, .int p2, .int p3])).length) Slot.unset).toArray = ls at hl ⊢
  have hl : lv_has ls 4 [(0, .ref q_this), (1, .int p1), (2, .int p2), (3, .int p3)] := hl
  have hP : va_P G vwCl [(q_this, .inr (4, [.int f_limit, .ref q_cells, .int f_used])), (q_cells, .inl (cy 0, n_cells, .inl f_cells))] s.heap := hP
  have hf : ((if f_used < f_limit then ck (3 * f_used) n_cells (ck ((3 * f_used) + 1) n_cells (ck ((3 * f_used) + 2) n_cells (some ((f_used + 1), (f_used + 1), (upd (upd (upd f_cells (Int32.toNatClampNeg (3 * f_used)) p1) (Int32.toNatClampNeg ((3 * f_used) + 1)) p2) (Int32.toNatClampNeg ((3 * f_used) + 2)) p3))))) else some ((-4), f_used, f_cells)) : Option (Int32 × Int32 × (Nat → Int32))) = some o := hf
  refine lv_aload_n hx hb dX4_put_0 rfl (lv_at hl 0 rfl) ?_
  refine va_get (D := G) (ci := 4) (v := .int f_used) (C := RX4) (T := TX4) (N := 3) hx hb htA lyX4 hown hK hP 0 rfl rfl 2 (by decide) (htA _ a_fl_X4_9) (fun _ h9 => h9) rfl dX4_put_1 ?_
  refine lv_aload_n hx hb dX4_put_4 rfl (lv_at hl 0 rfl) ?_
  refine va_get (D := G) (ci := 4) (v := .int f_limit) (C := RX4) (T := TX4) (N := 3) hx hb htA lyX4 hown hK hP 0 rfl rfl 0 (by decide) (htA _ a_fl_X4_21) (fun _ h9 => h9) rfl dX4_put_5 ?_
  refine lv_icmp_lt (tgt := 14) hx hb dX4_put_8 (by decide) (fun c_17 => ?_) (fun c_17 => ?_)
  · have hf := ite_t c_17 hf
    refine lv_aload_n hx hb dX4_put_14 rfl (lv_at hl 0 rfl) ?_
    refine va_get (D := G) (ci := 4) (v := .ref q_cells) (C := RX4) (T := TX4) (N := 3) hx hb htA lyX4 hown hK hP 0 rfl rfl 1 (by decide) (htA _ a_fl_X4_24) (fun _ h9 => h9) rfl dX4_put_15 ?_
    refine lv_iconst (v := 3) hx hb dX4_put_18 (by decide) ?_
    refine lv_aload_n hx hb dX4_put_19 rfl (lv_at hl 0 rfl) ?_
    refine va_get (D := G) (ci := 4) (v := .int f_used) (C := RX4) (T := TX4) (N := 3) hx hb htA lyX4 hown hK hP 0 rfl rfl 2 (by decide) (htA _ a_fl_X4_9) (fun _ h9 => h9) rfl dX4_put_20 ?_
    refine lv_imul hx hb dX4_put_23 ?_
    refine lv_iload_n hx hb dX4_put_24 rfl (lv_at hl 1 rfl) ?_
    obtain ⟨i_18, hf⟩ := ck_s hf
    refine va_iast (D := G) hx hb hK hP hD hS 1 0 rfl rfl i_18 dX4_put_25 (fun H locs hP hD hS => ?_)
    have hP : va_P G vwCl [(q_this, .inr (4, [.int f_limit, .ref q_cells, .int f_used])), (q_cells, .inl (cy 0, n_cells, .inl (upd f_cells (Int32.toNatClampNeg (3 * f_used)) p1)))] H := hP
    have hD : va_D A [(q_this, .inr (4, [.int f_limit, .ref q_cells, .int f_used])), (q_cells, .inl (cy 0, n_cells, .inl (upd f_cells (Int32.toNatClampNeg (3 * f_used)) p1)))] := hD
    refine lv_aload_n hx hb dX4_put_26 rfl (lv_at hl 0 rfl) ?_
    refine va_get (D := G) (ci := 4) (v := .ref q_cells) (C := RX4) (T := TX4) (N := 3) hx hb htA lyX4 hown hK hP 0 rfl rfl 1 (by decide) (htA _ a_fl_X4_24) (fun _ h9 => h9) rfl dX4_put_27 ?_
    refine lv_iconst (v := 3) hx hb dX4_put_30 (by decide) ?_
    refine lv_aload_n hx hb dX4_put_31 rfl (lv_at hl 0 rfl) ?_
    refine va_get (D := G) (ci := 4) (v := .int f_used) (C := RX4) (T := TX4) (N := 3) hx hb htA lyX4 hown hK hP 0 rfl rfl 2 (by decide) (htA _ a_fl_X4_9) (fun _ h9 => h9) rfl dX4_put_32 ?_
    refine lv_imul hx hb dX4_put_35 ?_
    refine lv_iconst (v := 1) hx hb dX4_put_36 (by decide) ?_
    refine lv_iadd hx hb dX4_put_37 ?_
    refine lv_iload_n hx hb dX4_put_38 rfl (lv_at hl 2 rfl) ?_
    obtain ⟨i_19, hf⟩ := ck_s hf
    refine va_iast (D := G) hx hb hK hP hD hS 1 0 rfl rfl i_19 dX4_put_39 (fun H locs hP hD hS => ?_)
    have hP : va_P G vwCl [(q_this, .inr (4, [.int f_limit, .ref q_cells, .int f_used])), (q_cells, .inl (cy 0, n_cells, .inl (upd (upd f_cells (Int32.toNatClampNeg (3 * f_used)) p1) (Int32.toNatClampNeg ((3 * f_used) + 1)) p2)))] H := hP
    have hD : va_D A [(q_this, .inr (4, [.int f_limit, .ref q_cells, .int f_used])), (q_cells, .inl (cy 0, n_cells, .inl (upd (upd f_cells (Int32.toNatClampNeg (3 * f_used)) p1) (Int32.toNatClampNeg ((3 * f_used) + 1)) p2)))] := hD
    refine lv_aload_n hx hb dX4_put_40 rfl (lv_at hl 0 rfl) ?_
    refine va_get (D := G) (ci := 4) (v := .ref q_cells) (C := RX4) (T := TX4) (N := 3) hx hb htA lyX4 hown hK hP 0 rfl rfl 1 (by decide) (htA _ a_fl_X4_24) (fun _ h9 => h9) rfl dX4_put_41 ?_
    refine lv_iconst (v := 3) hx hb dX4_put_44 (by decide) ?_
    refine lv_aload_n hx hb dX4_put_45 rfl (lv_at hl 0 rfl) ?_
    refine va_get (D := G) (ci := 4) (v := .int f_used) (C := RX4) (T := TX4) (N := 3) hx hb htA lyX4 hown hK hP 0 rfl rfl 2 (by decide) (htA _ a_fl_X4_9) (fun _ h9 => h9) rfl dX4_put_46 ?_
    refine lv_imul hx hb dX4_put_49 ?_
    refine lv_iconst (v := 2) hx hb dX4_put_50 (by decide) ?_
    refine lv_iadd hx hb dX4_put_51 ?_
    refine lv_iload_n hx hb dX4_put_52 rfl (lv_at hl 3 rfl) ?_
    obtain ⟨i_20, hf⟩ := ck_s hf
    refine va_iast (D := G) hx hb hK hP hD hS 1 0 rfl rfl i_20 dX4_put_53 (fun H locs hP hD hS => ?_)
    have hP : va_P G vwCl [(q_this, .inr (4, [.int f_limit, .ref q_cells, .int f_used])), (q_cells, .inl (cy 0, n_cells, .inl (upd (upd (upd f_cells (Int32.toNatClampNeg (3 * f_used)) p1) (Int32.toNatClampNeg ((3 * f_used) + 1)) p2) (Int32.toNatClampNeg ((3 * f_used) + 2)) p3)))] H := hP
    have hD : va_D A [(q_this, .inr (4, [.int f_limit, .ref q_cells, .int f_used])), (q_cells, .inl (cy 0, n_cells, .inl (upd (upd (upd f_cells (Int32.toNatClampNeg (3 * f_used)) p1) (Int32.toNatClampNeg ((3 * f_used) + 1)) p2) (Int32.toNatClampNeg ((3 * f_used) + 2)) p3)))] := hD
    refine lv_aload_n hx hb dX4_put_54 rfl (lv_at hl 0 rfl) ?_
    refine lv_dup hx hb dX4_put_55 rfl ?_
    refine va_get (D := G) (ci := 4) (v := .int f_used) (C := RX4) (T := TX4) (N := 3) hx hb htA lyX4 hown hK hP 0 rfl rfl 2 (by decide) (htA _ a_fl_X4_9) (fun _ h9 => h9) rfl dX4_put_56 ?_
    refine lv_iconst (v := 1) hx hb dX4_put_59 (by decide) ?_
    refine lv_iadd hx hb dX4_put_60 ?_
    refine va_put (D := G) (ci := 4) (v := .int (f_used + 1)) (ty := tyX4 2) (C := RX4) (T := TX4) (N := 3) hx hb htA lyX4 tyX4 tyX4_ok nmX4 hown hK hP hD hS 0 rfl rfl 2 (by decide) (htA _ a_fl_X4_9) (fun _ h9 => h9) rfl (tyX4_ok 2 (by decide)) rfl rfl (Nat.le_of_ble_eq_true rfl) dX4_put_61 (fun H locs hP hD hS => ?_)
    have hP : va_P G vwCl [(q_this, .inr (4, [.int f_limit, .ref q_cells, .int (f_used + 1)])), (q_cells, .inl (cy 0, n_cells, .inl (upd (upd (upd f_cells (Int32.toNatClampNeg (3 * f_used)) p1) (Int32.toNatClampNeg ((3 * f_used) + 1)) p2) (Int32.toNatClampNeg ((3 * f_used) + 2)) p3)))] H := hP
    have hD : va_D A [(q_this, .inr (4, [.int f_limit, .ref q_cells, .int (f_used + 1)])), (q_cells, .inl (cy 0, n_cells, .inl (upd (upd (upd f_cells (Int32.toNatClampNeg (3 * f_used)) p1) (Int32.toNatClampNeg ((3 * f_used) + 1)) p2) (Int32.toNatClampNeg ((3 * f_used) + 2)) p3)))] := hD
    refine lv_aload_n hx hb dX4_put_64 rfl (lv_at hl 0 rfl) ?_
    refine va_get (D := G) (ci := 4) (v := .int (f_used + 1)) (C := RX4) (T := TX4) (N := 3) hx hb htA lyX4 hown hK hP 0 rfl rfl 2 (by decide) (htA _ a_fl_X4_9) (fun _ h9 => h9) rfl dX4_put_65 ?_
    have ho := Option.some.inj hf
    subst ho
    exact W.iret (v := (f_used + 1)) hx hb hr (fun t ht hW => ⟨⟨_, (), rfl, rfl, by rw [ht]; exact hP, va_K.moved hW.alike hK, hD⟩, hS.F ht⟩) hS.2.2 dX4_put_68
  · have hf := ite_f c_17 hf
    refine lv_bipush (v := (-4)) hx hb dX4_put_11 (by decide) ?_
    have ho := Option.some.inj hf
    subst ho
    exact W.iret (v := (-4)) hx hb hr (fun t ht hW => ⟨⟨_, (), rfl, rfl, by rw [ht]; exact hP, va_K.moved hW.alike hK, hD⟩, hS.F ht⟩) hS.2.2 dX4_put_13
def fX4_cell (p1 : Int32) (p2 : Int32) (n_cells : Nat) (f_used : Int32) (f_cells : Nat → Int32) : Option (Int32) := (fX8_isIn p1 0 (f_used - 1)).bind fun q8 => ((if q8 = 0 then some (0) else (fX8_isIn p2 0 2).bind fun q17 => ((if q17 = 0 then some (0) else ck ((3 * p1) + p2) n_cells (some ((f_cells (Int32.toNatClampNeg ((3 * p1) + p2)))))))))
set_option maxRecDepth 100000 in
theorem kX4_cell (l : Launch) (G : va_G) (cy : Nat → ClassId) (q_this : Nat) (q_cells : Nat) (sz : Nat) (n_cells : Nat) (f_limit : Int32) (f_used : Int32) (f_cells : Nat → Int32) (p1 : Int32) (p2 : Int32) {o : Int32} (hf : fX4_cell p1 p2 n_cells f_used f_cells = some o) : Met l yX4_cell (Cond.code yX4_cell cX4_cell 3 (some .int) :: AW) ({ frames := 1, cells := 0, slots := 0, locals := 22 } : Room) (va_Pc [.ref q_this, .int p1, .int p2] (Wp G cy [(q_this, .inr (4, [.int f_limit, .ref q_cells, .int f_used])), (q_cells, .inl (cy 0, n_cells, .inl f_cells))] sz)) (va_Qi (fun r (_ : Unit) => r = o) (fun _ => Wq G cy (va_A [(q_this, .inr (4, [.int f_limit, .ref q_cells, .int f_used])), (q_cells, .inl (cy 0, n_cells, .inl f_cells))] sz) [(q_this, .inr (4, [.int f_limit, .ref q_cells, .int f_used])), (q_cells, .inl (cy 0, n_cells, .inl f_cells))]) (va_A [(q_this, .inr (4, [.int f_limit, .ref q_cells, .int f_used])), (q_cells, .inl (cy 0, n_cells, .inl f_cells))] sz)) 0 0 (va_A [(q_this, .inr (4, [.int f_limit, .ref q_cells, .int f_used])), (q_cells, .inl (cy 0, n_cells, .inl f_cells))] sz) := by
  refine Met.ofW (cc := cX4_cell) (maxL := 3) (ret := (some .int)) (by decide) rfl ?_
  intro p e s m args below meth c s₁ B hml hv
  obtain ⟨rfl, hsz, hP, hK, hD0, hN⟩ := hv
  have hx := B.exec
  have hb := B.bytes
  have hr := B.returns
  have htA : ∀ w ∈ AW, w.before _ s = true := fun w h => atoms_spec (ws := Cond.code yX4_cell cX4_cell 3 (some .int) :: AW) B.pre w (List.mem_cons_of_mem _ h)
  have hown : s.vm.findClass RX4 = some m.cls := findClass_of_methodNamed B.named
  have hlocks := B.notSynchronized
  subst hsz
  have hD := hD0.self (sz := s.heap.size)
  generalize hAe : va_A [(q_this, .inr (4, [.int f_limit, .ref q_cells, .int f_used])), (q_cells, .inl (cy 0, n_cells, .inl f_cells))] s.heap.size = A at hD ⊢
  have hA : ∀ q : Nat, s.heap.size ≤ q → A q := fun q h => by rw [← hAe]; exact Or.inr h
  have hS : va_S A s.heap s.heap [] := va_S.rf
  have hl := lv_entry ([.ref q_this, .int p1, .int p2]) (n := 3) (Nat.le_of_ble_eq_true rfl)
  rw [lg_entry_eq]
  generalize (lg_sl ([.ref q_this, .int p1, .int p2]) ++ List.replicate (3 - (lg_sl ([.ref q_this, .int p1, .int p2])).length) Slot.unset).toArray = ls at hl ⊢
  have hl : lv_has ls 3 [(0, .ref q_this), (1, .int p1), (2, .int p2)] := hl
  have hP : va_P G vwCl [(q_this, .inr (4, [.int f_limit, .ref q_cells, .int f_used])), (q_cells, .inl (cy 0, n_cells, .inl f_cells))] s.heap := hP
  have hf : ((fX8_isIn p1 0 (f_used - 1)).bind fun q8 => ((if q8 = 0 then some (0) else (fX8_isIn p2 0 2).bind fun q17 => ((if q17 = 0 then some (0) else ck ((3 * p1) + p2) n_cells (some ((f_cells (Int32.toNatClampNeg ((3 * p1) + p2))))))))) : Option (Int32)) = some o := hf
  refine lv_iload_n hx hb dX4_cell_0 rfl (lv_at hl 1 rfl) ?_
  refine lv_iconst (v := 0) hx hb dX4_cell_1 (by decide) ?_
  refine lv_aload_n hx hb dX4_cell_2 rfl (lv_at hl 0 rfl) ?_
  refine va_get (D := G) (ci := 4) (v := .int f_used) (C := RX4) (T := TX4) (N := 3) hx hb htA lyX4 hown hK hP 0 rfl rfl 2 (by decide) (htA _ a_fl_X4_9) (fun _ h9 => h9) rfl dX4_cell_3 ?_
  refine lv_iconst (v := 1) hx hb dX4_cell_6 (by decide) ?_
  refine lv_isub hx hb dX4_cell_7 ?_
  obtain ⟨q8, h8_21, hf⟩ := bd_s hf
  refine u_calliR (va_runSN (As := [.int p1, .int 0, .int (f_used - 1)]) (rest := []) ⟨hx, hb, hml, hown, htA⟩ (kX8_isIn l G cy s.heap.size p1 0 (f_used - 1) h8_21) (u_cnS htA hN (List.mem_of_getElem? (i := 23) rfl) pk_X8_isIn ⟨Nat.le_of_ble_eq_true rfl, Nat.le_of_ble_eq_true rfl⟩) (u_preS hK hN hP hD [] rfl (by decide)) rfl rfl hl.1 rfl (lv_room (Nat.le_of_ble_eq_true rfl)) dX4_cell_8 ⟨Nat.zero_le _, Nat.zero_le _⟩) hP hD hS hA [] rfl (fun H locs hP hS => ?_)
  refine lv_if_eq (tgt := 23) hx hb dX4_cell_11 (by decide) (fun c_22 => ?_) (fun c_22 => ?_)
  · have hf := ite_t c_22 hf
    refine lv_iconst (v := 0) hx hb dX4_cell_23 (by decide) ?_
    have ho := Option.some.inj hf
    subst ho
    exact W.iret (v := 0) hx hb hr (fun t ht hW => ⟨⟨_, (), rfl, rfl, by rw [ht]; exact hP, va_K.moved hW.alike hK, hD⟩, hS.F ht⟩) hS.2.2 dX4_cell_24
  · have hf := ite_f c_22 hf
    refine lv_iload_n hx hb dX4_cell_14 rfl (lv_at hl 2 rfl) ?_
    refine lv_iconst (v := 0) hx hb dX4_cell_15 (by decide) ?_
    refine lv_iconst (v := 2) hx hb dX4_cell_16 (by decide) ?_
    obtain ⟨q17, h17_23, hf⟩ := bd_s hf
    refine u_calliR (va_runSN (As := [.int p2, .int 0, .int 2]) (rest := []) ⟨hx, hb, hml, hown, htA⟩ (kX8_isIn l G cy H.size p2 0 2 h17_23) (u_cnS htA hN (List.mem_of_getElem? (i := 23) rfl) pk_X8_isIn ⟨Nat.le_of_ble_eq_true rfl, Nat.le_of_ble_eq_true rfl⟩) (u_preS hK hN hP hD [] rfl (by decide)) rfl rfl hl.1 rfl (lv_room (Nat.le_of_ble_eq_true rfl)) dX4_cell_17 ⟨Nat.zero_le _, Nat.zero_le _⟩) hP hD hS hA [] rfl (fun H locs hP hS => ?_)
    refine lv_if_ne (tgt := 25) hx hb dX4_cell_20 (by decide) (fun c_24 => ?_) (fun c_24 => ?_)
    · have hf := ite_f c_24 hf
      refine lv_aload_n hx hb dX4_cell_25 rfl (lv_at hl 0 rfl) ?_
      refine va_get (D := G) (ci := 4) (v := .ref q_cells) (C := RX4) (T := TX4) (N := 3) hx hb htA lyX4 hown hK hP 0 rfl rfl 1 (by decide) (htA _ a_fl_X4_24) (fun _ h9 => h9) rfl dX4_cell_26 ?_
      refine lv_iconst (v := 3) hx hb dX4_cell_29 (by decide) ?_
      refine lv_iload_n hx hb dX4_cell_30 rfl (lv_at hl 1 rfl) ?_
      refine lv_imul hx hb dX4_cell_31 ?_
      refine lv_iload_n hx hb dX4_cell_32 rfl (lv_at hl 2 rfl) ?_
      refine lv_iadd hx hb dX4_cell_33 ?_
      obtain ⟨i_25, hf⟩ := ck_s hf
      refine va_iald (D := G) hx hb hK hP 1 0 rfl rfl i_25 dX4_cell_34 ?_
      have ho := Option.some.inj hf
      subst ho
      exact W.iret (v := (f_cells (Int32.toNatClampNeg ((3 * p1) + p2)))) hx hb hr (fun t ht hW => ⟨⟨_, (), rfl, rfl, by rw [ht]; exact hP, va_K.moved hW.alike hK, hD⟩, hS.F ht⟩) hS.2.2 dX4_cell_35
    · have hf := ite_t c_24 hf
      refine lv_iconst (v := 0) hx hb dX4_cell_23 (by decide) ?_
      have ho := Option.some.inj hf
      subst ho
      exact W.iret (v := 0) hx hb hr (fun t ht hW => ⟨⟨_, (), rfl, rfl, by rw [ht]; exact hP, va_K.moved hW.alike hK, hD⟩, hS.F ht⟩) hS.2.2 dX4_cell_24
def lX4_copyFrom_7 (n : Nat) (n_cells : Nat) (n_o_cells : Nat) (f_limit : Int32) (f_o_used : Int32) (f_o_cells : Nat → Int32)  : Nat → Int32 → Int32 → (Nat → Int32) → Option (Int32 × (Nat → Int32))
  | 0, _, _, _ => none
  | k7 + 1, v2, f_used, f_cells => (fX4_size f_o_used).bind fun q9 => ((if q9 ≤ v2 then some (f_used, f_cells) else (fX4_cell v2 0 n_o_cells f_o_used f_o_cells).bind fun q19 => ((fX4_cell v2 1 n_o_cells f_o_used f_o_cells).bind fun q25 => ((fX4_cell v2 2 n_o_cells f_o_used f_o_cells).bind fun q31 => ((fX4_put q19 q25 q31 n_cells f_limit f_used f_cells).bind fun q34 => (lX4_copyFrom_7 n n_cells n_o_cells f_limit f_o_used f_o_cells k7 (v2 + 1) q34.2.1 q34.2.2))))))
def fX4_copyFrom (n : Nat) (n_cells : Nat) (n_o_cells : Nat) (f_limit : Int32) (f_used : Int32) (f_cells : Nat → Int32) (f_o_used : Int32) (f_o_cells : Nat → Int32) : Option (Int32 × (Nat → Int32)) := lX4_copyFrom_7 n n_cells n_o_cells f_limit f_o_used f_o_cells n 0 0 f_cells
set_option maxRecDepth 100000 in
theorem kX4_copyFrom (l : Launch) (G : va_G) (cy : Nat → ClassId) (q_this : Nat) (q_cells : Nat) (q_o : Nat) (q_o_cells : Nat) (sz : Nat) (n_cells : Nat) (n_o_cells : Nat) (f_limit : Int32) (f_used : Int32) (f_cells : Nat → Int32) (f_o_limit : Int32) (f_o_used : Int32) (f_o_cells : Nat → Int32) (n : Nat) {o : Int32 × (Nat → Int32)} (hf : fX4_copyFrom n n_cells n_o_cells f_limit f_used f_cells f_o_used f_o_cells = some o) : Met l yX4_copyFrom (Cond.code yX4_copyFrom cX4_copyFrom 3 none :: AW) ({ frames := 2, cells := 0, slots := 0, locals := 44 } : Room) (va_Pc [.ref q_this, .ref q_o] (Wp G cy [(q_this, .inr (4, [.int f_limit, .ref q_cells, .int f_used])), (q_cells, .inl (cy 0, n_cells, .inl f_cells)), (q_o, .inr (4, [.int f_o_limit, .ref q_o_cells, .int f_o_used])), (q_o_cells, .inl (cy 0, n_o_cells, .inl f_o_cells))] sz)) (va_Qv (fun (_ : Unit) => True) (fun _ => Wq G cy (va_A [(q_this, .inr (4, [.int f_limit, .ref q_cells, .int f_used])), (q_cells, .inl (cy 0, n_cells, .inl f_cells)), (q_o, .inr (4, [.int f_o_limit, .ref q_o_cells, .int f_o_used])), (q_o_cells, .inl (cy 0, n_o_cells, .inl f_o_cells))] sz) [(q_this, .inr (4, [.int f_limit, .ref q_cells, .int o.1])), (q_cells, .inl (cy 0, n_cells, .inl o.2)), (q_o, .inr (4, [.int f_o_limit, .ref q_o_cells, .int f_o_used])), (q_o_cells, .inl (cy 0, n_o_cells, .inl f_o_cells))]) (va_A [(q_this, .inr (4, [.int f_limit, .ref q_cells, .int f_used])), (q_cells, .inl (cy 0, n_cells, .inl f_cells)), (q_o, .inr (4, [.int f_o_limit, .ref q_o_cells, .int f_o_used])), (q_o_cells, .inl (cy 0, n_o_cells, .inl f_o_cells))] sz)) 0 0 (va_A [(q_this, .inr (4, [.int f_limit, .ref q_cells, .int f_used])), (q_cells, .inl (cy 0, n_cells, .inl f_cells)), (q_o, .inr (4, [.int f_o_limit, .ref q_o_cells, .int f_o_used])), (q_o_cells, .inl (cy 0, n_o_cells, .inl f_o_cells))] sz) := by
  refine Met.ofW (cc := cX4_copyFrom) (maxL := 3) (ret := none) (by decide) rfl ?_
  intro p e s m args below meth c s₁ B hml hv
  obtain ⟨rfl, hsz, hP, hK, hD0, hN⟩ := hv
  have hx := B.exec
  have hb := B.bytes
  have hr := B.returns
  have htA : ∀ w ∈ AW, w.before _ s = true := fun w h => atoms_spec (ws := Cond.code yX4_copyFrom cX4_copyFrom 3 none :: AW) B.pre w (List.mem_cons_of_mem _ h)
  have hown : s.vm.findClass RX4 = some m.cls := findClass_of_methodNamed B.named
  have hlocks := B.notSynchronized
  subst hsz
  have hD := hD0.self (sz := s.heap.size)
  generalize hAe : va_A [(q_this, .inr (4, [.int f_limit, .ref q_cells, .int f_used])), (q_cells, .inl (cy 0, n_cells, .inl f_cells)), (q_o, .inr (4, [.int f_o_limit, .ref q_o_cells, .int f_o_used])), (q_o_cells, .inl (cy 0, n_o_cells, .inl f_o_cells))] s.heap.size = A at hD ⊢
  have hA : ∀ q : Nat, s.heap.size ≤ q → A q := fun q h => by rw [← hAe]; exact Or.inr h
  have hS : va_S A s.heap s.heap [] := va_S.rf
  have hl := lv_entry ([.ref q_this, .ref q_o]) (n := 3) (Nat.le_of_ble_eq_true rfl)
  rw [lg_entry_eq]
  generalize (lg_sl ([.ref q_this, .ref q_o]) ++ List.replicate (3 - (lg_sl ([.ref q_this, .ref q_o])).length) Slot.unset).toArray = ls at hl ⊢
  have hl : lv_has ls 3 [(0, .ref q_this), (1, .ref q_o)] := hl
  have hP : va_P G vwCl [(q_this, .inr (4, [.int f_limit, .ref q_cells, .int f_used])), (q_cells, .inl (cy 0, n_cells, .inl f_cells)), (q_o, .inr (4, [.int f_o_limit, .ref q_o_cells, .int f_o_used])), (q_o_cells, .inl (cy 0, n_o_cells, .inl f_o_cells))] s.heap := hP
  have hf : (lX4_copyFrom_7 n n_cells n_o_cells f_limit f_o_used f_o_cells n 0 0 f_cells : Option (Int32 × (Nat → Int32))) = some o := hf
  have L7 : ∀ k7 : Nat, ∀ (v2 : Int32) (f_used : Int32) (f_cells : Nat → Int32) (H : Heap) (locs : List Loc) (ls : Array Slot), va_P G vwCl [(q_this, .inr (4, [.int f_limit, .ref q_cells, .int f_used])), (q_cells, .inl (cy 0, n_cells, .inl f_cells)), (q_o, .inr (4, [.int f_o_limit, .ref q_o_cells, .int f_o_used])), (q_o_cells, .inl (cy 0, n_o_cells, .inl f_o_cells))] H → va_D A [(q_this, .inr (4, [.int f_limit, .ref q_cells, .int f_used])), (q_cells, .inl (cy 0, n_cells, .inl f_cells)), (q_o, .inr (4, [.int f_o_limit, .ref q_o_cells, .int f_o_used])), (q_o_cells, .inl (cy 0, n_o_cells, .inl f_o_cells))] → va_S A s.heap H locs → lv_has ls 3 [(0, .ref q_this), (1, .ref q_o), (2, .int v2)] → lX4_copyFrom_7 n n_cells n_o_cells f_limit f_o_used f_o_cells k7 v2 f_used f_cells = some o → W p l e (headSpec (Cond.code yX4_copyFrom cX4_copyFrom 3 none :: AW) ({ frames := 2, cells := 0, slots := 0, locals := 44 } : Room)).room s m ([.ref q_this, .ref q_o] : List Value).toArray below meth c H locs 0 0 (MQ below (va_Qv (fun (_ : Unit) => True) (fun _ => Wq G cy A [(q_this, .inr (4, [.int f_limit, .ref q_cells, .int o.1])), (q_cells, .inl (cy 0, n_cells, .inl o.2)), (q_o, .inr (4, [.int f_o_limit, .ref q_o_cells, .int f_o_used])), (q_o_cells, .inl (cy 0, n_o_cells, .inl f_o_cells))]) A) ([.ref q_this, .ref q_o] : List Value).toArray s 0 0 A) (F0 m 7 ls []) := by
    intro k7
    induction k7 with
    | zero =>
      intro v2 f_used f_cells H locs ls hP hD hS hl hf
      exact no_s hf
    | succ k7 ih7 =>
      intro v2 f_used f_cells H locs ls hP hD hS hl hf
      have hf : ((fX4_size f_o_used).bind fun q9 => ((if q9 ≤ v2 then some (f_used, f_cells) else (fX4_cell v2 0 n_o_cells f_o_used f_o_cells).bind fun q19 => ((fX4_cell v2 1 n_o_cells f_o_used f_o_cells).bind fun q25 => ((fX4_cell v2 2 n_o_cells f_o_used f_o_cells).bind fun q31 => ((fX4_put q19 q25 q31 n_cells f_limit f_used f_cells).bind fun q34 => (lX4_copyFrom_7 n n_cells n_o_cells f_limit f_o_used f_o_cells k7 (v2 + 1) q34.2.1 q34.2.2)))))) : Option (Int32 × (Nat → Int32))) = some o := hf
      refine lv_iload_n hx hb dX4_copyFrom_7 rfl (lv_at hl 2 rfl) ?_
      refine lv_aload_n hx hb dX4_copyFrom_8 rfl (lv_at hl 1 rfl) ?_
      obtain ⟨q9, h9_25, hf⟩ := bd_s hf
      refine u_calliR (va_runV (As := []) (rest := [.int v2]) ⟨hx, hb, hml, hown, htA⟩ (kX4_size l G cy q_o q_o_cells H.size f_o_limit f_o_used h9_25) (u_cwV htA a_ml_X4_32 pk_X4_size ⟨Nat.le_of_ble_eq_true rfl, Nat.le_of_ble_eq_true rfl⟩) (u_preV hK hN hP hD [2] rfl (by decide) 2 rfl rfl) rfl rfl hl.1 rfl (lv_room (Nat.le_of_ble_eq_true rfl)) dX4_copyFrom_9 ⟨Nat.zero_le _, Nat.zero_le _⟩) hP hD hS hA [2] rfl (fun H locs hP hS => ?_)
      refine lv_icmp_ge (tgt := 44) hx hb dX4_copyFrom_12 (by decide) (fun c_26 => ?_) (fun c_26 => ?_)
      · have hf := ite_t c_26 hf
        have ho := Option.some.inj hf
        subst ho
        exact W.vret hx hb hr (fun t ht hW => ⟨⟨(), rfl, trivial, by rw [ht]; exact hP, va_K.moved hW.alike hK, hD⟩, hS.F ht⟩) hS.2.2 dX4_copyFrom_44
      · have hf := ite_f c_26 hf
        refine lv_aload_n hx hb dX4_copyFrom_15 rfl (lv_at hl 0 rfl) ?_
        refine lv_aload_n hx hb dX4_copyFrom_16 rfl (lv_at hl 1 rfl) ?_
        refine lv_iload_n hx hb dX4_copyFrom_17 rfl (lv_at hl 2 rfl) ?_
        refine lv_iconst (v := 0) hx hb dX4_copyFrom_18 (by decide) ?_
        obtain ⟨q19, h19_27, hf⟩ := bd_s hf
        refine u_calliR (va_runV (As := [.int v2, .int 0]) (rest := [.ref q_this]) ⟨hx, hb, hml, hown, htA⟩ (kX4_cell l G cy q_o q_o_cells H.size n_o_cells f_o_limit f_o_used f_o_cells v2 0 h19_27) (u_cwV htA a_ml_X4_36 pk_X4_cell ⟨Nat.le_of_ble_eq_true rfl, Nat.le_of_ble_eq_true rfl⟩) (u_preV hK hN hP hD [2, 3] rfl (by decide) 2 rfl rfl) rfl rfl hl.1 rfl (lv_room (Nat.le_of_ble_eq_true rfl)) dX4_copyFrom_19 ⟨Nat.zero_le _, Nat.zero_le _⟩) hP hD hS hA [2, 3] rfl (fun H locs hP hS => ?_)
        refine lv_aload_n hx hb dX4_copyFrom_22 rfl (lv_at hl 1 rfl) ?_
        refine lv_iload_n hx hb dX4_copyFrom_23 rfl (lv_at hl 2 rfl) ?_
        refine lv_iconst (v := 1) hx hb dX4_copyFrom_24 (by decide) ?_
        obtain ⟨q25, h25_28, hf⟩ := bd_s hf
        refine u_calliR (va_runV (As := [.int v2, .int 1]) (rest := [.int q19, .ref q_this]) ⟨hx, hb, hml, hown, htA⟩ (kX4_cell l G cy q_o q_o_cells H.size n_o_cells f_o_limit f_o_used f_o_cells v2 1 h25_28) (u_cwV htA a_ml_X4_36 pk_X4_cell ⟨Nat.le_of_ble_eq_true rfl, Nat.le_of_ble_eq_true rfl⟩) (u_preV hK hN hP hD [2, 3] rfl (by decide) 2 rfl rfl) rfl rfl hl.1 rfl (lv_room (Nat.le_of_ble_eq_true rfl)) dX4_copyFrom_25 ⟨Nat.zero_le _, Nat.zero_le _⟩) hP hD hS hA [2, 3] rfl (fun H locs hP hS => ?_)
        refine lv_aload_n hx hb dX4_copyFrom_28 rfl (lv_at hl 1 rfl) ?_
        refine lv_iload_n hx hb dX4_copyFrom_29 rfl (lv_at hl 2 rfl) ?_
        refine lv_iconst (v := 2) hx hb dX4_copyFrom_30 (by decide) ?_
        obtain ⟨q31, h31_29, hf⟩ := bd_s hf
        refine u_calliR (va_runV (As := [.int v2, .int 2]) (rest := [.int q25, .int q19, .ref q_this]) ⟨hx, hb, hml, hown, htA⟩ (kX4_cell l G cy q_o q_o_cells H.size n_o_cells f_o_limit f_o_used f_o_cells v2 2 h31_29) (u_cwV htA a_ml_X4_36 pk_X4_cell ⟨Nat.le_of_ble_eq_true rfl, Nat.le_of_ble_eq_true rfl⟩) (u_preV hK hN hP hD [2, 3] rfl (by decide) 2 rfl rfl) rfl rfl hl.1 rfl (lv_room (Nat.le_of_ble_eq_true rfl)) dX4_copyFrom_31 ⟨Nat.zero_le _, Nat.zero_le _⟩) hP hD hS hA [2, 3] rfl (fun H locs hP hS => ?_)
        obtain ⟨q34, h34_30, hf⟩ := bd_s hf
        refine u_calli (va_runV (As := [.int q19, .int q25, .int q31]) (rest := []) ⟨hx, hb, hml, hown, htA⟩ (kX4_put l G cy q_this q_cells H.size n_cells f_limit f_used f_cells q19 q25 q31 h34_30) (u_cwV htA a_ml_X4_39 pk_X4_put ⟨Nat.le_of_ble_eq_true rfl, Nat.le_of_ble_eq_true rfl⟩) (u_preV hK hN hP hD [0, 1] rfl (by decide) 0 rfl rfl) rfl rfl hl.1 rfl (lv_room (Nat.le_of_ble_eq_true rfl)) dX4_copyFrom_34 ⟨Nat.zero_le _, Nat.zero_le _⟩) hP hD hS hA [0, 1] rfl (by decide) rfl rfl (fun H locs hP hD hS => ?_)
        have hP : va_P G vwCl [(q_this, .inr (4, [.int f_limit, .ref q_cells, .int q34.2.1])), (q_cells, .inl (cy 0, n_cells, .inl q34.2.2)), (q_o, .inr (4, [.int f_o_limit, .ref q_o_cells, .int f_o_used])), (q_o_cells, .inl (cy 0, n_o_cells, .inl f_o_cells))] H := hP
        have hD : va_D A [(q_this, .inr (4, [.int f_limit, .ref q_cells, .int q34.2.1])), (q_cells, .inl (cy 0, n_cells, .inl q34.2.2)), (q_o, .inr (4, [.int f_o_limit, .ref q_o_cells, .int f_o_used])), (q_o_cells, .inl (cy 0, n_o_cells, .inl f_o_cells))] := hD
        refine lv_pop hx hb dX4_copyFrom_37 rfl ?_
        refine lv_iinc (v := (v2 + 1)) (lv' := [(2, .int (v2 + 1)), (0, .ref q_this), (1, .ref q_o)]) hx hb dX4_copyFrom_38 hl (k := 2) rfl rfl (by decide) rfl (fun ls hl => ?_)
        refine lv_goto (tgt := 7) hx hb dX4_copyFrom_41 (by decide) ?_
        exact ih7 _ _ _ _ _ _ hP hD hS (lv_sub hl [1, 2, 0] rfl) hf
  refine lv_aload_n hx hb dX4_copyFrom_0 rfl (lv_at hl 0 rfl) ?_
  refine lv_iconst (v := 0) hx hb dX4_copyFrom_1 (by decide) ?_
  refine va_put (D := G) (ci := 4) (v := .int 0) (ty := tyX4 2) (C := RX4) (T := TX4) (N := 3) hx hb htA lyX4 tyX4 tyX4_ok nmX4 hown hK hP hD hS 0 rfl rfl 2 (by decide) (htA _ a_fl_X4_9) (fun _ h9 => h9) rfl (tyX4_ok 2 (by decide)) rfl rfl (Nat.le_of_ble_eq_true rfl) dX4_copyFrom_2 (fun H locs hP hD hS => ?_)
  have hP : va_P G vwCl [(q_this, .inr (4, [.int f_limit, .ref q_cells, .int 0])), (q_cells, .inl (cy 0, n_cells, .inl f_cells)), (q_o, .inr (4, [.int f_o_limit, .ref q_o_cells, .int f_o_used])), (q_o_cells, .inl (cy 0, n_o_cells, .inl f_o_cells))] H := hP
  have hD : va_D A [(q_this, .inr (4, [.int f_limit, .ref q_cells, .int 0])), (q_cells, .inl (cy 0, n_cells, .inl f_cells)), (q_o, .inr (4, [.int f_o_limit, .ref q_o_cells, .int f_o_used])), (q_o_cells, .inl (cy 0, n_o_cells, .inl f_o_cells))] := hD
  refine lv_iconst (v := 0) hx hb dX4_copyFrom_5 (by decide) ?_
  refine lv_istore_n (lv' := [(2, .int 0), (0, .ref q_this), (1, .ref q_o)]) hx hb dX4_copyFrom_6 rfl hl (by decide) rfl (fun ls hl => ?_)
  exact L7 n _ _ _ _ _ _ hP hD hS (lv_sub hl [1, 2, 0] rfl) hf
def jX3_isLetter_15 (f_x : Int32) (f_y : Int32)   : Option (Int32) := (if f_x = 0 then (if f_y = 1 then some (1) else some (0)) else some (0))
def fX3_isLetter (f_x : Int32) (f_y : Int32) : Option (Int32) := (if f_x = 1 then (if f_y = 0 then some (1) else jX3_isLetter_15 f_x f_y) else jX3_isLetter_15 f_x f_y)
set_option maxRecDepth 100000 in
theorem kX3_isLetter (l : Launch) (G : va_G) (cy : Nat → ClassId) (q_this : Nat) (sz : Nat) (f_x : Int32) (f_y : Int32) (f_steps : Int32) (f_metLetter : Int32) {o : Int32} (hf : fX3_isLetter f_x f_y = some o) : Met l yX3_isLetter (Cond.code yX3_isLetter cX3_isLetter 1 (some .boolean) :: AW) ({ frames := 0, cells := 0, slots := 0, locals := 0 } : Room) (va_Pc [.ref q_this] (Wp G cy [(q_this, .inr (3, [.int f_x, .int f_y, .int f_steps, .int f_metLetter]))] sz)) (va_Qi (fun r (_ : Unit) => r = o) (fun _ => Wq G cy (va_A [(q_this, .inr (3, [.int f_x, .int f_y, .int f_steps, .int f_metLetter]))] sz) [(q_this, .inr (3, [.int f_x, .int f_y, .int f_steps, .int f_metLetter]))]) (va_A [(q_this, .inr (3, [.int f_x, .int f_y, .int f_steps, .int f_metLetter]))] sz)) 0 0 (va_A [(q_this, .inr (3, [.int f_x, .int f_y, .int f_steps, .int f_metLetter]))] sz) := by
  refine Met.ofW (cc := cX3_isLetter) (maxL := 1) (ret := (some .boolean)) (by decide) rfl ?_
  intro p e s m args below meth c s₁ B hml hv
  obtain ⟨rfl, hsz, hP, hK, hD0, hN⟩ := hv
  have hx := B.exec
  have hb := B.bytes
  have hr := B.returns
  have htA : ∀ w ∈ AW, w.before _ s = true := fun w h => atoms_spec (ws := Cond.code yX3_isLetter cX3_isLetter 1 (some .boolean) :: AW) B.pre w (List.mem_cons_of_mem _ h)
  have hown : s.vm.findClass RX3 = some m.cls := findClass_of_methodNamed B.named
  have hlocks := B.notSynchronized
  subst hsz
  have hD := hD0.self (sz := s.heap.size)
  generalize hAe : va_A [(q_this, .inr (3, [.int f_x, .int f_y, .int f_steps, .int f_metLetter]))] s.heap.size = A at hD ⊢
  have hA : ∀ q : Nat, s.heap.size ≤ q → A q := fun q h => by rw [← hAe]; exact Or.inr h
  have hS : va_S A s.heap s.heap [] := va_S.rf
  have hl := lv_entry ([.ref q_this]) (n := 1) (Nat.le_of_ble_eq_true rfl)
  rw [lg_entry_eq]
  generalize (lg_sl ([.ref q_this]) ++ List.replicate (1 - (lg_sl ([.ref q_this])).length) Slot.unset).toArray = ls at hl ⊢
  have hl : lv_has ls 1 [(0, .ref q_this)] := hl
  have hP : va_P G vwCl [(q_this, .inr (3, [.int f_x, .int f_y, .int f_steps, .int f_metLetter]))] s.heap := hP
  have hf : ((if f_x = 1 then (if f_y = 0 then some (1) else jX3_isLetter_15 f_x f_y) else jX3_isLetter_15 f_x f_y) : Option (Int32)) = some o := hf
  have J15 : ∀ (H : Heap) (locs : List Loc) (ls : Array Slot), va_P G vwCl [(q_this, .inr (3, [.int f_x, .int f_y, .int f_steps, .int f_metLetter]))] H → va_D A [(q_this, .inr (3, [.int f_x, .int f_y, .int f_steps, .int f_metLetter]))] → va_S A s.heap H locs → lv_has ls 1 [(0, .ref q_this)] → jX3_isLetter_15 f_x f_y = some o → W p l e (headSpec (Cond.code yX3_isLetter cX3_isLetter 1 (some .boolean) :: AW) ({ frames := 0, cells := 0, slots := 0, locals := 0 } : Room)).room s m ([.ref q_this] : List Value).toArray below meth c H locs 0 0 (MQ below (va_Qi (fun r (_ : Unit) => r = o) (fun _ => Wq G cy A [(q_this, .inr (3, [.int f_x, .int f_y, .int f_steps, .int f_metLetter]))]) A) ([.ref q_this] : List Value).toArray s 0 0 A) (F0 m 15 ls []) := by
    intro  H locs ls hP hD hS hl hf
    have hf : ((if f_x = 0 then (if f_y = 1 then some (1) else some (0)) else some (0)) : Option (Int32)) = some o := hf
    refine lv_aload_n hx hb dX3_isLetter_15 rfl (lv_at hl 0 rfl) ?_
    refine va_get (D := G) (ci := 3) (v := .int f_x) (C := RX3) (T := TX3) (N := 4) hx hb htA lyX3 hown hK hP 0 rfl rfl 0 (by decide) (htA _ a_fl_X3_9) (fun _ h9 => h9) rfl dX3_isLetter_16 ?_
    refine lv_if_ne (tgt := 34) hx hb dX3_isLetter_19 (by decide) (fun c_17 => ?_) (fun c_17 => ?_)
    · have hf := ite_f c_17 hf
      refine lv_iconst (v := 0) hx hb dX3_isLetter_34 (by decide) ?_
      have ho := Option.some.inj hf
      subst ho
      exact W.zret (v := 0) hx hb hr rfl (fun t ht hW => ⟨⟨_, (), rfl, rfl, by rw [ht]; exact hP, va_K.moved hW.alike hK, hD⟩, hS.F ht⟩) hS.2.2 dX3_isLetter_35
    · have hf := ite_t c_17 hf
      refine lv_aload_n hx hb dX3_isLetter_22 rfl (lv_at hl 0 rfl) ?_
      refine va_get (D := G) (ci := 3) (v := .int f_y) (C := RX3) (T := TX3) (N := 4) hx hb htA lyX3 hown hK hP 0 rfl rfl 1 (by decide) (htA _ a_fl_X3_15) (fun _ h9 => h9) rfl dX3_isLetter_23 ?_
      refine lv_iconst (v := 1) hx hb dX3_isLetter_26 (by decide) ?_
      refine lv_icmp_ne (tgt := 34) hx hb dX3_isLetter_27 (by decide) (fun c_18 => ?_) (fun c_18 => ?_)
      · have hf := ite_f c_18 hf
        refine lv_iconst (v := 0) hx hb dX3_isLetter_34 (by decide) ?_
        have ho := Option.some.inj hf
        subst ho
        exact W.zret (v := 0) hx hb hr rfl (fun t ht hW => ⟨⟨_, (), rfl, rfl, by rw [ht]; exact hP, va_K.moved hW.alike hK, hD⟩, hS.F ht⟩) hS.2.2 dX3_isLetter_35
      · have hf := ite_t c_18 hf
        refine lv_iconst (v := 1) hx hb dX3_isLetter_30 (by decide) ?_
        refine lv_goto (tgt := 35) hx hb dX3_isLetter_31 (by decide) ?_
        have ho := Option.some.inj hf
        subst ho
        exact W.zret (v := 1) hx hb hr rfl (fun t ht hW => ⟨⟨_, (), rfl, rfl, by rw [ht]; exact hP, va_K.moved hW.alike hK, hD⟩, hS.F ht⟩) hS.2.2 dX3_isLetter_35
  refine lv_aload_n hx hb dX3_isLetter_0 rfl (lv_at hl 0 rfl) ?_
  refine va_get (D := G) (ci := 3) (v := .int f_x) (C := RX3) (T := TX3) (N := 4) hx hb htA lyX3 hown hK hP 0 rfl rfl 0 (by decide) (htA _ a_fl_X3_9) (fun _ h9 => h9) rfl dX3_isLetter_1 ?_
  refine lv_iconst (v := 1) hx hb dX3_isLetter_4 (by decide) ?_
  refine lv_icmp_ne (tgt := 15) hx hb dX3_isLetter_5 (by decide) (fun c_19 => ?_) (fun c_19 => ?_)
  · have hf := ite_f c_19 hf
    exact J15  _ _ _ hP hD hS (lv_sub hl [0] rfl) hf
  · have hf := ite_t c_19 hf
    refine lv_aload_n hx hb dX3_isLetter_8 rfl (lv_at hl 0 rfl) ?_
    refine va_get (D := G) (ci := 3) (v := .int f_y) (C := RX3) (T := TX3) (N := 4) hx hb htA lyX3 hown hK hP 0 rfl rfl 1 (by decide) (htA _ a_fl_X3_15) (fun _ h9 => h9) rfl dX3_isLetter_9 ?_
    refine lv_if_eq (tgt := 30) hx hb dX3_isLetter_12 (by decide) (fun c_20 => ?_) (fun c_20 => ?_)
    · have hf := ite_t c_20 hf
      refine lv_iconst (v := 1) hx hb dX3_isLetter_30 (by decide) ?_
      refine lv_goto (tgt := 35) hx hb dX3_isLetter_31 (by decide) ?_
      have ho := Option.some.inj hf
      subst ho
      exact W.zret (v := 1) hx hb hr rfl (fun t ht hW => ⟨⟨_, (), rfl, rfl, by rw [ht]; exact hP, va_K.moved hW.alike hK, hD⟩, hS.F ht⟩) hS.2.2 dX3_isLetter_35
    · have hf := ite_f c_20 hf
      exact J15  _ _ _ hP hD hS (lv_sub hl [0] rfl) hf
def jX3_lower_115 (n : Nat) (K24 : Int32 → Int32 → Int32 → Int32 → Int32 → Int32 → Option (Int32 × Int32 × Int32 × Int32)) (v1 : Int32) (v2 : Int32) (f_x : Int32) (f_y : Int32) (f_steps : Int32) (f_metLetter : Int32) : Option (Int32 × Int32 × Int32 × Int32) := (if f_metLetter = 0 then (fX3_isLetter f_x f_y).bind fun q134 => ((if q134 = 0 then K24 v1 v2 f_x f_y (f_steps + 1) 0 else K24 v1 v2 f_x f_y (f_steps + 1) 1)) else K24 v1 v2 f_x f_y (f_steps + 1) 1)
def lX3_lower_24 (n : Nat)  : Nat → Int32 → Int32 → Int32 → Int32 → Int32 → Int32 → Option (Int32 × Int32 × Int32 × Int32)
  | 0, _, _, _, _, _, _ => none
  | k24 + 1, v1, v2, f_x, f_y, f_steps, f_metLetter => (if 4000 ≤ f_steps then some (f_x, f_y, f_steps, f_metLetter) else (if f_x < 0 then some (f_x, f_y, f_steps, f_metLetter) else (if f_y < 0 then some (f_x, f_y, f_steps, f_metLetter) else (fX8_coatOf v1 f_x f_y).bind fun q57 => ((if q57 ≤ 0 then (fX8_coatOf v2 f_y f_x).bind fun q90 => ((if q90 ≤ 0 then some (f_x, f_y, f_steps, f_metLetter) else jX3_lower_115 n (lX3_lower_24 n k24) v1 v2 f_x ((v2 * f_x) - f_y) f_steps f_metLetter)) else jX3_lower_115 n (lX3_lower_24 n k24) v1 v2 ((v1 * f_y) - f_x) f_y f_steps f_metLetter)))))
def fX3_lower (n : Nat) (p1 : Int32) (p2 : Int32) (p3 : Int32) (p4 : Int32) (f_x : Int32) (f_y : Int32) (f_steps : Int32) (f_metLetter : Int32) : Option (Int32 × Int32 × Int32 × Int32) := (fX3_isLetter p3 p4).bind fun q18 => (zk q18 (lX3_lower_24 n n p1 p2 p3 p4 0 q18))
set_option maxRecDepth 100000 in
theorem kX3_lower (l : Launch) (G : va_G) (cy : Nat → ClassId) (q_this : Nat) (sz : Nat) (f_x : Int32) (f_y : Int32) (f_steps : Int32) (f_metLetter : Int32) (p1 : Int32) (p2 : Int32) (p3 : Int32) (p4 : Int32) (n : Nat) {o : Int32 × Int32 × Int32 × Int32} (hf : fX3_lower n p1 p2 p3 p4 f_x f_y f_steps f_metLetter = some o) : Met l yX3_lower (Cond.code yX3_lower cX3_lower 5 none :: AW) ({ frames := 1, cells := 0, slots := 0, locals := 22 } : Room) (va_Pc [.ref q_this, .int p1, .int p2, .int p3, .int p4] (Wp G cy [(q_this, .inr (3, [.int f_x, .int f_y, .int f_steps, .int f_metLetter]))] sz)) (va_Qv (fun (_ : Unit) => True) (fun _ => Wq G cy (va_A [(q_this, .inr (3, [.int f_x, .int f_y, .int f_steps, .int f_metLetter]))] sz) [(q_this, .inr (3, [.int o.1, .int o.2.1, .int o.2.2.1, .int o.2.2.2]))]) (va_A [(q_this, .inr (3, [.int f_x, .int f_y, .int f_steps, .int f_metLetter]))] sz)) 0 0 (va_A [(q_this, .inr (3, [.int f_x, .int f_y, .int f_steps, .int f_metLetter]))] sz) := by
  refine Met.ofW (cc := cX3_lower) (maxL := 5) (ret := none) (by decide) rfl ?_
  intro p e s m args below meth c s₁ B hml hv
  obtain ⟨rfl, hsz, hP, hK, hD0, hN⟩ := hv
  have hx := B.exec
  have hb := B.bytes
  have hr := B.returns
  have htA : ∀ w ∈ AW, w.before _ s = true := fun w h => atoms_spec (ws := Cond.code yX3_lower cX3_lower 5 none :: AW) B.pre w (List.mem_cons_of_mem _ h)
  have hown : s.vm.findClass RX3 = some m.cls := findClass_of_methodNamed B.named
  have hlocks := B.notSynchronized
  subst hsz
  have hD := hD0.self (sz := s.heap.size)
  generalize hAe : va_A [(q_this, .inr (3, [.int f_x, .int f_y, .int f_steps, .int f_metLetter]))] s.heap.size = A at hD ⊢
  have hA : ∀ q : Nat, s.heap.size ≤ q → A q := fun q h => by rw [← hAe]; exact Or.inr h
  have hS : va_S A s.heap s.heap [] := va_S.rf
  have hl := lv_entry ([.ref q_this, .int p1, .int p2, .int p3, .int p4]) (n := 5) (Nat.le_of_ble_eq_true rfl)
  rw [lg_entry_eq]
  generalize (lg_sl ([.ref q_this, .int p1, .int p2, .int p3, .int p4]) ++ List.replicate (5 - (lg_sl ([.ref q_this, .int p1, .int p2, .int p3, .int p4])).length) Slot.unset).toArray = ls at hl ⊢
  have hl : lv_has ls 5 [(0, .ref q_this), (1, .int p1), (2, .int p2), (3, .int p3), (4, .int p4)] := hl
  have hP : va_P G vwCl [(q_this, .inr (3, [.int f_x, .int f_y, .int f_steps, .int f_metLetter]))] s.heap := hP
  have hf : ((fX3_isLetter p3 p4).bind fun q18 => (zk q18 (lX3_lower_24 n n p1 p2 p3 p4 0 q18)) : Option (Int32 × Int32 × Int32 × Int32)) = some o := hf
  have L24 : ∀ k24 : Nat, ∀ (v1 : Int32) (v2 : Int32) (f_x : Int32) (f_y : Int32) (f_steps : Int32) (f_metLetter : Int32) (H : Heap) (locs : List Loc) (ls : Array Slot), va_P G vwCl [(q_this, .inr (3, [.int f_x, .int f_y, .int f_steps, .int f_metLetter]))] H → va_D A [(q_this, .inr (3, [.int f_x, .int f_y, .int f_steps, .int f_metLetter]))] → va_S A s.heap H locs → lv_has ls 5 [(0, .ref q_this), (1, .int v1), (2, .int v2)] → lX3_lower_24 n k24 v1 v2 f_x f_y f_steps f_metLetter = some o → W p l e (headSpec (Cond.code yX3_lower cX3_lower 5 none :: AW) ({ frames := 1, cells := 0, slots := 0, locals := 22 } : Room)).room s m ([.ref q_this, .int p1, .int p2, .int p3, .int p4] : List Value).toArray below meth c H locs 0 0 (MQ below (va_Qv (fun (_ : Unit) => True) (fun _ => Wq G cy A [(q_this, .inr (3, [.int o.1, .int o.2.1, .int o.2.2.1, .int o.2.2.2]))]) A) ([.ref q_this, .int p1, .int p2, .int p3, .int p4] : List Value).toArray s 0 0 A) (F0 m 24 ls []) := by
    intro k24
    induction k24 with
    | zero =>
      intro v1 v2 f_x f_y f_steps f_metLetter H locs ls hP hD hS hl hf
      exact no_s hf
    | succ k24 ih24 =>
      intro v1 v2 f_x f_y f_steps f_metLetter H locs ls hP hD hS hl hf
      have hf : ((if 4000 ≤ f_steps then some (f_x, f_y, f_steps, f_metLetter) else (if f_x < 0 then some (f_x, f_y, f_steps, f_metLetter) else (if f_y < 0 then some (f_x, f_y, f_steps, f_metLetter) else (fX8_coatOf v1 f_x f_y).bind fun q57 => ((if q57 ≤ 0 then (fX8_coatOf v2 f_y f_x).bind fun q90 => ((if q90 ≤ 0 then some (f_x, f_y, f_steps, f_metLetter) else jX3_lower_115 n (lX3_lower_24 n k24) v1 v2 f_x ((v2 * f_x) - f_y) f_steps f_metLetter)) else jX3_lower_115 n (lX3_lower_24 n k24) v1 v2 ((v1 * f_y) - f_x) f_y f_steps f_metLetter))))) : Option (Int32 × Int32 × Int32 × Int32)) = some o := hf
      have J115 : ∀ (v1 : Int32) (v2 : Int32) (f_x : Int32) (f_y : Int32) (f_steps : Int32) (f_metLetter : Int32) (H : Heap) (locs : List Loc) (ls : Array Slot), va_P G vwCl [(q_this, .inr (3, [.int f_x, .int f_y, .int f_steps, .int f_metLetter]))] H → va_D A [(q_this, .inr (3, [.int f_x, .int f_y, .int f_steps, .int f_metLetter]))] → va_S A s.heap H locs → lv_has ls 5 [(0, .ref q_this), (1, .int v1), (2, .int v2)] → jX3_lower_115 n (lX3_lower_24 n k24) v1 v2 f_x f_y f_steps f_metLetter = some o → W p l e (headSpec (Cond.code yX3_lower cX3_lower 5 none :: AW) ({ frames := 1, cells := 0, slots := 0, locals := 22 } : Room)).room s m ([.ref q_this, .int p1, .int p2, .int p3, .int p4] : List Value).toArray below meth c H locs 0 0 (MQ below (va_Qv (fun (_ : Unit) => True) (fun _ => Wq G cy A [(q_this, .inr (3, [.int o.1, .int o.2.1, .int o.2.2.1, .int o.2.2.2]))]) A) ([.ref q_this, .int p1, .int p2, .int p3, .int p4] : List Value).toArray s 0 0 A) (F0 m 115 ls []) := by
        intro v1 v2 f_x f_y f_steps f_metLetter H locs ls hP hD hS hl hf
        have hf : ((if f_metLetter = 0 then (fX3_isLetter f_x f_y).bind fun q134 => ((if q134 = 0 then (lX3_lower_24 n k24) v1 v2 f_x f_y (f_steps + 1) 0 else (lX3_lower_24 n k24) v1 v2 f_x f_y (f_steps + 1) 1)) else (lX3_lower_24 n k24) v1 v2 f_x f_y (f_steps + 1) 1) : Option (Int32 × Int32 × Int32 × Int32)) = some o := hf
        refine lv_aload_n hx hb dX3_lower_115 rfl (lv_at hl 0 rfl) ?_
        refine lv_dup hx hb dX3_lower_116 rfl ?_
        refine va_get (D := G) (ci := 3) (v := .int f_steps) (C := RX3) (T := TX3) (N := 4) hx hb htA lyX3 hown hK hP 0 rfl rfl 2 (by decide) (htA _ a_fl_X3_18) (fun _ h9 => h9) rfl dX3_lower_117 ?_
        refine lv_iconst (v := 1) hx hb dX3_lower_120 (by decide) ?_
        refine lv_iadd hx hb dX3_lower_121 ?_
        refine va_put (D := G) (ci := 3) (v := .int (f_steps + 1)) (ty := tyX3 2) (C := RX3) (T := TX3) (N := 4) hx hb htA lyX3 tyX3 tyX3_ok nmX3 hown hK hP hD hS 0 rfl rfl 2 (by decide) (htA _ a_fl_X3_18) (fun _ h9 => h9) rfl (tyX3_ok 2 (by decide)) rfl rfl (Nat.le_of_ble_eq_true rfl) dX3_lower_122 (fun H locs hP hD hS => ?_)
        have hP : va_P G vwCl [(q_this, .inr (3, [.int f_x, .int f_y, .int (f_steps + 1), .int f_metLetter]))] H := hP
        have hD : va_D A [(q_this, .inr (3, [.int f_x, .int f_y, .int (f_steps + 1), .int f_metLetter]))] := hD
        refine lv_aload_n hx hb dX3_lower_125 rfl (lv_at hl 0 rfl) ?_
        refine lv_aload_n hx hb dX3_lower_126 rfl (lv_at hl 0 rfl) ?_
        refine va_get (D := G) (ci := 3) (v := .int f_metLetter) (C := RX3) (T := TX3) (N := 4) hx hb htA lyX3 hown hK hP 0 rfl rfl 3 (by decide) (htA _ a_fl_X3_21) (fun _ h9 => h9) rfl dX3_lower_127 ?_
        refine lv_if_ne (tgt := 140) hx hb dX3_lower_130 (by decide) (fun c_49 => ?_) (fun c_49 => ?_)
        · have hf := ite_f c_49 hf
          refine lv_iconst (v := 1) hx hb dX3_lower_140 (by decide) ?_
          refine lv_goto (tgt := 145) hx hb dX3_lower_141 (by decide) ?_
          refine va_put (D := G) (ci := 3) (v := .int 1) (ty := tyX3 3) (C := RX3) (T := TX3) (N := 4) hx hb htA lyX3 tyX3 tyX3_ok nmX3 hown hK hP hD hS 0 rfl rfl 3 (by decide) (htA _ a_fl_X3_21) (fun _ h9 => h9) rfl (tyX3_ok 3 (by decide)) rfl rfl (Nat.le_of_ble_eq_true rfl) dX3_lower_145 (fun H locs hP hD hS => ?_)
          have hP : va_P G vwCl [(q_this, .inr (3, [.int f_x, .int f_y, .int (f_steps + 1), .int 1]))] H := hP
          have hD : va_D A [(q_this, .inr (3, [.int f_x, .int f_y, .int (f_steps + 1), .int 1]))] := hD
          refine lv_goto (tgt := 24) hx hb dX3_lower_148 (by decide) ?_
          exact ih24 _ _ _ _ _ _ _ _ _ hP hD hS (lv_sub hl [0, 1, 2] rfl) hf
        · have hf := ite_t c_49 hf
          refine lv_aload_n hx hb dX3_lower_133 rfl (lv_at hl 0 rfl) ?_
          obtain ⟨q134, h134_50, hf⟩ := bd_s hf
          refine u_calliR (va_runV (As := []) (rest := [.ref q_this]) ⟨hx, hb, hml, hown, htA⟩ (kX3_isLetter l G cy q_this H.size f_x f_y (f_steps + 1) f_metLetter h134_50) (u_cwV htA a_ml_X3_25 pk_X3_isLetter ⟨Nat.le_of_ble_eq_true rfl, Nat.le_of_ble_eq_true rfl⟩) (u_preV hK hN hP hD [0] rfl (by decide) 0 rfl rfl) rfl rfl hl.1 rfl (lv_room (Nat.le_of_ble_eq_true rfl)) dX3_lower_134 ⟨Nat.zero_le _, Nat.zero_le _⟩) hP hD hS hA [0] rfl (fun H locs hP hS => ?_)
          refine lv_if_eq (tgt := 144) hx hb dX3_lower_137 (by decide) (fun c_51 => ?_) (fun c_51 => ?_)
          · have hf := ite_t c_51 hf
            refine lv_iconst (v := 0) hx hb dX3_lower_144 (by decide) ?_
            refine va_put (D := G) (ci := 3) (v := .int 0) (ty := tyX3 3) (C := RX3) (T := TX3) (N := 4) hx hb htA lyX3 tyX3 tyX3_ok nmX3 hown hK hP hD hS 0 rfl rfl 3 (by decide) (htA _ a_fl_X3_21) (fun _ h9 => h9) rfl (tyX3_ok 3 (by decide)) rfl rfl (Nat.le_of_ble_eq_true rfl) dX3_lower_145 (fun H locs hP hD hS => ?_)
            have hP : va_P G vwCl [(q_this, .inr (3, [.int f_x, .int f_y, .int (f_steps + 1), .int 0]))] H := hP
            have hD : va_D A [(q_this, .inr (3, [.int f_x, .int f_y, .int (f_steps + 1), .int 0]))] := hD
            refine lv_goto (tgt := 24) hx hb dX3_lower_148 (by decide) ?_
            exact ih24 _ _ _ _ _ _ _ _ _ hP hD hS (lv_sub hl [0, 1, 2] rfl) hf
          · have hf := ite_f c_51 hf
            refine lv_iconst (v := 1) hx hb dX3_lower_140 (by decide) ?_
            refine lv_goto (tgt := 145) hx hb dX3_lower_141 (by decide) ?_
            refine va_put (D := G) (ci := 3) (v := .int 1) (ty := tyX3 3) (C := RX3) (T := TX3) (N := 4) hx hb htA lyX3 tyX3 tyX3_ok nmX3 hown hK hP hD hS 0 rfl rfl 3 (by decide) (htA _ a_fl_X3_21) (fun _ h9 => h9) rfl (tyX3_ok 3 (by decide)) rfl rfl (Nat.le_of_ble_eq_true rfl) dX3_lower_145 (fun H locs hP hD hS => ?_)
            have hP : va_P G vwCl [(q_this, .inr (3, [.int f_x, .int f_y, .int (f_steps + 1), .int 1]))] H := hP
            have hD : va_D A [(q_this, .inr (3, [.int f_x, .int f_y, .int (f_steps + 1), .int 1]))] := hD
            refine lv_goto (tgt := 24) hx hb dX3_lower_148 (by decide) ?_
            exact ih24 _ _ _ _ _ _ _ _ _ hP hD hS (lv_sub hl [0, 1, 2] rfl) hf
      refine lv_aload_n hx hb dX3_lower_24 rfl (lv_at hl 0 rfl) ?_
      refine va_get (D := G) (ci := 3) (v := .int f_steps) (C := RX3) (T := TX3) (N := 4) hx hb htA lyX3 hown hK hP 0 rfl rfl 2 (by decide) (htA _ a_fl_X3_18) (fun _ h9 => h9) rfl dX3_lower_25 ?_
      refine lv_sipush (v := 4000) hx hb dX3_lower_28 (by decide) ?_
      refine lv_icmp_ge (tgt := 151) hx hb dX3_lower_31 (by decide) (fun c_52 => ?_) (fun c_52 => ?_)
      · have hf := ite_t c_52 hf
        have ho := Option.some.inj hf
        subst ho
        exact W.vret hx hb hr (fun t ht hW => ⟨⟨(), rfl, trivial, by rw [ht]; exact hP, va_K.moved hW.alike hK, hD⟩, hS.F ht⟩) hS.2.2 dX3_lower_151
      · have hf := ite_f c_52 hf
        refine lv_aload_n hx hb dX3_lower_34 rfl (lv_at hl 0 rfl) ?_
        refine va_get (D := G) (ci := 3) (v := .int f_x) (C := RX3) (T := TX3) (N := 4) hx hb htA lyX3 hown hK hP 0 rfl rfl 0 (by decide) (htA _ a_fl_X3_9) (fun _ h9 => h9) rfl dX3_lower_35 ?_
        refine lv_if_lt (tgt := 151) hx hb dX3_lower_38 (by decide) (fun c_53 => ?_) (fun c_53 => ?_)
        · have hf := ite_t c_53 hf
          have ho := Option.some.inj hf
          subst ho
          exact W.vret hx hb hr (fun t ht hW => ⟨⟨(), rfl, trivial, by rw [ht]; exact hP, va_K.moved hW.alike hK, hD⟩, hS.F ht⟩) hS.2.2 dX3_lower_151
        · have hf := ite_f c_53 hf
          refine lv_aload_n hx hb dX3_lower_41 rfl (lv_at hl 0 rfl) ?_
          refine va_get (D := G) (ci := 3) (v := .int f_y) (C := RX3) (T := TX3) (N := 4) hx hb htA lyX3 hown hK hP 0 rfl rfl 1 (by decide) (htA _ a_fl_X3_15) (fun _ h9 => h9) rfl dX3_lower_42 ?_
          refine lv_if_lt (tgt := 151) hx hb dX3_lower_45 (by decide) (fun c_54 => ?_) (fun c_54 => ?_)
          · have hf := ite_t c_54 hf
            have ho := Option.some.inj hf
            subst ho
            exact W.vret hx hb hr (fun t ht hW => ⟨⟨(), rfl, trivial, by rw [ht]; exact hP, va_K.moved hW.alike hK, hD⟩, hS.F ht⟩) hS.2.2 dX3_lower_151
          · have hf := ite_f c_54 hf
            refine lv_iload_n hx hb dX3_lower_48 rfl (lv_at hl 1 rfl) ?_
            refine lv_aload_n hx hb dX3_lower_49 rfl (lv_at hl 0 rfl) ?_
            refine va_get (D := G) (ci := 3) (v := .int f_x) (C := RX3) (T := TX3) (N := 4) hx hb htA lyX3 hown hK hP 0 rfl rfl 0 (by decide) (htA _ a_fl_X3_9) (fun _ h9 => h9) rfl dX3_lower_50 ?_
            refine lv_aload_n hx hb dX3_lower_53 rfl (lv_at hl 0 rfl) ?_
            refine va_get (D := G) (ci := 3) (v := .int f_y) (C := RX3) (T := TX3) (N := 4) hx hb htA lyX3 hown hK hP 0 rfl rfl 1 (by decide) (htA _ a_fl_X3_15) (fun _ h9 => h9) rfl dX3_lower_54 ?_
            obtain ⟨q57, h57_55, hf⟩ := bd_s hf
            refine u_calliR (va_runSN (As := [.int v1, .int f_x, .int f_y]) (rest := []) ⟨hx, hb, hml, hown, htA⟩ (kX8_coatOf l G cy H.size v1 f_x f_y h57_55) (u_cnS htA hN (List.mem_of_getElem? (i := 21) rfl) pk_X8_coatOf ⟨Nat.le_of_ble_eq_true rfl, Nat.le_of_ble_eq_true rfl⟩) (u_preS hK hN hP hD [] rfl (by decide)) rfl rfl hl.1 rfl (lv_room (Nat.le_of_ble_eq_true rfl)) dX3_lower_57 ⟨Nat.zero_le _, Nat.zero_le _⟩) hP hD hS hA [] rfl (fun H locs hP hS => ?_)
            refine lv_if_le (tgt := 81) hx hb dX3_lower_60 (by decide) (fun c_56 => ?_) (fun c_56 => ?_)
            · have hf := ite_t c_56 hf
              refine lv_iload_n hx hb dX3_lower_81 rfl (lv_at hl 2 rfl) ?_
              refine lv_aload_n hx hb dX3_lower_82 rfl (lv_at hl 0 rfl) ?_
              refine va_get (D := G) (ci := 3) (v := .int f_y) (C := RX3) (T := TX3) (N := 4) hx hb htA lyX3 hown hK hP 0 rfl rfl 1 (by decide) (htA _ a_fl_X3_15) (fun _ h9 => h9) rfl dX3_lower_83 ?_
              refine lv_aload_n hx hb dX3_lower_86 rfl (lv_at hl 0 rfl) ?_
              refine va_get (D := G) (ci := 3) (v := .int f_x) (C := RX3) (T := TX3) (N := 4) hx hb htA lyX3 hown hK hP 0 rfl rfl 0 (by decide) (htA _ a_fl_X3_9) (fun _ h9 => h9) rfl dX3_lower_87 ?_
              obtain ⟨q90, h90_57, hf⟩ := bd_s hf
              refine u_calliR (va_runSN (As := [.int v2, .int f_y, .int f_x]) (rest := []) ⟨hx, hb, hml, hown, htA⟩ (kX8_coatOf l G cy H.size v2 f_y f_x h90_57) (u_cnS htA hN (List.mem_of_getElem? (i := 21) rfl) pk_X8_coatOf ⟨Nat.le_of_ble_eq_true rfl, Nat.le_of_ble_eq_true rfl⟩) (u_preS hK hN hP hD [] rfl (by decide)) rfl rfl hl.1 rfl (lv_room (Nat.le_of_ble_eq_true rfl)) dX3_lower_90 ⟨Nat.zero_le _, Nat.zero_le _⟩) hP hD hS hA [] rfl (fun H locs hP hS => ?_)
              refine lv_if_le (tgt := 114) hx hb dX3_lower_93 (by decide) (fun c_58 => ?_) (fun c_58 => ?_)
              · have hf := ite_t c_58 hf
                have ho := Option.some.inj hf
                subst ho
                exact W.vret hx hb hr (fun t ht hW => ⟨⟨(), rfl, trivial, by rw [ht]; exact hP, va_K.moved hW.alike hK, hD⟩, hS.F ht⟩) hS.2.2 dX3_lower_114
              · have hf := ite_f c_58 hf
                refine lv_aload_n hx hb dX3_lower_96 rfl (lv_at hl 0 rfl) ?_
                refine lv_iload_n hx hb dX3_lower_97 rfl (lv_at hl 2 rfl) ?_
                refine lv_aload_n hx hb dX3_lower_98 rfl (lv_at hl 0 rfl) ?_
                refine va_get (D := G) (ci := 3) (v := .int f_x) (C := RX3) (T := TX3) (N := 4) hx hb htA lyX3 hown hK hP 0 rfl rfl 0 (by decide) (htA _ a_fl_X3_9) (fun _ h9 => h9) rfl dX3_lower_99 ?_
                refine lv_imul hx hb dX3_lower_102 ?_
                refine lv_aload_n hx hb dX3_lower_103 rfl (lv_at hl 0 rfl) ?_
                refine va_get (D := G) (ci := 3) (v := .int f_y) (C := RX3) (T := TX3) (N := 4) hx hb htA lyX3 hown hK hP 0 rfl rfl 1 (by decide) (htA _ a_fl_X3_15) (fun _ h9 => h9) rfl dX3_lower_104 ?_
                refine lv_isub hx hb dX3_lower_107 ?_
                refine va_put (D := G) (ci := 3) (v := .int ((v2 * f_x) - f_y)) (ty := tyX3 1) (C := RX3) (T := TX3) (N := 4) hx hb htA lyX3 tyX3 tyX3_ok nmX3 hown hK hP hD hS 0 rfl rfl 1 (by decide) (htA _ a_fl_X3_15) (fun _ h9 => h9) rfl (tyX3_ok 1 (by decide)) rfl rfl (Nat.le_of_ble_eq_true rfl) dX3_lower_108 (fun H locs hP hD hS => ?_)
                have hP : va_P G vwCl [(q_this, .inr (3, [.int f_x, .int ((v2 * f_x) - f_y), .int f_steps, .int f_metLetter]))] H := hP
                have hD : va_D A [(q_this, .inr (3, [.int f_x, .int ((v2 * f_x) - f_y), .int f_steps, .int f_metLetter]))] := hD
                refine lv_goto (tgt := 115) hx hb dX3_lower_111 (by decide) ?_
                exact J115 _ _ _ _ _ _ _ _ _ hP hD hS (lv_sub hl [0, 1, 2] rfl) hf
            · have hf := ite_f c_56 hf
              refine lv_aload_n hx hb dX3_lower_63 rfl (lv_at hl 0 rfl) ?_
              refine lv_iload_n hx hb dX3_lower_64 rfl (lv_at hl 1 rfl) ?_
              refine lv_aload_n hx hb dX3_lower_65 rfl (lv_at hl 0 rfl) ?_
              refine va_get (D := G) (ci := 3) (v := .int f_y) (C := RX3) (T := TX3) (N := 4) hx hb htA lyX3 hown hK hP 0 rfl rfl 1 (by decide) (htA _ a_fl_X3_15) (fun _ h9 => h9) rfl dX3_lower_66 ?_
              refine lv_imul hx hb dX3_lower_69 ?_
              refine lv_aload_n hx hb dX3_lower_70 rfl (lv_at hl 0 rfl) ?_
              refine va_get (D := G) (ci := 3) (v := .int f_x) (C := RX3) (T := TX3) (N := 4) hx hb htA lyX3 hown hK hP 0 rfl rfl 0 (by decide) (htA _ a_fl_X3_9) (fun _ h9 => h9) rfl dX3_lower_71 ?_
              refine lv_isub hx hb dX3_lower_74 ?_
              refine va_put (D := G) (ci := 3) (v := .int ((v1 * f_y) - f_x)) (ty := tyX3 0) (C := RX3) (T := TX3) (N := 4) hx hb htA lyX3 tyX3 tyX3_ok nmX3 hown hK hP hD hS 0 rfl rfl 0 (by decide) (htA _ a_fl_X3_9) (fun _ h9 => h9) rfl (tyX3_ok 0 (by decide)) rfl rfl (Nat.le_of_ble_eq_true rfl) dX3_lower_75 (fun H locs hP hD hS => ?_)
              have hP : va_P G vwCl [(q_this, .inr (3, [.int ((v1 * f_y) - f_x), .int f_y, .int f_steps, .int f_metLetter]))] H := hP
              have hD : va_D A [(q_this, .inr (3, [.int ((v1 * f_y) - f_x), .int f_y, .int f_steps, .int f_metLetter]))] := hD
              refine lv_goto (tgt := 115) hx hb dX3_lower_78 (by decide) ?_
              exact J115 _ _ _ _ _ _ _ _ _ hP hD hS (lv_sub hl [0, 1, 2] rfl) hf
  refine lv_aload_n hx hb dX3_lower_0 rfl (lv_at hl 0 rfl) ?_
  refine lv_iload_n hx hb dX3_lower_1 rfl (lv_at hl 3 rfl) ?_
  refine va_put (D := G) (ci := 3) (v := .int p3) (ty := tyX3 0) (C := RX3) (T := TX3) (N := 4) hx hb htA lyX3 tyX3 tyX3_ok nmX3 hown hK hP hD hS 0 rfl rfl 0 (by decide) (htA _ a_fl_X3_9) (fun _ h9 => h9) rfl (tyX3_ok 0 (by decide)) rfl rfl (Nat.le_of_ble_eq_true rfl) dX3_lower_2 (fun H locs hP hD hS => ?_)
  have hP : va_P G vwCl [(q_this, .inr (3, [.int p3, .int f_y, .int f_steps, .int f_metLetter]))] H := hP
  have hD : va_D A [(q_this, .inr (3, [.int p3, .int f_y, .int f_steps, .int f_metLetter]))] := hD
  refine lv_aload_n hx hb dX3_lower_5 rfl (lv_at hl 0 rfl) ?_
  refine lv_iload hx hb dX3_lower_6 (lv_at hl 4 rfl) ?_
  refine va_put (D := G) (ci := 3) (v := .int p4) (ty := tyX3 1) (C := RX3) (T := TX3) (N := 4) hx hb htA lyX3 tyX3 tyX3_ok nmX3 hown hK hP hD hS 0 rfl rfl 1 (by decide) (htA _ a_fl_X3_15) (fun _ h9 => h9) rfl (tyX3_ok 1 (by decide)) rfl rfl (Nat.le_of_ble_eq_true rfl) dX3_lower_8 (fun H locs hP hD hS => ?_)
  have hP : va_P G vwCl [(q_this, .inr (3, [.int p3, .int p4, .int f_steps, .int f_metLetter]))] H := hP
  have hD : va_D A [(q_this, .inr (3, [.int p3, .int p4, .int f_steps, .int f_metLetter]))] := hD
  refine lv_aload_n hx hb dX3_lower_11 rfl (lv_at hl 0 rfl) ?_
  refine lv_iconst (v := 0) hx hb dX3_lower_12 (by decide) ?_
  refine va_put (D := G) (ci := 3) (v := .int 0) (ty := tyX3 2) (C := RX3) (T := TX3) (N := 4) hx hb htA lyX3 tyX3 tyX3_ok nmX3 hown hK hP hD hS 0 rfl rfl 2 (by decide) (htA _ a_fl_X3_18) (fun _ h9 => h9) rfl (tyX3_ok 2 (by decide)) rfl rfl (Nat.le_of_ble_eq_true rfl) dX3_lower_13 (fun H locs hP hD hS => ?_)
  have hP : va_P G vwCl [(q_this, .inr (3, [.int p3, .int p4, .int 0, .int f_metLetter]))] H := hP
  have hD : va_D A [(q_this, .inr (3, [.int p3, .int p4, .int 0, .int f_metLetter]))] := hD
  refine lv_aload_n hx hb dX3_lower_16 rfl (lv_at hl 0 rfl) ?_
  refine lv_aload_n hx hb dX3_lower_17 rfl (lv_at hl 0 rfl) ?_
  obtain ⟨q18, h18_59, hf⟩ := bd_s hf
  refine u_calliR (va_runV (As := []) (rest := [.ref q_this]) ⟨hx, hb, hml, hown, htA⟩ (kX3_isLetter l G cy q_this H.size p3 p4 0 f_metLetter h18_59) (u_cwV htA a_ml_X3_25 pk_X3_isLetter ⟨Nat.le_of_ble_eq_true rfl, Nat.le_of_ble_eq_true rfl⟩) (u_preV hK hN hP hD [0] rfl (by decide) 0 rfl rfl) rfl rfl hl.1 rfl (lv_room (Nat.le_of_ble_eq_true rfl)) dX3_lower_18 ⟨Nat.zero_le _, Nat.zero_le _⟩) hP hD hS hA [0] rfl (fun H locs hP hS => ?_)
  obtain ⟨z_60, hf⟩ := zk_s hf
  refine va_put (D := G) (ci := 3) (v := .int q18) (ty := tyX3 3) (C := RX3) (T := TX3) (N := 4) hx hb htA lyX3 tyX3 tyX3_ok nmX3 hown hK hP hD hS 0 rfl rfl 3 (by decide) (htA _ a_fl_X3_21) (fun _ h9 => h9) rfl (tyX3_ok 3 (by decide)) (zk_n z_60) (zk_f z_60) (Nat.le_of_ble_eq_true rfl) dX3_lower_21 (fun H locs hP hD hS => ?_)
  have hP : va_P G vwCl [(q_this, .inr (3, [.int p3, .int p4, .int 0, .int q18]))] H := hP
  have hD : va_D A [(q_this, .inr (3, [.int p3, .int p4, .int 0, .int q18]))] := hD
  exact L24 n _ _ _ _ _ _ _ _ _ hP hD hS (lv_sub hl [0, 1, 2] rfl) hf
def jX3_sortOf_20 (n : Nat)  (v1 : Int32) (v2 : Int32) (v3 : Int32) (v4 : Int32) (f_x : Int32) (f_y : Int32) (f_steps : Int32) (f_metLetter : Int32) : Option (Int32 × Int32 × Int32 × Int32 × Int32) := (fX3_lower n v1 v2 (if 0 ≤ v3 then v3 else 0 - v3) (if 0 ≤ v4 then v4 else 0 - v4) f_x f_y f_steps f_metLetter).bind fun q32 => ((if q32.2.2.2 = 0 then (if q32.1 ≤ 0 then some (0, q32.1, q32.2.1, q32.2.2.1, q32.2.2.2) else (if q32.2.1 ≤ 0 then some (0, q32.1, q32.2.1, q32.2.2.1, q32.2.2.2) else some (2, q32.1, q32.2.1, q32.2.2.1, q32.2.2.2))) else some (1, q32.1, q32.2.1, q32.2.2.1, q32.2.2.2)))
def fX3_sortOf (n : Nat) (p1 : Int32) (p2 : Int32) (p3 : Int32) (p4 : Int32) (f_x : Int32) (f_y : Int32) (f_steps : Int32) (f_metLetter : Int32) : Option (Int32 × Int32 × Int32 × Int32 × Int32) := (if p3 ≤ 0 then (if 0 ≤ p3 then jX3_sortOf_20 n p1 p2 p3 p4 f_x f_y f_steps f_metLetter else (if p4 ≤ 0 then jX3_sortOf_20 n p1 p2 p3 p4 f_x f_y f_steps f_metLetter else some (0, f_x, f_y, f_steps, f_metLetter))) else (if p4 < 0 then some (0, f_x, f_y, f_steps, f_metLetter) else (if 0 ≤ p3 then jX3_sortOf_20 n p1 p2 p3 p4 f_x f_y f_steps f_metLetter else (if p4 ≤ 0 then jX3_sortOf_20 n p1 p2 p3 p4 f_x f_y f_steps f_metLetter else some (0, f_x, f_y, f_steps, f_metLetter)))))
set_option maxRecDepth 100000 in
theorem kX3_sortOf (l : Launch) (G : va_G) (cy : Nat → ClassId) (q_this : Nat) (sz : Nat) (f_x : Int32) (f_y : Int32) (f_steps : Int32) (f_metLetter : Int32) (p1 : Int32) (p2 : Int32) (p3 : Int32) (p4 : Int32) (n : Nat) {o : Int32 × Int32 × Int32 × Int32 × Int32} (hf : fX3_sortOf n p1 p2 p3 p4 f_x f_y f_steps f_metLetter = some o) : Met l yX3_sortOf (Cond.code yX3_sortOf cX3_sortOf 5 (some .int) :: AW) ({ frames := 2, cells := 0, slots := 0, locals := 46 } : Room) (va_Pc [.ref q_this, .int p1, .int p2, .int p3, .int p4] (Wp G cy [(q_this, .inr (3, [.int f_x, .int f_y, .int f_steps, .int f_metLetter]))] sz)) (va_Qi (fun r (_ : Unit) => r = o.1) (fun _ => Wq G cy (va_A [(q_this, .inr (3, [.int f_x, .int f_y, .int f_steps, .int f_metLetter]))] sz) [(q_this, .inr (3, [.int o.2.1, .int o.2.2.1, .int o.2.2.2.1, .int o.2.2.2.2]))]) (va_A [(q_this, .inr (3, [.int f_x, .int f_y, .int f_steps, .int f_metLetter]))] sz)) 0 0 (va_A [(q_this, .inr (3, [.int f_x, .int f_y, .int f_steps, .int f_metLetter]))] sz) := by
  refine Met.ofW (cc := cX3_sortOf) (maxL := 5) (ret := (some .int)) (by decide) rfl ?_
  intro p e s m args below meth c s₁ B hml hv
  obtain ⟨rfl, hsz, hP, hK, hD0, hN⟩ := hv
  have hx := B.exec
  have hb := B.bytes
  have hr := B.returns
  have htA : ∀ w ∈ AW, w.before _ s = true := fun w h => atoms_spec (ws := Cond.code yX3_sortOf cX3_sortOf 5 (some .int) :: AW) B.pre w (List.mem_cons_of_mem _ h)
  have hown : s.vm.findClass RX3 = some m.cls := findClass_of_methodNamed B.named
  have hlocks := B.notSynchronized
  subst hsz
  have hD := hD0.self (sz := s.heap.size)
  generalize hAe : va_A [(q_this, .inr (3, [.int f_x, .int f_y, .int f_steps, .int f_metLetter]))] s.heap.size = A at hD ⊢
  have hA : ∀ q : Nat, s.heap.size ≤ q → A q := fun q h => by rw [← hAe]; exact Or.inr h
  have hS : va_S A s.heap s.heap [] := va_S.rf
  have hl := lv_entry ([.ref q_this, .int p1, .int p2, .int p3, .int p4]) (n := 5) (Nat.le_of_ble_eq_true rfl)
  rw [lg_entry_eq]
  generalize (lg_sl ([.ref q_this, .int p1, .int p2, .int p3, .int p4]) ++ List.replicate (5 - (lg_sl ([.ref q_this, .int p1, .int p2, .int p3, .int p4])).length) Slot.unset).toArray = ls at hl ⊢
  have hl : lv_has ls 5 [(0, .ref q_this), (1, .int p1), (2, .int p2), (3, .int p3), (4, .int p4)] := hl
  have hP : va_P G vwCl [(q_this, .inr (3, [.int f_x, .int f_y, .int f_steps, .int f_metLetter]))] s.heap := hP
  have hf : ((if p3 ≤ 0 then (if 0 ≤ p3 then jX3_sortOf_20 n p1 p2 p3 p4 f_x f_y f_steps f_metLetter else (if p4 ≤ 0 then jX3_sortOf_20 n p1 p2 p3 p4 f_x f_y f_steps f_metLetter else some (0, f_x, f_y, f_steps, f_metLetter))) else (if p4 < 0 then some (0, f_x, f_y, f_steps, f_metLetter) else (if 0 ≤ p3 then jX3_sortOf_20 n p1 p2 p3 p4 f_x f_y f_steps f_metLetter else (if p4 ≤ 0 then jX3_sortOf_20 n p1 p2 p3 p4 f_x f_y f_steps f_metLetter else some (0, f_x, f_y, f_steps, f_metLetter))))) : Option (Int32 × Int32 × Int32 × Int32 × Int32)) = some o := hf
  have J20 : ∀ (v1 : Int32) (v2 : Int32) (v3 : Int32) (v4 : Int32) (f_x : Int32) (f_y : Int32) (f_steps : Int32) (f_metLetter : Int32) (H : Heap) (locs : List Loc) (ls : Array Slot), va_P G vwCl [(q_this, .inr (3, [.int f_x, .int f_y, .int f_steps, .int f_metLetter]))] H → va_D A [(q_this, .inr (3, [.int f_x, .int f_y, .int f_steps, .int f_metLetter]))] → va_S A s.heap H locs → lv_has ls 5 [(0, .ref q_this), (1, .int v1), (2, .int v2), (3, .int v3), (4, .int v4)] → jX3_sortOf_20 n v1 v2 v3 v4 f_x f_y f_steps f_metLetter = some o → W p l e (headSpec (Cond.code yX3_sortOf cX3_sortOf 5 (some .int) :: AW) ({ frames := 2, cells := 0, slots := 0, locals := 46 } : Room)).room s m ([.ref q_this, .int p1, .int p2, .int p3, .int p4] : List Value).toArray below meth c H locs 0 0 (MQ below (va_Qi (fun r (_ : Unit) => r = o.1) (fun _ => Wq G cy A [(q_this, .inr (3, [.int o.2.1, .int o.2.2.1, .int o.2.2.2.1, .int o.2.2.2.2]))]) A) ([.ref q_this, .int p1, .int p2, .int p3, .int p4] : List Value).toArray s 0 0 A) (F0 m 20 ls []) := by
    intro v1 v2 v3 v4 f_x f_y f_steps f_metLetter H locs ls hP hD hS hl hf
    have hf : ((fX3_lower n v1 v2 (if 0 ≤ v3 then v3 else 0 - v3) (if 0 ≤ v4 then v4 else 0 - v4) f_x f_y f_steps f_metLetter).bind fun q32 => ((if q32.2.2.2 = 0 then (if q32.1 ≤ 0 then some (0, q32.1, q32.2.1, q32.2.2.1, q32.2.2.2) else (if q32.2.1 ≤ 0 then some (0, q32.1, q32.2.1, q32.2.2.1, q32.2.2.2) else some (2, q32.1, q32.2.1, q32.2.2.1, q32.2.2.2))) else some (1, q32.1, q32.2.1, q32.2.2.1, q32.2.2.2))) : Option (Int32 × Int32 × Int32 × Int32 × Int32)) = some o := hf
    refine lv_aload_n hx hb dX3_sortOf_20 rfl (lv_at hl 0 rfl) ?_
    refine lv_iload_n hx hb dX3_sortOf_21 rfl (lv_at hl 1 rfl) ?_
    refine lv_iload_n hx hb dX3_sortOf_22 rfl (lv_at hl 2 rfl) ?_
    refine lv_iload_n hx hb dX3_sortOf_23 rfl (lv_at hl 3 rfl) ?_
    refine va_mabs hx hb (by rw [hml]; exact hl.1.symm) hown (htA _ a_ml_X3_33) (htA _ a_st_Lib_Math_abs_name) (htA _ a_in_J9) (htA _ a_co_Lib_Math_abs_name) (Nat.le_of_ble_eq_true rfl) (Nat.le_of_ble_eq_true rfl) (Nat.zero_le _) (Nat.zero_le _) dX3_sortOf_24 ?_
    refine lv_iload hx hb dX3_sortOf_27 (lv_at hl 4 rfl) ?_
    refine va_mabs hx hb (by rw [hml]; exact hl.1.symm) hown (htA _ a_ml_X3_33) (htA _ a_st_Lib_Math_abs_name) (htA _ a_in_J9) (htA _ a_co_Lib_Math_abs_name) (Nat.le_of_ble_eq_true rfl) (Nat.le_of_ble_eq_true rfl) (Nat.zero_le _) (Nat.zero_le _) dX3_sortOf_29 ?_
    obtain ⟨q32, h32_41, hf⟩ := bd_s hf
    refine u_callv (va_runV (As := [.int v1, .int v2, .int (if 0 ≤ v3 then v3 else 0 - v3), .int (if 0 ≤ v4 then v4 else 0 - v4)]) (rest := []) ⟨hx, hb, hml, hown, htA⟩ (kX3_lower l G cy q_this H.size f_x f_y f_steps f_metLetter v1 v2 (if 0 ≤ v3 then v3 else 0 - v3) (if 0 ≤ v4 then v4 else 0 - v4) n h32_41) (u_cwV htA a_ml_X3_39 pk_X3_lower ⟨Nat.le_of_ble_eq_true rfl, Nat.le_of_ble_eq_true rfl⟩) (u_preV hK hN hP hD [0] rfl (by decide) 0 rfl rfl) rfl rfl hl.1 rfl (lv_room (Nat.le_of_ble_eq_true rfl)) dX3_sortOf_32 ⟨Nat.zero_le _, Nat.zero_le _⟩) hP hD hS hA [0] rfl (by decide) rfl rfl (fun H locs hP hD hS => ?_)
    have hP : va_P G vwCl [(q_this, .inr (3, [.int q32.1, .int q32.2.1, .int q32.2.2.1, .int q32.2.2.2]))] H := hP
    have hD : va_D A [(q_this, .inr (3, [.int q32.1, .int q32.2.1, .int q32.2.2.1, .int q32.2.2.2]))] := hD
    refine lv_aload_n hx hb dX3_sortOf_35 rfl (lv_at hl 0 rfl) ?_
    refine va_get (D := G) (ci := 3) (v := .int q32.2.2.2) (C := RX3) (T := TX3) (N := 4) hx hb htA lyX3 hown hK hP 0 rfl rfl 3 (by decide) (htA _ a_fl_X3_21) (fun _ h9 => h9) rfl dX3_sortOf_36 ?_
    refine lv_if_eq (tgt := 44) hx hb dX3_sortOf_39 (by decide) (fun c_42 => ?_) (fun c_42 => ?_)
    · have hf := ite_t c_42 hf
      refine lv_aload_n hx hb dX3_sortOf_44 rfl (lv_at hl 0 rfl) ?_
      refine va_get (D := G) (ci := 3) (v := .int q32.1) (C := RX3) (T := TX3) (N := 4) hx hb htA lyX3 hown hK hP 0 rfl rfl 0 (by decide) (htA _ a_fl_X3_9) (fun _ h9 => h9) rfl dX3_sortOf_45 ?_
      refine lv_if_le (tgt := 62) hx hb dX3_sortOf_48 (by decide) (fun c_43 => ?_) (fun c_43 => ?_)
      · have hf := ite_t c_43 hf
        refine lv_iconst (v := 0) hx hb dX3_sortOf_62 (by decide) ?_
        have ho := Option.some.inj hf
        subst ho
        exact W.iret (v := 0) hx hb hr (fun t ht hW => ⟨⟨_, (), rfl, rfl, by rw [ht]; exact hP, va_K.moved hW.alike hK, hD⟩, hS.F ht⟩) hS.2.2 dX3_sortOf_63
      · have hf := ite_f c_43 hf
        refine lv_aload_n hx hb dX3_sortOf_51 rfl (lv_at hl 0 rfl) ?_
        refine va_get (D := G) (ci := 3) (v := .int q32.2.1) (C := RX3) (T := TX3) (N := 4) hx hb htA lyX3 hown hK hP 0 rfl rfl 1 (by decide) (htA _ a_fl_X3_15) (fun _ h9 => h9) rfl dX3_sortOf_52 ?_
        refine lv_if_le (tgt := 62) hx hb dX3_sortOf_55 (by decide) (fun c_44 => ?_) (fun c_44 => ?_)
        · have hf := ite_t c_44 hf
          refine lv_iconst (v := 0) hx hb dX3_sortOf_62 (by decide) ?_
          have ho := Option.some.inj hf
          subst ho
          exact W.iret (v := 0) hx hb hr (fun t ht hW => ⟨⟨_, (), rfl, rfl, by rw [ht]; exact hP, va_K.moved hW.alike hK, hD⟩, hS.F ht⟩) hS.2.2 dX3_sortOf_63
        · have hf := ite_f c_44 hf
          refine lv_iconst (v := 2) hx hb dX3_sortOf_58 (by decide) ?_
          refine lv_goto (tgt := 63) hx hb dX3_sortOf_59 (by decide) ?_
          have ho := Option.some.inj hf
          subst ho
          exact W.iret (v := 2) hx hb hr (fun t ht hW => ⟨⟨_, (), rfl, rfl, by rw [ht]; exact hP, va_K.moved hW.alike hK, hD⟩, hS.F ht⟩) hS.2.2 dX3_sortOf_63
    · have hf := ite_f c_42 hf
      refine lv_iconst (v := 1) hx hb dX3_sortOf_42 (by decide) ?_
      have ho := Option.some.inj hf
      subst ho
      exact W.iret (v := 1) hx hb hr (fun t ht hW => ⟨⟨_, (), rfl, rfl, by rw [ht]; exact hP, va_K.moved hW.alike hK, hD⟩, hS.F ht⟩) hS.2.2 dX3_sortOf_43
  refine lv_iload_n hx hb dX3_sortOf_0 rfl (lv_at hl 3 rfl) ?_
  refine lv_if_le (tgt := 9) hx hb dX3_sortOf_1 (by decide) (fun c_45 => ?_) (fun c_45 => ?_)
  · have hf := ite_t c_45 hf
    refine lv_iload_n hx hb dX3_sortOf_9 rfl (lv_at hl 3 rfl) ?_
    refine lv_if_ge (tgt := 20) hx hb dX3_sortOf_10 (by decide) (fun c_46 => ?_) (fun c_46 => ?_)
    · have hf := ite_t c_46 hf
      exact J20 _ _ _ _ _ _ _ _ _ _ _ hP hD hS (lv_sub hl [0, 1, 2, 3, 4] rfl) hf
    · have hf := ite_f c_46 hf
      refine lv_iload hx hb dX3_sortOf_13 (lv_at hl 4 rfl) ?_
      refine lv_if_le (tgt := 20) hx hb dX3_sortOf_15 (by decide) (fun c_47 => ?_) (fun c_47 => ?_)
      · have hf := ite_t c_47 hf
        exact J20 _ _ _ _ _ _ _ _ _ _ _ hP hD hS (lv_sub hl [0, 1, 2, 3, 4] rfl) hf
      · have hf := ite_f c_47 hf
        refine lv_iconst (v := 0) hx hb dX3_sortOf_18 (by decide) ?_
        have ho := Option.some.inj hf
        subst ho
        exact W.iret (v := 0) hx hb hr (fun t ht hW => ⟨⟨_, (), rfl, rfl, by rw [ht]; exact hP, va_K.moved hW.alike hK, hD⟩, hS.F ht⟩) hS.2.2 dX3_sortOf_19
  · have hf := ite_f c_45 hf
    refine lv_iload hx hb dX3_sortOf_4 (lv_at hl 4 rfl) ?_
    refine lv_if_lt (tgt := 18) hx hb dX3_sortOf_6 (by decide) (fun c_48 => ?_) (fun c_48 => ?_)
    · have hf := ite_t c_48 hf
      refine lv_iconst (v := 0) hx hb dX3_sortOf_18 (by decide) ?_
      have ho := Option.some.inj hf
      subst ho
      exact W.iret (v := 0) hx hb hr (fun t ht hW => ⟨⟨_, (), rfl, rfl, by rw [ht]; exact hP, va_K.moved hW.alike hK, hD⟩, hS.F ht⟩) hS.2.2 dX3_sortOf_19
    · have hf := ite_f c_48 hf
      refine lv_iload_n hx hb dX3_sortOf_9 rfl (lv_at hl 3 rfl) ?_
      refine lv_if_ge (tgt := 20) hx hb dX3_sortOf_10 (by decide) (fun c_49 => ?_) (fun c_49 => ?_)
      · have hf := ite_t c_49 hf
        exact J20 _ _ _ _ _ _ _ _ _ _ _ hP hD hS (lv_sub hl [0, 1, 2, 3, 4] rfl) hf
      · have hf := ite_f c_49 hf
        refine lv_iload hx hb dX3_sortOf_13 (lv_at hl 4 rfl) ?_
        refine lv_if_le (tgt := 20) hx hb dX3_sortOf_15 (by decide) (fun c_50 => ?_) (fun c_50 => ?_)
        · have hf := ite_t c_50 hf
          exact J20 _ _ _ _ _ _ _ _ _ _ _ hP hD hS (lv_sub hl [0, 1, 2, 3, 4] rfl) hf
        · have hf := ite_f c_50 hf
          refine lv_iconst (v := 0) hx hb dX3_sortOf_18 (by decide) ?_
          have ho := Option.some.inj hf
          subst ho
          exact W.iret (v := 0) hx hb hr (fun t ht hW => ⟨⟨_, (), rfl, rfl, by rw [ht]; exact hP, va_K.moved hW.alike hK, hD⟩, hS.F ht⟩) hS.2.2 dX3_sortOf_19
